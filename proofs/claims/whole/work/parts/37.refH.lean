/-! The reference's page -/
section R37
variable {l : Launch} {X : EX} {hp : HPt}
set_option maxRecDepth 100000 in
set_option maxHeartbeats 4000000 in
theorem r_pzL {Z : ZT} {ln ac nxx sn sx tl sl st : Int32} {wd : Nat} (K : ∀ (hz : HPt) (g : Nat → Int32), hz[61]? = some (ob 11 [.ref 62, .int (ln), .ref 63, .ref 64, .ref 65, .int (ac), .int (nxx), .ref 66, .ref 67, .ref 68, .ref 69, .int (sn), .int (sx), .ref 70, .ref 71, .ref 72, .ref 73, .ref 74, .int (tl), .ref 75, .int (sl), .ref 76, .int (st), .ref 77]) → hz[76]? = some (ia 320 g) → (∀ q, q < 320 → g q = nI 0) → Fr [76] hp hz → PZ l X Z mX12_layPage 37 [some (.ref 61), some (.int (nI wd)), some (.int (nI 320)), none, none, none, none] [] hz 0 0) : ∀ (d j : Nat) (hz : HPt) (g : Nat → Int32), j + d = 320 → hz[61]? = some (ob 11 [.ref 62, .int (ln), .ref 63, .ref 64, .ref 65, .int (ac), .int (nxx), .ref 66, .ref 67, .ref 68, .ref 69, .int (sn), .int (sx), .ref 70, .ref 71, .ref 72, .ref 73, .ref 74, .int (tl), .ref 75, .int (sl), .ref 76, .int (st), .ref 77]) → hz[76]? = some (ia 320 g) → (∀ q, q < j → g q = nI 0) → Fr [76] hp hz → PZ l X Z mX12_layPage 17 [some (.ref 61), some (.int (nI wd)), some (.int (nI j)), none, none, none, none] [] hz 0 0 := by
  intro d
  induction d with
  | zero =>
    intro j hz g hj H0 Hg hg hF
    have hje : j = 320 := by omega
    subst hje
    refine R_iload_n dX12_layPage_17 rfl rfl ?_
    refine R_sipush (v := (nI 320)) dX12_layPage_18 (by decide) ?_
    refine N_icmp_ge (tgt := 37) dX12_layPage_21 (by decide) (by omega) (by omega) (fun _ => ?_) (fun hc => absurd hc (by omega))
    exact K hz g H0 Hg hg hF
  | succ d ih =>
    intro j hz g hj H0 Hg hg hF
    refine R_iload_n dX12_layPage_17 rfl rfl ?_
    refine R_sipush (v := (nI 320)) dX12_layPage_18 (by decide) ?_
    refine N_icmp_ge (tgt := 37) dX12_layPage_21 (by decide) (by omega) (by omega) (fun hc => absurd hc (by omega)) (fun _ => ?_)
    refine R_aload_n dX12_layPage_24 rfl rfl ?_
    refine R_getf dX12_layPage_25 gX12_53 H0 rfl ?_
    refine R_iload_n dX12_layPage_28 rfl rfl ?_
    refine R_iconst (v := (nI 0)) dX12_layPage_29 (by decide) ?_
    obtain ⟨g2, eg2⟩ : ∃ y, y = upd g j (nI 0) := ⟨_, rfl⟩
    refine W_iast (f' := g2) dX12_layPage_30 Hg (by omega) (by decide) eg2 (fun wp1 wH2 wE3 => ?_)
    have wH4 := (wE3 61 (by decide)).trans H0
    have wF5 : Fr [76] hp wp1 := hF.trans (Fr.one wE3 (by simp))
    refine N_iinc (d := 1) (lv' := [some (.ref 61), some (.int (nI wd)), some (.int (nI (j + 1))), none, none, none, none]) dX12_layPage_31 rfl rfl ?_
    refine R_goto (tgt := 17) dX12_layPage_34 (by decide) ?_
    refine ih (j + 1) _ g2 (by omega) wH4 wH2 (fun q hq => ?_) wF5
    by_cases e : q = j
    · subst e; rw [eg2, upd_s]
    · rw [eg2, upd_n e]; exact hg q (by omega)
set_option maxRecDepth 100000 in
set_option maxHeartbeats 4000000 in
theorem r_pcL {Z : ZT} {ln ac nxx sn sx tl sl st : Int32} {wd r co i c : Nat} {f : Nat → Int32} (K : ∀ (hz : HPt) (g : Nat → Int32), hz[61]? = some (ob 11 [.ref 62, .int (ln), .ref 63, .ref 64, .ref 65, .int (ac), .int (nxx), .ref 66, .ref 67, .ref 68, .ref 69, .int (sn), .int (sx), .ref 70, .ref 71, .ref 72, .ref 73, .ref 74, .int (tl), .ref 75, .int (sl), .ref 76, .int (st), .ref 77]) → hz[76]? = some (ia 320 g) → (∀ q, q < 320 → g q = if q < 280 then f (q + 40) else nI 0) → Fr [76] hp hz → PZ l X Z mX12_layPage 151 [some (.ref 61), some (.int (nI wd)), some (.int (nI r)), some (.int (nI co)), some (.int (nI i)), some (.int (nI c)), some (.int (nI 320))] [] hz 0 0) : ∀ (d j : Nat) (hz : HPt) (g : Nat → Int32), j + d = 320 → hz[61]? = some (ob 11 [.ref 62, .int (ln), .ref 63, .ref 64, .ref 65, .int (ac), .int (nxx), .ref 66, .ref 67, .ref 68, .ref 69, .int (sn), .int (sx), .ref 70, .ref 71, .ref 72, .ref 73, .ref 74, .int (tl), .ref 75, .int (sl), .ref 76, .int (st), .ref 77]) → hz[76]? = some (ia 320 g) → (∀ q, q < j → g q = if q < 280 then f (q + 40) else nI 0) → (∀ q, j ≤ q → g q = f q) → Fr [76] hp hz → PZ l X Z mX12_layPage 108 [some (.ref 61), some (.int (nI wd)), some (.int (nI r)), some (.int (nI co)), some (.int (nI i)), some (.int (nI c)), some (.int (nI j))] [] hz 0 0 := by
  intro d
  induction d with
  | zero =>
    intro j hz g hj H0 Hg hg ho hF
    have hje : j = 320 := by omega
    subst hje
    refine R_iload dX12_layPage_108 rfl ?_
    refine R_sipush (v := (nI 320)) dX12_layPage_110 (by decide) ?_
    refine N_icmp_ge (tgt := 151) dX12_layPage_113 (by decide) (by omega) (by omega) (fun _ => ?_) (fun hc => absurd hc (by omega))
    exact K hz g H0 Hg hg hF
  | succ d ih =>
    intro j hz g hj H0 Hg hg ho hF
    refine R_iload dX12_layPage_108 rfl ?_
    refine R_sipush (v := (nI 320)) dX12_layPage_110 (by decide) ?_
    refine N_icmp_ge (tgt := 151) dX12_layPage_113 (by decide) (by omega) (by omega) (fun hc => absurd hc (by omega)) (fun _ => ?_)
    refine R_aload_n dX12_layPage_116 rfl rfl ?_
    refine R_getf dX12_layPage_117 gX12_53 H0 rfl ?_
    refine R_iload dX12_layPage_120 rfl ?_
    refine R_iload dX12_layPage_122 rfl ?_
    refine R_sipush (v := (nI 280)) dX12_layPage_124 (by decide) ?_
    refine N_icmp_ge (tgt := 143) dX12_layPage_127 (by decide) (by omega) (by omega) (fun h280 => ?_) (fun h280 => ?_)
    · refine R_iconst (v := (nI 0)) dX12_layPage_143 (by decide) ?_
      obtain ⟨g2, eg2⟩ : ∃ y, y = upd g j (nI 0) := ⟨_, rfl⟩
      refine W_iast (f' := g2) dX12_layPage_144 Hg (by omega) (by decide) eg2 (fun wp1 wH2 wE3 => ?_)
      have wH4 := (wE3 61 (by decide)).trans H0
      have wF5 : Fr [76] hp wp1 := hF.trans (Fr.one wE3 (by simp))
      refine N_iinc (d := 1) (lv' := [some (.ref 61), some (.int (nI wd)), some (.int (nI r)), some (.int (nI co)), some (.int (nI i)), some (.int (nI c)), some (.int (nI (j + 1)))]) dX12_layPage_145 rfl rfl ?_
      refine R_goto (tgt := 108) dX12_layPage_148 (by decide) ?_
      refine ih (j + 1) _ g2 (by omega) wH4 wH2 (fun q hq => ?_) (fun q hq => by rw [eg2, upd_n (by omega)]; exact ho q (by omega)) wF5
      by_cases e : q = j
      · subst e; rw [eg2, upd_s, if_neg (by omega)]
      · rw [eg2, upd_n e]; exact hg q (by omega)
    · refine R_aload_n dX12_layPage_130 rfl rfl ?_
      refine R_getf dX12_layPage_131 gX12_53 H0 rfl ?_
      refine R_iload dX12_layPage_134 rfl ?_
      refine R_bipush (v := (nI 40)) dX12_layPage_136 (by decide) ?_
      refine N_iadd dX12_layPage_138 ?_
      refine N_iald (y := (f (j + 40))) dX12_layPage_139 Hg (by omega) (by decide) (ho (j + 40) (by omega)) ?_
      refine R_goto (tgt := 144) dX12_layPage_140 (by decide) ?_
      obtain ⟨g2, eg2⟩ : ∃ y, y = upd g j (f (j + 40)) := ⟨_, rfl⟩
      refine W_iast (f' := g2) dX12_layPage_144 Hg (by omega) (by decide) eg2 (fun wp6 wH7 wE8 => ?_)
      have wH9 := (wE8 61 (by decide)).trans H0
      have wF10 : Fr [76] hp wp6 := hF.trans (Fr.one wE8 (by simp))
      refine N_iinc (d := 1) (lv' := [some (.ref 61), some (.int (nI wd)), some (.int (nI r)), some (.int (nI co)), some (.int (nI i)), some (.int (nI c)), some (.int (nI (j + 1)))]) dX12_layPage_145 rfl rfl ?_
      refine R_goto (tgt := 108) dX12_layPage_148 (by decide) ?_
      refine ih (j + 1) _ g2 (by omega) wH9 wH7 (fun q hq => ?_) (fun q hq => by rw [eg2, upd_n (by omega)]; exact ho q (by omega)) wF10
      by_cases e : q = j
      · subst e; rw [eg2, upd_s, if_pos (by omega)]
      · rw [eg2, upd_n e]; exact hg q (by omega)
set_option maxRecDepth 100000 in
set_option maxHeartbeats 4000000 in
theorem r_pgL {ln ac nxx sn sx sl : Int32} {wd : Nat} {ts : List Nat} {t : Nat → Int32} {R : PG} {Q : HPt → Prop} (K : ∀ hp9, (fun hp' => hp'[61]? = some (ob 11 [.ref 62, .int (ln), .ref 63, .ref 64, .ref 65, .int (ac), .int (nxx), .ref 66, .ref 67, .ref 68, .ref 69, .int (sn), .int (sx), .ref 70, .ref 71, .ref 72, .ref 73, .ref 74, .int (nI (ts.length)), .ref 75, .int (sl), .ref 76, .int (nI (R.2.2.2)), .ref 77]) ∧ (∃ f : Nat → Int32, hp'[76]? = some (ia 320 f) ∧ ∀ q, q < 320 → f q = nI (R.1 q)) ∧ Fr [61, 76] hp hp') hp9 → Q hp9) (ht : ∀ (q : Nat) (hq : q < ts.length), t q = nI ts[q]) (htl : ts.length ≤ 96) (htc : ∀ c ∈ ts, c < 128) (hw1 : 5 ≤ wd) (hw2 : wd ≤ 40) : ∀ (d j : Nat) (hz : HPt) (g : Nat → Int32) (p : Nat → Nat) (r co kk : Nat) (la lb : Option Value), j + d = ts.length → hz[61]? = some (ob 11 [.ref 62, .int (ln), .ref 63, .ref 64, .ref 65, .int (ac), .int (nxx), .ref 66, .ref 67, .ref 68, .ref 69, .int (sn), .int (sx), .ref 70, .ref 71, .ref 72, .ref 73, .ref 74, .int (nI (ts.length)), .ref 75, .int (sl), .ref 76, .int (nI kk), .ref 77]) → hz[74]? = some (ia 96 t) → hz[76]? = some (ia 320 g) → (∀ q, q < 320 → g q = nI (p q) ∧ p q < 128) → r < 8 → co ≤ wd - 1 → R = (ts.drop j).foldl (pgS wd) (p, r, co, kk) → Fr [61, 76] hp hz → PZ l X (MZv X mX12_layPage Q) mX12_layPage 49 [some (.ref 61), some (.int (nI wd)), some (.int (nI r)), some (.int (nI co)), some (.int (nI j)), la, lb] [] hz 0 0 := by
  intro d
  induction d with
  | zero =>
    intro j hz g p r co kk la lb hj H0 Ht Hg hg hr hco hR hF
    have hRe : R = (p, r, co, kk) := by rw [hR, List.drop_eq_nil_of_le (by omega)]; rfl
    subst hRe
    refine R_iload dX12_layPage_49 rfl ?_
    refine R_aload_n dX12_layPage_51 rfl rfl ?_
    refine R_getf dX12_layPage_52 gX12_83 H0 rfl ?_
    refine N_icmp_ge (tgt := 235) dX12_layPage_55 (by decide) (by omega) (by omega) (fun _ => ?_) (fun hc => absurd hc (by omega))
    exact R_retv dX12_layPage_235 rfl rfl rfl (K _ ⟨H0, ⟨g, Hg, fun q hq => (hg q hq).1⟩, hF⟩)
  | succ d ih =>
    intro j hz g p r co kk la lb hj H0 Ht Hg hg hr hco hR hF
    have hc := htc ts[j] (List.getElem_mem (by omega))
    rw [drop_c (cs := ts) (by omega), List.foldl_cons] at hR
    have hg9 := hg (40 * r + co) (by omega)
    obtain ⟨c, ec⟩ : ∃ c, c = ts[j] := ⟨_, rfl⟩
    have htj : t j = nI c := by rw [ec]; exact ht j (by omega)
    rw [← ec] at hR hc
    refine R_iload dX12_layPage_49 rfl ?_
    refine R_aload_n dX12_layPage_51 rfl rfl ?_
    refine R_getf dX12_layPage_52 gX12_83 H0 rfl ?_
    refine N_icmp_ge (tgt := 235) dX12_layPage_55 (by decide) (by omega) (by omega) (fun hc => absurd hc (by omega)) (fun _ => ?_)
    refine R_aload_n dX12_layPage_58 rfl rfl ?_
    refine R_getf dX12_layPage_59 gX12_47 H0 rfl ?_
    refine R_iload dX12_layPage_62 rfl ?_
    refine N_iald (y := (nI c)) dX12_layPage_64 Ht (by omega) (by decide) htj ?_
    refine R_istore (lv' := [some (.ref 61), some (.int (nI wd)), some (.int (nI r)), some (.int (nI co)), some (.int (nI j)), some (.int (nI c)), lb]) dX12_layPage_65 (by decide) rfl ?_
    refine R_iload dX12_layPage_67 rfl ?_
    refine R_bipush (v := (nI 13)) dX12_layPage_69 (by decide) ?_
    refine N_icmp_ne (tgt := 79) dX12_layPage_71 (by decide) (by omega) (by omega) (fun h13 => ?_) (fun h13 => ?_)
    · refine R_iload dX12_layPage_79 rfl ?_
      refine R_bipush (v := (nI 10)) dX12_layPage_81 (by decide) ?_
      refine N_icmp_ne (tgt := 98) dX12_layPage_83 (by decide) (by omega) (by omega) (fun h10 => ?_) (fun h10 => ?_)
      · refine R_iload dX12_layPage_98 rfl ?_
        refine R_bipush (v := (nI 10)) dX12_layPage_100 (by decide) ?_
        refine N_icmp_ne (tgt := 154) dX12_layPage_102 (by decide) (by omega) (by omega) (fun _ => ?_) (fun hc => absurd hc (h10))
        refine R_bipush (v := (nI 40)) dX12_layPage_154 (by decide) ?_
        refine R_iload_n dX12_layPage_156 rfl rfl ?_
        refine N_imul dX12_layPage_157 ?_
        refine R_iload_n dX12_layPage_158 rfl rfl ?_
        refine N_iadd dX12_layPage_159 ?_
        refine R_istore (lv' := [some (.ref 61), some (.int (nI wd)), some (.int (nI r)), some (.int (nI co)), some (.int (nI j)), some (.int (nI c)), some (.int (nI ((40 * r) + co)))]) dX12_layPage_160 (by decide) rfl ?_
        refine R_aload_n dX12_layPage_162 rfl rfl ?_
        refine R_dup dX12_layPage_163 rfl ?_
        refine R_getf dX12_layPage_164 gX12_163 H0 rfl ?_
        refine R_iload dX12_layPage_167 rfl ?_
        refine R_bipush (v := (nI 32)) dX12_layPage_169 (by decide) ?_
        refine N_icmp_eq (tgt := 200) dX12_layPage_171 (by decide) (by omega) (by omega) (fun h32 => ?_) (fun h32 => ?_)
        · have hS : pgS wd (p, r, co, kk) c = ((fun q => if q = r * 40 + co then c else p q), r, min (co + 1) (wd - 1), kk + 0) := by unfold pgS; dsimp only; rw [if_neg h13, if_neg h10, if_neg (fun z9 => z9.1 h32)] <;> rfl
          refine R_iconst (v := (nI 0)) dX12_layPage_200 (by decide) ?_
          refine N_iadd dX12_layPage_201 ?_
          refine W_puti (fs' := [.ref 62, .int (ln), .ref 63, .ref 64, .ref 65, .int (ac), .int (nxx), .ref 66, .ref 67, .ref 68, .ref 69, .int (sn), .int (sx), .ref 70, .ref 71, .ref 72, .ref 73, .ref 74, .int (nI (ts.length)), .ref 75, .int (sl), .ref 76, .int (nI (kk + 0)), .ref 77]) dX12_layPage_202 pX12_163 H0 (Nat.le_of_ble_eq_true rfl) rfl (fun wp1 wH2 wE3 => ?_)
          have wH4 := (wE3 74 (by decide)).trans Ht
          have wH5 := (wE3 76 (by decide)).trans Hg
          have wF6 : Fr [61, 76] hp wp1 := hF.trans (Fr.one wE3 (by simp))
          refine R_aload_n dX12_layPage_205 rfl rfl ?_
          refine R_getf dX12_layPage_206 gX12_53 wH2 rfl ?_
          refine R_iload dX12_layPage_209 rfl ?_
          refine R_iload dX12_layPage_211 rfl ?_
          obtain ⟨g2, eg2⟩ : ∃ y, y = upd g ((40 * r) + co) (nI c) := ⟨_, rfl⟩
          refine W_iast (f' := g2) dX12_layPage_213 wH5 (by omega) (by decide) eg2 (fun wp7 wH8 wE9 => ?_)
          have wH10 := (wE9 61 (by decide)).trans wH2
          have wH11 := (wE9 74 (by decide)).trans wH4
          have wF12 : Fr [61, 76] hp wp7 := wF6.trans (Fr.one wE9 (by simp))
          refine R_iload_n dX12_layPage_214 rfl rfl ?_
          refine R_iload_n dX12_layPage_215 rfl rfl ?_
          refine R_iconst (v := (nI 1)) dX12_layPage_216 (by decide) ?_
          refine N_isub dX12_layPage_217 (by omega) ?_
          refine N_icmp_ge (tgt := 227) dX12_layPage_218 (by decide) (by omega) (by omega) (fun hcw => ?_) (fun hcw => ?_)
          · refine R_iload_n dX12_layPage_227 rfl rfl ?_
            refine R_istore_n (lv' := [some (.ref 61), some (.int (nI wd)), some (.int (nI r)), some (.int (nI co)), some (.int (nI j)), some (.int (nI c)), some (.int (nI ((40 * r) + co)))]) dX12_layPage_228 rfl (by decide) rfl ?_
            refine N_iinc (d := 1) (lv' := [some (.ref 61), some (.int (nI wd)), some (.int (nI r)), some (.int (nI co)), some (.int (nI (j + 1))), some (.int (nI c)), some (.int (nI ((40 * r) + co)))]) dX12_layPage_229 rfl rfl ?_
            refine R_goto (tgt := 49) dX12_layPage_232 (by decide) ?_
            refine ih (j + 1) _ g2 (fun q => if q = r * 40 + co then c else p q) r (co) (kk + 0) _ _ (by omega) wH10 wH11 wH8 (fun q hq => ?_) hr (by omega) (by rw [hR, hS, show min (co + 1) (wd - 1) = co by omega]) wF12
            rw [eg2]
            by_cases e : q = 40 * r + co
            · subst e; rw [upd_s, if_pos (by omega)]; exact ⟨rfl, hc⟩
            · rw [upd_n e, if_neg (by omega)]; exact hg q hq
          · refine R_iload_n dX12_layPage_221 rfl rfl ?_
            refine R_iconst (v := (nI 1)) dX12_layPage_222 (by decide) ?_
            refine N_iadd dX12_layPage_223 ?_
            refine R_goto (tgt := 228) dX12_layPage_224 (by decide) ?_
            refine R_istore_n (lv' := [some (.ref 61), some (.int (nI wd)), some (.int (nI r)), some (.int (nI (co + 1))), some (.int (nI j)), some (.int (nI c)), some (.int (nI ((40 * r) + co)))]) dX12_layPage_228 rfl (by decide) rfl ?_
            refine N_iinc (d := 1) (lv' := [some (.ref 61), some (.int (nI wd)), some (.int (nI r)), some (.int (nI (co + 1))), some (.int (nI (j + 1))), some (.int (nI c)), some (.int (nI ((40 * r) + co)))]) dX12_layPage_229 rfl rfl ?_
            refine R_goto (tgt := 49) dX12_layPage_232 (by decide) ?_
            refine ih (j + 1) _ g2 (fun q => if q = r * 40 + co then c else p q) r (co + 1) (kk + 0) _ _ (by omega) wH10 wH11 wH8 (fun q hq => ?_) hr (by omega) (by rw [hR, hS, show min (co + 1) (wd - 1) = co + 1 by omega]) wF12
            rw [eg2]
            by_cases e : q = 40 * r + co
            · subst e; rw [upd_s, if_pos (by omega)]; exact ⟨rfl, hc⟩
            · rw [upd_n e, if_neg (by omega)]; exact hg q hq
        · refine R_aload_n dX12_layPage_174 rfl rfl ?_
          refine R_getf dX12_layPage_175 gX12_53 H0 rfl ?_
          refine R_iload dX12_layPage_178 rfl ?_
          refine N_iald (y := (nI (p (40 * r + co)))) dX12_layPage_180 Hg (by omega) (by decide) hg9.1 ?_
          refine N_if_eq (tgt := 200) dX12_layPage_181 (by decide) (by omega) (fun hp0 => ?_) (fun hp0 => ?_)
          · have hS : pgS wd (p, r, co, kk) c = ((fun q => if q = r * 40 + co then c else p q), r, min (co + 1) (wd - 1), kk + 0) := by unfold pgS; dsimp only; rw [if_neg h13, if_neg h10, if_neg (fun z9 => z9.2.2 (by rw [Nat.mul_comm r 40]; exact hp0))] <;> rfl
            refine R_iconst (v := (nI 0)) dX12_layPage_200 (by decide) ?_
            refine N_iadd dX12_layPage_201 ?_
            refine W_puti (fs' := [.ref 62, .int (ln), .ref 63, .ref 64, .ref 65, .int (ac), .int (nxx), .ref 66, .ref 67, .ref 68, .ref 69, .int (sn), .int (sx), .ref 70, .ref 71, .ref 72, .ref 73, .ref 74, .int (nI (ts.length)), .ref 75, .int (sl), .ref 76, .int (nI (kk + 0)), .ref 77]) dX12_layPage_202 pX12_163 H0 (Nat.le_of_ble_eq_true rfl) rfl (fun wp13 wH14 wE15 => ?_)
            have wH16 := (wE15 74 (by decide)).trans Ht
            have wH17 := (wE15 76 (by decide)).trans Hg
            have wF18 : Fr [61, 76] hp wp13 := hF.trans (Fr.one wE15 (by simp))
            refine R_aload_n dX12_layPage_205 rfl rfl ?_
            refine R_getf dX12_layPage_206 gX12_53 wH14 rfl ?_
            refine R_iload dX12_layPage_209 rfl ?_
            refine R_iload dX12_layPage_211 rfl ?_
            obtain ⟨g2, eg2⟩ : ∃ y, y = upd g ((40 * r) + co) (nI c) := ⟨_, rfl⟩
            refine W_iast (f' := g2) dX12_layPage_213 wH17 (by omega) (by decide) eg2 (fun wp19 wH20 wE21 => ?_)
            have wH22 := (wE21 61 (by decide)).trans wH14
            have wH23 := (wE21 74 (by decide)).trans wH16
            have wF24 : Fr [61, 76] hp wp19 := wF18.trans (Fr.one wE21 (by simp))
            refine R_iload_n dX12_layPage_214 rfl rfl ?_
            refine R_iload_n dX12_layPage_215 rfl rfl ?_
            refine R_iconst (v := (nI 1)) dX12_layPage_216 (by decide) ?_
            refine N_isub dX12_layPage_217 (by omega) ?_
            refine N_icmp_ge (tgt := 227) dX12_layPage_218 (by decide) (by omega) (by omega) (fun hcw => ?_) (fun hcw => ?_)
            · refine R_iload_n dX12_layPage_227 rfl rfl ?_
              refine R_istore_n (lv' := [some (.ref 61), some (.int (nI wd)), some (.int (nI r)), some (.int (nI co)), some (.int (nI j)), some (.int (nI c)), some (.int (nI ((40 * r) + co)))]) dX12_layPage_228 rfl (by decide) rfl ?_
              refine N_iinc (d := 1) (lv' := [some (.ref 61), some (.int (nI wd)), some (.int (nI r)), some (.int (nI co)), some (.int (nI (j + 1))), some (.int (nI c)), some (.int (nI ((40 * r) + co)))]) dX12_layPage_229 rfl rfl ?_
              refine R_goto (tgt := 49) dX12_layPage_232 (by decide) ?_
              refine ih (j + 1) _ g2 (fun q => if q = r * 40 + co then c else p q) r (co) (kk + 0) _ _ (by omega) wH22 wH23 wH20 (fun q hq => ?_) hr (by omega) (by rw [hR, hS, show min (co + 1) (wd - 1) = co by omega]) wF24
              rw [eg2]
              by_cases e : q = 40 * r + co
              · subst e; rw [upd_s, if_pos (by omega)]; exact ⟨rfl, hc⟩
              · rw [upd_n e, if_neg (by omega)]; exact hg q hq
            · refine R_iload_n dX12_layPage_221 rfl rfl ?_
              refine R_iconst (v := (nI 1)) dX12_layPage_222 (by decide) ?_
              refine N_iadd dX12_layPage_223 ?_
              refine R_goto (tgt := 228) dX12_layPage_224 (by decide) ?_
              refine R_istore_n (lv' := [some (.ref 61), some (.int (nI wd)), some (.int (nI r)), some (.int (nI (co + 1))), some (.int (nI j)), some (.int (nI c)), some (.int (nI ((40 * r) + co)))]) dX12_layPage_228 rfl (by decide) rfl ?_
              refine N_iinc (d := 1) (lv' := [some (.ref 61), some (.int (nI wd)), some (.int (nI r)), some (.int (nI (co + 1))), some (.int (nI (j + 1))), some (.int (nI c)), some (.int (nI ((40 * r) + co)))]) dX12_layPage_229 rfl rfl ?_
              refine R_goto (tgt := 49) dX12_layPage_232 (by decide) ?_
              refine ih (j + 1) _ g2 (fun q => if q = r * 40 + co then c else p q) r (co + 1) (kk + 0) _ _ (by omega) wH22 wH23 wH20 (fun q hq => ?_) hr (by omega) (by rw [hR, hS, show min (co + 1) (wd - 1) = co + 1 by omega]) wF24
              rw [eg2]
              by_cases e : q = 40 * r + co
              · subst e; rw [upd_s, if_pos (by omega)]; exact ⟨rfl, hc⟩
              · rw [upd_n e, if_neg (by omega)]; exact hg q hq
          · refine R_aload_n dX12_layPage_184 rfl rfl ?_
            refine R_getf dX12_layPage_185 gX12_53 H0 rfl ?_
            refine R_iload dX12_layPage_188 rfl ?_
            refine N_iald (y := (nI (p (40 * r + co)))) dX12_layPage_190 Hg (by omega) (by decide) hg9.1 ?_
            refine R_bipush (v := (nI 32)) dX12_layPage_191 (by decide) ?_
            refine N_icmp_eq (tgt := 200) dX12_layPage_193 (by decide) (by omega) (by omega) (fun hp32 => ?_) (fun hp32 => ?_)
            · have hS : pgS wd (p, r, co, kk) c = ((fun q => if q = r * 40 + co then c else p q), r, min (co + 1) (wd - 1), kk + 0) := by unfold pgS; dsimp only; rw [if_neg h13, if_neg h10, if_neg (fun z9 => z9.2.1 (by rw [Nat.mul_comm r 40]; exact hp32))] <;> rfl
              refine R_iconst (v := (nI 0)) dX12_layPage_200 (by decide) ?_
              refine N_iadd dX12_layPage_201 ?_
              refine W_puti (fs' := [.ref 62, .int (ln), .ref 63, .ref 64, .ref 65, .int (ac), .int (nxx), .ref 66, .ref 67, .ref 68, .ref 69, .int (sn), .int (sx), .ref 70, .ref 71, .ref 72, .ref 73, .ref 74, .int (nI (ts.length)), .ref 75, .int (sl), .ref 76, .int (nI (kk + 0)), .ref 77]) dX12_layPage_202 pX12_163 H0 (Nat.le_of_ble_eq_true rfl) rfl (fun wp25 wH26 wE27 => ?_)
              have wH28 := (wE27 74 (by decide)).trans Ht
              have wH29 := (wE27 76 (by decide)).trans Hg
              have wF30 : Fr [61, 76] hp wp25 := hF.trans (Fr.one wE27 (by simp))
              refine R_aload_n dX12_layPage_205 rfl rfl ?_
              refine R_getf dX12_layPage_206 gX12_53 wH26 rfl ?_
              refine R_iload dX12_layPage_209 rfl ?_
              refine R_iload dX12_layPage_211 rfl ?_
              obtain ⟨g2, eg2⟩ : ∃ y, y = upd g ((40 * r) + co) (nI c) := ⟨_, rfl⟩
              refine W_iast (f' := g2) dX12_layPage_213 wH29 (by omega) (by decide) eg2 (fun wp31 wH32 wE33 => ?_)
              have wH34 := (wE33 61 (by decide)).trans wH26
              have wH35 := (wE33 74 (by decide)).trans wH28
              have wF36 : Fr [61, 76] hp wp31 := wF30.trans (Fr.one wE33 (by simp))
              refine R_iload_n dX12_layPage_214 rfl rfl ?_
              refine R_iload_n dX12_layPage_215 rfl rfl ?_
              refine R_iconst (v := (nI 1)) dX12_layPage_216 (by decide) ?_
              refine N_isub dX12_layPage_217 (by omega) ?_
              refine N_icmp_ge (tgt := 227) dX12_layPage_218 (by decide) (by omega) (by omega) (fun hcw => ?_) (fun hcw => ?_)
              · refine R_iload_n dX12_layPage_227 rfl rfl ?_
                refine R_istore_n (lv' := [some (.ref 61), some (.int (nI wd)), some (.int (nI r)), some (.int (nI co)), some (.int (nI j)), some (.int (nI c)), some (.int (nI ((40 * r) + co)))]) dX12_layPage_228 rfl (by decide) rfl ?_
                refine N_iinc (d := 1) (lv' := [some (.ref 61), some (.int (nI wd)), some (.int (nI r)), some (.int (nI co)), some (.int (nI (j + 1))), some (.int (nI c)), some (.int (nI ((40 * r) + co)))]) dX12_layPage_229 rfl rfl ?_
                refine R_goto (tgt := 49) dX12_layPage_232 (by decide) ?_
                refine ih (j + 1) _ g2 (fun q => if q = r * 40 + co then c else p q) r (co) (kk + 0) _ _ (by omega) wH34 wH35 wH32 (fun q hq => ?_) hr (by omega) (by rw [hR, hS, show min (co + 1) (wd - 1) = co by omega]) wF36
                rw [eg2]
                by_cases e : q = 40 * r + co
                · subst e; rw [upd_s, if_pos (by omega)]; exact ⟨rfl, hc⟩
                · rw [upd_n e, if_neg (by omega)]; exact hg q hq
              · refine R_iload_n dX12_layPage_221 rfl rfl ?_
                refine R_iconst (v := (nI 1)) dX12_layPage_222 (by decide) ?_
                refine N_iadd dX12_layPage_223 ?_
                refine R_goto (tgt := 228) dX12_layPage_224 (by decide) ?_
                refine R_istore_n (lv' := [some (.ref 61), some (.int (nI wd)), some (.int (nI r)), some (.int (nI (co + 1))), some (.int (nI j)), some (.int (nI c)), some (.int (nI ((40 * r) + co)))]) dX12_layPage_228 rfl (by decide) rfl ?_
                refine N_iinc (d := 1) (lv' := [some (.ref 61), some (.int (nI wd)), some (.int (nI r)), some (.int (nI (co + 1))), some (.int (nI (j + 1))), some (.int (nI c)), some (.int (nI ((40 * r) + co)))]) dX12_layPage_229 rfl rfl ?_
                refine R_goto (tgt := 49) dX12_layPage_232 (by decide) ?_
                refine ih (j + 1) _ g2 (fun q => if q = r * 40 + co then c else p q) r (co + 1) (kk + 0) _ _ (by omega) wH34 wH35 wH32 (fun q hq => ?_) hr (by omega) (by rw [hR, hS, show min (co + 1) (wd - 1) = co + 1 by omega]) wF36
                rw [eg2]
                by_cases e : q = 40 * r + co
                · subst e; rw [upd_s, if_pos (by omega)]; exact ⟨rfl, hc⟩
                · rw [upd_n e, if_neg (by omega)]; exact hg q hq
            · have hS : pgS wd (p, r, co, kk) c = ((fun q => if q = r * 40 + co then c else p q), r, min (co + 1) (wd - 1), kk + 1) := by unfold pgS; dsimp only; rw [if_neg h13, if_neg h10, if_pos ⟨h32, by rw [Nat.mul_comm r 40]; exact hp32, by rw [Nat.mul_comm r 40]; exact hp0⟩] <;> rfl
              refine R_iconst (v := (nI 1)) dX12_layPage_196 (by decide) ?_
              refine R_goto (tgt := 201) dX12_layPage_197 (by decide) ?_
              refine N_iadd dX12_layPage_201 ?_
              refine W_puti (fs' := [.ref 62, .int (ln), .ref 63, .ref 64, .ref 65, .int (ac), .int (nxx), .ref 66, .ref 67, .ref 68, .ref 69, .int (sn), .int (sx), .ref 70, .ref 71, .ref 72, .ref 73, .ref 74, .int (nI (ts.length)), .ref 75, .int (sl), .ref 76, .int (nI (kk + 1)), .ref 77]) dX12_layPage_202 pX12_163 H0 (Nat.le_of_ble_eq_true rfl) rfl (fun wp37 wH38 wE39 => ?_)
              have wH40 := (wE39 74 (by decide)).trans Ht
              have wH41 := (wE39 76 (by decide)).trans Hg
              have wF42 : Fr [61, 76] hp wp37 := hF.trans (Fr.one wE39 (by simp))
              refine R_aload_n dX12_layPage_205 rfl rfl ?_
              refine R_getf dX12_layPage_206 gX12_53 wH38 rfl ?_
              refine R_iload dX12_layPage_209 rfl ?_
              refine R_iload dX12_layPage_211 rfl ?_
              obtain ⟨g2, eg2⟩ : ∃ y, y = upd g ((40 * r) + co) (nI c) := ⟨_, rfl⟩
              refine W_iast (f' := g2) dX12_layPage_213 wH41 (by omega) (by decide) eg2 (fun wp43 wH44 wE45 => ?_)
              have wH46 := (wE45 61 (by decide)).trans wH38
              have wH47 := (wE45 74 (by decide)).trans wH40
              have wF48 : Fr [61, 76] hp wp43 := wF42.trans (Fr.one wE45 (by simp))
              refine R_iload_n dX12_layPage_214 rfl rfl ?_
              refine R_iload_n dX12_layPage_215 rfl rfl ?_
              refine R_iconst (v := (nI 1)) dX12_layPage_216 (by decide) ?_
              refine N_isub dX12_layPage_217 (by omega) ?_
              refine N_icmp_ge (tgt := 227) dX12_layPage_218 (by decide) (by omega) (by omega) (fun hcw => ?_) (fun hcw => ?_)
              · refine R_iload_n dX12_layPage_227 rfl rfl ?_
                refine R_istore_n (lv' := [some (.ref 61), some (.int (nI wd)), some (.int (nI r)), some (.int (nI co)), some (.int (nI j)), some (.int (nI c)), some (.int (nI ((40 * r) + co)))]) dX12_layPage_228 rfl (by decide) rfl ?_
                refine N_iinc (d := 1) (lv' := [some (.ref 61), some (.int (nI wd)), some (.int (nI r)), some (.int (nI co)), some (.int (nI (j + 1))), some (.int (nI c)), some (.int (nI ((40 * r) + co)))]) dX12_layPage_229 rfl rfl ?_
                refine R_goto (tgt := 49) dX12_layPage_232 (by decide) ?_
                refine ih (j + 1) _ g2 (fun q => if q = r * 40 + co then c else p q) r (co) (kk + 1) _ _ (by omega) wH46 wH47 wH44 (fun q hq => ?_) hr (by omega) (by rw [hR, hS, show min (co + 1) (wd - 1) = co by omega]) wF48
                rw [eg2]
                by_cases e : q = 40 * r + co
                · subst e; rw [upd_s, if_pos (by omega)]; exact ⟨rfl, hc⟩
                · rw [upd_n e, if_neg (by omega)]; exact hg q hq
              · refine R_iload_n dX12_layPage_221 rfl rfl ?_
                refine R_iconst (v := (nI 1)) dX12_layPage_222 (by decide) ?_
                refine N_iadd dX12_layPage_223 ?_
                refine R_goto (tgt := 228) dX12_layPage_224 (by decide) ?_
                refine R_istore_n (lv' := [some (.ref 61), some (.int (nI wd)), some (.int (nI r)), some (.int (nI (co + 1))), some (.int (nI j)), some (.int (nI c)), some (.int (nI ((40 * r) + co)))]) dX12_layPage_228 rfl (by decide) rfl ?_
                refine N_iinc (d := 1) (lv' := [some (.ref 61), some (.int (nI wd)), some (.int (nI r)), some (.int (nI (co + 1))), some (.int (nI (j + 1))), some (.int (nI c)), some (.int (nI ((40 * r) + co)))]) dX12_layPage_229 rfl rfl ?_
                refine R_goto (tgt := 49) dX12_layPage_232 (by decide) ?_
                refine ih (j + 1) _ g2 (fun q => if q = r * 40 + co then c else p q) r (co + 1) (kk + 1) _ _ (by omega) wH46 wH47 wH44 (fun q hq => ?_) hr (by omega) (by rw [hR, hS, show min (co + 1) (wd - 1) = co + 1 by omega]) wF48
                rw [eg2]
                by_cases e : q = 40 * r + co
                · subst e; rw [upd_s, if_pos (by omega)]; exact ⟨rfl, hc⟩
                · rw [upd_n e, if_neg (by omega)]; exact hg q hq
      · refine R_iload_n dX12_layPage_86 rfl rfl ?_
        refine R_bipush (v := (nI 7)) dX12_layPage_87 (by decide) ?_
        refine N_icmp_ge (tgt := 98) dX12_layPage_89 (by decide) (by omega) (by omega) (fun h7 => ?_) (fun h7 => ?_)
        · refine R_iload dX12_layPage_98 rfl ?_
          refine R_bipush (v := (nI 10)) dX12_layPage_100 (by decide) ?_
          refine N_icmp_ne (tgt := 154) dX12_layPage_102 (by decide) (by omega) (by omega) (fun hc => absurd hc (fun z9 => z9 h10)) (fun _ => ?_)
          refine R_iconst (v := (nI 0)) dX12_layPage_105 (by decide) ?_
          refine R_istore (lv' := [some (.ref 61), some (.int (nI wd)), some (.int (nI r)), some (.int (nI co)), some (.int (nI j)), some (.int (nI c)), some (.int (nI 0))]) dX12_layPage_106 (by decide) rfl ?_
          refine r_pcL (f := g) (fun hy g2 H1 Hg2 hg2 hF2 => ?_) 320 0 _ g (by omega) H0 Hg (fun q hq => absurd hq (by omega)) (fun q hq => rfl) Fr.rf
          have Ht2 := hF2.at (by decide) Ht
          refine R_goto (tgt := 229) dX12_layPage_151 (by decide) ?_
          refine N_iinc (d := 1) (lv' := [some (.ref 61), some (.int (nI wd)), some (.int (nI r)), some (.int (nI co)), some (.int (nI (j + 1))), some (.int (nI c)), some (.int (nI 320))]) dX12_layPage_229 rfl rfl ?_
          refine R_goto (tgt := 49) dX12_layPage_232 (by decide) ?_
          have hS : pgS wd (p, r, co, kk) c = ((fun q => if q < 280 then p (q + 40) else 0), r, co, kk) := by unfold pgS; dsimp only; rw [if_neg h13, if_pos h10, if_neg (by omega)]
          refine ih (j + 1) _ g2 (fun q => if q < 280 then p (q + 40) else 0) r co kk _ _ (by omega) H1 Ht2 Hg2 (fun q hq => ?_) hr hco (by rw [hR, hS]) (hF.trans (hF2.mono (by decide)))
          rw [hg2 q hq]
          by_cases e : q < 280
          · rw [if_pos e, if_pos e]; exact hg (q + 40) (by omega)
          · rw [if_neg e, if_neg e]; exact ⟨rfl, by omega⟩
        · refine N_iinc (d := 1) (lv' := [some (.ref 61), some (.int (nI wd)), some (.int (nI (r + 1))), some (.int (nI co)), some (.int (nI j)), some (.int (nI c)), lb]) dX12_layPage_92 rfl rfl ?_
          refine R_goto (tgt := 229) dX12_layPage_95 (by decide) ?_
          refine N_iinc (d := 1) (lv' := [some (.ref 61), some (.int (nI wd)), some (.int (nI (r + 1))), some (.int (nI co)), some (.int (nI (j + 1))), some (.int (nI c)), lb]) dX12_layPage_229 rfl rfl ?_
          refine R_goto (tgt := 49) dX12_layPage_232 (by decide) ?_
          have hS : pgS wd (p, r, co, kk) c = (p, r + 1, co, kk) := by unfold pgS; dsimp only; rw [if_neg h13, if_pos h10, if_pos (by omega)]
          exact ih (j + 1) _ g p (r + 1) co kk _ _ (by omega) H0 Ht Hg hg (by omega) hco (by rw [hR, hS]) hF
    · refine R_iconst (v := (nI 0)) dX12_layPage_74 (by decide) ?_
      refine R_istore_n (lv' := [some (.ref 61), some (.int (nI wd)), some (.int (nI r)), some (.int (nI 0)), some (.int (nI j)), some (.int (nI c)), lb]) dX12_layPage_75 rfl (by decide) rfl ?_
      refine R_goto (tgt := 229) dX12_layPage_76 (by decide) ?_
      refine N_iinc (d := 1) (lv' := [some (.ref 61), some (.int (nI wd)), some (.int (nI r)), some (.int (nI 0)), some (.int (nI (j + 1))), some (.int (nI c)), lb]) dX12_layPage_229 rfl rfl ?_
      refine R_goto (tgt := 49) dX12_layPage_232 (by decide) ?_
      have hS : pgS wd (p, r, co, kk) c = (p, r, 0, kk) := by unfold pgS; dsimp only; rw [if_pos h13]
      exact ih (j + 1) _ g p r 0 kk _ _ (by omega) H0 Ht Hg hg hr (by omega) (by rw [hR, hS]) hF
set_option maxRecDepth 100000 in
set_option maxHeartbeats 4000000 in
theorem r_page {ms : List Nat} {cs : List Nat} {sc un wd : Nat} {hs : List TP} {s0 s1 : Option TP} {os : List (Nat × Nat)} {ox : Nat} (hM : MJ hp (ms, (cs, sc, un, wd), hs, s0, s1, os, ox)) : SpV l X mX12_layPage [.ref 61] hp (fun hp' => MJ hp' (ms, (cs, sc, un, wd), hs, s0, s1, os, ox) ∧ (∃ tl sl : Int32, ∃ nx : Nat, hp'[61]? = some (ob 11 [.ref 62, .int (nI (ms.length)), .ref 63, .ref 64, .ref 65, .int (nI (hs.length)), .int (nI nx), .ref 66, .ref 67, .ref 68, .ref 69, .int (nI (os.length)), .int (nI ox), .ref 70, .ref 71, .ref 72, .ref 73, .ref 74, .int (tl), .ref 75, .int (sl), .ref 76, .int (nI ((pgL wd (txt un sc cs)).2.2.2)), .ref 77])) ∧ (∃ f : Nat → Int32, hp'[76]? = some (ia 320 f) ∧ ∀ q, q < 320 → f q = nI ((pgL wd (txt un sc cs)).1 q)) ∧ Fr LM hp hp') := by
  obtain ⟨nx, tl, sl, st, M0, MM, MN, MT, MD, MK, MO, A70, A71, A72, A73, A74, A75, A76, A77⟩ := hM
  obtain ⟨hL, hC3, hs1, hu1, hw1, hw2⟩ := MN.ok
  have htl := txt_len un cs sc
  suffices h : SpV l X mX12_layPage [.ref 61] hp (fun hp' => ∃ hz, Fr LM hp hz ∧ MJ hz (ms, (cs, sc, un, wd), hs, s0, s1, os, ox) ∧ (∃ nx : Nat, ∃ sl : Int32, hp'[61]? = some (ob 11 [.ref 62, .int (nI (ms.length)), .ref 63, .ref 64, .ref 65, .int (nI (hs.length)), .int (nI nx), .ref 66, .ref 67, .ref 68, .ref 69, .int (nI (os.length)), .int (nI ox), .ref 70, .ref 71, .ref 72, .ref 73, .ref 74, .int (nI ((txt un sc cs).length)), .ref 75, .int (sl), .ref 76, .int (nI ((pgL wd (txt un sc cs)).2.2.2)), .ref 77]) ∧ DiA hz hs nx) ∧ (∃ f : Nat → Int32, hp'[76]? = some (ia 320 f) ∧ ∀ q, q < 320 → f q = nI ((pgL wd (txt un sc cs)).1 q)) ∧ Fr [61, 76] hz hp') by
    refine h.imp (fun hp2 h2 => ?_)
    obtain ⟨hz, hF, hM2, ⟨nx2, sl2, H61, hD2⟩, ⟨f2, H76, hf2⟩, hF2⟩ := h2
    obtain ⟨nx3, tl3, sl3, st3, N0, NM, NN, NT, ND, NK, NO, B70, B71, B72, B73, B74, B75, B76, B77⟩ := hM2
    exact ⟨⟨nx2, _, _, _, H61, NM.fr hF2 (by decide), NN.fr hF2 (by decide), NT.fr hF2 (by decide), hD2.fr hF2 (by decide), NK.fr hF2 (by decide) (by decide), NO.fr hF2 (by decide) (by decide), B70.fr hF2 (by decide), B71.fr hF2 (by decide), B72.fr hF2 (by decide), B73.fr hF2 (by decide), B74.fr hF2 (by decide), B75.fr hF2 (by decide), ⟨f2, H76⟩, B77.fr hF2 (by decide)⟩, ⟨_, _, _, H61⟩, ⟨f2, H76, hf2⟩, hF.trans (hF2.mono (by decide))⟩
  refine SpV.of pnX12 (Nat.le_of_ble_eq_true rfl) rfl ?_
  refine R_aload_n dX12_layPage_0 rfl rfl ?_
  refine R_aload_n dX12_layPage_1 rfl rfl ?_
  refine R_getf dX12_layPage_2 gX12_13 M0 rfl ?_
  refine R_callv (As := [.ref 63]) (st := []) kX12_layText lX12_102 (r_lt M0 MN A70 A71 A74) rfl M0 dX12_layPage_5 rfl rfl (Nat.le_of_ble_eq_true rfl) ⟨by decide, by decide⟩ zX12_layText ⟨Nat.le_refl _, Nat.le_refl _⟩ (fun wp2 wq1 => ?_)
  obtain ⟨hl1, hl2, hl3⟩ := wq1
  have c4 := MM.fr hl3 (by decide)
  have c5 := MN.fr hl3 (by decide)
  have c6 := MT.fr hl3 (by decide)
  have c7 := MD.fr hl3 (by decide)
  have c8 := MK.fr hl3 (by decide) (by decide)
  have c9 := MO.fr hl3 (by decide) (by decide)
  have c10 := A72.fr hl3 (by decide)
  have c11 := A73.fr hl3 (by decide)
  have c12 := A75.fr hl3 (by decide)
  have c13 := A76.fr hl3 (by decide)
  have c14 := A77.fr hl3 (by decide)
  have FF15 : Fr LM hp wp2 := (Fr.rf (L := LM) (hp := hp)).trans (hl3.mono (by decide))
  obtain ⟨f, Ha, hR⟩ := id c5
  obtain ⟨h0, h1, h2, h3, hf, -⟩ := hR.to
  refine R_aload_n dX12_layPage_8 rfl rfl ?_
  refine R_getf dX12_layPage_9 gX12_13 hl1 rfl ?_
  refine R_iconst (v := (nI 3)) dX12_layPage_12 (by decide) ?_
  refine N_iald (y := (nI wd)) dX12_layPage_13 Ha (by decide) (by decide) h3 ?_
  refine R_istore_n (lv' := [some (.ref 61), some (.int (nI wd)), none, none, none, none, none]) dX12_layPage_14 rfl (by decide) rfl ?_
  refine R_iconst (v := (nI 0)) dX12_layPage_15 (by decide) ?_
  refine R_istore_n (lv' := [some (.ref 61), some (.int (nI wd)), some (.int (nI 0)), none, none, none, none]) dX12_layPage_16 rfl (by decide) rfl ?_
  obtain ⟨g0, Hg0⟩ := id c13
  refine r_pzL (fun hz g H0 Hg hg hF => ?_) 320 0 _ g0 (by omega) hl1 Hg0 (fun q hq => absurd hq (by omega)) Fr.rf
  have c16 := c4.fr hF (by decide)
  have c17 := c5.fr hF (by decide)
  have c18 := c6.fr hF (by decide)
  have c19 := c7.fr hF (by decide)
  have c20 := c8.fr hF (by decide) (by decide)
  have c21 := c9.fr hF (by decide) (by decide)
  have c22 := hl2.x1.fr hF (by decide)
  have c23 := hl2.x2.fr hF (by decide)
  have c24 := c10.fr hF (by decide)
  have c25 := c11.fr hF (by decide)
  have c26 := hl2.x3.fr hF (by decide)
  have c27 := c12.fr hF (by decide)
  have c28 := c14.fr hF (by decide)
  have FF29 : Fr LM hp hz := FF15.trans (hF.mono (by decide))
  have hM2 : MJ hz (ms, (cs, sc, un, wd), hs, s0, s1, os, ox) := ⟨_, _, _, _, H0, c16, c17, c18, c19, c20, c21, c22, c23, c24, c25, c26, c27, (show AX hz 76 320 from ⟨g, Hg⟩), c28⟩
  obtain ⟨ga, wa, ta, -, -, Hta, -, -, hta⟩ := hl2.fr hF (by decide) (by decide) (by decide)
  refine R_aload_n dX12_layPage_37 rfl rfl ?_
  refine R_iconst (v := (nI 0)) dX12_layPage_38 (by decide) ?_
  refine W_puti (fs' := [.ref 62, .int (nI (ms.length)), .ref 63, .ref 64, .ref 65, .int (nI (hs.length)), .int (nI nx), .ref 66, .ref 67, .ref 68, .ref 69, .int (nI (os.length)), .int (nI ox), .ref 70, .ref 71, .ref 72, .ref 73, .ref 74, .int (nI ((txt un sc cs).length)), .ref 75, .int (sl), .ref 76, .int (nI 0), .ref 77]) dX12_layPage_39 pX12_163 H0 (Nat.le_of_ble_eq_true rfl) rfl (fun wp30 wH31 wE32 => ?_)
  have wH33 := (wE32 74 (by decide)).trans Hta
  have wH34 := (wE32 76 (by decide)).trans Hg
  have wF35 : Fr [61, 76] hz wp30 := Fr.one wE32 (by simp)
  refine R_iconst (v := (nI 0)) dX12_layPage_42 (by decide) ?_
  refine R_istore_n (lv' := [some (.ref 61), some (.int (nI wd)), some (.int (nI 0)), none, none, none, none]) dX12_layPage_43 rfl (by decide) rfl ?_
  refine R_iconst (v := (nI 0)) dX12_layPage_44 (by decide) ?_
  refine R_istore_n (lv' := [some (.ref 61), some (.int (nI wd)), some (.int (nI 0)), some (.int (nI 0)), none, none, none]) dX12_layPage_45 rfl (by decide) rfl ?_
  refine R_iconst (v := (nI 0)) dX12_layPage_46 (by decide) ?_
  refine R_istore (lv' := [some (.ref 61), some (.int (nI wd)), some (.int (nI 0)), some (.int (nI 0)), some (.int (nI 0)), none, none]) dX12_layPage_47 (by decide) rfl ?_
  exact r_pgL (l := l) (X := X) (hp := hz) (R := pgL wd (txt un sc cs)) (fun hp2 h2 => ⟨hz, FF29, hM2, ⟨nx, _, h2.1, c19⟩, h2.2.1, h2.2.2⟩) hta (by omega) (txt_lt un cs sc) hw1 hw2 (txt un sc cs).length 0 _ g (fun _ => 0) 0 0 0 none none (by omega) wH31 wH33 wH34 (fun q hq => ⟨hg q hq, by decide⟩) (by decide) (by omega) rfl wF35
set_option maxRecDepth 100000 in
set_option maxHeartbeats 4000000 in
theorem y_over {ms : List Nat} {cs : List Nat} {sc un wd : Nat} {hs : List TP} {s0 s1 : Option TP} {os : List (Nat × Nat)} {ox : Nat} (hM : MJ hp (ms, (cs, sc, un, wd), hs, s0, s1, os, ox)) : SpI l X mX12_overstrikes [.ref 61] hp (fun r hp' => r = (f_over (ms, (cs, sc, un, wd), hs, s0, s1, os, ox)).1 ∧ MJ hp' (f_over (ms, (cs, sc, un, wd), hs, s0, s1, os, ox)).2 ∧ Fr LM hp hp') := by
  obtain ⟨nx, tl, sl, st, M0, MM, MN, MT, MD, MK, MO, A70, A71, A72, A73, A74, A75, A76, A77⟩ := hM
  obtain ⟨hL, hC3, hs1, hu1, hw1, hw2⟩ := MN.ok
  obtain ⟨hmL, hmC⟩ := MM.ok
  obtain ⟨hnx0, hsl0⟩ := MD.ok
  obtain ⟨hol0, hox0⟩ := MO.ok
  refine SpI.of pnX12 (Nat.le_of_ble_eq_true rfl) rfl ?_
  have hM0 : MJ hp (ms, (cs, sc, un, wd), hs, s0, s1, os, ox) := ⟨_, _, _, _, M0, MM, MN, MT, MD, MK, MO, A70, A71, A72, A73, A74, A75, A76, A77⟩
  refine R_aload_n dX12_overstrikes_0 rfl rfl ?_
  refine R_callv (As := []) (st := []) kX12_layPage lX12_168 (r_page hM0) rfl M0 dX12_overstrikes_1 rfl rfl (Nat.le_of_ble_eq_true rfl) ⟨by decide, by decide⟩ zX12_layPage ⟨Nat.le_refl _, Nat.le_refl _⟩ (fun wp2 wq1 => ?_)
  obtain ⟨hq1, ⟨tl2, sl2, nx2, H61⟩, -, hq3⟩ := wq1
  refine R_aload_n dX12_overstrikes_4 rfl rfl ?_
  refine R_getf dX12_overstrikes_5 gX12_163 H61 rfl ?_
  exact R_reti dX12_overstrikes_8 rfl rfl rfl ⟨rfl, hq1, hq3⟩
set_option maxRecDepth 100000 in
set_option maxHeartbeats 4000000 in
theorem y_cell {ms : List Nat} {cs : List Nat} {sc un wd : Nat} {hs : List TP} {s0 s1 : Option TP} {os : List (Nat × Nat)} {ox : Nat} {i j : Int32} (hM : MJ hp (ms, (cs, sc, un, wd), hs, s0, s1, os, ox)) : SpI l X mX12_cell [.ref 61, .int (i), .int (j)] hp (fun r hp' => r = (f_cell (ms, (cs, sc, un, wd), hs, s0, s1, os, ox) i j).1 ∧ MJ hp' (f_cell (ms, (cs, sc, un, wd), hs, s0, s1, os, ox) i j).2 ∧ Fr LM hp hp') := by
  obtain ⟨nx, tl, sl, st, M0, MM, MN, MT, MD, MK, MO, A70, A71, A72, A73, A74, A75, A76, A77⟩ := hM
  obtain ⟨hL, hC3, hs1, hu1, hw1, hw2⟩ := MN.ok
  obtain ⟨hmL, hmC⟩ := MM.ok
  obtain ⟨hnx0, hsl0⟩ := MD.ok
  obtain ⟨hol0, hox0⟩ := MO.ok
  refine SpI.of pnX12 (Nat.le_of_ble_eq_true rfl) rfl ?_
  have hM0 : MJ hp (ms, (cs, sc, un, wd), hs, s0, s1, os, ox) := ⟨_, _, _, _, M0, MM, MN, MT, MD, MK, MO, A70, A71, A72, A73, A74, A75, A76, A77⟩
  refine R_iload_n dX12_cell_0 rfl rfl ?_
  refine R_i2l dX12_cell_1 ?_
  refine R_lconst (v := 0) dX12_cell_2 (by decide) ?_
  refine R_ldc2 dX12_cell_3 nX12_166 ?_
  refine R_stati (As := [.long ((i).toInt64), .long (0), .long (7)]) (st := []) kX12_in lX12_67 (r_inW 0 7 rfl rfl (by decide) (by decide)) dX12_cell_6 rfl rfl (Nat.le_of_ble_eq_true rfl) ⟨by decide, by decide⟩ zX12_in ⟨Nat.le_refl _, Nat.le_refl _⟩ (fun wr3 wp2 wq1 => ?_)
  obtain ⟨rfl, rfl⟩ : wr3 = _ ∧ hp = wp2 := ⟨wq1.1, wq1.2.symm⟩
  cases hw4 : inW i 0 7 with
  | false =>
    show PZ _ _ _ _ _ _ (.int (nI 0) :: _) _ _ _
    refine N_if_eq (tgt := 30) dX12_cell_9 (by decide) (by decide) (fun _ => ?_) (fun hc => absurd hc (by decide))
    have hf : f_cell (ms, (cs, sc, un, wd), hs, s0, s1, os, ox) i j = (-1, (ms, (cs, sc, un, wd), hs, s0, s1, os, ox)) := by unfold f_cell; dsimp only; rw [hw4]; rfl
    refine R_iconst (v := (-1)) dX12_cell_30 (by decide) ?_
    rw [hf]
    exact R_reti dX12_cell_31 rfl rfl rfl ⟨rfl, ⟨_, _, _, _, M0, MM, MN, MT, MD, MK, MO, A70, A71, A72, A73, A74, A75, A76, A77⟩, (Fr.rf (L := LM) (hp := hp))⟩
  | true =>
    show PZ _ _ _ _ _ _ (.int (nI 1) :: _) _ _ _
    obtain ⟨i2, -, hi, rfl⟩ := inW_t (by decide) hw4
    refine N_if_eq (tgt := 30) dX12_cell_9 (by decide) (by decide) (fun hc => absurd hc (by decide)) (fun _ => ?_)
    obtain ⟨f, Ha, hR⟩ := id MN
    obtain ⟨h0, h1, h2, h3, hf, -⟩ := hR.to
    refine R_iload_n dX12_cell_12 rfl rfl ?_
    refine R_i2l dX12_cell_13 ?_
    refine R_lconst (v := 0) dX12_cell_14 (by decide) ?_
    refine R_aload_n dX12_cell_15 rfl rfl ?_
    refine R_getf dX12_cell_16 gX12_13 M0 rfl ?_
    refine R_iconst (v := (nI 3)) dX12_cell_19 (by decide) ?_
    refine N_iald (y := (nI wd)) dX12_cell_20 Ha (by decide) (by decide) h3 ?_
    refine R_iconst (v := (nI 1)) dX12_cell_21 (by decide) ?_
    refine R_isub dX12_cell_22 ?_
    refine R_i2l dX12_cell_23 ?_
    refine R_stati (As := [.long ((j).toInt64), .long (0), .long (((nI wd) - (nI 1)).toInt64)]) (st := []) kX12_in lX12_67 (r_inB (n := wd) (by omega)) dX12_cell_24 rfl rfl (Nat.le_of_ble_eq_true rfl) ⟨by decide, by decide⟩ zX12_in ⟨Nat.le_refl _, Nat.le_refl _⟩ (fun wr7 wp6 wq5 => ?_)
    obtain ⟨rfl, rfl⟩ : wr7 = _ ∧ hp = wp6 := ⟨wq5.1, wq5.2.symm⟩
    rw [← inB_W (n := wd) (by omega)]
    cases hg : inW j 0 (wd - 1) with
    | false =>
      show PZ _ _ _ _ _ _ (.int (nI 0) :: _) _ _ _
      refine N_if_ne (tgt := 32) dX12_cell_27 (by decide) (by decide) (fun hc => absurd hc (by decide)) (fun _ => ?_)
      have hf9 : f_cell (ms, (cs, sc, un, wd), hs, s0, s1, os, ox) (nI i2) j = (-1, (ms, (cs, sc, un, wd), hs, s0, s1, os, ox)) := by unfold f_cell; dsimp only; rw [hw4, hg]; rfl
      refine R_iconst (v := (-1)) dX12_cell_30 (by decide) ?_
      rw [hf9]
      exact R_reti dX12_cell_31 rfl rfl rfl ⟨rfl, ⟨_, _, _, _, M0, MM, MN, MT, MD, MK, MO, A70, A71, A72, A73, A74, A75, A76, A77⟩, (Fr.rf (L := LM) (hp := hp))⟩
    | true =>
      show PZ _ _ _ _ _ _ (.int (nI 1) :: _) _ _ _
      obtain ⟨j2, -, hj, rfl⟩ := inW_t (by omega) hg
      refine N_if_ne (tgt := 32) dX12_cell_27 (by decide) (by decide) (fun _ => ?_) (fun hc => absurd hc (by decide))
      refine R_aload_n dX12_cell_32 rfl rfl ?_
      refine R_callv (As := []) (st := []) kX12_layPage lX12_168 (r_page hM0) rfl M0 dX12_cell_33 rfl rfl (Nat.le_of_ble_eq_true rfl) ⟨by decide, by decide⟩ zX12_layPage ⟨Nat.le_refl _, Nat.le_refl _⟩ (fun wp9 wq8 => ?_)
      obtain ⟨hq1, ⟨tl2, sl2, nx2, H61⟩, ⟨f2, H76, hf2⟩, hq3⟩ := wq8
      refine R_aload_n dX12_cell_36 rfl rfl ?_
      refine R_getf dX12_cell_37 gX12_53 H61 rfl ?_
      refine R_bipush (v := (nI 40)) dX12_cell_40 (by decide) ?_
      refine R_iload_n dX12_cell_42 rfl rfl ?_
      refine N_imul dX12_cell_43 ?_
      refine R_iload_n dX12_cell_44 rfl rfl ?_
      refine N_iadd dX12_cell_45 ?_
      refine N_iald (y := (nI ((pgL wd (txt un sc cs)).1 (40 * i2 + j2)))) dX12_cell_46 H76 (by omega) (by decide) (hf2 _ (by omega)) ?_
      have hf9 : f_cell (ms, (cs, sc, un, wd), hs, s0, s1, os, ox) (nI i2) (nI j2) = (nI ((pgL wd (txt un sc cs)).1 (40 * i2 + j2)), (ms, (cs, sc, un, wd), hs, s0, s1, os, ox)) := by unfold f_cell; dsimp only; rw [hw4, hg, vN_n (by omega), vN_n (by omega), Nat.mul_comm i2 40]; rfl
      rw [hf9]
      exact R_reti dX12_cell_47 rfl rfl rfl ⟨rfl, hq1, hq3⟩
end R37
