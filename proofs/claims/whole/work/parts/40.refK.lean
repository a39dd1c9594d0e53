/-! The reference: the distance -/
theorem MJ.f77 {hy hz : HPt} {ms : List Nat} {cs : List Nat} {sc un wd : Nat} {hs : List TP} {s0 s1 : Option TP} {os : List (Nat × Nat)} {ox : Nat} (hM : MJ hy (ms, (cs, sc, un, wd), hs, s0, s1, os, ox)) (hF : Fr [77] hy hz) (h77 : AX hz 77 97) : MJ hz (ms, (cs, sc, un, wd), hs, s0, s1, os, ox) := by
  obtain ⟨nx, tl, sl, st, M0, MM, MN, MT, MD, MK, MO, A70, A71, A72, A73, A74, A75, A76, A77⟩ := hM
  exact ⟨nx, _, _, _, hF.at (by decide) M0, MM.fr hF (by decide), MN.fr hF (by decide), MT.fr hF (by decide), MD.fr hF (by decide), MK.fr hF (by decide) (by decide), MO.fr hF (by decide) (by decide), A70.fr hF (by decide), A71.fr hF (by decide), A72.fr hF (by decide), A73.fr hF (by decide), A74.fr hF (by decide), A75.fr hF (by decide), A76.fr hF (by decide), h77⟩
section R40
variable {l : Launch} {X : EX} {hp : HPt}
set_option maxRecDepth 100000 in
set_option maxHeartbeats 4000000 in
theorem r_edC {Z : ZT} {ln ac nxx sn sx tl sl st : Int32} {js : Nat} {f f0 : Nat → Int32} (hjs : js < 2) (K : ∀ (hz : HPt) (g : Nat → Int32), hz[61]? = some (ob 11 [.ref 62, .int (ln), .ref 63, .ref 64, .ref 65, .int (ac), .int (nxx), .ref 66, .ref 67, .ref 68, .ref 69, .int (sn), .int (sx), .ref 70, .ref 71, .ref 72, .ref 73, .ref 74, .int (tl), .ref 75, .int (sl), .ref 76, .int (st), .ref 77]) → hz[66]? = some (ia 200 f) → hz[64]? = some (ia 100 g) → (∀ q, q < 100 → g (q) = f (100 * js + q)) → (∀ q, (q < 0 ∨ 0 + 100 ≤ q) → g q = f0 q) → Fr [64] hp hz → PZ l X Z mX12_editDistance 55 [some (.ref 61), some (.int (nI js)), some (.int (nI 100)), none, none, none] [] hz 0 0) : ∀ (d j : Nat) (hz : HPt) (g : Nat → Int32), j + d = 100 → hz[61]? = some (ob 11 [.ref 62, .int (ln), .ref 63, .ref 64, .ref 65, .int (ac), .int (nxx), .ref 66, .ref 67, .ref 68, .ref 69, .int (sn), .int (sx), .ref 70, .ref 71, .ref 72, .ref 73, .ref 74, .int (tl), .ref 75, .int (sl), .ref 76, .int (st), .ref 77]) → hz[66]? = some (ia 200 f) → hz[64]? = some (ia 100 g) → (∀ q, q < j → g (q) = f (100 * js + q)) → (∀ q, (q < 0 ∨ 0 + 100 ≤ q) → g q = f0 q) → Fr [64] hp hz → PZ l X Z mX12_editDistance 26 [some (.ref 61), some (.int (nI js)), some (.int (nI j)), none, none, none] [] hz 0 0 := by
  intro d
  induction d with
  | zero =>
    intro j hz g hj H0 Hs Hd hg ho hF
    have hje : j = 100 := by omega
    subst hje
    refine R_iload_n dX12_editDistance_26 rfl rfl ?_
    refine R_bipush (v := (nI 100)) dX12_editDistance_27 (by decide) ?_
    refine N_icmp_ge (tgt := 55) dX12_editDistance_29 (by decide) (by omega) (by omega) (fun _ => ?_) (fun hc => absurd hc (by omega))
    exact K hz g H0 Hs Hd hg ho hF
  | succ d ih =>
    intro j hz g hj H0 Hs Hd hg ho hF
    refine R_iload_n dX12_editDistance_26 rfl rfl ?_
    refine R_bipush (v := (nI 100)) dX12_editDistance_27 (by decide) ?_
    refine N_icmp_ge (tgt := 55) dX12_editDistance_29 (by decide) (by omega) (by omega) (fun hc => absurd hc (by omega)) (fun _ => ?_)
    refine R_aload_n dX12_editDistance_32 rfl rfl ?_
    refine R_getf dX12_editDistance_33 gX12_16 H0 rfl ?_
    refine R_iload_n dX12_editDistance_36 rfl rfl ?_
    refine R_aload_n dX12_editDistance_37 rfl rfl ?_
    refine R_getf dX12_editDistance_38 gX12_22 H0 rfl ?_
    refine R_bipush (v := (nI 100)) dX12_editDistance_41 (by decide) ?_
    refine R_iload_n dX12_editDistance_43 rfl rfl ?_
    refine N_imul dX12_editDistance_44 ?_
    refine R_iload_n dX12_editDistance_45 rfl rfl ?_
    refine N_iadd dX12_editDistance_46 ?_
    refine N_iald (y := (f (100 * js + j))) dX12_editDistance_47 Hs (by omega) (by decide) rfl ?_
    obtain ⟨g2, eg2⟩ : ∃ y, y = upd g j (f (100 * js + j)) := ⟨_, rfl⟩
    refine W_iast (f' := g2) dX12_editDistance_48 Hd (by omega) (by decide) eg2 (fun wp1 wH2 wE3 => ?_)
    have wH4 := (wE3 61 (by decide)).trans H0
    have wH5 := (wE3 66 (by decide)).trans Hs
    have wF6 : Fr [64] hp wp1 := hF.trans (Fr.one wE3 (by simp))
    refine N_iinc (d := 1) (lv' := [some (.ref 61), some (.int (nI js)), some (.int (nI (j + 1))), none, none, none]) dX12_editDistance_49 rfl rfl ?_
    refine R_goto (tgt := 26) dX12_editDistance_52 (by decide) ?_
    refine ih (j + 1) _ g2 (by omega) wH4 wH5 wH2 (fun q hq => ?_) (fun q hq => by rw [eg2, upd_n (by omega)]; exact ho q hq) wF6
    by_cases e : q = j
    · subst e; rw [eg2, upd_s]
    · rw [eg2, upd_n (by omega)]; exact hg q (by omega)
set_option maxRecDepth 100000 in
set_option maxHeartbeats 4000000 in
theorem r_edN {Z : ZT} {ln ac nxx sn sx st : Int32} {xs ts : List Nat} {f f2 : Nat → Int32} {js : Nat} (gL : ts.length ≤ 96) (K : ∀ (hz : HPt) (g : Nat → Int32), hz[61]? = some (ob 11 [.ref 62, .int (ln), .ref 63, .ref 64, .ref 65, .int (ac), .int (nxx), .ref 66, .ref 67, .ref 68, .ref 69, .int (sn), .int (sx), .ref 70, .ref 71, .ref 72, .ref 73, .ref 74, .int (nI (xs.length)), .ref 75, .int (nI (ts.length)), .ref 76, .int (st), .ref 77]) → hz[74]? = some (ia 96 f) → hz[75]? = some (ia 96 f2) → hz[77]? = some (ia 97 g) → Row g (List.range (ts.length + 1)) → Fr [77] hp hz → PZ l X Z mX12_editDistance 94 [some (.ref 61), some (.int (nI js)), some (.int (nI (ts.length + 1))), none, none, none] [] hz 0 0) : ∀ (d j : Nat) (hz : HPt) (g : Nat → Int32), j + d = ts.length + 1 → hz[61]? = some (ob 11 [.ref 62, .int (ln), .ref 63, .ref 64, .ref 65, .int (ac), .int (nxx), .ref 66, .ref 67, .ref 68, .ref 69, .int (sn), .int (sx), .ref 70, .ref 71, .ref 72, .ref 73, .ref 74, .int (nI (xs.length)), .ref 75, .int (nI (ts.length)), .ref 76, .int (st), .ref 77]) → hz[74]? = some (ia 96 f) → hz[75]? = some (ia 96 f2) → hz[77]? = some (ia 97 g) → (∀ q, q < j → g q = nI q) → Fr [77] hp hz → PZ l X Z mX12_editDistance 73 [some (.ref 61), some (.int (nI js)), some (.int (nI j)), none, none, none] [] hz 0 0 := by
  intro d
  induction d with
  | zero =>
    intro j hz g hj H0 H1 H2 Hg hg hF
    have hje : j = ts.length + 1 := by omega
    subst hje
    refine R_iload_n dX12_editDistance_73 rfl rfl ?_
    refine R_aload_n dX12_editDistance_74 rfl rfl ?_
    refine R_getf dX12_editDistance_75 gX12_87 H0 rfl ?_
    refine N_icmp_gt (tgt := 94) dX12_editDistance_78 (by decide) (by omega) (by omega) (fun _ => ?_) (fun hc => absurd hc (by omega))
    exact K hz g H0 H1 H2 Hg (fun q hq => by rw [range_get hq]; exact hg q (by simpa using hq)) hF
  | succ d ih =>
    intro j hz g hj H0 H1 H2 Hg hg hF
    refine R_iload_n dX12_editDistance_73 rfl rfl ?_
    refine R_aload_n dX12_editDistance_74 rfl rfl ?_
    refine R_getf dX12_editDistance_75 gX12_87 H0 rfl ?_
    refine N_icmp_gt (tgt := 94) dX12_editDistance_78 (by decide) (by omega) (by omega) (fun hc => absurd hc (by omega)) (fun _ => ?_)
    refine R_aload_n dX12_editDistance_81 rfl rfl ?_
    refine R_getf dX12_editDistance_82 gX12_56 H0 rfl ?_
    refine R_iload_n dX12_editDistance_85 rfl rfl ?_
    refine R_iload_n dX12_editDistance_86 rfl rfl ?_
    obtain ⟨g2, eg2⟩ : ∃ y, y = upd g j (nI j) := ⟨_, rfl⟩
    refine W_iast (f' := g2) dX12_editDistance_87 Hg (by omega) (by decide) eg2 (fun wp1 wH2 wE3 => ?_)
    have wH4 := (wE3 61 (by decide)).trans H0
    have wH5 := (wE3 74 (by decide)).trans H1
    have wH6 := (wE3 75 (by decide)).trans H2
    have wF7 : Fr [77] hp wp1 := hF.trans (Fr.one wE3 (by simp))
    refine N_iinc (d := 1) (lv' := [some (.ref 61), some (.int (nI js)), some (.int (nI (j + 1))), none, none, none]) dX12_editDistance_88 rfl rfl ?_
    refine R_goto (tgt := 73) dX12_editDistance_91 (by decide) ?_
    refine ih (j + 1) _ g2 (by omega) wH4 wH5 wH6 wH2 (fun q hq => ?_) wF7
    by_cases e : q = j
    · subst e; rw [eg2, upd_s]
    · rw [eg2, upd_n e]; exact hg q (by omega)
set_option maxRecDepth 100000 in
set_option maxHeartbeats 4000000 in
theorem r_edI {Z : ZT} {ln ac nxx sn sx st : Int32} {xs ts : List Nat} {f f2 : Nat → Int32} {js : Nat} {i b : Nat} {Rs : List Nat} (hi : i < xs.length) (hb : b ≤ 1000) (hf : ∀ (i : Nat) (hi : i < xs.length), f i = nI xs[i]) (hf2 : ∀ (i : Nat) (hi : i < ts.length), f2 i = nI ts[i]) (hL : xs.length ≤ 96) (gL : ts.length ≤ 96) (hC : ∀ c ∈ xs, c < 128) (gC : ∀ c ∈ ts, c < 128) (K : ∀ (hz : HPt) (g : Nat → Int32) (dx : Nat) (lx : Option Value), hz[61]? = some (ob 11 [.ref 62, .int (ln), .ref 63, .ref 64, .ref 65, .int (ac), .int (nxx), .ref 66, .ref 67, .ref 68, .ref 69, .int (sn), .int (sx), .ref 70, .ref 71, .ref 72, .ref 73, .ref 74, .int (nI (xs.length)), .ref 75, .int (nI (ts.length)), .ref 76, .int (st), .ref 77]) → hz[74]? = some (ia 96 f) → hz[75]? = some (ia 96 f2) → hz[77]? = some (ia 97 g) → Row g Rs → Fr [77] hp hz → PZ l X Z mX12_editDistance 246 [some (.ref 61), some (.int (nI js)), some (.int (nI (i + 1))), some (.int (nI dx)), some (.int (nI (ts.length + 1))), lx] [] hz 0 0) : ∀ (d j : Nat) (hz : HPt) (g : Nat → Int32) (dg lf : Nat) (N O : List Nat) (lo : Option Value), j + d = ts.length → N.length = j → O.length = d → Row g (N ++ [lf] ++ O) → dg ≤ b → lf ≤ b + 1 → rowB O b → hz[61]? = some (ob 11 [.ref 62, .int (ln), .ref 63, .ref 64, .ref 65, .int (ac), .int (nxx), .ref 66, .ref 67, .ref 68, .ref 69, .int (sn), .int (sx), .ref 70, .ref 71, .ref 72, .ref 73, .ref 74, .int (nI (xs.length)), .ref 75, .int (nI (ts.length)), .ref 76, .int (st), .ref 77]) → hz[74]? = some (ia 96 f) → hz[75]? = some (ia 96 f2) → hz[77]? = some (ia 97 g) → Fr [77] hp hz → Rs = N ++ [lf] ++ lqS xs[i] dg lf (ts.drop j) O → PZ l X Z mX12_editDistance 121 [some (.ref 61), some (.int (nI js)), some (.int (nI (i + 1))), some (.int (nI dg)), some (.int (nI (j + 1))), lo] [] hz 0 0 := by
  intro d
  induction d with
  | zero =>
    intro j hz g dg lf N O lo hj hN hO hR hdg hlf hOb H0 H1 H2 Hg hF hRs
    have hje : j = ts.length := by omega
    subst hje
    refine R_iload dX12_editDistance_121 rfl ?_
    refine R_aload_n dX12_editDistance_123 rfl rfl ?_
    refine R_getf dX12_editDistance_124 gX12_87 H0 rfl ?_
    refine N_icmp_gt (tgt := 246) dX12_editDistance_127 (by decide) (by omega) (by omega) (fun _ => ?_) (fun hc => absurd hc (by omega))
    exact K hz g dg lo H0 H1 H2 Hg (by rw [hRs, List.drop_eq_nil_of_le (by omega), List.length_eq_zero_iff.mp hO] at *; exact hR) hF
  | succ d ih =>
    intro j hz g dg lf N O lo hj hN hO hR hdg hlf hOb H0 H1 H2 Hg hF hRs
    have h1 : j < ts.length := by omega
    obtain ⟨ab, O, rfl⟩ : ∃ ab O', O = ab :: O' := by
      cases O with
      | nil => simp at hO
      | cons a t => exact ⟨a, t, rfl⟩
    have hab := hOb ab List.mem_cons_self
    have eab : g (j + 1) = nI ab := by
      rw [hR (j + 1) (by simp; omega)]; congr 1
      rw [List.getElem_append_right (by simp; omega)]; simp [hN]
    have elf : g j = nI lf := by
      rw [hR j (by simp; omega)]; congr 1
      rw [List.getElem_append_left (by simp; omega), List.getElem_append_right (by omega)]; simp [hN]
    rw [drop_c h1] at hRs; simp only [lqS] at hRs
    have hx1 := hC _ (List.getElem_mem hi)
    have ht1 := gC _ (List.getElem_mem h1)
    refine R_iload dX12_editDistance_121 rfl ?_
    refine R_aload_n dX12_editDistance_123 rfl rfl ?_
    refine R_getf dX12_editDistance_124 gX12_87 H0 rfl ?_
    refine N_icmp_gt (tgt := 246) dX12_editDistance_127 (by decide) (by omega) (by omega) (fun hc => absurd hc (by omega)) (fun _ => ?_)
    refine R_iload_n dX12_editDistance_130 rfl rfl ?_
    refine R_aload_n dX12_editDistance_131 rfl rfl ?_
    refine R_getf dX12_editDistance_132 gX12_47 H0 rfl ?_
    refine R_iload_n dX12_editDistance_135 rfl rfl ?_
    refine R_iconst (v := (nI 1)) dX12_editDistance_136 (by decide) ?_
    refine N_isub dX12_editDistance_137 (by omega) ?_
    refine N_iald (y := (nI (xs[i]))) dX12_editDistance_138 H1 (by omega) (by decide) (hf i hi) ?_
    refine R_aload_n dX12_editDistance_139 rfl rfl ?_
    refine R_getf dX12_editDistance_140 gX12_50 H0 rfl ?_
    refine R_iload dX12_editDistance_143 rfl ?_
    refine R_iconst (v := (nI 1)) dX12_editDistance_145 (by decide) ?_
    refine N_isub dX12_editDistance_146 (by omega) ?_
    refine N_iald (y := (nI (ts[j]))) dX12_editDistance_147 H2 (by omega) (by decide) (hf2 j h1) ?_
    refine N_icmp_ne (tgt := 155) dX12_editDistance_148 (by decide) (by omega) (by omega) (fun he => ?_) (fun he => ?_)
    · rw [if_neg he] at hRs
      refine R_iconst (v := (nI 1)) dX12_editDistance_155 (by decide) ?_
      refine N_iadd dX12_editDistance_156 ?_
      refine R_istore (lv' := [some (.ref 61), some (.int (nI js)), some (.int (nI (i + 1))), some (.int (nI dg)), some (.int (nI (j + 1))), some (.int (nI (dg + 1)))]) dX12_editDistance_157 (by decide) rfl ?_
      refine R_aload_n dX12_editDistance_159 rfl rfl ?_
      refine R_getf dX12_editDistance_160 gX12_56 H0 rfl ?_
      refine R_iload dX12_editDistance_163 rfl ?_
      refine N_iald (y := (nI ab)) dX12_editDistance_165 Hg (by omega) (by decide) eab ?_
      refine R_iconst (v := (nI 1)) dX12_editDistance_166 (by decide) ?_
      refine N_iadd dX12_editDistance_167 ?_
      refine R_iload dX12_editDistance_168 rfl ?_
      refine N_icmp_ge (tgt := 185) dX12_editDistance_170 (by decide) (by omega) (by omega) (fun ha => ?_) (fun ha => ?_)
      · refine R_iload dX12_editDistance_185 rfl ?_
        refine R_istore (lv' := [some (.ref 61), some (.int (nI js)), some (.int (nI (i + 1))), some (.int (nI dg)), some (.int (nI (j + 1))), some (.int (nI (dg + 1)))]) dX12_editDistance_187 (by decide) rfl ?_
        refine R_aload_n dX12_editDistance_189 rfl rfl ?_
        refine R_getf dX12_editDistance_190 gX12_56 H0 rfl ?_
        refine R_iload dX12_editDistance_193 rfl ?_
        refine R_iconst (v := (nI 1)) dX12_editDistance_195 (by decide) ?_
        refine N_isub dX12_editDistance_196 (by omega) ?_
        refine N_iald (y := (nI lf)) dX12_editDistance_197 Hg (by omega) (by decide) elf ?_
        refine R_iconst (v := (nI 1)) dX12_editDistance_198 (by decide) ?_
        refine N_iadd dX12_editDistance_199 ?_
        refine R_iload dX12_editDistance_200 rfl ?_
        refine N_icmp_ge (tgt := 219) dX12_editDistance_202 (by decide) (by omega) (by omega) (fun hbb => ?_) (fun hbb => ?_)
        · refine R_iload dX12_editDistance_219 rfl ?_
          refine R_istore (lv' := [some (.ref 61), some (.int (nI js)), some (.int (nI (i + 1))), some (.int (nI dg)), some (.int (nI (j + 1))), some (.int (nI (dg + 1)))]) dX12_editDistance_221 (by decide) rfl ?_
          refine R_aload_n dX12_editDistance_223 rfl rfl ?_
          refine R_getf dX12_editDistance_224 gX12_56 H0 rfl ?_
          refine R_iload dX12_editDistance_227 rfl ?_
          refine N_iald (y := (nI ab)) dX12_editDistance_229 Hg (by omega) (by decide) eab ?_
          refine R_istore_n (lv' := [some (.ref 61), some (.int (nI js)), some (.int (nI (i + 1))), some (.int (nI ab)), some (.int (nI (j + 1))), some (.int (nI (dg + 1)))]) dX12_editDistance_230 rfl (by decide) rfl ?_
          refine R_aload_n dX12_editDistance_231 rfl rfl ?_
          refine R_getf dX12_editDistance_232 gX12_56 H0 rfl ?_
          refine R_iload dX12_editDistance_235 rfl ?_
          refine R_iload dX12_editDistance_237 rfl ?_
          obtain ⟨g2, eg2⟩ : ∃ y, y = upd g (j + 1) (nI (dg + 1)) := ⟨_, rfl⟩
          refine W_iast (f' := g2) dX12_editDistance_239 Hg (by omega) (by decide) eg2 (fun wp1 wH2 wE3 => ?_)
          have wH4 := (wE3 61 (by decide)).trans H0
          have wH5 := (wE3 74 (by decide)).trans H1
          have wH6 := (wE3 75 (by decide)).trans H2
          have wF7 : Fr [77] hp wp1 := hF.trans (Fr.one wE3 (by simp))
          refine N_iinc (d := 1) (lv' := [some (.ref 61), some (.int (nI js)), some (.int (nI (i + 1))), some (.int (nI ab)), some (.int (nI (j + 1 + 1))), some (.int (nI (dg + 1)))]) dX12_editDistance_240 rfl rfl ?_
          refine R_goto (tgt := 121) dX12_editDistance_243 (by decide) ?_
          refine ih (j + 1) _ g2 ab (dg + 1) (N ++ [lf]) O _ (by omega) (by simp; omega) (by simpa using hO) (by rw [eg2]; exact Row.go hN hR) hab (by omega) (fun w hw => hOb w (List.mem_cons_of_mem _ hw)) wH4 wH5 wH6 wH2 wF7 ?_
          rw [show min (dg + 1) (min ab lf + 1) = dg + 1 by omega] at hRs; rw [hRs]; simp
        · refine R_aload_n dX12_editDistance_205 rfl rfl ?_
          refine R_getf dX12_editDistance_206 gX12_56 H0 rfl ?_
          refine R_iload dX12_editDistance_209 rfl ?_
          refine R_iconst (v := (nI 1)) dX12_editDistance_211 (by decide) ?_
          refine N_isub dX12_editDistance_212 (by omega) ?_
          refine N_iald (y := (nI lf)) dX12_editDistance_213 Hg (by omega) (by decide) elf ?_
          refine R_iconst (v := (nI 1)) dX12_editDistance_214 (by decide) ?_
          refine N_iadd dX12_editDistance_215 ?_
          refine R_goto (tgt := 221) dX12_editDistance_216 (by decide) ?_
          refine R_istore (lv' := [some (.ref 61), some (.int (nI js)), some (.int (nI (i + 1))), some (.int (nI dg)), some (.int (nI (j + 1))), some (.int (nI (lf + 1)))]) dX12_editDistance_221 (by decide) rfl ?_
          refine R_aload_n dX12_editDistance_223 rfl rfl ?_
          refine R_getf dX12_editDistance_224 gX12_56 H0 rfl ?_
          refine R_iload dX12_editDistance_227 rfl ?_
          refine N_iald (y := (nI ab)) dX12_editDistance_229 Hg (by omega) (by decide) eab ?_
          refine R_istore_n (lv' := [some (.ref 61), some (.int (nI js)), some (.int (nI (i + 1))), some (.int (nI ab)), some (.int (nI (j + 1))), some (.int (nI (lf + 1)))]) dX12_editDistance_230 rfl (by decide) rfl ?_
          refine R_aload_n dX12_editDistance_231 rfl rfl ?_
          refine R_getf dX12_editDistance_232 gX12_56 H0 rfl ?_
          refine R_iload dX12_editDistance_235 rfl ?_
          refine R_iload dX12_editDistance_237 rfl ?_
          obtain ⟨g2, eg2⟩ : ∃ y, y = upd g (j + 1) (nI (lf + 1)) := ⟨_, rfl⟩
          refine W_iast (f' := g2) dX12_editDistance_239 Hg (by omega) (by decide) eg2 (fun wp8 wH9 wE10 => ?_)
          have wH11 := (wE10 61 (by decide)).trans H0
          have wH12 := (wE10 74 (by decide)).trans H1
          have wH13 := (wE10 75 (by decide)).trans H2
          have wF14 : Fr [77] hp wp8 := hF.trans (Fr.one wE10 (by simp))
          refine N_iinc (d := 1) (lv' := [some (.ref 61), some (.int (nI js)), some (.int (nI (i + 1))), some (.int (nI ab)), some (.int (nI (j + 1 + 1))), some (.int (nI (lf + 1)))]) dX12_editDistance_240 rfl rfl ?_
          refine R_goto (tgt := 121) dX12_editDistance_243 (by decide) ?_
          refine ih (j + 1) _ g2 ab (lf + 1) (N ++ [lf]) O _ (by omega) (by simp; omega) (by simpa using hO) (by rw [eg2]; exact Row.go hN hR) hab (by omega) (fun w hw => hOb w (List.mem_cons_of_mem _ hw)) wH11 wH12 wH13 wH9 wF14 ?_
          rw [show min (dg + 1) (min ab lf + 1) = lf + 1 by omega] at hRs; rw [hRs]; simp
      · refine R_aload_n dX12_editDistance_173 rfl rfl ?_
        refine R_getf dX12_editDistance_174 gX12_56 H0 rfl ?_
        refine R_iload dX12_editDistance_177 rfl ?_
        refine N_iald (y := (nI ab)) dX12_editDistance_179 Hg (by omega) (by decide) eab ?_
        refine R_iconst (v := (nI 1)) dX12_editDistance_180 (by decide) ?_
        refine N_iadd dX12_editDistance_181 ?_
        refine R_goto (tgt := 187) dX12_editDistance_182 (by decide) ?_
        refine R_istore (lv' := [some (.ref 61), some (.int (nI js)), some (.int (nI (i + 1))), some (.int (nI dg)), some (.int (nI (j + 1))), some (.int (nI (ab + 1)))]) dX12_editDistance_187 (by decide) rfl ?_
        refine R_aload_n dX12_editDistance_189 rfl rfl ?_
        refine R_getf dX12_editDistance_190 gX12_56 H0 rfl ?_
        refine R_iload dX12_editDistance_193 rfl ?_
        refine R_iconst (v := (nI 1)) dX12_editDistance_195 (by decide) ?_
        refine N_isub dX12_editDistance_196 (by omega) ?_
        refine N_iald (y := (nI lf)) dX12_editDistance_197 Hg (by omega) (by decide) elf ?_
        refine R_iconst (v := (nI 1)) dX12_editDistance_198 (by decide) ?_
        refine N_iadd dX12_editDistance_199 ?_
        refine R_iload dX12_editDistance_200 rfl ?_
        refine N_icmp_ge (tgt := 219) dX12_editDistance_202 (by decide) (by omega) (by omega) (fun hbb => ?_) (fun hbb => ?_)
        · refine R_iload dX12_editDistance_219 rfl ?_
          refine R_istore (lv' := [some (.ref 61), some (.int (nI js)), some (.int (nI (i + 1))), some (.int (nI dg)), some (.int (nI (j + 1))), some (.int (nI (ab + 1)))]) dX12_editDistance_221 (by decide) rfl ?_
          refine R_aload_n dX12_editDistance_223 rfl rfl ?_
          refine R_getf dX12_editDistance_224 gX12_56 H0 rfl ?_
          refine R_iload dX12_editDistance_227 rfl ?_
          refine N_iald (y := (nI ab)) dX12_editDistance_229 Hg (by omega) (by decide) eab ?_
          refine R_istore_n (lv' := [some (.ref 61), some (.int (nI js)), some (.int (nI (i + 1))), some (.int (nI ab)), some (.int (nI (j + 1))), some (.int (nI (ab + 1)))]) dX12_editDistance_230 rfl (by decide) rfl ?_
          refine R_aload_n dX12_editDistance_231 rfl rfl ?_
          refine R_getf dX12_editDistance_232 gX12_56 H0 rfl ?_
          refine R_iload dX12_editDistance_235 rfl ?_
          refine R_iload dX12_editDistance_237 rfl ?_
          obtain ⟨g2, eg2⟩ : ∃ y, y = upd g (j + 1) (nI (ab + 1)) := ⟨_, rfl⟩
          refine W_iast (f' := g2) dX12_editDistance_239 Hg (by omega) (by decide) eg2 (fun wp15 wH16 wE17 => ?_)
          have wH18 := (wE17 61 (by decide)).trans H0
          have wH19 := (wE17 74 (by decide)).trans H1
          have wH20 := (wE17 75 (by decide)).trans H2
          have wF21 : Fr [77] hp wp15 := hF.trans (Fr.one wE17 (by simp))
          refine N_iinc (d := 1) (lv' := [some (.ref 61), some (.int (nI js)), some (.int (nI (i + 1))), some (.int (nI ab)), some (.int (nI (j + 1 + 1))), some (.int (nI (ab + 1)))]) dX12_editDistance_240 rfl rfl ?_
          refine R_goto (tgt := 121) dX12_editDistance_243 (by decide) ?_
          refine ih (j + 1) _ g2 ab (ab + 1) (N ++ [lf]) O _ (by omega) (by simp; omega) (by simpa using hO) (by rw [eg2]; exact Row.go hN hR) hab (by omega) (fun w hw => hOb w (List.mem_cons_of_mem _ hw)) wH18 wH19 wH20 wH16 wF21 ?_
          rw [show min (dg + 1) (min ab lf + 1) = ab + 1 by omega] at hRs; rw [hRs]; simp
        · refine R_aload_n dX12_editDistance_205 rfl rfl ?_
          refine R_getf dX12_editDistance_206 gX12_56 H0 rfl ?_
          refine R_iload dX12_editDistance_209 rfl ?_
          refine R_iconst (v := (nI 1)) dX12_editDistance_211 (by decide) ?_
          refine N_isub dX12_editDistance_212 (by omega) ?_
          refine N_iald (y := (nI lf)) dX12_editDistance_213 Hg (by omega) (by decide) elf ?_
          refine R_iconst (v := (nI 1)) dX12_editDistance_214 (by decide) ?_
          refine N_iadd dX12_editDistance_215 ?_
          refine R_goto (tgt := 221) dX12_editDistance_216 (by decide) ?_
          refine R_istore (lv' := [some (.ref 61), some (.int (nI js)), some (.int (nI (i + 1))), some (.int (nI dg)), some (.int (nI (j + 1))), some (.int (nI (lf + 1)))]) dX12_editDistance_221 (by decide) rfl ?_
          refine R_aload_n dX12_editDistance_223 rfl rfl ?_
          refine R_getf dX12_editDistance_224 gX12_56 H0 rfl ?_
          refine R_iload dX12_editDistance_227 rfl ?_
          refine N_iald (y := (nI ab)) dX12_editDistance_229 Hg (by omega) (by decide) eab ?_
          refine R_istore_n (lv' := [some (.ref 61), some (.int (nI js)), some (.int (nI (i + 1))), some (.int (nI ab)), some (.int (nI (j + 1))), some (.int (nI (lf + 1)))]) dX12_editDistance_230 rfl (by decide) rfl ?_
          refine R_aload_n dX12_editDistance_231 rfl rfl ?_
          refine R_getf dX12_editDistance_232 gX12_56 H0 rfl ?_
          refine R_iload dX12_editDistance_235 rfl ?_
          refine R_iload dX12_editDistance_237 rfl ?_
          obtain ⟨g2, eg2⟩ : ∃ y, y = upd g (j + 1) (nI (lf + 1)) := ⟨_, rfl⟩
          refine W_iast (f' := g2) dX12_editDistance_239 Hg (by omega) (by decide) eg2 (fun wp22 wH23 wE24 => ?_)
          have wH25 := (wE24 61 (by decide)).trans H0
          have wH26 := (wE24 74 (by decide)).trans H1
          have wH27 := (wE24 75 (by decide)).trans H2
          have wF28 : Fr [77] hp wp22 := hF.trans (Fr.one wE24 (by simp))
          refine N_iinc (d := 1) (lv' := [some (.ref 61), some (.int (nI js)), some (.int (nI (i + 1))), some (.int (nI ab)), some (.int (nI (j + 1 + 1))), some (.int (nI (lf + 1)))]) dX12_editDistance_240 rfl rfl ?_
          refine R_goto (tgt := 121) dX12_editDistance_243 (by decide) ?_
          refine ih (j + 1) _ g2 ab (lf + 1) (N ++ [lf]) O _ (by omega) (by simp; omega) (by simpa using hO) (by rw [eg2]; exact Row.go hN hR) hab (by omega) (fun w hw => hOb w (List.mem_cons_of_mem _ hw)) wH25 wH26 wH27 wH23 wF28 ?_
          rw [show min (dg + 1) (min ab lf + 1) = lf + 1 by omega] at hRs; rw [hRs]; simp
    · rw [if_pos he] at hRs
      refine R_iconst (v := (nI 0)) dX12_editDistance_151 (by decide) ?_
      refine R_goto (tgt := 156) dX12_editDistance_152 (by decide) ?_
      refine N_iadd dX12_editDistance_156 ?_
      refine R_istore (lv' := [some (.ref 61), some (.int (nI js)), some (.int (nI (i + 1))), some (.int (nI dg)), some (.int (nI (j + 1))), some (.int (nI (dg + 0)))]) dX12_editDistance_157 (by decide) rfl ?_
      refine R_aload_n dX12_editDistance_159 rfl rfl ?_
      refine R_getf dX12_editDistance_160 gX12_56 H0 rfl ?_
      refine R_iload dX12_editDistance_163 rfl ?_
      refine N_iald (y := (nI ab)) dX12_editDistance_165 Hg (by omega) (by decide) eab ?_
      refine R_iconst (v := (nI 1)) dX12_editDistance_166 (by decide) ?_
      refine N_iadd dX12_editDistance_167 ?_
      refine R_iload dX12_editDistance_168 rfl ?_
      refine N_icmp_ge (tgt := 185) dX12_editDistance_170 (by decide) (by omega) (by omega) (fun ha => ?_) (fun ha => ?_)
      · refine R_iload dX12_editDistance_185 rfl ?_
        refine R_istore (lv' := [some (.ref 61), some (.int (nI js)), some (.int (nI (i + 1))), some (.int (nI dg)), some (.int (nI (j + 1))), some (.int (nI (dg + 0)))]) dX12_editDistance_187 (by decide) rfl ?_
        refine R_aload_n dX12_editDistance_189 rfl rfl ?_
        refine R_getf dX12_editDistance_190 gX12_56 H0 rfl ?_
        refine R_iload dX12_editDistance_193 rfl ?_
        refine R_iconst (v := (nI 1)) dX12_editDistance_195 (by decide) ?_
        refine N_isub dX12_editDistance_196 (by omega) ?_
        refine N_iald (y := (nI lf)) dX12_editDistance_197 Hg (by omega) (by decide) elf ?_
        refine R_iconst (v := (nI 1)) dX12_editDistance_198 (by decide) ?_
        refine N_iadd dX12_editDistance_199 ?_
        refine R_iload dX12_editDistance_200 rfl ?_
        refine N_icmp_ge (tgt := 219) dX12_editDistance_202 (by decide) (by omega) (by omega) (fun hbb => ?_) (fun hbb => ?_)
        · refine R_iload dX12_editDistance_219 rfl ?_
          refine R_istore (lv' := [some (.ref 61), some (.int (nI js)), some (.int (nI (i + 1))), some (.int (nI dg)), some (.int (nI (j + 1))), some (.int (nI (dg + 0)))]) dX12_editDistance_221 (by decide) rfl ?_
          refine R_aload_n dX12_editDistance_223 rfl rfl ?_
          refine R_getf dX12_editDistance_224 gX12_56 H0 rfl ?_
          refine R_iload dX12_editDistance_227 rfl ?_
          refine N_iald (y := (nI ab)) dX12_editDistance_229 Hg (by omega) (by decide) eab ?_
          refine R_istore_n (lv' := [some (.ref 61), some (.int (nI js)), some (.int (nI (i + 1))), some (.int (nI ab)), some (.int (nI (j + 1))), some (.int (nI (dg + 0)))]) dX12_editDistance_230 rfl (by decide) rfl ?_
          refine R_aload_n dX12_editDistance_231 rfl rfl ?_
          refine R_getf dX12_editDistance_232 gX12_56 H0 rfl ?_
          refine R_iload dX12_editDistance_235 rfl ?_
          refine R_iload dX12_editDistance_237 rfl ?_
          obtain ⟨g2, eg2⟩ : ∃ y, y = upd g (j + 1) (nI (dg + 0)) := ⟨_, rfl⟩
          refine W_iast (f' := g2) dX12_editDistance_239 Hg (by omega) (by decide) eg2 (fun wp29 wH30 wE31 => ?_)
          have wH32 := (wE31 61 (by decide)).trans H0
          have wH33 := (wE31 74 (by decide)).trans H1
          have wH34 := (wE31 75 (by decide)).trans H2
          have wF35 : Fr [77] hp wp29 := hF.trans (Fr.one wE31 (by simp))
          refine N_iinc (d := 1) (lv' := [some (.ref 61), some (.int (nI js)), some (.int (nI (i + 1))), some (.int (nI ab)), some (.int (nI (j + 1 + 1))), some (.int (nI (dg + 0)))]) dX12_editDistance_240 rfl rfl ?_
          refine R_goto (tgt := 121) dX12_editDistance_243 (by decide) ?_
          refine ih (j + 1) _ g2 ab (dg + 0) (N ++ [lf]) O _ (by omega) (by simp; omega) (by simpa using hO) (by rw [eg2]; exact Row.go hN hR) hab (by omega) (fun w hw => hOb w (List.mem_cons_of_mem _ hw)) wH32 wH33 wH34 wH30 wF35 ?_
          rw [show min (dg) (min ab lf + 1) = dg + 0 by omega] at hRs; rw [hRs]; simp
        · refine R_aload_n dX12_editDistance_205 rfl rfl ?_
          refine R_getf dX12_editDistance_206 gX12_56 H0 rfl ?_
          refine R_iload dX12_editDistance_209 rfl ?_
          refine R_iconst (v := (nI 1)) dX12_editDistance_211 (by decide) ?_
          refine N_isub dX12_editDistance_212 (by omega) ?_
          refine N_iald (y := (nI lf)) dX12_editDistance_213 Hg (by omega) (by decide) elf ?_
          refine R_iconst (v := (nI 1)) dX12_editDistance_214 (by decide) ?_
          refine N_iadd dX12_editDistance_215 ?_
          refine R_goto (tgt := 221) dX12_editDistance_216 (by decide) ?_
          refine R_istore (lv' := [some (.ref 61), some (.int (nI js)), some (.int (nI (i + 1))), some (.int (nI dg)), some (.int (nI (j + 1))), some (.int (nI (lf + 1)))]) dX12_editDistance_221 (by decide) rfl ?_
          refine R_aload_n dX12_editDistance_223 rfl rfl ?_
          refine R_getf dX12_editDistance_224 gX12_56 H0 rfl ?_
          refine R_iload dX12_editDistance_227 rfl ?_
          refine N_iald (y := (nI ab)) dX12_editDistance_229 Hg (by omega) (by decide) eab ?_
          refine R_istore_n (lv' := [some (.ref 61), some (.int (nI js)), some (.int (nI (i + 1))), some (.int (nI ab)), some (.int (nI (j + 1))), some (.int (nI (lf + 1)))]) dX12_editDistance_230 rfl (by decide) rfl ?_
          refine R_aload_n dX12_editDistance_231 rfl rfl ?_
          refine R_getf dX12_editDistance_232 gX12_56 H0 rfl ?_
          refine R_iload dX12_editDistance_235 rfl ?_
          refine R_iload dX12_editDistance_237 rfl ?_
          obtain ⟨g2, eg2⟩ : ∃ y, y = upd g (j + 1) (nI (lf + 1)) := ⟨_, rfl⟩
          refine W_iast (f' := g2) dX12_editDistance_239 Hg (by omega) (by decide) eg2 (fun wp36 wH37 wE38 => ?_)
          have wH39 := (wE38 61 (by decide)).trans H0
          have wH40 := (wE38 74 (by decide)).trans H1
          have wH41 := (wE38 75 (by decide)).trans H2
          have wF42 : Fr [77] hp wp36 := hF.trans (Fr.one wE38 (by simp))
          refine N_iinc (d := 1) (lv' := [some (.ref 61), some (.int (nI js)), some (.int (nI (i + 1))), some (.int (nI ab)), some (.int (nI (j + 1 + 1))), some (.int (nI (lf + 1)))]) dX12_editDistance_240 rfl rfl ?_
          refine R_goto (tgt := 121) dX12_editDistance_243 (by decide) ?_
          refine ih (j + 1) _ g2 ab (lf + 1) (N ++ [lf]) O _ (by omega) (by simp; omega) (by simpa using hO) (by rw [eg2]; exact Row.go hN hR) hab (by omega) (fun w hw => hOb w (List.mem_cons_of_mem _ hw)) wH39 wH40 wH41 wH37 wF42 ?_
          rw [show min (dg) (min ab lf + 1) = lf + 1 by omega] at hRs; rw [hRs]; simp
      · refine R_aload_n dX12_editDistance_173 rfl rfl ?_
        refine R_getf dX12_editDistance_174 gX12_56 H0 rfl ?_
        refine R_iload dX12_editDistance_177 rfl ?_
        refine N_iald (y := (nI ab)) dX12_editDistance_179 Hg (by omega) (by decide) eab ?_
        refine R_iconst (v := (nI 1)) dX12_editDistance_180 (by decide) ?_
        refine N_iadd dX12_editDistance_181 ?_
        refine R_goto (tgt := 187) dX12_editDistance_182 (by decide) ?_
        refine R_istore (lv' := [some (.ref 61), some (.int (nI js)), some (.int (nI (i + 1))), some (.int (nI dg)), some (.int (nI (j + 1))), some (.int (nI (ab + 1)))]) dX12_editDistance_187 (by decide) rfl ?_
        refine R_aload_n dX12_editDistance_189 rfl rfl ?_
        refine R_getf dX12_editDistance_190 gX12_56 H0 rfl ?_
        refine R_iload dX12_editDistance_193 rfl ?_
        refine R_iconst (v := (nI 1)) dX12_editDistance_195 (by decide) ?_
        refine N_isub dX12_editDistance_196 (by omega) ?_
        refine N_iald (y := (nI lf)) dX12_editDistance_197 Hg (by omega) (by decide) elf ?_
        refine R_iconst (v := (nI 1)) dX12_editDistance_198 (by decide) ?_
        refine N_iadd dX12_editDistance_199 ?_
        refine R_iload dX12_editDistance_200 rfl ?_
        refine N_icmp_ge (tgt := 219) dX12_editDistance_202 (by decide) (by omega) (by omega) (fun hbb => ?_) (fun hbb => ?_)
        · refine R_iload dX12_editDistance_219 rfl ?_
          refine R_istore (lv' := [some (.ref 61), some (.int (nI js)), some (.int (nI (i + 1))), some (.int (nI dg)), some (.int (nI (j + 1))), some (.int (nI (ab + 1)))]) dX12_editDistance_221 (by decide) rfl ?_
          refine R_aload_n dX12_editDistance_223 rfl rfl ?_
          refine R_getf dX12_editDistance_224 gX12_56 H0 rfl ?_
          refine R_iload dX12_editDistance_227 rfl ?_
          refine N_iald (y := (nI ab)) dX12_editDistance_229 Hg (by omega) (by decide) eab ?_
          refine R_istore_n (lv' := [some (.ref 61), some (.int (nI js)), some (.int (nI (i + 1))), some (.int (nI ab)), some (.int (nI (j + 1))), some (.int (nI (ab + 1)))]) dX12_editDistance_230 rfl (by decide) rfl ?_
          refine R_aload_n dX12_editDistance_231 rfl rfl ?_
          refine R_getf dX12_editDistance_232 gX12_56 H0 rfl ?_
          refine R_iload dX12_editDistance_235 rfl ?_
          refine R_iload dX12_editDistance_237 rfl ?_
          obtain ⟨g2, eg2⟩ : ∃ y, y = upd g (j + 1) (nI (ab + 1)) := ⟨_, rfl⟩
          refine W_iast (f' := g2) dX12_editDistance_239 Hg (by omega) (by decide) eg2 (fun wp43 wH44 wE45 => ?_)
          have wH46 := (wE45 61 (by decide)).trans H0
          have wH47 := (wE45 74 (by decide)).trans H1
          have wH48 := (wE45 75 (by decide)).trans H2
          have wF49 : Fr [77] hp wp43 := hF.trans (Fr.one wE45 (by simp))
          refine N_iinc (d := 1) (lv' := [some (.ref 61), some (.int (nI js)), some (.int (nI (i + 1))), some (.int (nI ab)), some (.int (nI (j + 1 + 1))), some (.int (nI (ab + 1)))]) dX12_editDistance_240 rfl rfl ?_
          refine R_goto (tgt := 121) dX12_editDistance_243 (by decide) ?_
          refine ih (j + 1) _ g2 ab (ab + 1) (N ++ [lf]) O _ (by omega) (by simp; omega) (by simpa using hO) (by rw [eg2]; exact Row.go hN hR) hab (by omega) (fun w hw => hOb w (List.mem_cons_of_mem _ hw)) wH46 wH47 wH48 wH44 wF49 ?_
          rw [show min (dg) (min ab lf + 1) = ab + 1 by omega] at hRs; rw [hRs]; simp
        · refine R_aload_n dX12_editDistance_205 rfl rfl ?_
          refine R_getf dX12_editDistance_206 gX12_56 H0 rfl ?_
          refine R_iload dX12_editDistance_209 rfl ?_
          refine R_iconst (v := (nI 1)) dX12_editDistance_211 (by decide) ?_
          refine N_isub dX12_editDistance_212 (by omega) ?_
          refine N_iald (y := (nI lf)) dX12_editDistance_213 Hg (by omega) (by decide) elf ?_
          refine R_iconst (v := (nI 1)) dX12_editDistance_214 (by decide) ?_
          refine N_iadd dX12_editDistance_215 ?_
          refine R_goto (tgt := 221) dX12_editDistance_216 (by decide) ?_
          refine R_istore (lv' := [some (.ref 61), some (.int (nI js)), some (.int (nI (i + 1))), some (.int (nI dg)), some (.int (nI (j + 1))), some (.int (nI (lf + 1)))]) dX12_editDistance_221 (by decide) rfl ?_
          refine R_aload_n dX12_editDistance_223 rfl rfl ?_
          refine R_getf dX12_editDistance_224 gX12_56 H0 rfl ?_
          refine R_iload dX12_editDistance_227 rfl ?_
          refine N_iald (y := (nI ab)) dX12_editDistance_229 Hg (by omega) (by decide) eab ?_
          refine R_istore_n (lv' := [some (.ref 61), some (.int (nI js)), some (.int (nI (i + 1))), some (.int (nI ab)), some (.int (nI (j + 1))), some (.int (nI (lf + 1)))]) dX12_editDistance_230 rfl (by decide) rfl ?_
          refine R_aload_n dX12_editDistance_231 rfl rfl ?_
          refine R_getf dX12_editDistance_232 gX12_56 H0 rfl ?_
          refine R_iload dX12_editDistance_235 rfl ?_
          refine R_iload dX12_editDistance_237 rfl ?_
          obtain ⟨g2, eg2⟩ : ∃ y, y = upd g (j + 1) (nI (lf + 1)) := ⟨_, rfl⟩
          refine W_iast (f' := g2) dX12_editDistance_239 Hg (by omega) (by decide) eg2 (fun wp50 wH51 wE52 => ?_)
          have wH53 := (wE52 61 (by decide)).trans H0
          have wH54 := (wE52 74 (by decide)).trans H1
          have wH55 := (wE52 75 (by decide)).trans H2
          have wF56 : Fr [77] hp wp50 := hF.trans (Fr.one wE52 (by simp))
          refine N_iinc (d := 1) (lv' := [some (.ref 61), some (.int (nI js)), some (.int (nI (i + 1))), some (.int (nI ab)), some (.int (nI (j + 1 + 1))), some (.int (nI (lf + 1)))]) dX12_editDistance_240 rfl rfl ?_
          refine R_goto (tgt := 121) dX12_editDistance_243 (by decide) ?_
          refine ih (j + 1) _ g2 ab (lf + 1) (N ++ [lf]) O _ (by omega) (by simp; omega) (by simpa using hO) (by rw [eg2]; exact Row.go hN hR) hab (by omega) (fun w hw => hOb w (List.mem_cons_of_mem _ hw)) wH53 wH54 wH55 wH51 wF56 ?_
          rw [show min (dg) (min ab lf + 1) = lf + 1 by omega] at hRs; rw [hRs]; simp
set_option maxRecDepth 100000 in
set_option maxHeartbeats 4000000 in
theorem r_edO {ln ac nxx sn sx st : Int32} {xs ts : List Nat} {f f2 : Nat → Int32} {js : Nat} {ms : List Nat} {cs : List Nat} {sc un wd : Nat} {hs : List TP} {s0 s1 : Option TP} {os : List (Nat × Nat)} {ox : Nat} {hp0 : HPt} {R : Nat} (hM : MJ hp (ms, (cs, sc, un, wd), hs, s0, s1, os, ox)) (hF0 : Fr LM hp0 hp) (hf : ∀ (i : Nat) (hi : i < xs.length), f i = nI xs[i]) (hf2 : ∀ (i : Nat) (hi : i < ts.length), f2 i = nI ts[i]) (hL : xs.length ≤ 96) (gL : ts.length ≤ 96) (hC : ∀ c ∈ xs, c < 128) (gC : ∀ c ∈ ts, c < 128) : ∀ (d i : Nat) (hz : HPt) (g : Nat → Int32) (row : List Nat) (l3 l4 l5 : Option Value), i + d = xs.length → row.length = ts.length + 1 → Row g row → rowB row (100 + i) → hz[61]? = some (ob 11 [.ref 62, .int (ln), .ref 63, .ref 64, .ref 65, .int (ac), .int (nxx), .ref 66, .ref 67, .ref 68, .ref 69, .int (sn), .int (sx), .ref 70, .ref 71, .ref 72, .ref 73, .ref 74, .int (nI (xs.length)), .ref 75, .int (nI (ts.length)), .ref 76, .int (st), .ref 77]) → hz[74]? = some (ia 96 f) → hz[75]? = some (ia 96 f2) → hz[77]? = some (ia 97 g) → Fr [77] hp hz → R = (lqA ts (xs.drop i) i row).getD ts.length 0 → PZ l X (MZi X mX12_editDistance (fun r hp' => r = nI R ∧ MJ hp' (ms, (cs, sc, un, wd), hs, s0, s1, os, ox) ∧ Fr LM hp0 hp')) mX12_editDistance 96 [some (.ref 61), some (.int (nI js)), some (.int (nI (i + 1))), l3, l4, l5] [] hz 0 0 := by
  intro d
  induction d with
  | zero =>
    intro i hz g row l3 l4 l5 hi hrl hrow hrb H0 H1 H2 Hg hF hRR
    have hRe : nI R = nI row[ts.length] := by rw [hRR, List.drop_eq_nil_of_le (by omega)]; simp only [lqA]; rw [gD (by omega)]
    refine R_iload_n dX12_editDistance_96 rfl rfl ?_
    refine R_aload_n dX12_editDistance_97 rfl rfl ?_
    refine R_getf dX12_editDistance_98 gX12_83 H0 rfl ?_
    refine N_icmp_gt (tgt := 252) dX12_editDistance_101 (by decide) (by omega) (by omega) (fun _ => ?_) (fun hc => absurd hc (by omega))
    refine R_aload_n dX12_editDistance_252 rfl rfl ?_
    refine R_getf dX12_editDistance_253 gX12_56 H0 rfl ?_
    refine R_aload_n dX12_editDistance_256 rfl rfl ?_
    refine R_getf dX12_editDistance_257 gX12_87 H0 rfl ?_
    refine N_iald (y := (nI (row[ts.length]))) dX12_editDistance_260 Hg (by omega) (by decide) (hrow _ (by omega)) ?_
    exact R_reti dX12_editDistance_261 rfl rfl rfl ⟨hRe.symm, hM.f77 hF ⟨g, Hg⟩, hF0.trans (hF.mono (by decide))⟩
  | succ d ih =>
    intro i hz g row l3 l4 l5 hi hrl hrow hrb H0 H1 H2 Hg hF hRR
    rw [drop_c (cs := xs) (by omega)] at hRR; simp only [lqA] at hRR
    have hdr : row = row.getD 0 0 :: row.drop 1 := by
      cases row with
      | nil => simp at hrl
      | cons a t => simp
    have hd0 : row.getD 0 0 ≤ 100 + i := by rw [gD (by omega)]; exact hrb _ (List.getElem_mem _)
    refine R_iload_n dX12_editDistance_96 rfl rfl ?_
    refine R_aload_n dX12_editDistance_97 rfl rfl ?_
    refine R_getf dX12_editDistance_98 gX12_83 H0 rfl ?_
    refine N_icmp_gt (tgt := 252) dX12_editDistance_101 (by decide) (by omega) (by omega) (fun hc => absurd hc (by omega)) (fun _ => ?_)
    refine R_aload_n dX12_editDistance_104 rfl rfl ?_
    refine R_getf dX12_editDistance_105 gX12_56 H0 rfl ?_
    refine R_iconst (v := (nI 0)) dX12_editDistance_108 (by decide) ?_
    refine N_iald (y := (nI (row.getD 0 0))) dX12_editDistance_109 Hg (by omega) (by decide) (by rw [gD (by omega)]; exact hrow 0 (by omega)) ?_
    refine R_istore_n (lv' := [some (.ref 61), some (.int (nI js)), some (.int (nI (i + 1))), some (.int (nI (row.getD 0 0))), l4, l5]) dX12_editDistance_110 rfl (by decide) rfl ?_
    refine R_aload_n dX12_editDistance_111 rfl rfl ?_
    refine R_getf dX12_editDistance_112 gX12_56 H0 rfl ?_
    refine R_iconst (v := (nI 0)) dX12_editDistance_115 (by decide) ?_
    refine R_iload_n dX12_editDistance_116 rfl rfl ?_
    obtain ⟨g2, eg2⟩ : ∃ y, y = upd g 0 (nI (i + 1)) := ⟨_, rfl⟩
    refine W_iast (f' := g2) dX12_editDistance_117 Hg (by omega) (by decide) eg2 (fun wp1 wH2 wE3 => ?_)
    have wH4 := (wE3 61 (by decide)).trans H0
    have wH5 := (wE3 74 (by decide)).trans H1
    have wH6 := (wE3 75 (by decide)).trans H2
    have wF7 : Fr [77] hz wp1 := Fr.one wE3 (by simp)
    refine R_iconst (v := (nI 1)) dX12_editDistance_118 (by decide) ?_
    refine R_istore (lv' := [some (.ref 61), some (.int (nI js)), some (.int (nI (i + 1))), some (.int (nI (row.getD 0 0))), some (.int (nI 1)), l5]) dX12_editDistance_119 (by decide) rfl ?_
    refine r_edI (i := i) (b := 100 + i) (Rs := lqR xs[i] i ts row) (by omega) (by omega) hf hf2 hL gL hC gC (fun hy g3 dx lx K0 K1 K2 K3 hrow3 hF3 => ?_) ts.length 0 _ g2 _ (i + 1) [] (row.drop 1) l5 (by omega) rfl (by rw [List.length_drop]; omega) (fun q hq => ?_) hd0 (by omega) (fun w hw => hrb w (List.mem_of_mem_drop hw)) wH4 wH5 wH6 wH2 wF7 (by unfold lqR; simp)
    · refine N_iinc (d := 1) (lv' := [some (.ref 61), some (.int (nI js)), some (.int (nI (i + 1 + 1))), some (.int (nI dx)), some (.int (nI (ts.length + 1))), lx]) dX12_editDistance_246 rfl rfl ?_
      refine R_goto (tgt := 96) dX12_editDistance_249 (by decide) ?_
      exact ih (i + 1) hy g3 (lqR xs[i] i ts row) _ _ _ (by omega) (lqR_len hrl) hrow3 (by have := lqR_B (x := xs[i]) (i := i) (b := 100 + i) hrl hrb (by omega); exact this) K0 K1 K2 K3 (hF.trans hF3) hRR
    · rw [eg2]
      cases q with
      | zero => rw [upd_s]; rfl
      | succ q =>
        rw [upd_n (by omega), hrow (q + 1) (by simp at hq; omega)]
        congr 1
        simp
set_option maxRecDepth 100000 in
set_option maxHeartbeats 4000000 in
theorem y_dist {ms : List Nat} {cs : List Nat} {sc un wd : Nat} {hs : List TP} {s0 s1 : Option TP} {os : List (Nat × Nat)} {ox : Nat} {j : Int32} (hM : MJ hp (ms, (cs, sc, un, wd), hs, s0, s1, os, ox)) : SpI l X mX12_editDistance [.ref 61, .int (j)] hp (fun r hp' => r = (f_dist (ms, (cs, sc, un, wd), hs, s0, s1, os, ox) j).1 ∧ MJ hp' (f_dist (ms, (cs, sc, un, wd), hs, s0, s1, os, ox) j).2 ∧ Fr LM hp hp') := by
  obtain ⟨nx, tl, sl, st, M0, MM, MN, MT, MD, MK, MO, A70, A71, A72, A73, A74, A75, A76, A77⟩ := hM
  obtain ⟨hL, hC3, hs1, hu1, hw1, hw2⟩ := MN.ok
  obtain ⟨hmL, hmC⟩ := MM.ok
  obtain ⟨hnx0, hsl0⟩ := MD.ok
  obtain ⟨hol0, hox0⟩ := MO.ok
  refine SpI.of pnX12 (Nat.le_of_ble_eq_true rfl) rfl ?_
  refine R_iload_n dX12_editDistance_0 rfl rfl ?_
  refine R_i2l dX12_editDistance_1 ?_
  refine R_lconst (v := 0) dX12_editDistance_2 (by decide) ?_
  refine R_lconst (v := 1) dX12_editDistance_3 (by decide) ?_
  refine R_stati (As := [.long ((j).toInt64), .long (0), .long (1)]) (st := []) kX12_in lX12_67 (r_inW 0 1 rfl rfl (by decide) (by decide)) dX12_editDistance_4 rfl rfl (Nat.le_of_ble_eq_true rfl) ⟨by decide, by decide⟩ zX12_in ⟨Nat.le_refl _, Nat.le_refl _⟩ (fun wr3 wp2 wq1 => ?_)
  obtain ⟨rfl, rfl⟩ : wr3 = _ ∧ hp = wp2 := ⟨wq1.1, wq1.2.symm⟩
  rw [show inW j 0 1 = inB j 2 from inB_W (n := 2) (by decide)]
  cases hb : inB j 2 with
  | false =>
    show PZ _ _ _ _ _ _ (.int (nI 0) :: _) _ _ _
    refine N_if_ne (tgt := 12) dX12_editDistance_7 (by decide) (by decide) (fun hc => absurd hc (by decide)) (fun _ => ?_)
    have hf : f_dist (ms, (cs, sc, un, wd), hs, s0, s1, os, ox) j = (-1, (ms, (cs, sc, un, wd), hs, s0, s1, os, ox)) := by unfold f_dist; dsimp only; rw [hb]; rfl
    refine R_iconst (v := (-1)) dX12_editDistance_10 (by decide) ?_
    rw [hf]
    exact R_reti dX12_editDistance_11 rfl rfl rfl ⟨rfl, ⟨_, _, _, _, M0, MM, MN, MT, MD, MK, MO, A70, A71, A72, A73, A74, A75, A76, A77⟩, (Fr.rf (L := LM) (hp := hp))⟩
  | true =>
    show PZ _ _ _ _ _ _ (.int (nI 1) :: _) _ _ _
    obtain ⟨js, hj, rfl⟩ := inB_t (by decide) hb
    refine N_if_ne (tgt := 12) dX12_editDistance_7 (by decide) (by decide) (fun _ => ?_) (fun hc => absurd hc (by decide))
    have hjc : js = 0 ∨ js = 1 := by omega
    rcases hjc with rfl | rfl
    · obtain ⟨fk, u, Hk, Hu, hu0, hu1, hk0, hk1⟩ := id MK
      refine R_aload_n dX12_editDistance_12 rfl rfl ?_
      refine R_getf dX12_editDistance_13 gX12_25 M0 rfl ?_
      refine R_iload_n dX12_editDistance_16 rfl rfl ?_
      refine N_bald (y := (bz s0.isSome)) dX12_editDistance_17 Hu (by decide) (by decide) hu0 ?_
      cases hs9 : s0 with
      | none =>
        show PZ _ _ _ _ _ _ (.int (nI 0) :: _) _ _ _
        refine N_if_ne (tgt := 24) dX12_editDistance_18 (by decide) (by decide) (fun hc => absurd hc (by decide)) (fun _ => ?_)
        refine R_bipush (v := (-3)) dX12_editDistance_21 (by decide) ?_
        subst hs9
        have hf9 : f_dist (ms, (cs, sc, un, wd), hs, none, s1, os, ox) (nI 0) = (-3, (ms, (cs, sc, un, wd), hs, none, s1, os, ox)) := by unfold f_dist; dsimp only; rw [hb, if_pos rfl, vN_n (by decide)]; rfl
        rw [hf9]
        exact R_reti dX12_editDistance_23 rfl rfl rfl ⟨rfl, ⟨_, _, _, _, M0, MM, MN, MT, MD, MK, MO, A70, A71, A72, A73, A74, A75, A76, A77⟩, (Fr.rf (L := LM) (hp := hp))⟩
      | some T1 =>
        obtain ⟨ds, sc1, un1, wd1⟩ := T1
        subst hs9
        show PZ _ _ _ _ _ _ (.int (nI 1) :: _) _ _ _
        refine N_if_ne (tgt := 24) dX12_editDistance_18 (by decide) (by decide) (fun _ => ?_) (fun hc => absurd hc (by decide))
        refine R_iconst (v := (nI 0)) dX12_editDistance_24 (by decide) ?_
        refine R_istore_n (lv' := [some (.ref 61), some (.int (nI 0)), some (.int (nI 0)), none, none, none]) dX12_editDistance_25 rfl (by decide) rfl ?_
        obtain ⟨ft, Htr⟩ := id MT
        refine r_edC (js := 0) (by decide) (f0 := ft) (fun hz g H0 Hs Hg hg ho hF => ?_) 100 0 _ ft (by omega) M0 Hk Htr (fun q hq => absurd hq (by omega)) (fun q hq => rfl) Fr.rf
        have hq1 : RwAt hz 64 (ds, sc1, un1, wd1) := ⟨g, Hg, (hk0 _ rfl).cg (fun q hq => by have := hg q hq; simpa using this)⟩
        have c4 := MM.fr hF (by decide)
        have c5 := MN.fr hF (by decide)
        have c6 := MD.fr hF (by decide)
        have c7 := MK.fr hF (by decide) (by decide)
        have c8 := MO.fr hF (by decide) (by decide)
        have c9 := A70.fr hF (by decide)
        have c10 := A71.fr hF (by decide)
        have c11 := A72.fr hF (by decide)
        have c12 := A73.fr hF (by decide)
        have c13 := A74.fr hF (by decide)
        have c14 := A75.fr hF (by decide)
        have c15 := A76.fr hF (by decide)
        have c16 := A77.fr hF (by decide)
        have FF17 : Fr LM hp hz := (Fr.rf (L := LM) (hp := hp)).trans (hF.mono (by decide))
        refine R_aload_n dX12_editDistance_55 rfl rfl ?_
        refine R_aload_n dX12_editDistance_56 rfl rfl ?_
        refine R_getf dX12_editDistance_57 gX12_13 H0 rfl ?_
        refine R_callv (As := [.ref 63]) (st := []) kX12_layText lX12_102 (r_lt H0 c5 c9 c10 c13) rfl H0 dX12_editDistance_60 rfl rfl (Nat.le_of_ble_eq_true rfl) ⟨by decide, by decide⟩ zX12_layText ⟨Nat.le_refl _, Nat.le_refl _⟩ (fun wp19 wq18 => ?_)
        obtain ⟨hl1, hl2, hl3⟩ := wq18
        have c21 := c4.fr hl3 (by decide)
        have c22 := c5.fr hl3 (by decide)
        have c23 := hq1.ax.fr hl3 (by decide)
        have c24 := c6.fr hl3 (by decide)
        have c25 := c7.fr hl3 (by decide) (by decide)
        have c26 := c8.fr hl3 (by decide) (by decide)
        have c27 := c11.fr hl3 (by decide)
        have c28 := c12.fr hl3 (by decide)
        have c29 := c14.fr hl3 (by decide)
        have c30 := c15.fr hl3 (by decide)
        have c31 := c16.fr hl3 (by decide)
        have FF32 : Fr LM hp wp19 := FF17.trans (hl3.mono (by decide))
        have hq2 := hq1.fr hl3 (by decide)
        refine R_aload_n dX12_editDistance_63 rfl rfl ?_
        refine R_aload_n dX12_editDistance_64 rfl rfl ?_
        refine R_getf dX12_editDistance_65 gX12_16 hl1 rfl ?_
        refine R_callv (As := [.ref 64]) (st := []) kX12_laySecond lX12_149 (r_ls hl1 hq2 c27 c28 c29) rfl hl1 dX12_editDistance_68 rfl rfl (Nat.le_of_ble_eq_true rfl) ⟨by decide, by decide⟩ zX12_laySecond ⟨Nat.le_refl _, Nat.le_refl _⟩ (fun wp34 wq33 => ?_)
        obtain ⟨hk1, hk2, hk3⟩ := wq33
        have c36 := c21.fr hk3 (by decide)
        have c37 := c22.fr hk3 (by decide)
        have c38 := c23.fr hk3 (by decide)
        have c39 := c24.fr hk3 (by decide)
        have c40 := c25.fr hk3 (by decide) (by decide)
        have c41 := c26.fr hk3 (by decide) (by decide)
        have c42 := hl2.x1.fr hk3 (by decide)
        have c43 := hl2.x2.fr hk3 (by decide)
        have c44 := hl2.x3.fr hk3 (by decide)
        have c45 := c30.fr hk3 (by decide)
        have c46 := c31.fr hk3 (by decide)
        have FF47 : Fr LM hp wp34 := FF32.trans (hk3.mono (by decide))
        obtain ⟨ga, wa, ta, -, -, H74, -, -, hta⟩ := hl2.fr hk3 (by decide) (by decide) (by decide)
        obtain ⟨gb, wb, tb, -, -, H75, -, -, htb⟩ := id hk2
        refine R_iconst (v := (nI 0)) dX12_editDistance_71 (by decide) ?_
        refine R_istore_n (lv' := [some (.ref 61), some (.int (nI 0)), some (.int (nI 0)), none, none, none]) dX12_editDistance_72 rfl (by decide) rfl ?_
        have htl1 := txt_len un cs sc
        have htl2 := txt_len un1 ds sc1
        have hdl := hq1.ok.1
        obtain ⟨g7, H77⟩ := id c46
        have hMz : MJ wp34 (ms, (cs, sc, un, wd), hs, some (ds, sc1, un1, wd1), s1, os, ox) := ⟨_, _, _, _, hk1, c36, c37, c38, c39, c40, c41, c42, c43, hk2.x1, hk2.x2, c44, hk2.x3, c45, c46⟩
        have hf9 : f_dist (ms, (cs, sc, un, wd), hs, some (ds, sc1, un1, wd1), s1, os, ox) (nI 0) = (nI (lev (txt un sc cs) (txt un1 sc1 ds)), (ms, (cs, sc, un, wd), hs, some (ds, sc1, un1, wd1), s1, os, ox)) := by unfold f_dist; dsimp only; rw [hb, if_pos rfl, vN_n (by decide)]; rfl
        rw [hf9]
        refine r_edN (xs := txt un sc cs) (ts := txt un1 sc1 ds) (by omega) (fun hy g9 K0 K1 K2 K3 hrow hF9 => ?_) ((txt un1 sc1 ds).length + 1) 0 _ g7 (by omega) hk1 H74 H75 H77 (fun q hq => absurd hq (by omega)) Fr.rf
        refine R_iconst (v := (nI 1)) dX12_editDistance_94 (by decide) ?_
        refine R_istore_n (lv' := [some (.ref 61), some (.int (nI 0)), some (.int (nI 1)), none, none, none]) dX12_editDistance_95 rfl (by decide) rfl ?_
        exact r_edO (hp := _) hMz FF47 hta htb (by omega) (by omega) (txt_lt un cs sc) (txt_lt un1 ds sc1) (txt un sc cs).length 0 hy g9 (List.range ((txt un1 sc1 ds).length + 1)) none none none (by omega) (by simp) hrow (fun w hw => by have := List.mem_range.mp hw; omega) K0 K1 K2 K3 hF9 rfl
    · obtain ⟨fk, u, Hk, Hu, hu0, hu1, hk0, hk1⟩ := id MK
      refine R_aload_n dX12_editDistance_12 rfl rfl ?_
      refine R_getf dX12_editDistance_13 gX12_25 M0 rfl ?_
      refine R_iload_n dX12_editDistance_16 rfl rfl ?_
      refine N_bald (y := (bz s1.isSome)) dX12_editDistance_17 Hu (by decide) (by decide) hu1 ?_
      cases hs9 : s1 with
      | none =>
        show PZ _ _ _ _ _ _ (.int (nI 0) :: _) _ _ _
        refine N_if_ne (tgt := 24) dX12_editDistance_18 (by decide) (by decide) (fun hc => absurd hc (by decide)) (fun _ => ?_)
        refine R_bipush (v := (-3)) dX12_editDistance_21 (by decide) ?_
        subst hs9
        have hf9 : f_dist (ms, (cs, sc, un, wd), hs, s0, none, os, ox) (nI 1) = (-3, (ms, (cs, sc, un, wd), hs, s0, none, os, ox)) := by unfold f_dist; dsimp only; rw [hb, if_pos rfl, vN_n (by decide)]; rfl
        rw [hf9]
        exact R_reti dX12_editDistance_23 rfl rfl rfl ⟨rfl, ⟨_, _, _, _, M0, MM, MN, MT, MD, MK, MO, A70, A71, A72, A73, A74, A75, A76, A77⟩, (Fr.rf (L := LM) (hp := hp))⟩
      | some T1 =>
        obtain ⟨ds, sc1, un1, wd1⟩ := T1
        subst hs9
        show PZ _ _ _ _ _ _ (.int (nI 1) :: _) _ _ _
        refine N_if_ne (tgt := 24) dX12_editDistance_18 (by decide) (by decide) (fun _ => ?_) (fun hc => absurd hc (by decide))
        refine R_iconst (v := (nI 0)) dX12_editDistance_24 (by decide) ?_
        refine R_istore_n (lv' := [some (.ref 61), some (.int (nI 1)), some (.int (nI 0)), none, none, none]) dX12_editDistance_25 rfl (by decide) rfl ?_
        obtain ⟨ft, Htr⟩ := id MT
        refine r_edC (js := 1) (by decide) (f0 := ft) (fun hz g H0 Hs Hg hg ho hF => ?_) 100 0 _ ft (by omega) M0 Hk Htr (fun q hq => absurd hq (by omega)) (fun q hq => rfl) Fr.rf
        have hq1 : RwAt hz 64 (ds, sc1, un1, wd1) := ⟨g, Hg, (hk1 _ rfl).cg (fun q hq => by have := hg q hq; simpa using this)⟩
        have c48 := MM.fr hF (by decide)
        have c49 := MN.fr hF (by decide)
        have c50 := MD.fr hF (by decide)
        have c51 := MK.fr hF (by decide) (by decide)
        have c52 := MO.fr hF (by decide) (by decide)
        have c53 := A70.fr hF (by decide)
        have c54 := A71.fr hF (by decide)
        have c55 := A72.fr hF (by decide)
        have c56 := A73.fr hF (by decide)
        have c57 := A74.fr hF (by decide)
        have c58 := A75.fr hF (by decide)
        have c59 := A76.fr hF (by decide)
        have c60 := A77.fr hF (by decide)
        have FF61 : Fr LM hp hz := (Fr.rf (L := LM) (hp := hp)).trans (hF.mono (by decide))
        refine R_aload_n dX12_editDistance_55 rfl rfl ?_
        refine R_aload_n dX12_editDistance_56 rfl rfl ?_
        refine R_getf dX12_editDistance_57 gX12_13 H0 rfl ?_
        refine R_callv (As := [.ref 63]) (st := []) kX12_layText lX12_102 (r_lt H0 c49 c53 c54 c57) rfl H0 dX12_editDistance_60 rfl rfl (Nat.le_of_ble_eq_true rfl) ⟨by decide, by decide⟩ zX12_layText ⟨Nat.le_refl _, Nat.le_refl _⟩ (fun wp63 wq62 => ?_)
        obtain ⟨hl1, hl2, hl3⟩ := wq62
        have c65 := c48.fr hl3 (by decide)
        have c66 := c49.fr hl3 (by decide)
        have c67 := hq1.ax.fr hl3 (by decide)
        have c68 := c50.fr hl3 (by decide)
        have c69 := c51.fr hl3 (by decide) (by decide)
        have c70 := c52.fr hl3 (by decide) (by decide)
        have c71 := c55.fr hl3 (by decide)
        have c72 := c56.fr hl3 (by decide)
        have c73 := c58.fr hl3 (by decide)
        have c74 := c59.fr hl3 (by decide)
        have c75 := c60.fr hl3 (by decide)
        have FF76 : Fr LM hp wp63 := FF61.trans (hl3.mono (by decide))
        have hq2 := hq1.fr hl3 (by decide)
        refine R_aload_n dX12_editDistance_63 rfl rfl ?_
        refine R_aload_n dX12_editDistance_64 rfl rfl ?_
        refine R_getf dX12_editDistance_65 gX12_16 hl1 rfl ?_
        refine R_callv (As := [.ref 64]) (st := []) kX12_laySecond lX12_149 (r_ls hl1 hq2 c71 c72 c73) rfl hl1 dX12_editDistance_68 rfl rfl (Nat.le_of_ble_eq_true rfl) ⟨by decide, by decide⟩ zX12_laySecond ⟨Nat.le_refl _, Nat.le_refl _⟩ (fun wp78 wq77 => ?_)
        obtain ⟨hk1, hk2, hk3⟩ := wq77
        have c80 := c65.fr hk3 (by decide)
        have c81 := c66.fr hk3 (by decide)
        have c82 := c67.fr hk3 (by decide)
        have c83 := c68.fr hk3 (by decide)
        have c84 := c69.fr hk3 (by decide) (by decide)
        have c85 := c70.fr hk3 (by decide) (by decide)
        have c86 := hl2.x1.fr hk3 (by decide)
        have c87 := hl2.x2.fr hk3 (by decide)
        have c88 := hl2.x3.fr hk3 (by decide)
        have c89 := c74.fr hk3 (by decide)
        have c90 := c75.fr hk3 (by decide)
        have FF91 : Fr LM hp wp78 := FF76.trans (hk3.mono (by decide))
        obtain ⟨ga, wa, ta, -, -, H74, -, -, hta⟩ := hl2.fr hk3 (by decide) (by decide) (by decide)
        obtain ⟨gb, wb, tb, -, -, H75, -, -, htb⟩ := id hk2
        refine R_iconst (v := (nI 0)) dX12_editDistance_71 (by decide) ?_
        refine R_istore_n (lv' := [some (.ref 61), some (.int (nI 1)), some (.int (nI 0)), none, none, none]) dX12_editDistance_72 rfl (by decide) rfl ?_
        have htl1 := txt_len un cs sc
        have htl2 := txt_len un1 ds sc1
        have hdl := hq1.ok.1
        obtain ⟨g7, H77⟩ := id c90
        have hMz : MJ wp78 (ms, (cs, sc, un, wd), hs, s0, some (ds, sc1, un1, wd1), os, ox) := ⟨_, _, _, _, hk1, c80, c81, c82, c83, c84, c85, c86, c87, hk2.x1, hk2.x2, c88, hk2.x3, c89, c90⟩
        have hf9 : f_dist (ms, (cs, sc, un, wd), hs, s0, some (ds, sc1, un1, wd1), os, ox) (nI 1) = (nI (lev (txt un sc cs) (txt un1 sc1 ds)), (ms, (cs, sc, un, wd), hs, s0, some (ds, sc1, un1, wd1), os, ox)) := by unfold f_dist; dsimp only; rw [hb, if_pos rfl, vN_n (by decide)]; rfl
        rw [hf9]
        refine r_edN (xs := txt un sc cs) (ts := txt un1 sc1 ds) (by omega) (fun hy g9 K0 K1 K2 K3 hrow hF9 => ?_) ((txt un1 sc1 ds).length + 1) 0 _ g7 (by omega) hk1 H74 H75 H77 (fun q hq => absurd hq (by omega)) Fr.rf
        refine R_iconst (v := (nI 1)) dX12_editDistance_94 (by decide) ?_
        refine R_istore_n (lv' := [some (.ref 61), some (.int (nI 1)), some (.int (nI 1)), none, none, none]) dX12_editDistance_95 rfl (by decide) rfl ?_
        exact r_edO (hp := _) hMz FF91 hta htb (by omega) (by omega) (txt_lt un cs sc) (txt_lt un1 ds sc1) (txt un sc cs).length 0 hy g9 (List.range ((txt un1 sc1 ds).length + 1)) none none none (by omega) (by simp) hrow (fun w hw => by have := List.mem_range.mp hw; omega) K0 K1 K2 K3 hF9 rfl
end R40
