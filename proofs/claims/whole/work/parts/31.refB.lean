/-! The reference: its rows -/
def RwH (f : Nat → Int32) (cs : List Nat) (sc un wd : Nat) : Prop := f 0 = nI cs.length ∧ f 1 = nI sc ∧ f 2 = nI un ∧ f 3 = nI wd ∧ (∀ (i : Nat) (hi : i < cs.length), f (4 + i) = nI cs[i]) ∧ cs.length ≤ 96 ∧ (∀ c ∈ cs, c < 32) ∧ sc ≤ 1 ∧ un ≤ 1 ∧ 5 ≤ wd ∧ wd ≤ 40
theorem RwF.to {f : Nat → Int32} {cs : List Nat} {sc un wd : Nat} (h : RwF f 0 (cs, sc, un, wd)) : RwH f cs sc un wd := h
theorem RwH.to {f : Nat → Int32} {cs : List Nat} {sc un wd : Nat} (h : RwH f cs sc un wd) : RwF f 0 (cs, sc, un, wd) := h
theorem tk96 {cs : List Nat} {c : Nat} (h : cs.length < 96) : (cs ++ [c]).take 96 = cs ++ [c] := List.take_of_length_le (by rw [List.length_append]; simp; omega)
theorem tk96n {cs : List Nat} {c : Nat} (h : cs.length = 96) : (cs ++ [c]).take 96 = cs := by rw [List.take_append_of_le_length (by omega), List.take_of_length_le (by omega)]
theorem at_app {cs : List Nat} {c i : Nat} (hi : i < (cs ++ [c]).length) : (i < cs.length ∧ ∃ h : i < cs.length, (cs ++ [c])[i] = cs[i]) ∨ (i = cs.length ∧ (cs ++ [c])[i] = c) := by
  by_cases h : i < cs.length
  · exact .inl ⟨h, h, List.getElem_append_left h⟩
  · rw [List.length_append] at hi
    simp only [List.length_cons, List.length_nil] at hi
    have e : i = cs.length := by omega
    subst e
    exact .inr ⟨rfl, List.getElem_concat_length rfl _⟩
theorem bz_c1 {p : Prop} [Decidable p] (h : p) : nI 1 = bz (decide p) := by rw [decide_eq_true h]; rfl
theorem bz_c0 {p : Prop} [Decidable p] (h : ¬ p) : nI 0 = bz (decide p) := by rw [decide_eq_false h]; rfl
section R31
variable {l : Launch} {X : EX} {hp : HPt}
set_option maxRecDepth 100000 in
set_option maxHeartbeats 4000000 in
theorem r_put {cs : List Nat} {sc un wd : Nat} {a c : Nat} (hc : c < 32) (H : RwAt hp a (cs, sc, un, wd)) : SpI l X mX12_put [.ref a, .int (nI c)] hp (fun r hp' => r = bz (decide (cs.length < 96)) ∧ RwAt hp' a ((cs ++ [c]).take 96, sc, un, wd) ∧ Fr [a] hp hp') := by
  obtain ⟨f, Ha, hR⟩ := H
  obtain ⟨h0, h1, h2, h3, hf, hL, hC, hs, hu, hw1, hw2⟩ := hR.to
  refine SpI.of pnX12 (Nat.le_of_ble_eq_true rfl) rfl ?_
  refine R_aload_n dX12_put_0 rfl rfl ?_
  refine R_iconst (v := (nI 0)) dX12_put_1 (by decide) ?_
  refine N_iald (y := (nI (cs.length))) dX12_put_2 Ha (by decide) (by decide) h0 ?_
  refine R_bipush (v := (nI 96)) dX12_put_3 (by decide) ?_
  refine N_icmp_ne (tgt := 10) dX12_put_5 (by decide) (by omega) (by omega) (fun hn => ?_) (fun hn => ?_)
  · refine R_aload_n dX12_put_10 rfl rfl ?_
    refine R_iconst (v := (nI 4)) dX12_put_11 (by decide) ?_
    refine R_aload_n dX12_put_12 rfl rfl ?_
    refine R_iconst (v := (nI 0)) dX12_put_13 (by decide) ?_
    refine N_iald (y := (nI (cs.length))) dX12_put_14 Ha (by decide) (by decide) h0 ?_
    refine N_iadd dX12_put_15 ?_
    refine R_iload_n dX12_put_16 rfl rfl ?_
    obtain ⟨g, eg⟩ : ∃ y, y = upd f (4 + (cs.length)) (nI c) := ⟨_, rfl⟩
    refine W_iast (f' := g) dX12_put_17 Ha (by omega) (by decide) eg (fun wp1 wH2 wE3 => ?_)
    have wF4 : Fr [a] hp wp1 := Fr.one wE3 (by simp)
    refine R_aload_n dX12_put_18 rfl rfl ?_
    refine R_iconst (v := (nI 0)) dX12_put_19 (by decide) ?_
    refine R_dup2 dX12_put_20 rfl rfl ?_
    have hg0 : g 0 = nI cs.length := by rw [eg, upd_n (by omega)]; exact h0
    refine N_iald (y := (nI (cs.length))) dX12_put_21 wH2 (by decide) (by decide) hg0 ?_
    refine R_iconst (v := (nI 1)) dX12_put_22 (by decide) ?_
    refine N_iadd dX12_put_23 ?_
    obtain ⟨g2, eg2⟩ : ∃ y, y = upd g 0 (nI ((cs.length) + 1)) := ⟨_, rfl⟩
    refine W_iast (f' := g2) dX12_put_24 wH2 (by decide) (by decide) eg2 (fun wp5 wH6 wE7 => ?_)
    have wF8 : Fr [a] hp wp5 := wF4.trans (Fr.one wE7 (by simp))
    refine R_iconst (v := (nI 1)) dX12_put_25 (by decide) ?_
    refine R_retz dX12_put_26 rfl rfl rfl rfl ⟨bz_c1 (by omega), ⟨g2, wH6, ?_⟩, wF8⟩
    rw [tk96 (by omega)]
    have hn2 : (cs ++ [c]).length = cs.length + 1 := by simp
    refine RwH.to ⟨by rw [eg2, upd_s, hn2], by rw [eg2, upd_n (by omega), eg, upd_n (by omega)]; exact h1, by rw [eg2, upd_n (by omega), eg, upd_n (by omega)]; exact h2, by rw [eg2, upd_n (by omega), eg, upd_n (by omega)]; exact h3, fun i hi => ?_, by omega, fun x hx => ?_, hs, hu, hw1, hw2⟩
    · rw [eg2, upd_n (by omega), eg]
      rcases at_app hi with ⟨h, _, e⟩ | ⟨h, e⟩
      · rw [upd_n (by omega), e]; exact hf i h
      · rw [e, h, upd_s]
    · rcases List.mem_append.mp hx with h | h
      · exact hC x h
      · rw [List.mem_singleton.mp h]; exact hc
  · refine R_iconst (v := (nI 0)) dX12_put_8 (by decide) ?_
    exact R_retz dX12_put_9 rfl rfl rfl rfl ⟨bz_c0 (by omega), by rw [tk96n hn]; exact ⟨f, Ha, hR⟩, Fr.rf⟩
set_option maxRecDepth 100000 in
set_option maxHeartbeats 4000000 in
theorem r_caL {cs : List Nat} {sc un wd : Nat} {a : Nat} {f : Nat → Int32} (Ha : hp[a]? = some (ia 100 f)) (hR : RwF f 0 (cs, sc, un, wd)) : ∀ (d j : Nat), j + d = cs.length → PZ l X (MZi X mX12_caseOfAll (fun r hp' => r = nI (cAll un sc cs) ∧ hp' = hp)) mX12_caseOfAll 6 [some (.ref a), some (.int (nI (cAt un sc cs j))), some (.int (nI j))] [] hp 0 0 := by
  intro d
  obtain ⟨h0, h1, h2, h3, hf, hL, hC, hs, hu, hw1, hw2⟩ := hR.to
  induction d with
  | zero =>
    intro j hj
    refine R_iload_n dX12_caseOfAll_6 rfl rfl ?_
    refine R_aload_n dX12_caseOfAll_7 rfl rfl ?_
    refine R_iconst (v := (nI 0)) dX12_caseOfAll_8 (by decide) ?_
    refine N_iald (y := (nI (cs.length))) dX12_caseOfAll_9 Ha (by decide) (by decide) h0 ?_
    refine N_icmp_ge (tgt := 32) dX12_caseOfAll_10 (by decide) (by omega) (by omega) (fun _ => ?_) (fun hc => absurd hc (by omega))
    refine R_iload_n dX12_caseOfAll_32 rfl rfl ?_
    exact R_reti dX12_caseOfAll_33 rfl rfl rfl ⟨by rw [cAt_n (by omega)], rfl⟩
  | succ d ih =>
    intro j hj
    have hc1 := hC cs[j] (List.getElem_mem (by omega))
    have hcl : cAt un sc cs j ≤ 1 := cAt_le hs
    refine R_iload_n dX12_caseOfAll_6 rfl rfl ?_
    refine R_aload_n dX12_caseOfAll_7 rfl rfl ?_
    refine R_iconst (v := (nI 0)) dX12_caseOfAll_8 (by decide) ?_
    refine N_iald (y := (nI (cs.length))) dX12_caseOfAll_9 Ha (by decide) (by decide) h0 ?_
    refine N_icmp_ge (tgt := 32) dX12_caseOfAll_10 (by decide) (by omega) (by omega) (fun hc => absurd hc (by omega)) (fun _ => ?_)
    refine R_aload_n dX12_caseOfAll_13 rfl rfl ?_
    refine R_iconst (v := (nI 4)) dX12_caseOfAll_14 (by decide) ?_
    refine R_iload_n dX12_caseOfAll_15 rfl rfl ?_
    refine N_iadd dX12_caseOfAll_16 ?_
    refine N_iald (y := (nI (cs[j]))) dX12_caseOfAll_17 Ha (by omega) (by decide) (hf j (by omega)) ?_
    refine R_iload_n dX12_caseOfAll_18 rfl rfl ?_
    refine R_aload_n dX12_caseOfAll_19 rfl rfl ?_
    refine R_iconst (v := (nI 2)) dX12_caseOfAll_20 (by decide) ?_
    refine N_iald (y := (nI un)) dX12_caseOfAll_21 Ha (by decide) (by decide) h2 ?_
    refine R_stati (As := [.int (nI (cs[j])), .int (nI (cAt un sc cs j)), .int (nI un)]) (st := []) kX12_caseAfter lX12_75 (r_aft hc1 hcl hu) dX12_caseOfAll_22 rfl rfl (Nat.le_of_ble_eq_true rfl) ⟨by decide, by decide⟩ zX12_caseAfter ⟨Nat.le_refl _, Nat.le_refl _⟩ (fun wr3 wp2 wq1 => ?_)
    obtain ⟨rfl, rfl⟩ : wr3 = _ ∧ hp = wp2 := ⟨wq1.1, wq1.2.symm⟩
    refine R_istore_n (lv' := [some (.ref a), some (.int (nI (cAft un cs[j] (cAt un sc cs j)))), some (.int (nI j))]) dX12_caseOfAll_25 rfl (by decide) rfl ?_
    refine N_iinc (d := 1) (lv' := [some (.ref a), some (.int (nI (cAft un cs[j] (cAt un sc cs j)))), some (.int (nI (j + 1)))]) dX12_caseOfAll_26 rfl rfl ?_
    refine R_goto (tgt := 6) dX12_caseOfAll_29 (by decide) ?_
    have h9 := ih (j + 1) (by omega)
    rw [cAt_s (by omega)] at h9
    exact h9
set_option maxRecDepth 100000 in
set_option maxHeartbeats 4000000 in
theorem r_call {cs : List Nat} {sc un wd : Nat} {a : Nat} (H : RwAt hp a (cs, sc, un, wd)) : SpI l X mX12_caseOfAll [.ref a] hp (fun r hp' => r = nI (cAll un sc cs) ∧ hp' = hp) := by
  obtain ⟨f, Ha, hR⟩ := H
  obtain ⟨h0, h1, h2, h3, hf, hL, hC, hs, hu, hw1, hw2⟩ := hR.to
  refine SpI.of pnX12 (Nat.le_of_ble_eq_true rfl) rfl ?_
  refine R_aload_n dX12_caseOfAll_0 rfl rfl ?_
  refine R_iconst (v := (nI 1)) dX12_caseOfAll_1 (by decide) ?_
  refine N_iald (y := (nI sc)) dX12_caseOfAll_2 Ha (by decide) (by decide) h1 ?_
  refine R_istore_n (lv' := [some (.ref a), some (.int (nI sc)), none]) dX12_caseOfAll_3 rfl (by decide) rfl ?_
  refine R_iconst (v := (nI 0)) dX12_caseOfAll_4 (by decide) ?_
  refine R_istore_n (lv' := [some (.ref a), some (.int (nI sc)), some (.int (nI 0))]) dX12_caseOfAll_5 rfl (by decide) rfl ?_
  have h9 := r_caL (l := l) (X := X) Ha hR cs.length 0 (by omega)
  rw [cAt_0] at h9
  exact h9
theorem cofR_t {x : Nat} (h : cof x ≠ 255) : cofR x = nI (100 * cfor x + cof x) := by unfold cofR; rw [if_neg h]
theorem tkn {V W : List Nat} (h : 96 ≤ V.length) : (V ++ W).take 96 = V.take 96 := List.take_append_of_le_length h
theorem len1 {V : List Nat} {c : Nat} : (V ++ [c]).length = V.length + 1 := by simp
set_option maxRecDepth 100000 in
set_option maxHeartbeats 4000000 in
theorem r_enc2 {cs : List Nat} {sc un wd : Nat} {a x : Nat} {g : Int32} {V : List Nat} {hq : HPt} (hx : cof x ≠ 255) (hV : V.length ≤ 96) (H : RwAt hq a (V, sc, un, wd)) (hF : Fr [a] hp hq) (he : encV un sc cs x = V ++ [cof x]) : PZ l X (MZi X mX12_encode (fun r hp' => r = bz (decide ((encV un sc cs x).length ≤ 96)) ∧ RwAt hp' a ((encV un sc cs x).take 96, sc, un, wd) ∧ Fr [a] hp hp')) mX12_encode 53 [some (.ref a), some (.int (nI x)), some (.int (nI (100 * cfor x + cof x))), some (.int (nI (cfor x))), some (.int (nI (cAll un sc cs))), some (.int (nI 1))] [] hq 0 0 := by
  have hcx := cof_lt hx
  have hcl := cfor_le x
  refine R_iload dX12_encode_53 rfl ?_
  refine N_if_eq (tgt := 73) dX12_encode_55 (by decide) (by decide) (fun hc => absurd hc (by decide)) (fun _ => ?_)
  refine R_aload_n dX12_encode_58 rfl rfl ?_
  refine R_iload_n dX12_encode_59 rfl rfl ?_
  refine R_bipush (v := (nI 100)) dX12_encode_60 (by decide) ?_
  refine N_irem dX12_encode_62 (by omega) (by omega) (by omega) ?_
  have e9 : (100 * cfor x + cof x) % 100 = cof x := by omega
  rw [e9]
  refine R_stati (As := [.ref a, .int (nI (cof x))]) (st := []) kX12_put lX12_116 (r_put (by omega) H) dX12_encode_63 rfl rfl (Nat.le_of_ble_eq_true rfl) ⟨by decide, by decide⟩ zX12_put ⟨Nat.le_refl _, Nat.le_refl _⟩ (fun wr3 wp2 wq1 => ?_)
  obtain ⟨rfl, hR1, hF1⟩ := wq1
  by_cases hl : V.length < 96
  · rw [decide_eq_true hl]
    show PZ _ _ _ _ _ _ [.int (nI 1)] _ _ _
    refine N_if_eq (tgt := 73) dX12_encode_66 (by decide) (by decide) (fun hc => absurd hc (by decide)) (fun _ => ?_)
    refine R_iconst (v := (nI 1)) dX12_encode_69 (by decide) ?_
    refine R_goto (tgt := 74) dX12_encode_70 (by decide) ?_
    exact R_retz dX12_encode_74 rfl rfl rfl rfl ⟨bz_c1 (by rw [he, len1]; omega), he ▸ hR1, hF.trans hF1⟩
  · rw [decide_eq_false hl]
    show PZ _ _ _ _ _ _ [.int (nI 0)] _ _ _
    refine N_if_eq (tgt := 73) dX12_encode_66 (by decide) (by decide) (fun _ => ?_) (fun hc => absurd hc (by decide))
    refine R_iconst (v := (nI 0)) dX12_encode_73 (by decide) ?_
    exact R_retz dX12_encode_74 rfl rfl rfl rfl ⟨bz_c0 (by rw [he, len1]; omega), he ▸ hR1, hF.trans hF1⟩
set_option maxRecDepth 100000 in
set_option maxHeartbeats 4000000 in
theorem r_enc {cs : List Nat} {sc un wd : Nat} {a x : Nat} (hx : cof x ≠ 255) (hx2 : x < 256) (H : RwAt hp a (cs, sc, un, wd)) : SpI l X mX12_encode [.ref a, .int (nI x)] hp (fun r hp' => r = bz (decide ((encV un sc cs x).length ≤ 96)) ∧ RwAt hp' a ((encV un sc cs x).take 96, sc, un, wd) ∧ Fr [a] hp hp') := by
  obtain ⟨f, Ha, hR⟩ := id H
  obtain ⟨h0, h1, h2, h3, hf, hL, hC, hs, hu, hw1, hw2⟩ := hR.to
  have hcx := cof_lt hx
  have hcl := cfor_le x
  have hal : cAll un sc cs ≤ 1 := cAll_le cs hs
  refine SpI.of pnX12 (Nat.le_of_ble_eq_true rfl) rfl ?_
  refine R_iload_n dX12_encode_0 rfl rfl ?_
  refine R_stati (As := [.int (nI x)]) (st := []) kX12_codeOf lX12_95 (r_codeOf hx2) dX12_encode_1 rfl rfl (Nat.le_of_ble_eq_true rfl) ⟨by decide, by decide⟩ zX12_codeOf ⟨Nat.le_refl _, Nat.le_refl _⟩ (fun wr3 wp2 wq1 => ?_)
  obtain ⟨rfl, rfl⟩ : wr3 = _ ∧ hp = wp2 := ⟨wq1.1, wq1.2.symm⟩
  rw [cofR_t hx]
  refine R_istore_n (lv' := [some (.ref a), some (.int (nI x)), some (.int (nI (100 * cfor x + cof x))), none, none, none]) dX12_encode_4 rfl (by decide) rfl ?_
  refine R_iload_n dX12_encode_5 rfl rfl ?_
  refine R_bipush (v := (nI 100)) dX12_encode_6 (by decide) ?_
  refine N_idiv dX12_encode_8 (by omega) (by omega) (by omega) ?_
  have e8 : (100 * cfor x + cof x) / 100 = cfor x := by omega
  rw [e8]
  refine R_istore_n (lv' := [some (.ref a), some (.int (nI x)), some (.int (nI (100 * cfor x + cof x))), some (.int (nI (cfor x))), none, none]) dX12_encode_9 rfl (by decide) rfl ?_
  refine R_aload_n dX12_encode_10 rfl rfl ?_
  refine R_stati (As := [.ref a]) (st := []) kX12_caseOfAll lX12_112 (r_call H) dX12_encode_11 rfl rfl (Nat.le_of_ble_eq_true rfl) ⟨by decide, by decide⟩ zX12_caseOfAll ⟨Nat.le_refl _, Nat.le_refl _⟩ (fun wr6 wp5 wq4 => ?_)
  obtain ⟨rfl, rfl⟩ : wr6 = _ ∧ hp = wp5 := ⟨wq4.1, wq4.2.symm⟩
  refine R_istore (lv' := [some (.ref a), some (.int (nI x)), some (.int (nI (100 * cfor x + cof x))), some (.int (nI (cfor x))), some (.int (nI (cAll un sc cs))), none]) dX12_encode_14 (by decide) rfl ?_
  refine R_iload_n dX12_encode_16 rfl rfl ?_
  refine R_iconst (v := (nI 2)) dX12_encode_17 (by decide) ?_
  refine N_icmp_eq (tgt := 46) dX12_encode_18 (by decide) (by omega) (by omega) (fun hb => ?_) (fun hb => ?_)
  · refine R_iconst (v := (nI 1)) dX12_encode_46 (by decide) ?_
    refine R_goto (tgt := 51) dX12_encode_47 (by decide) ?_
    refine R_istore (lv' := [some (.ref a), some (.int (nI x)), some (.int (nI (100 * cfor x + cof x))), some (.int (nI (cfor x))), some (.int (nI (cAll un sc cs))), some (.int (nI 1))]) dX12_encode_51 (by decide) rfl ?_
    exact r_enc2 (g := 0) hx hL H Fr.rf (by unfold encV shfV; rw [if_pos (.inl hb)])
  · refine R_iload_n dX12_encode_21 rfl rfl ?_
    refine R_iload dX12_encode_22 rfl ?_
    refine N_icmp_eq (tgt := 46) dX12_encode_24 (by decide) (by omega) (by omega) (fun hb2 => ?_) (fun hb2 => ?_)
    · refine R_iconst (v := (nI 1)) dX12_encode_46 (by decide) ?_
      refine R_goto (tgt := 51) dX12_encode_47 (by decide) ?_
      refine R_istore (lv' := [some (.ref a), some (.int (nI x)), some (.int (nI (100 * cfor x + cof x))), some (.int (nI (cfor x))), some (.int (nI (cAll un sc cs))), some (.int (nI 1))]) dX12_encode_51 (by decide) rfl ?_
      exact r_enc2 (g := 0) hx hL H Fr.rf (by unfold encV shfV; rw [if_pos (.inr hb2)])
    · refine R_aload_n dX12_encode_27 rfl rfl ?_
      refine R_iload_n dX12_encode_28 rfl rfl ?_
      refine R_iconst (v := (nI 1)) dX12_encode_29 (by decide) ?_
      refine N_icmp_ne (tgt := 38) dX12_encode_30 (by decide) (by omega) (by omega) (fun h1f => ?_) (fun h1f => ?_)
      · refine R_bipush (v := (nI 30)) dX12_encode_38 (by decide) ?_
        refine R_stati (As := [.ref a, .int (nI 30)]) (st := []) kX12_put lX12_116 (r_put (by decide) H) dX12_encode_40 rfl rfl (Nat.le_of_ble_eq_true rfl) ⟨by decide, by decide⟩ zX12_put ⟨Nat.le_refl _, Nat.le_refl _⟩ (fun wr9 wp8 wq7 => ?_)
        obtain ⟨rfl, hR1, hF1⟩ := wq7
        have he : encV un sc cs x = cs ++ [30] ++ [cof x] := by unfold encV shfV; rw [if_neg (by omega), if_neg (by omega)]
        by_cases hl : cs.length < 96
        · rw [decide_eq_true hl]
          show PZ _ _ _ _ _ _ [.int (nI 1)] _ _ _
          refine N_if_eq (tgt := 50) dX12_encode_43 (by decide) (by decide) (fun hc => absurd hc (by decide)) (fun _ => ?_)
          refine R_iconst (v := (nI 1)) dX12_encode_46 (by decide) ?_
          refine R_goto (tgt := 51) dX12_encode_47 (by decide) ?_
          refine R_istore (lv' := [some (.ref a), some (.int (nI x)), some (.int (nI (100 * cfor x + cof x))), some (.int (nI (cfor x))), some (.int (nI (cAll un sc cs))), some (.int (nI 1))]) dX12_encode_51 (by decide) rfl ?_
          rw [tk96 hl] at hR1
          exact r_enc2 (g := 0) hx (by rw [len1]; omega) hR1 hF1 he
        · rw [decide_eq_false hl]
          show PZ _ _ _ _ _ _ [.int (nI 0)] _ _ _
          refine N_if_eq (tgt := 50) dX12_encode_43 (by decide) (by decide) (fun _ => ?_) (fun hc => absurd hc (by decide))
          refine R_iconst (v := (nI 0)) dX12_encode_50 (by decide) ?_
          refine R_istore (lv' := [some (.ref a), some (.int (nI x)), some (.int (nI (100 * cfor x + cof x))), some (.int (nI (cfor x))), some (.int (nI (cAll un sc cs))), some (.int (nI 0))]) dX12_encode_51 (by decide) rfl ?_
          refine R_iload dX12_encode_53 rfl ?_
          refine N_if_eq (tgt := 73) dX12_encode_55 (by decide) (by decide) (fun _ => ?_) (fun hc => absurd hc (by decide))
          refine R_iconst (v := (nI 0)) dX12_encode_73 (by decide) ?_
          exact R_retz dX12_encode_74 rfl rfl rfl rfl ⟨bz_c0 (by rw [he, len1, len1]; omega), by rw [he, tkn (by rw [len1]; omega)]; exact hR1, hF1⟩
      · refine R_bipush (v := (nI 29)) dX12_encode_33 (by decide) ?_
        refine R_goto (tgt := 40) dX12_encode_35 (by decide) ?_
        refine R_stati (As := [.ref a, .int (nI 29)]) (st := []) kX12_put lX12_116 (r_put (by decide) H) dX12_encode_40 rfl rfl (Nat.le_of_ble_eq_true rfl) ⟨by decide, by decide⟩ zX12_put ⟨Nat.le_refl _, Nat.le_refl _⟩ (fun wr12 wp11 wq10 => ?_)
        obtain ⟨rfl, hR1, hF1⟩ := wq10
        have he : encV un sc cs x = cs ++ [29] ++ [cof x] := by unfold encV shfV; rw [if_neg (by omega), if_pos (by omega)]
        by_cases hl : cs.length < 96
        · rw [decide_eq_true hl]
          show PZ _ _ _ _ _ _ [.int (nI 1)] _ _ _
          refine N_if_eq (tgt := 50) dX12_encode_43 (by decide) (by decide) (fun hc => absurd hc (by decide)) (fun _ => ?_)
          refine R_iconst (v := (nI 1)) dX12_encode_46 (by decide) ?_
          refine R_goto (tgt := 51) dX12_encode_47 (by decide) ?_
          refine R_istore (lv' := [some (.ref a), some (.int (nI x)), some (.int (nI (100 * cfor x + cof x))), some (.int (nI (cfor x))), some (.int (nI (cAll un sc cs))), some (.int (nI 1))]) dX12_encode_51 (by decide) rfl ?_
          rw [tk96 hl] at hR1
          exact r_enc2 (g := 0) hx (by rw [len1]; omega) hR1 hF1 he
        · rw [decide_eq_false hl]
          show PZ _ _ _ _ _ _ [.int (nI 0)] _ _ _
          refine N_if_eq (tgt := 50) dX12_encode_43 (by decide) (by decide) (fun _ => ?_) (fun hc => absurd hc (by decide))
          refine R_iconst (v := (nI 0)) dX12_encode_50 (by decide) ?_
          refine R_istore (lv' := [some (.ref a), some (.int (nI x)), some (.int (nI (100 * cfor x + cof x))), some (.int (nI (cfor x))), some (.int (nI (cAll un sc cs))), some (.int (nI 0))]) dX12_encode_51 (by decide) rfl ?_
          refine R_iload dX12_encode_53 rfl ?_
          refine N_if_eq (tgt := 73) dX12_encode_55 (by decide) (by decide) (fun _ => ?_) (fun hc => absurd hc (by decide))
          refine R_iconst (v := (nI 0)) dX12_encode_73 (by decide) ?_
          exact R_retz dX12_encode_74 rfl rfl rfl rfl ⟨bz_c0 (by rw [he, len1, len1]; omega), by rw [he, tkn (by rw [len1]; omega)]; exact hR1, hF1⟩
set_option maxRecDepth 100000 in
set_option maxHeartbeats 4000000 in
theorem r_tkL {cs : List Nat} {sc un wd : Nat} {a j : Nat} (hj : j < cs.length) (hL : cs.length ≤ 96) (hC : ∀ c ∈ cs, c < 32) (hs : sc ≤ 1) (hu : un ≤ 1) (hw1 : 5 ≤ wd) (hw2 : wd ≤ 40) : ∀ (d i : Nat) (hq : HPt) (g : Nat → Int32), i + d + 1 = cs.length → j ≤ i → hq[a]? = some (ia 100 g) → g 0 = nI (cs.length - 1) → g 1 = nI sc → g 2 = nI un → g 3 = nI wd → (∀ q (h : q < i), (hl : q < (cs.eraseIdx j).length) → g (4 + q) = nI (cs.eraseIdx j)[q]) → (∀ q, i ≤ q → (h : q + 1 < cs.length) → g (4 + q + 1) = nI cs[q + 1]) → Fr [a] hp hq → PZ l X (MZv X mX12_takeOut (fun hp' => RwAt hp' a (cs.eraseIdx j, sc, un, wd) ∧ Fr [a] hp hp')) mX12_takeOut 9 [some (.ref a), some (.int (nI j)), some (.int (nI i))] [] hq 0 0 := by
  have hel : (cs.eraseIdx j).length = cs.length - 1 := List.length_eraseIdx_of_lt hj
  intro d
  induction d with
  | zero =>
    intro i hq g hi hji Ha hg0 hg1 hg2 hg3 hgl hgt hF
    refine R_iload_n dX12_takeOut_9 rfl rfl ?_
    refine R_aload_n dX12_takeOut_10 rfl rfl ?_
    refine R_iconst (v := (nI 0)) dX12_takeOut_11 (by decide) ?_
    refine N_iald (y := (nI (cs.length - 1))) dX12_takeOut_12 Ha (by decide) (by decide) hg0 ?_
    refine N_icmp_ge (tgt := 34) dX12_takeOut_13 (by decide) (by omega) (by omega) (fun _ => ?_) (fun hc => absurd hc (by omega))
    refine R_aload_n dX12_takeOut_34 rfl rfl ?_
    refine R_iconst (v := (nI 4)) dX12_takeOut_35 (by decide) ?_
    refine R_aload_n dX12_takeOut_36 rfl rfl ?_
    refine R_iconst (v := (nI 0)) dX12_takeOut_37 (by decide) ?_
    refine N_iald (y := (nI (cs.length - 1))) dX12_takeOut_38 Ha (by decide) (by decide) hg0 ?_
    refine N_iadd dX12_takeOut_39 ?_
    refine R_iconst (v := (nI 0)) dX12_takeOut_40 (by decide) ?_
    obtain ⟨g2, eg2⟩ : ∃ y, y = upd g (4 + (cs.length - 1)) (nI 0) := ⟨_, rfl⟩
    refine W_iast (f' := g2) dX12_takeOut_41 Ha (by omega) (by decide) eg2 (fun wp1 wH2 wE3 => ?_)
    have wF4 : Fr [a] hp wp1 := hF.trans (Fr.one wE3 (by simp))
    exact R_retv dX12_takeOut_42 rfl rfl rfl ⟨⟨g2, wH2, RwH.to ⟨by rw [eg2, upd_n (by omega), hel]; exact hg0, by rw [eg2, upd_n (by omega)]; exact hg1, by rw [eg2, upd_n (by omega)]; exact hg2, by rw [eg2, upd_n (by omega)]; exact hg3, fun q hq2 => by rw [eg2, upd_n (by omega)]; exact hgl q (by omega) hq2, by omega, fun x hx => hC x (List.mem_of_mem_eraseIdx hx), hs, hu, hw1, hw2⟩⟩, wF4⟩
  | succ d ih =>
    intro i hq g hi hji Ha hg0 hg1 hg2 hg3 hgl hgt hF
    refine R_iload_n dX12_takeOut_9 rfl rfl ?_
    refine R_aload_n dX12_takeOut_10 rfl rfl ?_
    refine R_iconst (v := (nI 0)) dX12_takeOut_11 (by decide) ?_
    refine N_iald (y := (nI (cs.length - 1))) dX12_takeOut_12 Ha (by decide) (by decide) hg0 ?_
    refine N_icmp_ge (tgt := 34) dX12_takeOut_13 (by decide) (by omega) (by omega) (fun hc => absurd hc (by omega)) (fun _ => ?_)
    refine R_aload_n dX12_takeOut_16 rfl rfl ?_
    refine R_iconst (v := (nI 4)) dX12_takeOut_17 (by decide) ?_
    refine R_iload_n dX12_takeOut_18 rfl rfl ?_
    refine N_iadd dX12_takeOut_19 ?_
    refine R_aload_n dX12_takeOut_20 rfl rfl ?_
    refine R_iconst (v := (nI 4)) dX12_takeOut_21 (by decide) ?_
    refine R_iload_n dX12_takeOut_22 rfl rfl ?_
    refine N_iadd dX12_takeOut_23 ?_
    refine R_iconst (v := (nI 1)) dX12_takeOut_24 (by decide) ?_
    refine N_iadd dX12_takeOut_25 ?_
    refine N_iald (y := (nI (cs[i + 1]))) dX12_takeOut_26 Ha (by omega) (by decide) (hgt i (by omega) (by omega)) ?_
    obtain ⟨g2, eg2⟩ : ∃ y, y = upd g (4 + i) (nI (cs[i + 1])) := ⟨_, rfl⟩
    refine W_iast (f' := g2) dX12_takeOut_27 Ha (by omega) (by decide) eg2 (fun wp5 wH6 wE7 => ?_)
    have wF8 : Fr [a] hp wp5 := hF.trans (Fr.one wE7 (by simp))
    refine N_iinc (d := 1) (lv' := [some (.ref a), some (.int (nI j)), some (.int (nI (i + 1)))]) dX12_takeOut_28 rfl rfl ?_
    refine R_goto (tgt := 9) dX12_takeOut_31 (by decide) ?_
    refine ih (i + 1) _ g2 (by omega) (by omega) wH6 (by rw [eg2, upd_n (by omega)]; exact hg0) (by rw [eg2, upd_n (by omega)]; exact hg1) (by rw [eg2, upd_n (by omega)]; exact hg2) (by rw [eg2, upd_n (by omega)]; exact hg3) (fun q h hl => ?_) (fun q h h2 => by rw [eg2, upd_n (by omega)]; exact hgt q (by omega) h2) wF8
    by_cases hqi : q = i
    · subst hqi
      rw [eg2, upd_s, List.getElem_eraseIdx, dif_neg (by omega)]
    · rw [eg2, upd_n (by omega)]; exact hgl q (by omega) hl
set_option maxRecDepth 100000 in
set_option maxHeartbeats 4000000 in
theorem r_tk {cs : List Nat} {sc un wd : Nat} {a j : Nat} (hj : j < cs.length) (H : RwAt hp a (cs, sc, un, wd)) : SpV l X mX12_takeOut [.ref a, .int (nI j)] hp (fun hp' => RwAt hp' a (cs.eraseIdx j, sc, un, wd) ∧ Fr [a] hp hp') := by
  obtain ⟨f, Ha, hR⟩ := H
  obtain ⟨h0, h1, h2, h3, hf, hL, hC, hs, hu, hw1, hw2⟩ := hR.to
  refine SpV.of pnX12 (Nat.le_of_ble_eq_true rfl) rfl ?_
  refine R_aload_n dX12_takeOut_0 rfl rfl ?_
  refine R_iconst (v := (nI 0)) dX12_takeOut_1 (by decide) ?_
  refine R_dup2 dX12_takeOut_2 rfl rfl ?_
  refine N_iald (y := (nI (cs.length))) dX12_takeOut_3 Ha (by decide) (by decide) h0 ?_
  refine R_iconst (v := (nI 1)) dX12_takeOut_4 (by decide) ?_
  refine N_isub dX12_takeOut_5 (by omega) ?_
  obtain ⟨g2, eg2⟩ : ∃ y, y = upd f 0 (nI ((cs.length) - 1)) := ⟨_, rfl⟩
  refine W_iast (f' := g2) dX12_takeOut_6 Ha (by decide) (by decide) eg2 (fun wp1 wH2 wE3 => ?_)
  have wF4 : Fr [a] hp wp1 := Fr.one wE3 (by simp)
  refine R_iload_n dX12_takeOut_7 rfl rfl ?_
  refine R_istore_n (lv' := [some (.ref a), some (.int (nI j)), some (.int (nI j))]) dX12_takeOut_8 rfl (by decide) rfl ?_
  refine r_tkL hj hL hC hs hu hw1 hw2 (cs.length - 1 - j) j _ g2 (by omega) (Nat.le_refl _) wH2 (by rw [eg2, upd_s]) (by rw [eg2, upd_n (by omega)]; exact h1) (by rw [eg2, upd_n (by omega)]; exact h2) (by rw [eg2, upd_n (by omega)]; exact h3) (fun q h hl => ?_) (fun q h h2 => by rw [eg2, upd_n (by omega)]; exact hf (q + 1) h2) wF4
  rw [eg2, upd_n (by omega), List.getElem_eraseIdx, dif_pos h]; exact hf q (by omega)
set_option maxRecDepth 100000 in
set_option maxHeartbeats 4000000 in
theorem r_lpL {cs : List Nat} {sc un wd : Nat} {a b c : Nat} (hab : a ≠ b) (hac : a ≠ c) (hbc : b ≠ c) {f : Nat → Int32} (hR : RwF f 0 (cs, sc, un, wd)) : ∀ (d j : Nat) (hz : HPt) (g w : Nat → Int32), j + d = cs.length → hz[a]? = some (ia 100 f) → hz[b]? = some (ia 96 g) → hz[c]? = some (ia 97 w) → (∀ (q : Nat) (h : q < j) (hq : q < cs.length), g q = prt cs[q] (cAt un sc cs q)) → (∀ q, q ≤ j → w q = nI (cAt un sc cs q)) → Fr [b, c] hp hz → PZ l X (MZv X mX12_layPrints (fun hp' => (∃ g w : Nat → Int32, hp'[b]? = some (ia 96 g) ∧ hp'[c]? = some (ia 97 w) ∧ (∀ (q : Nat) (hq : q < cs.length), g q = prt cs[q] (cAt un sc cs q)) ∧ (∀ q, q ≤ cs.length → w q = nI (cAt un sc cs q))) ∧ Fr [b, c] hp hp')) mX12_layPrints 8 [some (.ref a), some (.ref b), some (.ref c), some (.int (nI j))] [] hz 0 0 := by
  intro d
  obtain ⟨h0, h1, h2, h3, hf, hL, hC, hs, hu, hw1, hw2⟩ := hR.to
  induction d with
  | zero =>
    intro j hz g w hj Ha Hb Hc hg hw hF
    refine R_iload_n dX12_layPrints_8 rfl rfl ?_
    refine R_aload_n dX12_layPrints_9 rfl rfl ?_
    refine R_iconst (v := (nI 0)) dX12_layPrints_10 (by decide) ?_
    refine N_iald (y := (nI (cs.length))) dX12_layPrints_11 Ha (by decide) (by decide) h0 ?_
    refine N_icmp_ge (tgt := 54) dX12_layPrints_12 (by decide) (by omega) (by omega) (fun _ => ?_) (fun hc => absurd hc (by omega))
    exact R_retv dX12_layPrints_54 rfl rfl rfl ⟨⟨g, w, Hb, Hc, fun q hq => hg q (by omega) hq, fun q hq => hw q (by omega)⟩, hF⟩
  | succ d ih =>
    intro j hz g w hj Ha Hb Hc hg hw hF
    have hc1 := hC cs[j] (List.getElem_mem (by omega))
    have hcl : cAt un sc cs j ≤ 1 := cAt_le hs
    refine R_iload_n dX12_layPrints_8 rfl rfl ?_
    refine R_aload_n dX12_layPrints_9 rfl rfl ?_
    refine R_iconst (v := (nI 0)) dX12_layPrints_10 (by decide) ?_
    refine N_iald (y := (nI (cs.length))) dX12_layPrints_11 Ha (by decide) (by decide) h0 ?_
    refine N_icmp_ge (tgt := 54) dX12_layPrints_12 (by decide) (by omega) (by omega) (fun hc => absurd hc (by omega)) (fun _ => ?_)
    refine R_aload_n dX12_layPrints_15 rfl rfl ?_
    refine R_iload_n dX12_layPrints_16 rfl rfl ?_
    refine R_aload_n dX12_layPrints_17 rfl rfl ?_
    refine R_iconst (v := (nI 4)) dX12_layPrints_18 (by decide) ?_
    refine R_iload_n dX12_layPrints_19 rfl rfl ?_
    refine N_iadd dX12_layPrints_20 ?_
    refine N_iald (y := (nI (cs[j]))) dX12_layPrints_21 Ha (by omega) (by decide) (hf j (by omega)) ?_
    refine R_aload_n dX12_layPrints_22 rfl rfl ?_
    refine R_iload_n dX12_layPrints_23 rfl rfl ?_
    refine N_iald (y := (nI (cAt un sc cs j))) dX12_layPrints_24 Hc (by omega) (by decide) (hw j (by omega)) ?_
    refine R_stati (As := [.int (nI (cs[j])), .int (nI (cAt un sc cs j))]) (st := [.int (nI j), .ref b]) kX12_printOf lX12_71 (r_print hc1 hcl) dX12_layPrints_25 rfl rfl (Nat.le_of_ble_eq_true rfl) ⟨by decide, by decide⟩ zX12_printOf ⟨Nat.le_refl _, Nat.le_refl _⟩ (fun wr3 wp2 wq1 => ?_)
    obtain ⟨rfl, rfl⟩ : wr3 = _ ∧ hz = wp2 := ⟨wq1.1, wq1.2.symm⟩
    obtain ⟨g2, eg2⟩ : ∃ y, y = upd g j (prt cs[j] (cAt un sc cs j)) := ⟨_, rfl⟩
    refine W_iast (f' := g2) dX12_layPrints_28 Hb (by omega) (by decide) eg2 (fun wp4 wH5 wE6 => ?_)
    have wH7 := (wE6 a hab).trans Ha
    have wH8 := (wE6 c (Ne.symm hbc)).trans Hc
    have wF9 : Fr [b, c] hp wp4 := hF.trans (Fr.one wE6 (by simp))
    refine R_aload_n dX12_layPrints_29 rfl rfl ?_
    refine R_iload_n dX12_layPrints_30 rfl rfl ?_
    refine R_iconst (v := (nI 1)) dX12_layPrints_31 (by decide) ?_
    refine N_iadd dX12_layPrints_32 ?_
    refine R_aload_n dX12_layPrints_33 rfl rfl ?_
    refine R_iconst (v := (nI 4)) dX12_layPrints_34 (by decide) ?_
    refine R_iload_n dX12_layPrints_35 rfl rfl ?_
    refine N_iadd dX12_layPrints_36 ?_
    refine N_iald (y := (nI (cs[j]))) dX12_layPrints_37 wH7 (by omega) (by decide) (hf j (by omega)) ?_
    refine R_aload_n dX12_layPrints_38 rfl rfl ?_
    refine R_iload_n dX12_layPrints_39 rfl rfl ?_
    refine N_iald (y := (nI (cAt un sc cs j))) dX12_layPrints_40 wH8 (by omega) (by decide) (hw j (by omega)) ?_
    refine R_aload_n dX12_layPrints_41 rfl rfl ?_
    refine R_iconst (v := (nI 2)) dX12_layPrints_42 (by decide) ?_
    refine N_iald (y := (nI un)) dX12_layPrints_43 wH7 (by decide) (by decide) h2 ?_
    refine R_stati (As := [.int (nI (cs[j])), .int (nI (cAt un sc cs j)), .int (nI un)]) (st := [.int (nI (j + 1)), .ref c]) kX12_caseAfter lX12_75 (r_aft hc1 hcl hu) dX12_layPrints_44 rfl rfl (Nat.le_of_ble_eq_true rfl) ⟨by decide, by decide⟩ zX12_caseAfter ⟨Nat.le_refl _, Nat.le_refl _⟩ (fun wr12 wp11 wq10 => ?_)
    obtain ⟨rfl, rfl⟩ : wr12 = _ ∧ wp4 = wp11 := ⟨wq10.1, wq10.2.symm⟩
    obtain ⟨w2, ew2⟩ : ∃ y, y = upd w (j + 1) (nI (cAft un cs[j] (cAt un sc cs j))) := ⟨_, rfl⟩
    refine W_iast (f' := w2) dX12_layPrints_47 wH8 (by omega) (by decide) ew2 (fun wp13 wH14 wE15 => ?_)
    have wH16 := (wE15 a hac).trans wH7
    have wH17 := (wE15 b hbc).trans wH5
    have wF18 : Fr [b, c] hp wp13 := wF9.trans (Fr.one wE15 (by simp))
    refine N_iinc (d := 1) (lv' := [some (.ref a), some (.ref b), some (.ref c), some (.int (nI (j + 1)))]) dX12_layPrints_48 rfl rfl ?_
    refine R_goto (tgt := 8) dX12_layPrints_51 (by decide) ?_
    refine ih (j + 1) _ g2 w2 (by omega) wH16 wH17 wH14 (fun q h hq => ?_) (fun q h => ?_) wF18
    · by_cases e : q = j
      · subst e; rw [eg2, upd_s]
      · rw [eg2, upd_n e]; exact hg q (by omega) hq
    · by_cases e : q = j + 1
      · subst e; rw [ew2, upd_s, cAt_s (by omega)]
      · rw [ew2, upd_n e]; exact hw q (by omega)
set_option maxRecDepth 100000 in
set_option maxHeartbeats 4000000 in
theorem r_lp {cs : List Nat} {sc un wd : Nat} {a b c : Nat} (hab : a ≠ b) (hac : a ≠ c) (hbc : b ≠ c) {g w : Nat → Int32} (H : RwAt hp a (cs, sc, un, wd)) (Hb : hp[b]? = some (ia 96 g)) (Hc : hp[c]? = some (ia 97 w)) : SpV l X mX12_layPrints [.ref a, .ref b, .ref c] hp (fun hp' => (∃ g w : Nat → Int32, hp'[b]? = some (ia 96 g) ∧ hp'[c]? = some (ia 97 w) ∧ (∀ (q : Nat) (hq : q < cs.length), g q = prt cs[q] (cAt un sc cs q)) ∧ (∀ q, q ≤ cs.length → w q = nI (cAt un sc cs q))) ∧ Fr [b, c] hp hp') := by
  obtain ⟨f, Ha, hR⟩ := H
  obtain ⟨h0, h1, h2, h3, hf, hL, hC, hs, hu, hw1, hw2⟩ := hR.to
  refine SpV.of pnX12 (Nat.le_of_ble_eq_true rfl) rfl ?_
  refine R_aload_n dX12_layPrints_0 rfl rfl ?_
  refine R_iconst (v := (nI 0)) dX12_layPrints_1 (by decide) ?_
  refine R_aload_n dX12_layPrints_2 rfl rfl ?_
  refine R_iconst (v := (nI 1)) dX12_layPrints_3 (by decide) ?_
  refine N_iald (y := (nI sc)) dX12_layPrints_4 Ha (by decide) (by decide) h1 ?_
  obtain ⟨w2, ew2⟩ : ∃ y, y = upd w 0 (nI sc) := ⟨_, rfl⟩
  refine W_iast (f' := w2) dX12_layPrints_5 Hc (by decide) (by decide) ew2 (fun wp1 wH2 wE3 => ?_)
  have wH4 := (wE3 a hac).trans Ha
  have wH5 := (wE3 b hbc).trans Hb
  have wF6 : Fr [b, c] hp wp1 := Fr.one wE3 (by simp)
  refine R_iconst (v := (nI 0)) dX12_layPrints_6 (by decide) ?_
  refine R_istore_n (lv' := [some (.ref a), some (.ref b), some (.ref c), some (.int (nI 0))]) dX12_layPrints_7 rfl (by decide) rfl ?_
  exact r_lpL hab hac hbc hR cs.length 0 _ g w2 (by omega) wH4 wH5 wH2 (fun q h => absurd h (by omega)) (fun q h => by rw [show q = 0 by omega, ew2, upd_s, cAt_0]) wF6
end R31
