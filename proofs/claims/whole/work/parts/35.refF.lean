/-! The reference's calls, third part -/
theorem RwF.st {f : Nat → Int32} {cs : List Nat} {sc un wd j c : Nat} (h : RwF f 0 (cs, sc, un, wd)) (hj : j < cs.length) (hc : c < 32) : RwF (upd f (4 + j) (nI c)) 0 (cs.set j c, sc, un, wd) := by
  obtain ⟨h0, h1, h2, h3, hf, hL, hC, r⟩ := h.to
  refine RwH.to ⟨by rw [upd_n (by omega), List.length_set]; exact h0, by rw [upd_n (by omega)]; exact h1, by rw [upd_n (by omega)]; exact h2, by rw [upd_n (by omega)]; exact h3, fun i hi => ?_, by rw [List.length_set]; omega, fun x hx => ?_, r⟩
  · rw [List.length_set] at hi
    rw [List.getElem_set]
    by_cases e : j = i
    · subst e; rw [upd_s, if_pos rfl]
    · rw [upd_n (by omega), if_neg e]; exact hf i hi
  · rcases List.mem_or_eq_of_mem_set hx with h | h
    · exact hC x h
    · rw [h]; exact hc
theorem er_take {cs : List Nat} {i : Nat} (h : i < cs.length) : (cs.eraseIdx i).take i = cs.take i := by
  rw [List.eraseIdx_eq_take_drop_succ, List.take_append_of_le_length (by rw [List.length_take]; omega), List.take_take, Nat.min_self]
theorem cAt_er0 {un sc : Nat} {cs : List Nat} {i : Nat} (h : i < cs.length) : cAt un sc (cs.eraseIdx i) i = cAt un sc cs i := by unfold cAt; rw [er_take h]
theorem er_at {cs : List Nat} {i j : Nat} (h : i < cs.length) (hij : i < j) (hj : j < cs.length) (h2 : j - 1 < (cs.eraseIdx i).length) : (cs.eraseIdx i)[j - 1] = cs[j] := by
  rw [List.getElem_eraseIdx, dif_neg (by omega)]
  congr 1; omega
section R35
variable {l : Launch} {X : EX} {hp : HPt}
set_option maxRecDepth 100000 in
set_option maxHeartbeats 4000000 in
theorem r_svL {Z : ZT} {ln ac nxx sn sx tl sl st : Int32} {js : Nat} {f f0 : Nat → Int32} (hjs : js < 2) (K : ∀ (hz : HPt) (g : Nat → Int32), hz[61]? = some (ob 11 [.ref 62, .int (ln), .ref 63, .ref 64, .ref 65, .int (ac), .int (nxx), .ref 66, .ref 67, .ref 68, .ref 69, .int (sn), .int (sx), .ref 70, .ref 71, .ref 72, .ref 73, .ref 74, .int (tl), .ref 75, .int (sl), .ref 76, .int (st), .ref 77]) → hz[63]? = some (ia 100 f) → hz[66]? = some (ia 200 g) → (∀ q, q < 100 → g (100 * js + q) = f (q)) → (∀ q, (q < 100 * js + 0 ∨ 100 * js + 0 + 100 ≤ q) → g q = f0 q) → Fr [66] hp hz → PZ l X Z mX12_save 50 [some (.ref 61), some (.int (nI js)), some (.int (nI 100))] [] hz 0 0) : ∀ (d j : Nat) (hz : HPt) (g : Nat → Int32), j + d = 100 → hz[61]? = some (ob 11 [.ref 62, .int (ln), .ref 63, .ref 64, .ref 65, .int (ac), .int (nxx), .ref 66, .ref 67, .ref 68, .ref 69, .int (sn), .int (sx), .ref 70, .ref 71, .ref 72, .ref 73, .ref 74, .int (tl), .ref 75, .int (sl), .ref 76, .int (st), .ref 77]) → hz[63]? = some (ia 100 f) → hz[66]? = some (ia 200 g) → (∀ q, q < j → g (100 * js + q) = f (q)) → (∀ q, (q < 100 * js + 0 ∨ 100 * js + 0 + 100 ≤ q) → g q = f0 q) → Fr [66] hp hz → PZ l X Z mX12_save 21 [some (.ref 61), some (.int (nI js)), some (.int (nI j))] [] hz 0 0 := by
  intro d
  induction d with
  | zero =>
    intro j hz g hj H0 Hs Hd hg ho hF
    have hje : j = 100 := by omega
    subst hje
    refine R_iload_n dX12_save_21 rfl rfl ?_
    refine R_bipush (v := (nI 100)) dX12_save_22 (by decide) ?_
    refine N_icmp_ge (tgt := 50) dX12_save_24 (by decide) (by omega) (by omega) (fun _ => ?_) (fun hc => absurd hc (by omega))
    exact K hz g H0 Hs Hd hg ho hF
  | succ d ih =>
    intro j hz g hj H0 Hs Hd hg ho hF
    refine R_iload_n dX12_save_21 rfl rfl ?_
    refine R_bipush (v := (nI 100)) dX12_save_22 (by decide) ?_
    refine N_icmp_ge (tgt := 50) dX12_save_24 (by decide) (by omega) (by omega) (fun hc => absurd hc (by omega)) (fun _ => ?_)
    refine R_aload_n dX12_save_27 rfl rfl ?_
    refine R_getf dX12_save_28 gX12_22 H0 rfl ?_
    refine R_bipush (v := (nI 100)) dX12_save_31 (by decide) ?_
    refine R_iload_n dX12_save_33 rfl rfl ?_
    refine N_imul dX12_save_34 ?_
    refine R_iload_n dX12_save_35 rfl rfl ?_
    refine N_iadd dX12_save_36 ?_
    refine R_aload_n dX12_save_37 rfl rfl ?_
    refine R_getf dX12_save_38 gX12_13 H0 rfl ?_
    refine R_iload_n dX12_save_41 rfl rfl ?_
    refine N_iald (y := (f (j))) dX12_save_42 Hs (by omega) (by decide) rfl ?_
    obtain ⟨g2, eg2⟩ : ∃ y, y = upd g ((100 * js) + j) (f (j)) := ⟨_, rfl⟩
    refine W_iast (f' := g2) dX12_save_43 Hd (by omega) (by decide) eg2 (fun wp1 wH2 wE3 => ?_)
    have wH4 := (wE3 61 (by decide)).trans H0
    have wH5 := (wE3 63 (by decide)).trans Hs
    have wF6 : Fr [66] hp wp1 := hF.trans (Fr.one wE3 (by simp))
    refine N_iinc (d := 1) (lv' := [some (.ref 61), some (.int (nI js)), some (.int (nI (j + 1)))]) dX12_save_44 rfl rfl ?_
    refine R_goto (tgt := 21) dX12_save_47 (by decide) ?_
    refine ih (j + 1) _ g2 (by omega) wH4 wH5 wH2 (fun q hq => ?_) (fun q hq => by rw [eg2, upd_n (by omega)]; exact ho q hq) wF6
    by_cases e : q = j
    · subst e; rw [eg2, upd_s]
    · rw [eg2, upd_n (by omega)]; exact hg q (by omega)
set_option maxRecDepth 100000 in
set_option maxHeartbeats 4000000 in
theorem y_save {ms : List Nat} {cs : List Nat} {sc un wd : Nat} {hs : List TP} {s0 s1 : Option TP} {os : List (Nat × Nat)} {ox : Nat} {j : Int32} (hM : MJ hp (ms, (cs, sc, un, wd), hs, s0, s1, os, ox)) : SpI l X mX12_save [.ref 61, .int (j)] hp (fun r hp' => r = (f_save (ms, (cs, sc, un, wd), hs, s0, s1, os, ox) j).1 ∧ MJ hp' (f_save (ms, (cs, sc, un, wd), hs, s0, s1, os, ox) j).2 ∧ Fr LM hp hp') := by
  obtain ⟨nx, tl, sl, st, M0, MM, MN, MT, MD, MK, MO, A70, A71, A72, A73, A74, A75, A76, A77⟩ := hM
  obtain ⟨hL, hC3, hs1, hu1, hw1, hw2⟩ := MN.ok
  obtain ⟨hmL, hmC⟩ := MM.ok
  obtain ⟨hnx0, hsl0⟩ := MD.ok
  obtain ⟨hol0, hox0⟩ := MO.ok
  refine SpI.of pnX12 (Nat.le_of_ble_eq_true rfl) rfl ?_
  refine R_iload_n dX12_save_0 rfl rfl ?_
  refine R_i2l dX12_save_1 ?_
  refine R_lconst (v := 0) dX12_save_2 (by decide) ?_
  refine R_lconst (v := 1) dX12_save_3 (by decide) ?_
  refine R_stati (As := [.long ((j).toInt64), .long (0), .long (1)]) (st := []) kX12_in lX12_67 (r_inW 0 1 rfl rfl (by decide) (by decide)) dX12_save_4 rfl rfl (Nat.le_of_ble_eq_true rfl) ⟨by decide, by decide⟩ zX12_in ⟨Nat.le_refl _, Nat.le_refl _⟩ (fun wr3 wp2 wq1 => ?_)
  obtain ⟨rfl, rfl⟩ : wr3 = _ ∧ hp = wp2 := ⟨wq1.1, wq1.2.symm⟩
  rw [show inW j 0 1 = inB j 2 from inB_W (n := 2) (by decide)]
  cases hb : inB j 2 with
  | false =>
    show PZ _ _ _ _ _ _ (.int (nI 0) :: _) _ _ _
    refine N_if_ne (tgt := 12) dX12_save_7 (by decide) (by decide) (fun hc => absurd hc (by decide)) (fun _ => ?_)
    have hf : f_save (ms, (cs, sc, un, wd), hs, s0, s1, os, ox) j = (-1, (ms, (cs, sc, un, wd), hs, s0, s1, os, ox)) := by unfold f_save; dsimp only; rw [hb]; rfl
    refine R_iconst (v := (-1)) dX12_save_10 (by decide) ?_
    rw [hf]
    exact R_reti dX12_save_11 rfl rfl rfl ⟨rfl, ⟨_, _, _, _, M0, MM, MN, MT, MD, MK, MO, A70, A71, A72, A73, A74, A75, A76, A77⟩, (Fr.rf (L := LM) (hp := hp))⟩
  | true =>
    show PZ _ _ _ _ _ _ (.int (nI 1) :: _) _ _ _
    obtain ⟨js, hj, rfl⟩ := inB_t (by decide) hb
    refine N_if_ne (tgt := 12) dX12_save_7 (by decide) (by decide) (fun _ => ?_) (fun hc => absurd hc (by decide))
    have hjc : js = 0 ∨ js = 1 := by omega
    rcases hjc with rfl | rfl
    · obtain ⟨fk, u, Hk, Hu, hu0, hu1, hk0, hk1⟩ := id MK
      obtain ⟨f, Ha, hR⟩ := id MN
      obtain ⟨h0, h1, h2, h3, hf, -⟩ := hR.to
      refine R_aload_n dX12_save_12 rfl rfl ?_
      refine R_getf dX12_save_13 gX12_25 M0 rfl ?_
      refine R_iload_n dX12_save_16 rfl rfl ?_
      refine R_iconst (v := (nI 1)) dX12_save_17 (by decide) ?_
      obtain ⟨u2, eu2⟩ : ∃ y, y = upd u 0 (nI 1) := ⟨_, rfl⟩
      refine W_bast (f' := u2) dX12_save_18 Hu (by decide) (by decide) rfl eu2 (fun wp4 wH5 wE6 => ?_)
      have wH7 := (wE6 61 (by decide)).trans M0
      have wH8 := (wE6 63 (by decide)).trans Ha
      have wH9 := (wE6 66 (by decide)).trans Hk
      have wF10 : Fr [67] hp wp4 := Fr.one wE6 (by simp)
      refine R_iconst (v := (nI 0)) dX12_save_19 (by decide) ?_
      refine R_istore_n (lv' := [some (.ref 61), some (.int (nI 0)), some (.int (nI 0))]) dX12_save_20 rfl (by decide) rfl ?_
      refine r_svL (js := 0) (by decide) (f0 := fk) (fun hz g H0 Hs Hg hg ho hF => ?_) 100 0 _ fk (by omega) wH7 wH8 wH9 (fun q hq => absurd hq (by omega)) (fun q hq => rfl) Fr.rf
      have hF9 : Fr [66, 67] hp hz := (wF10.mono (by decide)).trans (hF.mono (by decide))
      have Hu9 := hF.at (by decide) wH5
      have hq1 : KpA hz (some (cs, sc, un, wd)) s1 := ⟨g, u2, Hg, Hu9, by rw [eu2, upd_s]; rfl, by rw [eu2, upd_n (by decide)]; exact hu1, fun T hT => by cases hT; exact hR.cg (fun q hq => by have := hg q hq; simpa using this), fun T hT => (hk1 T hT).cg (fun q hq => ho _ (by omega))⟩
      have c11 := hF9.at (by decide) M0
      have c12 := MM.fr hF9 (by decide)
      have c13 := MN.fr hF9 (by decide)
      have c14 := MT.fr hF9 (by decide)
      have c15 := MD.fr hF9 (by decide)
      have c16 := MO.fr hF9 (by decide) (by decide)
      have c17 := A70.fr hF9 (by decide)
      have c18 := A71.fr hF9 (by decide)
      have c19 := A72.fr hF9 (by decide)
      have c20 := A73.fr hF9 (by decide)
      have c21 := A74.fr hF9 (by decide)
      have c22 := A75.fr hF9 (by decide)
      have c23 := A76.fr hF9 (by decide)
      have c24 := A77.fr hF9 (by decide)
      have FF25 : Fr LM hp hz := (Fr.rf (L := LM) (hp := hp)).trans (hF9.mono (by decide))
      refine R_aload_n dX12_save_50 rfl rfl ?_
      refine R_getf dX12_save_51 gX12_13 c11 rfl ?_
      refine R_iconst (v := (nI 0)) dX12_save_54 (by decide) ?_
      refine N_iald (y := (nI (cs.length))) dX12_save_55 Hs (by decide) (by decide) h0 ?_
      have hf9 : f_save (ms, (cs, sc, un, wd), hs, s0, s1, os, ox) (nI 0) = (nI cs.length, (ms, (cs, sc, un, wd), hs, some (cs, sc, un, wd), s1, os, ox)) := by unfold f_save; dsimp only; rw [hb, if_pos rfl, vN_n (by decide)]; rfl
      rw [hf9]
      exact R_reti dX12_save_56 rfl rfl rfl ⟨rfl, ⟨_, _, _, _, c11, c12, c13, c14, c15, hq1, c16, c17, c18, c19, c20, c21, c22, c23, c24⟩, FF25⟩
    · obtain ⟨fk, u, Hk, Hu, hu0, hu1, hk0, hk1⟩ := id MK
      obtain ⟨f, Ha, hR⟩ := id MN
      obtain ⟨h0, h1, h2, h3, hf, -⟩ := hR.to
      refine R_aload_n dX12_save_12 rfl rfl ?_
      refine R_getf dX12_save_13 gX12_25 M0 rfl ?_
      refine R_iload_n dX12_save_16 rfl rfl ?_
      refine R_iconst (v := (nI 1)) dX12_save_17 (by decide) ?_
      obtain ⟨u2, eu2⟩ : ∃ y, y = upd u 1 (nI 1) := ⟨_, rfl⟩
      refine W_bast (f' := u2) dX12_save_18 Hu (by decide) (by decide) rfl eu2 (fun wp26 wH27 wE28 => ?_)
      have wH29 := (wE28 61 (by decide)).trans M0
      have wH30 := (wE28 63 (by decide)).trans Ha
      have wH31 := (wE28 66 (by decide)).trans Hk
      have wF32 : Fr [67] hp wp26 := Fr.one wE28 (by simp)
      refine R_iconst (v := (nI 0)) dX12_save_19 (by decide) ?_
      refine R_istore_n (lv' := [some (.ref 61), some (.int (nI 1)), some (.int (nI 0))]) dX12_save_20 rfl (by decide) rfl ?_
      refine r_svL (js := 1) (by decide) (f0 := fk) (fun hz g H0 Hs Hg hg ho hF => ?_) 100 0 _ fk (by omega) wH29 wH30 wH31 (fun q hq => absurd hq (by omega)) (fun q hq => rfl) Fr.rf
      have hF9 : Fr [66, 67] hp hz := (wF32.mono (by decide)).trans (hF.mono (by decide))
      have Hu9 := hF.at (by decide) wH27
      have hq1 : KpA hz s0 (some (cs, sc, un, wd)) := ⟨g, u2, Hg, Hu9, by rw [eu2, upd_n (by decide)]; exact hu0, by rw [eu2, upd_s]; rfl, fun T hT => (hk0 T hT).cg (fun q hq => ho _ (by omega)), fun T hT => by cases hT; exact hR.cg (fun q hq => by have := hg q hq; simpa using this)⟩
      have c33 := hF9.at (by decide) M0
      have c34 := MM.fr hF9 (by decide)
      have c35 := MN.fr hF9 (by decide)
      have c36 := MT.fr hF9 (by decide)
      have c37 := MD.fr hF9 (by decide)
      have c38 := MO.fr hF9 (by decide) (by decide)
      have c39 := A70.fr hF9 (by decide)
      have c40 := A71.fr hF9 (by decide)
      have c41 := A72.fr hF9 (by decide)
      have c42 := A73.fr hF9 (by decide)
      have c43 := A74.fr hF9 (by decide)
      have c44 := A75.fr hF9 (by decide)
      have c45 := A76.fr hF9 (by decide)
      have c46 := A77.fr hF9 (by decide)
      have FF47 : Fr LM hp hz := (Fr.rf (L := LM) (hp := hp)).trans (hF9.mono (by decide))
      refine R_aload_n dX12_save_50 rfl rfl ?_
      refine R_getf dX12_save_51 gX12_13 c33 rfl ?_
      refine R_iconst (v := (nI 0)) dX12_save_54 (by decide) ?_
      refine N_iald (y := (nI (cs.length))) dX12_save_55 Hs (by decide) (by decide) h0 ?_
      have hf9 : f_save (ms, (cs, sc, un, wd), hs, s0, s1, os, ox) (nI 1) = (nI cs.length, (ms, (cs, sc, un, wd), hs, s0, some (cs, sc, un, wd), os, ox)) := by unfold f_save; dsimp only; rw [hb, if_pos rfl, vN_n (by decide)]; rfl
      rw [hf9]
      exact R_reti dX12_save_56 rfl rfl rfl ⟨rfl, ⟨_, _, _, _, c33, c34, c35, c36, c37, hq1, c38, c39, c40, c41, c42, c43, c44, c45, c46⟩, FF47⟩
set_option maxRecDepth 100000 in
set_option maxHeartbeats 4000000 in
theorem r_rsL {Z : ZT} {ln ac nxx sn sx tl sl st : Int32} {js : Nat} {f f0 : Nat → Int32} (hjs : js < 2) (K : ∀ (hz : HPt) (g : Nat → Int32), hz[61]? = some (ob 11 [.ref 62, .int (ln), .ref 63, .ref 64, .ref 65, .int (ac), .int (nxx), .ref 66, .ref 67, .ref 68, .ref 69, .int (sn), .int (sx), .ref 70, .ref 71, .ref 72, .ref 73, .ref 74, .int (tl), .ref 75, .int (sl), .ref 76, .int (st), .ref 77]) → hz[66]? = some (ia 200 f) → hz[63]? = some (ia 100 g) → (∀ q, q < 100 → g (q) = f (100 * js + q)) → (∀ q, (q < 0 ∨ 0 + 100 ≤ q) → g q = f0 q) → Fr [63] hp hz → PZ l X Z mX12_restore 55 [some (.ref 61), some (.int (nI js)), some (.int (nI 100))] [] hz 0 0) : ∀ (d j : Nat) (hz : HPt) (g : Nat → Int32), j + d = 100 → hz[61]? = some (ob 11 [.ref 62, .int (ln), .ref 63, .ref 64, .ref 65, .int (ac), .int (nxx), .ref 66, .ref 67, .ref 68, .ref 69, .int (sn), .int (sx), .ref 70, .ref 71, .ref 72, .ref 73, .ref 74, .int (tl), .ref 75, .int (sl), .ref 76, .int (st), .ref 77]) → hz[66]? = some (ia 200 f) → hz[63]? = some (ia 100 g) → (∀ q, q < j → g (q) = f (100 * js + q)) → (∀ q, (q < 0 ∨ 0 + 100 ≤ q) → g q = f0 q) → Fr [63] hp hz → PZ l X Z mX12_restore 26 [some (.ref 61), some (.int (nI js)), some (.int (nI j))] [] hz 0 0 := by
  intro d
  induction d with
  | zero =>
    intro j hz g hj H0 Hs Hd hg ho hF
    have hje : j = 100 := by omega
    subst hje
    refine R_iload_n dX12_restore_26 rfl rfl ?_
    refine R_bipush (v := (nI 100)) dX12_restore_27 (by decide) ?_
    refine N_icmp_ge (tgt := 55) dX12_restore_29 (by decide) (by omega) (by omega) (fun _ => ?_) (fun hc => absurd hc (by omega))
    exact K hz g H0 Hs Hd hg ho hF
  | succ d ih =>
    intro j hz g hj H0 Hs Hd hg ho hF
    refine R_iload_n dX12_restore_26 rfl rfl ?_
    refine R_bipush (v := (nI 100)) dX12_restore_27 (by decide) ?_
    refine N_icmp_ge (tgt := 55) dX12_restore_29 (by decide) (by omega) (by omega) (fun hc => absurd hc (by omega)) (fun _ => ?_)
    refine R_aload_n dX12_restore_32 rfl rfl ?_
    refine R_getf dX12_restore_33 gX12_13 H0 rfl ?_
    refine R_iload_n dX12_restore_36 rfl rfl ?_
    refine R_aload_n dX12_restore_37 rfl rfl ?_
    refine R_getf dX12_restore_38 gX12_22 H0 rfl ?_
    refine R_bipush (v := (nI 100)) dX12_restore_41 (by decide) ?_
    refine R_iload_n dX12_restore_43 rfl rfl ?_
    refine N_imul dX12_restore_44 ?_
    refine R_iload_n dX12_restore_45 rfl rfl ?_
    refine N_iadd dX12_restore_46 ?_
    refine N_iald (y := (f (100 * js + j))) dX12_restore_47 Hs (by omega) (by decide) rfl ?_
    obtain ⟨g2, eg2⟩ : ∃ y, y = upd g j (f (100 * js + j)) := ⟨_, rfl⟩
    refine W_iast (f' := g2) dX12_restore_48 Hd (by omega) (by decide) eg2 (fun wp1 wH2 wE3 => ?_)
    have wH4 := (wE3 61 (by decide)).trans H0
    have wH5 := (wE3 66 (by decide)).trans Hs
    have wF6 : Fr [63] hp wp1 := hF.trans (Fr.one wE3 (by simp))
    refine N_iinc (d := 1) (lv' := [some (.ref 61), some (.int (nI js)), some (.int (nI (j + 1)))]) dX12_restore_49 rfl rfl ?_
    refine R_goto (tgt := 26) dX12_restore_52 (by decide) ?_
    refine ih (j + 1) _ g2 (by omega) wH4 wH5 wH2 (fun q hq => ?_) (fun q hq => by rw [eg2, upd_n (by omega)]; exact ho q hq) wF6
    by_cases e : q = j
    · subst e; rw [eg2, upd_s]
    · rw [eg2, upd_n (by omega)]; exact hg q (by omega)
set_option maxRecDepth 100000 in
set_option maxHeartbeats 4000000 in
theorem y_rest {ms : List Nat} {cs : List Nat} {sc un wd : Nat} {hs : List TP} {s0 s1 : Option TP} {os : List (Nat × Nat)} {ox : Nat} {j : Int32} (hM : MJ hp (ms, (cs, sc, un, wd), hs, s0, s1, os, ox)) : SpI l X mX12_restore [.ref 61, .int (j)] hp (fun r hp' => r = (f_rest (ms, (cs, sc, un, wd), hs, s0, s1, os, ox) j).1 ∧ MJ hp' (f_rest (ms, (cs, sc, un, wd), hs, s0, s1, os, ox) j).2 ∧ Fr LM hp hp') := by
  obtain ⟨nx, tl, sl, st, M0, MM, MN, MT, MD, MK, MO, A70, A71, A72, A73, A74, A75, A76, A77⟩ := hM
  obtain ⟨hL, hC3, hs1, hu1, hw1, hw2⟩ := MN.ok
  obtain ⟨hmL, hmC⟩ := MM.ok
  obtain ⟨hnx0, hsl0⟩ := MD.ok
  obtain ⟨hol0, hox0⟩ := MO.ok
  refine SpI.of pnX12 (Nat.le_of_ble_eq_true rfl) rfl ?_
  refine R_iload_n dX12_restore_0 rfl rfl ?_
  refine R_i2l dX12_restore_1 ?_
  refine R_lconst (v := 0) dX12_restore_2 (by decide) ?_
  refine R_lconst (v := 1) dX12_restore_3 (by decide) ?_
  refine R_stati (As := [.long ((j).toInt64), .long (0), .long (1)]) (st := []) kX12_in lX12_67 (r_inW 0 1 rfl rfl (by decide) (by decide)) dX12_restore_4 rfl rfl (Nat.le_of_ble_eq_true rfl) ⟨by decide, by decide⟩ zX12_in ⟨Nat.le_refl _, Nat.le_refl _⟩ (fun wr3 wp2 wq1 => ?_)
  obtain ⟨rfl, rfl⟩ : wr3 = _ ∧ hp = wp2 := ⟨wq1.1, wq1.2.symm⟩
  rw [show inW j 0 1 = inB j 2 from inB_W (n := 2) (by decide)]
  cases hb : inB j 2 with
  | false =>
    show PZ _ _ _ _ _ _ (.int (nI 0) :: _) _ _ _
    refine N_if_ne (tgt := 12) dX12_restore_7 (by decide) (by decide) (fun hc => absurd hc (by decide)) (fun _ => ?_)
    have hf : f_rest (ms, (cs, sc, un, wd), hs, s0, s1, os, ox) j = (-1, (ms, (cs, sc, un, wd), hs, s0, s1, os, ox)) := by unfold f_rest; dsimp only; rw [hb]; rfl
    refine R_iconst (v := (-1)) dX12_restore_10 (by decide) ?_
    rw [hf]
    exact R_reti dX12_restore_11 rfl rfl rfl ⟨rfl, ⟨_, _, _, _, M0, MM, MN, MT, MD, MK, MO, A70, A71, A72, A73, A74, A75, A76, A77⟩, (Fr.rf (L := LM) (hp := hp))⟩
  | true =>
    show PZ _ _ _ _ _ _ (.int (nI 1) :: _) _ _ _
    obtain ⟨js, hj, rfl⟩ := inB_t (by decide) hb
    refine N_if_ne (tgt := 12) dX12_restore_7 (by decide) (by decide) (fun _ => ?_) (fun hc => absurd hc (by decide))
    have hjc : js = 0 ∨ js = 1 := by omega
    rcases hjc with rfl | rfl
    · obtain ⟨fk, u, Hk, Hu, hu0, hu1, hk0, hk1⟩ := id MK
      obtain ⟨f, Ha, hR⟩ := id MN
      obtain ⟨h0, h1, h2, h3, hf, -⟩ := hR.to
      refine R_aload_n dX12_restore_12 rfl rfl ?_
      refine R_getf dX12_restore_13 gX12_25 M0 rfl ?_
      refine R_iload_n dX12_restore_16 rfl rfl ?_
      refine N_bald (y := (bz s0.isSome)) dX12_restore_17 Hu (by decide) (by decide) hu0 ?_
      cases hs9 : s0 with
      | none =>
        show PZ _ _ _ _ _ _ (.int (nI 0) :: _) _ _ _
        refine N_if_ne (tgt := 24) dX12_restore_18 (by decide) (by decide) (fun hc => absurd hc (by decide)) (fun _ => ?_)
        refine R_bipush (v := (-3)) dX12_restore_21 (by decide) ?_
        subst hs9
        have hf9 : f_rest (ms, (cs, sc, un, wd), hs, none, s1, os, ox) (nI 0) = (-3, (ms, (cs, sc, un, wd), hs, none, s1, os, ox)) := by unfold f_rest; dsimp only; rw [hb, if_pos rfl, vN_n (by decide)]; rfl
        rw [hf9]
        exact R_reti dX12_restore_23 rfl rfl rfl ⟨rfl, ⟨_, _, _, _, M0, MM, MN, MT, MD, MK, MO, A70, A71, A72, A73, A74, A75, A76, A77⟩, (Fr.rf (L := LM) (hp := hp))⟩
      | some T1 =>
        obtain ⟨cs1, sc1, un1, wd1⟩ := T1
        subst hs9
        show PZ _ _ _ _ _ _ (.int (nI 1) :: _) _ _ _
        refine N_if_ne (tgt := 24) dX12_restore_18 (by decide) (by decide) (fun _ => ?_) (fun hc => absurd hc (by decide))
        refine R_iconst (v := (nI 0)) dX12_restore_24 (by decide) ?_
        refine R_istore_n (lv' := [some (.ref 61), some (.int (nI 0)), some (.int (nI 0))]) dX12_restore_25 rfl (by decide) rfl ?_
        refine r_rsL (js := 0) (by decide) (f0 := f) (fun hz g H0 Hs Hg hg ho hF => ?_) 100 0 _ f (by omega) M0 Hk Ha (fun q hq => absurd hq (by omega)) (fun q hq => rfl) Fr.rf
        have hq1 : RwAt hz 63 (cs1, sc1, un1, wd1) := ⟨g, Hg, (hk0 _ rfl).cg (fun q hq => by have := hg q hq; simpa using this)⟩
        have c4 := MM.fr hF (by decide)
        have c5 := MT.fr hF (by decide)
        have c6 := MD.fr hF (by decide)
        have c7 := MK.fr hF (by decide) (by decide)
        have c8 := MO.fr hF (by decide) (by decide)
        have c9 := A70.fr hF (by decide)
        have c10 := A71.fr hF (by decide)
        have c11 := A72.fr hF (by decide)
        have c12 := A73.fr hF (by decide)
        have c13 := A74.fr hF (by decide)
        have c14 := A75.fr hF (by decide)
        have c15 := A76.fr hF (by decide)
        have c16 := A77.fr hF (by decide)
        have FF17 : Fr LM hp hz := (Fr.rf (L := LM) (hp := hp)).trans (hF.mono (by decide))
        obtain ⟨fd, Hd9, hnx, -, -⟩ := id c6
        have hR9 := hq1
        obtain ⟨f9, Hf9, hRf9⟩ := hR9
        refine R_aload_n dX12_restore_55 rfl rfl ?_
        refine R_iconst (v := (nI 0)) dX12_restore_56 (by decide) ?_
        refine W_puti (fs' := [.ref 62, .int (nI (ms.length)), .ref 63, .ref 64, .ref 65, .int (nI 0), .int (nI nx), .ref 66, .ref 67, .ref 68, .ref 69, .int (nI (os.length)), .int (nI ox), .ref 70, .ref 71, .ref 72, .ref 73, .ref 74, .int (tl), .ref 75, .int (sl), .ref 76, .int (st), .ref 77]) dX12_restore_57 pX12_109 H0 (Nat.le_of_ble_eq_true rfl) rfl (fun wp18 wH19 wE20 => ?_)
        have wH21 := (wE20 63 (by decide)).trans Hf9
        have wH22 := (wE20 65 (by decide)).trans Hd9
        have wF23 : Fr [61] hz wp18 := Fr.one wE20 (by simp)
        have hq2 : DiA wp18 [] nx := ⟨fd, wH22, hnx, Nat.zero_le _, fun j hj => absurd hj (by simp)⟩
        have c24 := c4.fr wF23 (by decide)
        have c25 := hq1.fr wF23 (by decide)
        have c26 := c5.fr wF23 (by decide)
        have c27 := c7.fr wF23 (by decide) (by decide)
        have c28 := c8.fr wF23 (by decide) (by decide)
        have c29 := c9.fr wF23 (by decide)
        have c30 := c10.fr wF23 (by decide)
        have c31 := c11.fr wF23 (by decide)
        have c32 := c12.fr wF23 (by decide)
        have c33 := c13.fr wF23 (by decide)
        have c34 := c14.fr wF23 (by decide)
        have c35 := c15.fr wF23 (by decide)
        have c36 := c16.fr wF23 (by decide)
        have FF37 : Fr LM hp wp18 := FF17.trans (wF23.mono (by decide))
        have zz38 := wH21
        refine R_aload_n dX12_restore_60 rfl rfl ?_
        refine R_getf dX12_restore_61 gX12_13 wH19 rfl ?_
        refine R_iconst (v := (nI 0)) dX12_restore_64 (by decide) ?_
        refine N_iald (y := (nI (cs1.length))) dX12_restore_65 zz38 (by decide) (by decide) hRf9.to.1 ?_
        have hf9 : f_rest (ms, (cs, sc, un, wd), hs, some (cs1, sc1, un1, wd1), s1, os, ox) (nI 0) = (nI cs1.length, (ms, (cs1, sc1, un1, wd1), [], some (cs1, sc1, un1, wd1), s1, os, ox)) := by unfold f_rest; dsimp only; rw [hb, if_pos rfl, vN_n (by decide)]; rfl
        rw [hf9]
        exact R_reti dX12_restore_66 rfl rfl rfl ⟨rfl, ⟨_, _, _, _, wH19, c24, c25, c26, hq2, c27, c28, c29, c30, c31, c32, c33, c34, c35, c36⟩, FF37⟩
    · obtain ⟨fk, u, Hk, Hu, hu0, hu1, hk0, hk1⟩ := id MK
      obtain ⟨f, Ha, hR⟩ := id MN
      obtain ⟨h0, h1, h2, h3, hf, -⟩ := hR.to
      refine R_aload_n dX12_restore_12 rfl rfl ?_
      refine R_getf dX12_restore_13 gX12_25 M0 rfl ?_
      refine R_iload_n dX12_restore_16 rfl rfl ?_
      refine N_bald (y := (bz s1.isSome)) dX12_restore_17 Hu (by decide) (by decide) hu1 ?_
      cases hs9 : s1 with
      | none =>
        show PZ _ _ _ _ _ _ (.int (nI 0) :: _) _ _ _
        refine N_if_ne (tgt := 24) dX12_restore_18 (by decide) (by decide) (fun hc => absurd hc (by decide)) (fun _ => ?_)
        refine R_bipush (v := (-3)) dX12_restore_21 (by decide) ?_
        subst hs9
        have hf9 : f_rest (ms, (cs, sc, un, wd), hs, s0, none, os, ox) (nI 1) = (-3, (ms, (cs, sc, un, wd), hs, s0, none, os, ox)) := by unfold f_rest; dsimp only; rw [hb, if_pos rfl, vN_n (by decide)]; rfl
        rw [hf9]
        exact R_reti dX12_restore_23 rfl rfl rfl ⟨rfl, ⟨_, _, _, _, M0, MM, MN, MT, MD, MK, MO, A70, A71, A72, A73, A74, A75, A76, A77⟩, (Fr.rf (L := LM) (hp := hp))⟩
      | some T1 =>
        obtain ⟨cs1, sc1, un1, wd1⟩ := T1
        subst hs9
        show PZ _ _ _ _ _ _ (.int (nI 1) :: _) _ _ _
        refine N_if_ne (tgt := 24) dX12_restore_18 (by decide) (by decide) (fun _ => ?_) (fun hc => absurd hc (by decide))
        refine R_iconst (v := (nI 0)) dX12_restore_24 (by decide) ?_
        refine R_istore_n (lv' := [some (.ref 61), some (.int (nI 1)), some (.int (nI 0))]) dX12_restore_25 rfl (by decide) rfl ?_
        refine r_rsL (js := 1) (by decide) (f0 := f) (fun hz g H0 Hs Hg hg ho hF => ?_) 100 0 _ f (by omega) M0 Hk Ha (fun q hq => absurd hq (by omega)) (fun q hq => rfl) Fr.rf
        have hq1 : RwAt hz 63 (cs1, sc1, un1, wd1) := ⟨g, Hg, (hk1 _ rfl).cg (fun q hq => by have := hg q hq; simpa using this)⟩
        have c39 := MM.fr hF (by decide)
        have c40 := MT.fr hF (by decide)
        have c41 := MD.fr hF (by decide)
        have c42 := MK.fr hF (by decide) (by decide)
        have c43 := MO.fr hF (by decide) (by decide)
        have c44 := A70.fr hF (by decide)
        have c45 := A71.fr hF (by decide)
        have c46 := A72.fr hF (by decide)
        have c47 := A73.fr hF (by decide)
        have c48 := A74.fr hF (by decide)
        have c49 := A75.fr hF (by decide)
        have c50 := A76.fr hF (by decide)
        have c51 := A77.fr hF (by decide)
        have FF52 : Fr LM hp hz := (Fr.rf (L := LM) (hp := hp)).trans (hF.mono (by decide))
        obtain ⟨fd, Hd9, hnx, -, -⟩ := id c41
        have hR9 := hq1
        obtain ⟨f9, Hf9, hRf9⟩ := hR9
        refine R_aload_n dX12_restore_55 rfl rfl ?_
        refine R_iconst (v := (nI 0)) dX12_restore_56 (by decide) ?_
        refine W_puti (fs' := [.ref 62, .int (nI (ms.length)), .ref 63, .ref 64, .ref 65, .int (nI 0), .int (nI nx), .ref 66, .ref 67, .ref 68, .ref 69, .int (nI (os.length)), .int (nI ox), .ref 70, .ref 71, .ref 72, .ref 73, .ref 74, .int (tl), .ref 75, .int (sl), .ref 76, .int (st), .ref 77]) dX12_restore_57 pX12_109 H0 (Nat.le_of_ble_eq_true rfl) rfl (fun wp53 wH54 wE55 => ?_)
        have wH56 := (wE55 63 (by decide)).trans Hf9
        have wH57 := (wE55 65 (by decide)).trans Hd9
        have wF58 : Fr [61] hz wp53 := Fr.one wE55 (by simp)
        have hq2 : DiA wp53 [] nx := ⟨fd, wH57, hnx, Nat.zero_le _, fun j hj => absurd hj (by simp)⟩
        have c59 := c39.fr wF58 (by decide)
        have c60 := hq1.fr wF58 (by decide)
        have c61 := c40.fr wF58 (by decide)
        have c62 := c42.fr wF58 (by decide) (by decide)
        have c63 := c43.fr wF58 (by decide) (by decide)
        have c64 := c44.fr wF58 (by decide)
        have c65 := c45.fr wF58 (by decide)
        have c66 := c46.fr wF58 (by decide)
        have c67 := c47.fr wF58 (by decide)
        have c68 := c48.fr wF58 (by decide)
        have c69 := c49.fr wF58 (by decide)
        have c70 := c50.fr wF58 (by decide)
        have c71 := c51.fr wF58 (by decide)
        have FF72 : Fr LM hp wp53 := FF52.trans (wF58.mono (by decide))
        have zz73 := wH56
        refine R_aload_n dX12_restore_60 rfl rfl ?_
        refine R_getf dX12_restore_61 gX12_13 wH54 rfl ?_
        refine R_iconst (v := (nI 0)) dX12_restore_64 (by decide) ?_
        refine N_iald (y := (nI (cs1.length))) dX12_restore_65 zz73 (by decide) (by decide) hRf9.to.1 ?_
        have hf9 : f_rest (ms, (cs, sc, un, wd), hs, s0, some (cs1, sc1, un1, wd1), os, ox) (nI 1) = (nI cs1.length, (ms, (cs1, sc1, un1, wd1), [], s0, some (cs1, sc1, un1, wd1), os, ox)) := by unfold f_rest; dsimp only; rw [hb, if_pos rfl, vN_n (by decide)]; rfl
        rw [hf9]
        exact R_reti dX12_restore_66 rfl rfl rfl ⟨rfl, ⟨_, _, _, _, wH54, c59, c60, c61, hq2, c62, c63, c64, c65, c66, c67, c68, c69, c70, c71⟩, FF72⟩
set_option maxRecDepth 100000 in
set_option maxHeartbeats 4000000 in
theorem r_ukL {ms : List Nat} {cs : List Nat} {sc un wd : Nat} {hs : List TP} {s0 s1 : Option TP} {os : List (Nat × Nat)} {ox : Nat} {ds : List Nat} {hz : HPt} (hlen : ds.length = cs.length) (hM : MJ hz (ms, (cs, sc, un, wd), hs, s0, s1, os, ox)) (hT : LtA hz 70 71 74 cs sc un) (hU : LtA hz 72 73 75 ds sc un) (hF : Fr LM hp hz) : ∀ (d j nn : Nat), j + d = cs.length → diffC un sc sc cs ds = nn + diffC un (cAt un sc cs j) (cAt un sc ds j) (cs.drop j) (ds.drop j) → PZ l X (MZi X mX12_unlike (fun r hp' => r = nI (diffC un sc sc cs ds) ∧ MJ hp' (ms, (cs, sc, un, wd), hs, s0, s1, os, ox) ∧ Fr LM hp hp')) mX12_unlike 20 [some (.ref 61), some (.int (nI nn)), some (.int (nI j))] [] hz 0 0 := by
  obtain ⟨nx, tl, sl, st, M0, MM, MN, MT, MD, MK, MO, A70, A71, A72, A73, A74, A75, A76, A77⟩ := id hM
  have hL := MN.ok.1
  obtain ⟨g1, w1, t1, Hg1, -, -, hg1, -⟩ := id hT
  obtain ⟨g2, w2, t2, Hg2, -, -, hg2, -⟩ := id hU
  obtain ⟨f, Ha, hR⟩ := id MN
  obtain ⟨h0, h1, h2, h3, hf, -⟩ := hR.to
  intro d
  induction d with
  | zero =>
    intro j nn hj hR9
    refine R_iload_n dX12_unlike_20 rfl rfl ?_
    refine R_aload_n dX12_unlike_21 rfl rfl ?_
    refine R_getf dX12_unlike_22 gX12_13 M0 rfl ?_
    refine R_iconst (v := (nI 0)) dX12_unlike_25 (by decide) ?_
    refine N_iald (y := (nI (cs.length))) dX12_unlike_26 Ha (by decide) (by decide) h0 ?_
    refine N_icmp_ge (tgt := 59) dX12_unlike_27 (by decide) (by omega) (by omega) (fun _ => ?_) (fun hc => absurd hc (by omega))
    refine R_iload_n dX12_unlike_59 rfl rfl ?_
    have e9 : diffC un sc sc cs ds = nn := by rw [hR9, List.drop_eq_nil_of_le (by omega)]; simp [diffC]
    exact R_reti dX12_unlike_60 rfl rfl rfl ⟨by rw [e9], hM, hF⟩
  | succ d ih =>
    intro j nn hj hR9
    rw [drop_c (cs := cs) (by omega), drop_c (cs := ds) (by omega)] at hR9
    simp only [diffC] at hR9
    rw [← cAt_s (by omega), ← cAt_s (by omega)] at hR9
    refine R_iload_n dX12_unlike_20 rfl rfl ?_
    refine R_aload_n dX12_unlike_21 rfl rfl ?_
    refine R_getf dX12_unlike_22 gX12_13 M0 rfl ?_
    refine R_iconst (v := (nI 0)) dX12_unlike_25 (by decide) ?_
    refine N_iald (y := (nI (cs.length))) dX12_unlike_26 Ha (by decide) (by decide) h0 ?_
    refine N_icmp_ge (tgt := 59) dX12_unlike_27 (by decide) (by omega) (by omega) (fun hc => absurd hc (by omega)) (fun _ => ?_)
    refine R_iload_n dX12_unlike_30 rfl rfl ?_
    refine R_aload_n dX12_unlike_31 rfl rfl ?_
    refine R_getf dX12_unlike_32 gX12_35 M0 rfl ?_
    refine R_iload_n dX12_unlike_35 rfl rfl ?_
    refine N_iald (y := (prt cs[j] (cAt un sc cs j))) dX12_unlike_36 Hg1 (by omega) (by decide) (hg1 j (by omega)) ?_
    refine R_aload_n dX12_unlike_37 rfl rfl ?_
    refine R_getf dX12_unlike_38 gX12_41 M0 rfl ?_
    refine R_iload_n dX12_unlike_41 rfl rfl ?_
    refine N_iald (y := (prt ds[j] (cAt un sc ds j))) dX12_unlike_42 Hg2 (by omega) (by decide) (hg2 j (by omega)) ?_
    refine R_icmp_eq (tgt := 50) dX12_unlike_43 (by decide) (fun hp9 => ?_) (fun hp9 => ?_)
    · refine R_iconst (v := (nI 0)) dX12_unlike_50 (by decide) ?_
      refine N_iadd dX12_unlike_51 ?_
      refine R_istore_n (lv' := [some (.ref 61), some (.int (nI (nn + 0))), some (.int (nI j))]) dX12_unlike_52 rfl (by decide) rfl ?_
      refine N_iinc (d := 1) (lv' := [some (.ref 61), some (.int (nI (nn + 0))), some (.int (nI (j + 1)))]) dX12_unlike_53 rfl rfl ?_
      refine R_goto (tgt := 20) dX12_unlike_56 (by decide) ?_
      exact ih (j + 1) (nn + 0) (by omega) (by rw [hR9, if_pos hp9]; omega)
    · refine R_iconst (v := (nI 1)) dX12_unlike_46 (by decide) ?_
      refine R_goto (tgt := 51) dX12_unlike_47 (by decide) ?_
      refine N_iadd dX12_unlike_51 ?_
      refine R_istore_n (lv' := [some (.ref 61), some (.int (nI (nn + 1))), some (.int (nI j))]) dX12_unlike_52 rfl (by decide) rfl ?_
      refine N_iinc (d := 1) (lv' := [some (.ref 61), some (.int (nI (nn + 1))), some (.int (nI (j + 1)))]) dX12_unlike_53 rfl rfl ?_
      refine R_goto (tgt := 20) dX12_unlike_56 (by decide) ?_
      exact ih (j + 1) (nn + 1) (by omega) (by rw [hR9, if_neg hp9]; omega)
set_option maxRecDepth 100000 in
set_option maxHeartbeats 4000000 in
theorem r_unlike {ms : List Nat} {cs : List Nat} {sc un wd : Nat} {hs : List TP} {s0 s1 : Option TP} {os : List (Nat × Nat)} {ox : Nat} {ds : List Nat} {wd2 : Nat} (hlen : ds.length = cs.length) (hM : MJ hp (ms, (cs, sc, un, wd), hs, s0, s1, os, ox)) (HT : RwAt hp 64 (ds, sc, un, wd2)) : SpI l X mX12_unlike [.ref 61] hp (fun r hp' => r = nI (diffC un sc sc cs ds) ∧ MJ hp' (ms, (cs, sc, un, wd), hs, s0, s1, os, ox) ∧ Fr LM hp hp') := by
  obtain ⟨nx, tl, sl, st, M0, MM, MN, MT, MD, MK, MO, A70, A71, A72, A73, A74, A75, A76, A77⟩ := hM
  refine SpI.of pnX12 (Nat.le_of_ble_eq_true rfl) rfl ?_
  refine R_aload_n dX12_unlike_0 rfl rfl ?_
  refine R_aload_n dX12_unlike_1 rfl rfl ?_
  refine R_getf dX12_unlike_2 gX12_13 M0 rfl ?_
  refine R_callv (As := [.ref 63]) (st := []) kX12_layText lX12_102 (r_lt M0 MN A70 A71 A74) rfl M0 dX12_unlike_5 rfl rfl (Nat.le_of_ble_eq_true rfl) ⟨by decide, by decide⟩ zX12_layText ⟨Nat.le_refl _, Nat.le_refl _⟩ (fun wp2 wq1 => ?_)
  obtain ⟨hl1, hl2, hl3⟩ := wq1
  have c4 := MM.fr hl3 (by decide)
  have c5 := MN.fr hl3 (by decide)
  have c6 := MT.fr hl3 (by decide)
  have c7 := MD.fr hl3 (by decide)
  have c8 := MK.fr hl3 (by decide) (by decide)
  have c9 := MO.fr hl3 (by decide) (by decide)
  have c10 := A72.fr hl3 (by decide)
  have c11 := A73.fr hl3 (by decide)
  have c12 := A75.fr hl3 (by decide)
  have c13 := A76.fr hl3 (by decide)
  have c14 := A77.fr hl3 (by decide)
  have FF15 : Fr LM hp wp2 := (Fr.rf (L := LM) (hp := hp)).trans (hl3.mono (by decide))
  have HT1 := HT.fr hl3 (by decide)
  refine R_aload_n dX12_unlike_8 rfl rfl ?_
  refine R_aload_n dX12_unlike_9 rfl rfl ?_
  refine R_getf dX12_unlike_10 gX12_16 hl1 rfl ?_
  refine R_callv (As := [.ref 64]) (st := []) kX12_laySecond lX12_149 (r_ls hl1 HT1 c10 c11 c12) rfl hl1 dX12_unlike_13 rfl rfl (Nat.le_of_ble_eq_true rfl) ⟨by decide, by decide⟩ zX12_laySecond ⟨Nat.le_refl _, Nat.le_refl _⟩ (fun wp17 wq16 => ?_)
  obtain ⟨hk1, hk2, hk3⟩ := wq16
  have c19 := c4.fr hk3 (by decide)
  have c20 := c5.fr hk3 (by decide)
  have c21 := c6.fr hk3 (by decide)
  have c22 := c7.fr hk3 (by decide)
  have c23 := c8.fr hk3 (by decide) (by decide)
  have c24 := c9.fr hk3 (by decide) (by decide)
  have c25 := hl2.x1.fr hk3 (by decide)
  have c26 := hl2.x2.fr hk3 (by decide)
  have c27 := hl2.x3.fr hk3 (by decide)
  have c28 := c13.fr hk3 (by decide)
  have c29 := c14.fr hk3 (by decide)
  have FF30 : Fr LM hp wp17 := FF15.trans (hk3.mono (by decide))
  have hl4 := hl2.fr hk3 (by decide) (by decide) (by decide)
  refine R_iconst (v := (nI 0)) dX12_unlike_16 (by decide) ?_
  refine R_istore_n (lv' := [some (.ref 61), some (.int (nI 0)), none]) dX12_unlike_17 rfl (by decide) rfl ?_
  refine R_iconst (v := (nI 0)) dX12_unlike_18 (by decide) ?_
  refine R_istore_n (lv' := [some (.ref 61), some (.int (nI 0)), some (.int (nI 0))]) dX12_unlike_19 rfl (by decide) rfl ?_
  exact r_ukL hlen ⟨_, _, _, _, hk1, c19, c20, c21, c22, c23, c24, c25, c26, hk2.x1, hk2.x2, c27, hk2.x3, c28, c29⟩ hl4 hk2 FF30 cs.length 0 0 (by omega) (by rw [cAt_0, cAt_0]; simp)
set_option maxRecDepth 100000 in
set_option maxHeartbeats 4000000 in
theorem y_dfl {ms : List Nat} {cs : List Nat} {sc un wd : Nat} {hs : List TP} {s0 s1 : Option TP} {os : List (Nat × Nat)} {ox : Nat} {i b : Int32} (hM : MJ hp (ms, (cs, sc, un, wd), hs, s0, s1, os, ox)) : SpI l X mX12_damageIfFlipped [.ref 61, .int (i), .int (b)] hp (fun r hp' => r = (f_dfl (ms, (cs, sc, un, wd), hs, s0, s1, os, ox) i b).1 ∧ MJ hp' (f_dfl (ms, (cs, sc, un, wd), hs, s0, s1, os, ox) i b).2 ∧ Fr LM hp hp') := by
  obtain ⟨nx, tl, sl, st, M0, MM, MN, MT, MD, MK, MO, A70, A71, A72, A73, A74, A75, A76, A77⟩ := hM
  obtain ⟨hL, hC3, hs1, hu1, hw1, hw2⟩ := MN.ok
  obtain ⟨hmL, hmC⟩ := MM.ok
  obtain ⟨hnx0, hsl0⟩ := MD.ok
  obtain ⟨hol0, hox0⟩ := MO.ok
  refine SpI.of pnX12 (Nat.le_of_ble_eq_true rfl) rfl ?_
  refine R_aload_n dX12_damageIfFlipped_0 rfl rfl ?_
  refine R_iload_n dX12_damageIfFlipped_1 rfl rfl ?_
  refine R_calli (As := [.int (i)]) (st := []) kX12_isIndex lX12_98 (r_isx (i := i) M0 MN) rfl M0 dX12_damageIfFlipped_2 rfl rfl (Nat.le_of_ble_eq_true rfl) ⟨by decide, by decide⟩ zX12_isIndex ⟨Nat.le_refl _, Nat.le_refl _⟩ (fun wr3 wp2 wq1 => ?_)
  obtain ⟨rfl, rfl⟩ : wr3 = _ ∧ hp = wp2 := ⟨wq1.1, wq1.2.symm⟩
  cases hb4 : inB i cs.length with
  | false =>
    show PZ _ _ _ _ _ _ (.int (nI 0) :: _) _ _ _
    refine N_if_ne (tgt := 10) dX12_damageIfFlipped_5 (by decide) (by decide) (fun hc => absurd hc (by decide)) (fun _ => ?_)
    have hf : f_dfl (ms, (cs, sc, un, wd), hs, s0, s1, os, ox) i b = (-1, (ms, (cs, sc, un, wd), hs, s0, s1, os, ox)) := by unfold f_dfl; dsimp only; rw [hb4]; rfl
    refine R_iconst (v := (-1)) dX12_damageIfFlipped_8 (by decide) ?_
    rw [hf]
    exact R_reti dX12_damageIfFlipped_9 rfl rfl rfl ⟨rfl, ⟨_, _, _, _, M0, MM, MN, MT, MD, MK, MO, A70, A71, A72, A73, A74, A75, A76, A77⟩, (Fr.rf (L := LM) (hp := hp))⟩
  | true =>
    show PZ _ _ _ _ _ _ (.int (nI 1) :: _) _ _ _
    obtain ⟨j, hj, rfl⟩ := inB_t (by omega) hb4
    refine N_if_ne (tgt := 10) dX12_damageIfFlipped_5 (by decide) (by decide) (fun _ => ?_) (fun hc => absurd hc (by decide))
    refine R_iload_n dX12_damageIfFlipped_10 rfl rfl ?_
    refine R_i2l dX12_damageIfFlipped_11 ?_
    refine R_lconst (v := 0) dX12_damageIfFlipped_12 (by decide) ?_
    refine R_ldc2 dX12_damageIfFlipped_13 nX12_147 ?_
    refine R_stati (As := [.long ((b).toInt64), .long (0), .long (4)]) (st := []) kX12_in lX12_67 (r_inW 0 4 rfl rfl (by decide) (by decide)) dX12_damageIfFlipped_16 rfl rfl (Nat.le_of_ble_eq_true rfl) ⟨by decide, by decide⟩ zX12_in ⟨Nat.le_refl _, Nat.le_refl _⟩ (fun wr7 wp6 wq5 => ?_)
    obtain ⟨rfl, rfl⟩ : wr7 = _ ∧ hp = wp6 := ⟨wq5.1, wq5.2.symm⟩
    cases hw8 : inW b 0 4 with
    | false =>
      show PZ _ _ _ _ _ _ (.int (nI 0) :: _) _ _ _
      refine N_if_ne (tgt := 25) dX12_damageIfFlipped_19 (by decide) (by decide) (fun hc => absurd hc (by decide)) (fun _ => ?_)
      have hf : f_dfl (ms, (cs, sc, un, wd), hs, s0, s1, os, ox) (nI j) b = (-2, (ms, (cs, sc, un, wd), hs, s0, s1, os, ox)) := by unfold f_dfl; dsimp only; rw [hb4, hw8]; rfl
      refine R_bipush (v := (-2)) dX12_damageIfFlipped_22 (by decide) ?_
      rw [hf]
      exact R_reti dX12_damageIfFlipped_24 rfl rfl rfl ⟨rfl, ⟨_, _, _, _, M0, MM, MN, MT, MD, MK, MO, A70, A71, A72, A73, A74, A75, A76, A77⟩, (Fr.rf (L := LM) (hp := hp))⟩
    | true =>
      show PZ _ _ _ _ _ _ (.int (nI 1) :: _) _ _ _
      obtain ⟨q, -, hq, rfl⟩ := inW_t (by decide) hw8
      refine N_if_ne (tgt := 25) dX12_damageIfFlipped_19 (by decide) (by decide) (fun _ => ?_) (fun hc => absurd hc (by decide))
      refine R_aload_n dX12_damageIfFlipped_25 rfl rfl ?_
      refine R_getf dX12_damageIfFlipped_26 gX12_13 M0 rfl ?_
      refine R_aload_n dX12_damageIfFlipped_29 rfl rfl ?_
      refine R_getf dX12_damageIfFlipped_30 gX12_16 M0 rfl ?_
      refine R_statv (As := [.ref 63, .ref 64]) (st := []) kX12_copy lX12_129 (r_cpR (by decide) MN MT) dX12_damageIfFlipped_33 rfl rfl (Nat.le_of_ble_eq_true rfl) ⟨by decide, by decide⟩ zX12_copy ⟨Nat.le_refl _, Nat.le_refl _⟩ (fun wp10 wq9 => ?_)
      obtain ⟨hq1, hq2⟩ := wq9
      have c12 := hq2.at (by decide) M0
      have c13 := MM.fr hq2 (by decide)
      have c14 := MN.fr hq2 (by decide)
      have c15 := MD.fr hq2 (by decide)
      have c16 := MK.fr hq2 (by decide) (by decide)
      have c17 := MO.fr hq2 (by decide) (by decide)
      have c18 := A70.fr hq2 (by decide)
      have c19 := A71.fr hq2 (by decide)
      have c20 := A72.fr hq2 (by decide)
      have c21 := A73.fr hq2 (by decide)
      have c22 := A74.fr hq2 (by decide)
      have c23 := A75.fr hq2 (by decide)
      have c24 := A76.fr hq2 (by decide)
      have c25 := A77.fr hq2 (by decide)
      have FF26 : Fr LM hp wp10 := (Fr.rf (L := LM) (hp := hp)).trans (hq2.mono (by decide))
      obtain ⟨f, Ha, hR⟩ := id hq1
      have hcj := hC3 cs[j] (List.getElem_mem hj)
      refine R_aload_n dX12_damageIfFlipped_36 rfl rfl ?_
      refine R_getf dX12_damageIfFlipped_37 gX12_16 c12 rfl ?_
      refine R_iconst (v := (nI 4)) dX12_damageIfFlipped_40 (by decide) ?_
      refine R_iload_n dX12_damageIfFlipped_41 rfl rfl ?_
      refine N_iadd dX12_damageIfFlipped_42 ?_
      refine R_dup2 dX12_damageIfFlipped_43 rfl rfl ?_
      refine N_iald (y := (nI (cs[j]))) dX12_damageIfFlipped_44 Ha (by omega) (by decide) (hR.to.2.2.2.2.1 j hj) ?_
      refine R_iconst (v := (nI 1)) dX12_damageIfFlipped_45 (by decide) ?_
      refine R_iload_n dX12_damageIfFlipped_46 rfl rfl ?_
      refine R_ishl dX12_damageIfFlipped_47 ?_
      refine R_ixor dX12_damageIfFlipped_48 ?_
      rw [xor_I cs[j] hcj q (by omega)]
      obtain ⟨g2, eg2⟩ : ∃ y, y = upd f (4 + j) (nI (cs[j] ^^^ 2 ^ q)) := ⟨_, rfl⟩
      refine W_iast (f' := g2) dX12_damageIfFlipped_49 Ha (by omega) (by decide) eg2 (fun wp27 wH28 wE29 => ?_)
      have wH30 := (wE29 61 (by decide)).trans c12
      have wF31 : Fr [64] wp10 wp27 := Fr.one wE29 (by simp)
      have hq3 : RwAt wp27 64 (cs.set j (cs[j] ^^^ 2 ^ q), sc, un, wd) := ⟨g2, wH28, by rw [eg2]; exact hR.st hj (xor_lt hcj (by omega))⟩
      have c32 := wF31.at (by decide) c12
      have c33 := c13.fr wF31 (by decide)
      have c34 := c14.fr wF31 (by decide)
      have c35 := c15.fr wF31 (by decide)
      have c36 := c16.fr wF31 (by decide) (by decide)
      have c37 := c17.fr wF31 (by decide) (by decide)
      have c38 := c18.fr wF31 (by decide)
      have c39 := c19.fr wF31 (by decide)
      have c40 := c20.fr wF31 (by decide)
      have c41 := c21.fr wF31 (by decide)
      have c42 := c22.fr wF31 (by decide)
      have c43 := c23.fr wF31 (by decide)
      have c44 := c24.fr wF31 (by decide)
      have c45 := c25.fr wF31 (by decide)
      have FF46 : Fr LM hp wp27 := FF26.trans (wF31.mono (by decide))
      refine R_aload_n dX12_damageIfFlipped_50 rfl rfl ?_
      have hMM : MJ wp27 (ms, (cs, sc, un, wd), hs, s0, s1, os, ox) := ⟨_, _, _, _, c32, c33, c34, hq3.ax, c35, c36, c37, c38, c39, c40, c41, c42, c43, c44, c45⟩
      refine R_calli (As := []) (st := []) kX12_unlike lX12_171 (r_unlike (by rw [List.length_set]) hMM hq3) rfl c32 dX12_damageIfFlipped_51 rfl rfl (Nat.le_of_ble_eq_true rfl) ⟨by decide, by decide⟩ zX12_unlike ⟨Nat.le_refl _, Nat.le_refl _⟩ (fun wr49 wp48 wq47 => ?_)
      obtain ⟨rfl, hu1, hu2⟩ := wq47
      have hf9 : f_dfl (ms, (cs, sc, un, wd), hs, s0, s1, os, ox) (nI j) (nI q) = (nI (diffC un sc sc cs (cs.set j (cs[j] ^^^ 2 ^ q))), (ms, (cs, sc, un, wd), hs, s0, s1, os, ox)) := by unfold f_dfl; dsimp only; rw [hb4, if_pos rfl, hw8, if_pos rfl, vN_n (by omega), vN_n (by omega), gD hj]
      rw [hf9]
      exact R_reti dX12_damageIfFlipped_54 rfl rfl rfl ⟨rfl, hu1, FF46.trans hu2⟩
set_option maxRecDepth 100000 in
set_option maxHeartbeats 4000000 in
theorem r_loL {ms : List Nat} {cs : List Nat} {sc un wd : Nat} {hs : List TP} {s0 s1 : Option TP} {os : List (Nat × Nat)} {ox : Nat} {i : Nat} {hz : HPt} (hi : i < cs.length) (hM : MJ hz (ms, (cs, sc, un, wd), hs, s0, s1, os, ox)) (hT : LtA hz 70 71 74 cs sc un) (hU : LtA hz 72 73 75 (cs.eraseIdx i) sc un) (hF : Fr LM hp hz) : ∀ (d j nn : Nat), j + d = cs.length → i < j → lossD un sc cs i = nn + lossC un (cAt un sc cs j) (cAt un sc (cs.eraseIdx i) (j - 1)) (cs.drop j) → PZ l X (MZi X mX12_damageIfLost (fun r hp' => r = nI (lossD un sc cs i) ∧ MJ hp' (ms, (cs, sc, un, wd), hs, s0, s1, os, ox) ∧ Fr LM hp hp')) mX12_damageIfLost 51 [some (.ref 61), some (.int (nI i)), some (.int (nI nn)), some (.int (nI j))] [] hz 0 0 := by
  have hel : (cs.eraseIdx i).length = cs.length - 1 := List.length_eraseIdx_of_lt hi
  obtain ⟨nx, tl, sl, st, M0, MM, MN, MT, MD, MK, MO, A70, A71, A72, A73, A74, A75, A76, A77⟩ := id hM
  obtain ⟨hL, hC3, hs1, -⟩ := MN.ok
  obtain ⟨g1, w1, t1, -, Hw1, -, -, hw1, -⟩ := id hT
  obtain ⟨g2, w2, t2, -, Hw2, -, -, hw2, -⟩ := id hU
  obtain ⟨f, Ha, hR⟩ := id MN
  obtain ⟨h0, h1, h2, h3, hf, -⟩ := hR.to
  intro d
  induction d with
  | zero =>
    intro j nn hj hij hR9
    refine R_iload_n dX12_damageIfLost_51 rfl rfl ?_
    refine R_aload_n dX12_damageIfLost_52 rfl rfl ?_
    refine R_getf dX12_damageIfLost_53 gX12_13 M0 rfl ?_
    refine R_iconst (v := (nI 0)) dX12_damageIfLost_56 (by decide) ?_
    refine N_iald (y := (nI (cs.length))) dX12_damageIfLost_57 Ha (by decide) (by decide) h0 ?_
    refine N_icmp_ge (tgt := 105) dX12_damageIfLost_58 (by decide) (by omega) (by omega) (fun _ => ?_) (fun hc => absurd hc (by omega))
    refine R_iload_n dX12_damageIfLost_105 rfl rfl ?_
    have e9 : lossD un sc cs i = nn := by rw [hR9, List.drop_eq_nil_of_le (by omega)]; simp [lossC]
    exact R_reti dX12_damageIfLost_106 rfl rfl rfl ⟨by rw [e9], hM, hF⟩
  | succ d ih =>
    intro j nn hj hij hR9
    rw [drop_c (cs := cs) (by omega)] at hR9
    simp only [lossC] at hR9
    have e8 : cAft un cs[j] (cAt un sc (cs.eraseIdx i) (j - 1)) = cAt un sc (cs.eraseIdx i) j := by
      have := cAt_s (un := un) (sc := sc) (cs := cs.eraseIdx i) (i := j - 1) (by omega)
      rw [er_at hi hij (by omega) (by omega), show j - 1 + 1 = j by omega] at this
      exact this.symm
    rw [← cAt_s (by omega), e8] at hR9
    have hcj := hC3 cs[j] (List.getElem_mem (by omega))
    have hc1 : cAt un sc cs j ≤ 1 := cAt_le hs1
    have hc2 : cAt un sc (cs.eraseIdx i) (j - 1) ≤ 1 := cAt_le hs1
    refine R_iload_n dX12_damageIfLost_51 rfl rfl ?_
    refine R_aload_n dX12_damageIfLost_52 rfl rfl ?_
    refine R_getf dX12_damageIfLost_53 gX12_13 M0 rfl ?_
    refine R_iconst (v := (nI 0)) dX12_damageIfLost_56 (by decide) ?_
    refine N_iald (y := (nI (cs.length))) dX12_damageIfLost_57 Ha (by decide) (by decide) h0 ?_
    refine N_icmp_ge (tgt := 105) dX12_damageIfLost_58 (by decide) (by omega) (by omega) (fun hc => absurd hc (by omega)) (fun _ => ?_)
    refine R_iload_n dX12_damageIfLost_61 rfl rfl ?_
    refine R_aload_n dX12_damageIfLost_62 rfl rfl ?_
    refine R_getf dX12_damageIfLost_63 gX12_13 M0 rfl ?_
    refine R_iconst (v := (nI 4)) dX12_damageIfLost_66 (by decide) ?_
    refine R_iload_n dX12_damageIfLost_67 rfl rfl ?_
    refine N_iadd dX12_damageIfLost_68 ?_
    refine N_iald (y := (nI (cs[j]))) dX12_damageIfLost_69 Ha (by omega) (by decide) (hf j (by omega)) ?_
    refine R_bipush (v := (nI 26)) dX12_damageIfLost_70 (by decide) ?_
    refine N_icmp_ge (tgt := 96) dX12_damageIfLost_72 (by decide) (by omega) (by omega) (fun h26 => ?_) (fun h26 => ?_)
    · refine R_iconst (v := (nI 0)) dX12_damageIfLost_96 (by decide) ?_
      refine N_iadd dX12_damageIfLost_97 ?_
      refine R_istore_n (lv' := [some (.ref 61), some (.int (nI i)), some (.int (nI (nn + 0))), some (.int (nI j))]) dX12_damageIfLost_98 rfl (by decide) rfl ?_
      refine N_iinc (d := 1) (lv' := [some (.ref 61), some (.int (nI i)), some (.int (nI (nn + 0))), some (.int (nI (j + 1)))]) dX12_damageIfLost_99 rfl rfl ?_
      refine R_goto (tgt := 51) dX12_damageIfLost_102 (by decide) ?_
      exact ih (j + 1) (nn + 0) (by omega) (by omega) (by rw [hR9, if_neg (by omega)]; show _ = nn + 0 + lossC un _ (cAt un sc (cs.eraseIdx i) j) _; omega)
    · refine R_aload_n dX12_damageIfLost_75 rfl rfl ?_
      refine R_getf dX12_damageIfLost_76 gX12_38 M0 rfl ?_
      refine R_iload_n dX12_damageIfLost_79 rfl rfl ?_
      refine N_iald (y := (nI (cAt un sc cs j))) dX12_damageIfLost_80 Hw1 (by omega) (by decide) (hw1 j (by omega)) ?_
      refine R_aload_n dX12_damageIfLost_81 rfl rfl ?_
      refine R_getf dX12_damageIfLost_82 gX12_44 M0 rfl ?_
      refine R_iload_n dX12_damageIfLost_85 rfl rfl ?_
      refine R_iconst (v := (nI 1)) dX12_damageIfLost_86 (by decide) ?_
      refine N_isub dX12_damageIfLost_87 (by omega) ?_
      refine N_iald (y := (nI (cAt un sc (cs.eraseIdx i) (j - 1)))) dX12_damageIfLost_88 Hw2 (by omega) (by decide) (hw2 (j - 1) (by omega)) ?_
      refine N_icmp_eq (tgt := 96) dX12_damageIfLost_89 (by decide) (by omega) (by omega) (fun hpq => ?_) (fun hpq => ?_)
      · refine R_iconst (v := (nI 0)) dX12_damageIfLost_96 (by decide) ?_
        refine N_iadd dX12_damageIfLost_97 ?_
        refine R_istore_n (lv' := [some (.ref 61), some (.int (nI i)), some (.int (nI (nn + 0))), some (.int (nI j))]) dX12_damageIfLost_98 rfl (by decide) rfl ?_
        refine N_iinc (d := 1) (lv' := [some (.ref 61), some (.int (nI i)), some (.int (nI (nn + 0))), some (.int (nI (j + 1)))]) dX12_damageIfLost_99 rfl rfl ?_
        refine R_goto (tgt := 51) dX12_damageIfLost_102 (by decide) ?_
        exact ih (j + 1) (nn + 0) (by omega) (by omega) (by rw [hR9, if_neg (by omega)]; show _ = nn + 0 + lossC un _ (cAt un sc (cs.eraseIdx i) j) _; omega)
      · refine R_iconst (v := (nI 1)) dX12_damageIfLost_92 (by decide) ?_
        refine R_goto (tgt := 97) dX12_damageIfLost_93 (by decide) ?_
        refine N_iadd dX12_damageIfLost_97 ?_
        refine R_istore_n (lv' := [some (.ref 61), some (.int (nI i)), some (.int (nI (nn + 1))), some (.int (nI j))]) dX12_damageIfLost_98 rfl (by decide) rfl ?_
        refine N_iinc (d := 1) (lv' := [some (.ref 61), some (.int (nI i)), some (.int (nI (nn + 1))), some (.int (nI (j + 1)))]) dX12_damageIfLost_99 rfl rfl ?_
        refine R_goto (tgt := 51) dX12_damageIfLost_102 (by decide) ?_
        exact ih (j + 1) (nn + 1) (by omega) (by omega) (by rw [hR9, if_pos (by omega)]; show _ = nn + 1 + lossC un _ (cAt un sc (cs.eraseIdx i) j) _; omega)
set_option maxRecDepth 100000 in
set_option maxHeartbeats 4000000 in
theorem y_lost {ms : List Nat} {cs : List Nat} {sc un wd : Nat} {hs : List TP} {s0 s1 : Option TP} {os : List (Nat × Nat)} {ox : Nat} {i : Int32} (hM : MJ hp (ms, (cs, sc, un, wd), hs, s0, s1, os, ox)) : SpI l X mX12_damageIfLost [.ref 61, .int (i)] hp (fun r hp' => r = (f_lost (ms, (cs, sc, un, wd), hs, s0, s1, os, ox) i).1 ∧ MJ hp' (f_lost (ms, (cs, sc, un, wd), hs, s0, s1, os, ox) i).2 ∧ Fr LM hp hp') := by
  obtain ⟨nx, tl, sl, st, M0, MM, MN, MT, MD, MK, MO, A70, A71, A72, A73, A74, A75, A76, A77⟩ := hM
  obtain ⟨hL, hC3, hs1, hu1, hw1, hw2⟩ := MN.ok
  obtain ⟨hmL, hmC⟩ := MM.ok
  obtain ⟨hnx0, hsl0⟩ := MD.ok
  obtain ⟨hol0, hox0⟩ := MO.ok
  refine SpI.of pnX12 (Nat.le_of_ble_eq_true rfl) rfl ?_
  refine R_aload_n dX12_damageIfLost_0 rfl rfl ?_
  refine R_iload_n dX12_damageIfLost_1 rfl rfl ?_
  refine R_calli (As := [.int (i)]) (st := []) kX12_isIndex lX12_98 (r_isx (i := i) M0 MN) rfl M0 dX12_damageIfLost_2 rfl rfl (Nat.le_of_ble_eq_true rfl) ⟨by decide, by decide⟩ zX12_isIndex ⟨Nat.le_refl _, Nat.le_refl _⟩ (fun wr3 wp2 wq1 => ?_)
  obtain ⟨rfl, rfl⟩ : wr3 = _ ∧ hp = wp2 := ⟨wq1.1, wq1.2.symm⟩
  cases hb4 : inB i cs.length with
  | false =>
    show PZ _ _ _ _ _ _ (.int (nI 0) :: _) _ _ _
    refine N_if_ne (tgt := 10) dX12_damageIfLost_5 (by decide) (by decide) (fun hc => absurd hc (by decide)) (fun _ => ?_)
    have hf : f_lost (ms, (cs, sc, un, wd), hs, s0, s1, os, ox) i = (-1, (ms, (cs, sc, un, wd), hs, s0, s1, os, ox)) := by unfold f_lost; dsimp only; rw [hb4]; rfl
    refine R_iconst (v := (-1)) dX12_damageIfLost_8 (by decide) ?_
    rw [hf]
    exact R_reti dX12_damageIfLost_9 rfl rfl rfl ⟨rfl, ⟨_, _, _, _, M0, MM, MN, MT, MD, MK, MO, A70, A71, A72, A73, A74, A75, A76, A77⟩, (Fr.rf (L := LM) (hp := hp))⟩
  | true =>
    show PZ _ _ _ _ _ _ (.int (nI 1) :: _) _ _ _
    obtain ⟨j, hj, rfl⟩ := inB_t (by omega) hb4
    refine N_if_ne (tgt := 10) dX12_damageIfLost_5 (by decide) (by decide) (fun _ => ?_) (fun hc => absurd hc (by decide))
    refine R_aload_n dX12_damageIfLost_10 rfl rfl ?_
    refine R_aload_n dX12_damageIfLost_11 rfl rfl ?_
    refine R_getf dX12_damageIfLost_12 gX12_13 M0 rfl ?_
    refine R_callv (As := [.ref 63]) (st := []) kX12_layText lX12_102 (r_lt M0 MN A70 A71 A74) rfl M0 dX12_damageIfLost_15 rfl rfl (Nat.le_of_ble_eq_true rfl) ⟨by decide, by decide⟩ zX12_layText ⟨Nat.le_refl _, Nat.le_refl _⟩ (fun wp6 wq5 => ?_)
    obtain ⟨hl1, hl2, hl3⟩ := wq5
    have c8 := MM.fr hl3 (by decide)
    have c9 := MN.fr hl3 (by decide)
    have c10 := MT.fr hl3 (by decide)
    have c11 := MD.fr hl3 (by decide)
    have c12 := MK.fr hl3 (by decide) (by decide)
    have c13 := MO.fr hl3 (by decide) (by decide)
    have c14 := A72.fr hl3 (by decide)
    have c15 := A73.fr hl3 (by decide)
    have c16 := A75.fr hl3 (by decide)
    have c17 := A76.fr hl3 (by decide)
    have c18 := A77.fr hl3 (by decide)
    have FF19 : Fr LM hp wp6 := (Fr.rf (L := LM) (hp := hp)).trans (hl3.mono (by decide))
    refine R_aload_n dX12_damageIfLost_18 rfl rfl ?_
    refine R_getf dX12_damageIfLost_19 gX12_13 hl1 rfl ?_
    refine R_aload_n dX12_damageIfLost_22 rfl rfl ?_
    refine R_getf dX12_damageIfLost_23 gX12_16 hl1 rfl ?_
    refine R_statv (As := [.ref 63, .ref 64]) (st := []) kX12_copy lX12_129 (r_cpR (by decide) c9 c10) dX12_damageIfLost_26 rfl rfl (Nat.le_of_ble_eq_true rfl) ⟨by decide, by decide⟩ zX12_copy ⟨Nat.le_refl _, Nat.le_refl _⟩ (fun wp21 wq20 => ?_)
    obtain ⟨hq1, hq2⟩ := wq20
    have c23 := hq2.at (by decide) hl1
    have c24 := c8.fr hq2 (by decide)
    have c25 := c9.fr hq2 (by decide)
    have c26 := c11.fr hq2 (by decide)
    have c27 := c12.fr hq2 (by decide) (by decide)
    have c28 := c13.fr hq2 (by decide) (by decide)
    have c29 := hl2.x1.fr hq2 (by decide)
    have c30 := hl2.x2.fr hq2 (by decide)
    have c31 := c14.fr hq2 (by decide)
    have c32 := c15.fr hq2 (by decide)
    have c33 := hl2.x3.fr hq2 (by decide)
    have c34 := c16.fr hq2 (by decide)
    have c35 := c17.fr hq2 (by decide)
    have c36 := c18.fr hq2 (by decide)
    have FF37 : Fr LM hp wp21 := FF19.trans (hq2.mono (by decide))
    refine R_aload_n dX12_damageIfLost_29 rfl rfl ?_
    refine R_getf dX12_damageIfLost_30 gX12_16 c23 rfl ?_
    refine R_iload_n dX12_damageIfLost_33 rfl rfl ?_
    refine R_statv (As := [.ref 64, .int (nI j)]) (st := []) kX12_takeOut lX12_143 (r_tk hj hq1) dX12_damageIfLost_34 rfl rfl (Nat.le_of_ble_eq_true rfl) ⟨by decide, by decide⟩ zX12_takeOut ⟨Nat.le_refl _, Nat.le_refl _⟩ (fun wp39 wq38 => ?_)
    obtain ⟨hq3, hq4⟩ := wq38
    have c41 := hq4.at (by decide) c23
    have c42 := c24.fr hq4 (by decide)
    have c43 := c25.fr hq4 (by decide)
    have c44 := c26.fr hq4 (by decide)
    have c45 := c27.fr hq4 (by decide) (by decide)
    have c46 := c28.fr hq4 (by decide) (by decide)
    have c47 := c29.fr hq4 (by decide)
    have c48 := c30.fr hq4 (by decide)
    have c49 := c31.fr hq4 (by decide)
    have c50 := c32.fr hq4 (by decide)
    have c51 := c33.fr hq4 (by decide)
    have c52 := c34.fr hq4 (by decide)
    have c53 := c35.fr hq4 (by decide)
    have c54 := c36.fr hq4 (by decide)
    have FF55 : Fr LM hp wp39 := FF37.trans (hq4.mono (by decide))
    refine R_aload_n dX12_damageIfLost_37 rfl rfl ?_
    refine R_aload_n dX12_damageIfLost_38 rfl rfl ?_
    refine R_getf dX12_damageIfLost_39 gX12_16 c41 rfl ?_
    refine R_callv (As := [.ref 64]) (st := []) kX12_laySecond lX12_149 (r_ls c41 hq3 c49 c50 c52) rfl c41 dX12_damageIfLost_42 rfl rfl (Nat.le_of_ble_eq_true rfl) ⟨by decide, by decide⟩ zX12_laySecond ⟨Nat.le_refl _, Nat.le_refl _⟩ (fun wp57 wq56 => ?_)
    obtain ⟨hk1, hk2, hk3⟩ := wq56
    have c59 := c42.fr hk3 (by decide)
    have c60 := c43.fr hk3 (by decide)
    have c61 := hq3.ax.fr hk3 (by decide)
    have c62 := c44.fr hk3 (by decide)
    have c63 := c45.fr hk3 (by decide) (by decide)
    have c64 := c46.fr hk3 (by decide) (by decide)
    have c65 := c47.fr hk3 (by decide)
    have c66 := c48.fr hk3 (by decide)
    have c67 := c51.fr hk3 (by decide)
    have c68 := c53.fr hk3 (by decide)
    have c69 := c54.fr hk3 (by decide)
    have FF70 : Fr LM hp wp57 := FF55.trans (hk3.mono (by decide))
    refine R_iconst (v := (nI 0)) dX12_damageIfLost_45 (by decide) ?_
    refine R_istore_n (lv' := [some (.ref 61), some (.int (nI j)), some (.int (nI 0)), none]) dX12_damageIfLost_46 rfl (by decide) rfl ?_
    refine R_iload_n dX12_damageIfLost_47 rfl rfl ?_
    refine R_iconst (v := (nI 1)) dX12_damageIfLost_48 (by decide) ?_
    refine N_iadd dX12_damageIfLost_49 ?_
    refine R_istore_n (lv' := [some (.ref 61), some (.int (nI j)), some (.int (nI 0)), some (.int (nI (j + 1)))]) dX12_damageIfLost_50 rfl (by decide) rfl ?_
    have hl4 := ((hl2.fr hq2 (by decide) (by decide) (by decide)).fr hq4 (by decide) (by decide) (by decide)).fr hk3 (by decide) (by decide) (by decide)
    have hf9 : f_lost (ms, (cs, sc, un, wd), hs, s0, s1, os, ox) (nI j) = (nI (lossD un sc cs j), (ms, (cs, sc, un, wd), hs, s0, s1, os, ox)) := by unfold f_lost; dsimp only; rw [hb4, if_pos rfl, vN_n (by omega)]
    rw [hf9]
    exact r_loL hj ⟨_, _, _, _, hk1, c59, c60, c61, c62, c63, c64, c65, c66, hk2.x1, hk2.x2, c67, hk2.x3, c68, c69⟩ hl4 hk2 FF70 (cs.length - 1 - j) (j + 1) 0 (by omega) (by omega) (by rw [Nat.add_sub_cancel, cAt_er0 hj, cAt_s hj]; unfold lossD; rw [gD hj]; omega)
end R35
