/-! The reference's calls, second part -/
section R34
variable {l : Launch} {X : EX} {hp : HPt}
set_option maxRecDepth 100000 in
set_option maxHeartbeats 4000000 in
theorem r_cpR {a b : Nat} {T : TP} (hab : a ≠ b) (H : RwAt hp a T) (HB : AX hp b 100) : SpV l X mX12_copy [.ref a, .ref b] hp (fun hp' => RwAt hp' b T ∧ Fr [b] hp hp') := by
  obtain ⟨f, Ha, hR⟩ := H
  obtain ⟨g, Hb⟩ := HB
  exact (r_copy hab Ha Hb).imp (fun hp' h => by
    obtain ⟨⟨g', h1, h2⟩, h3⟩ := h
    exact ⟨⟨g', h1, hR.cg (fun q hq => by rw [Nat.zero_add]; exact h2 q hq)⟩, h3⟩)
set_option maxRecDepth 100000 in
set_option maxHeartbeats 4000000 in
theorem r_turn1 {ms : List Nat} {cs : List Nat} {sc un wd : Nat} {hs : List TP} {s0 s1 : Option TP} {os : List (Nat × Nat)} {ox : Nat} {v : Int32} (hM : MJ hp (ms, (cs, sc, un, wd), hs, s0, s1, os, ox)) : SpI l X mX12_turn [.ref 61, .int (nI 1), .int v, .int (nI 0), .int (nI 1)] hp (fun r hp' => r = (f_start (ms, (cs, sc, un, wd), hs, s0, s1, os, ox) v).1 ∧ MJ hp' (f_start (ms, (cs, sc, un, wd), hs, s0, s1, os, ox) v).2 ∧ Fr LM hp hp') := by
  obtain ⟨nx, tl, sl, st, M0, MM, MN, MT, MD, MK, MO, A70, A71, A72, A73, A74, A75, A76, A77⟩ := hM
  obtain ⟨hL, hC3, hs1, hu1, hw1, hw2⟩ := MN.ok
  refine SpI.of pnX12 (Nat.le_of_ble_eq_true rfl) rfl ?_
  refine R_iload_n dX12_turn_0 rfl rfl ?_
  refine R_i2l dX12_turn_1 ?_
  refine R_iload_n dX12_turn_2 rfl rfl ?_
  refine R_i2l dX12_turn_3 ?_
  refine R_iload dX12_turn_4 rfl ?_
  refine R_i2l dX12_turn_6 ?_
  refine R_stati (As := [.long ((v).toInt64), .long ((nI 0).toInt64), .long ((nI 1).toInt64)]) (st := []) kX12_in lX12_67 (r_inW 0 1 (nI_l (by decide)) (nI_l (by decide)) (by decide) (by decide)) dX12_turn_7 rfl rfl (Nat.le_of_ble_eq_true rfl) ⟨by decide, by decide⟩ zX12_in ⟨Nat.le_refl _, Nat.le_refl _⟩ (fun wr3 wp2 wq1 => ?_)
  obtain ⟨rfl, rfl⟩ : wr3 = _ ∧ hp = wp2 := ⟨wq1.1, wq1.2.symm⟩
  cases hw : inW v 0 1 with
  | false =>
    show PZ _ _ _ _ _ _ (.int (nI 0) :: _) _ _ _
    refine N_if_ne (tgt := 16) dX12_turn_10 (by decide) (by decide) (fun hc => absurd hc (by decide)) (fun _ => ?_)
    have hf : f_start (ms, (cs, sc, un, wd), hs, s0, s1, os, ox) v = (-2, (ms, (cs, sc, un, wd), hs, s0, s1, os, ox)) := by unfold f_start; dsimp only; rw [hw]; rfl
    refine R_bipush (v := (-2)) dX12_turn_13 (by decide) ?_
    rw [hf]
    exact R_reti dX12_turn_15 rfl rfl rfl ⟨rfl, ⟨_, _, _, _, M0, MM, MN, MT, MD, MK, MO, A70, A71, A72, A73, A74, A75, A76, A77⟩, (Fr.rf (L := LM) (hp := hp))⟩
  | true =>
    show PZ _ _ _ _ _ _ (.int (nI 1) :: _) _ _ _
    obtain ⟨j, hj0, hj, rfl⟩ := inW_t (by decide) hw
    refine N_if_ne (tgt := 16) dX12_turn_10 (by decide) (by decide) (fun _ => ?_) (fun hc => absurd hc (by decide))
    refine R_aload_n dX12_turn_16 rfl rfl ?_
    refine R_callv (As := []) (st := []) kX12_note lX12_122 (r_note M0 MN MD) rfl M0 dX12_turn_17 rfl rfl (Nat.le_of_ble_eq_true rfl) ⟨by decide, by decide⟩ zX12_note ⟨Nat.le_refl _, Nat.le_refl _⟩ (fun wp5 wq4 => ?_)
    obtain ⟨hn1, hn2, hn3⟩ := wq4
    have c7 := MM.fr hn3 (by decide)
    have c8 := MN.fr hn3 (by decide)
    have c9 := MT.fr hn3 (by decide)
    have c10 := MK.fr hn3 (by decide) (by decide)
    have c11 := MO.fr hn3 (by decide) (by decide)
    have c12 := A70.fr hn3 (by decide)
    have c13 := A71.fr hn3 (by decide)
    have c14 := A72.fr hn3 (by decide)
    have c15 := A73.fr hn3 (by decide)
    have c16 := A74.fr hn3 (by decide)
    have c17 := A75.fr hn3 (by decide)
    have c18 := A76.fr hn3 (by decide)
    have c19 := A77.fr hn3 (by decide)
    have FF20 : Fr LM hp wp5 := (Fr.rf (L := LM) (hp := hp)).trans (hn3.mono (by decide))
    obtain ⟨f, Ha, hR⟩ := id c8
    obtain ⟨h0, h1, h2, h3, hf, -⟩ := hR.to
    refine R_aload_n dX12_turn_20 rfl rfl ?_
    refine R_getf dX12_turn_21 gX12_13 hn1 rfl ?_
    refine R_iload_n dX12_turn_24 rfl rfl ?_
    refine N_iald (y := (nI sc)) dX12_turn_25 Ha (by decide) (by decide) h1 ?_
    refine R_istore (lv' := [some (.ref 61), some (.int (nI 1)), some (.int (nI j)), some (.int (nI 0)), some (.int (nI 1)), some (.int (nI sc))]) dX12_turn_26 (by decide) rfl ?_
    refine R_aload_n dX12_turn_28 rfl rfl ?_
    refine R_getf dX12_turn_29 gX12_13 hn1 rfl ?_
    refine R_iload_n dX12_turn_32 rfl rfl ?_
    refine R_iload_n dX12_turn_33 rfl rfl ?_
    obtain ⟨g2, eg2⟩ : ∃ y, y = upd f 1 (nI j) := ⟨_, rfl⟩
    refine W_iast (f' := g2) dX12_turn_34 Ha (by decide) (by decide) eg2 (fun wp21 wH22 wE23 => ?_)
    have wH24 := (wE23 61 (by decide)).trans hn1
    have wF25 : Fr [63] wp5 wp21 := Fr.one wE23 (by simp)
    have hq1 : RwAt wp21 63 (cs, j, un, wd) := ⟨g2, wH22, RwH.to ⟨by rw [eg2, upd_n (by omega)]; exact h0, by rw [eg2, upd_s], by rw [eg2, upd_n (by omega)]; exact h2, by rw [eg2, upd_n (by omega)]; exact h3, fun i hi => by rw [eg2, upd_n (by omega)]; exact hf i hi, hL, hC3, by omega, by omega, by omega, by omega⟩⟩
    have c26 := wF25.at (by decide) hn1
    have c27 := c7.fr wF25 (by decide)
    have c28 := c9.fr wF25 (by decide)
    have c29 := hn2.fr wF25 (by decide)
    have c30 := c10.fr wF25 (by decide) (by decide)
    have c31 := c11.fr wF25 (by decide) (by decide)
    have c32 := c12.fr wF25 (by decide)
    have c33 := c13.fr wF25 (by decide)
    have c34 := c14.fr wF25 (by decide)
    have c35 := c15.fr wF25 (by decide)
    have c36 := c16.fr wF25 (by decide)
    have c37 := c17.fr wF25 (by decide)
    have c38 := c18.fr wF25 (by decide)
    have c39 := c19.fr wF25 (by decide)
    have FF40 : Fr LM hp wp21 := FF20.trans (wF25.mono (by decide))
    refine R_iload dX12_turn_35 rfl ?_
    have hf9 : f_start (ms, (cs, sc, un, wd), hs, s0, s1, os, ox) (nI j) = (nI sc, psh (ms, (cs, sc, un, wd), hs, s0, s1, os, ox) (cs, j, un, wd)) := by unfold f_start; dsimp only; rw [hw, if_pos rfl, vN_n (by omega)]
    rw [hf9]
    exact R_reti dX12_turn_37 rfl rfl rfl ⟨rfl, ⟨_, _, _, _, c26, c27, hq1, c28, c29, c30, c31, c32, c33, c34, c35, c36, c37, c38, c39⟩, FF40⟩
set_option maxRecDepth 100000 in
set_option maxHeartbeats 4000000 in
theorem y_start {ms : List Nat} {cs : List Nat} {sc un wd : Nat} {hs : List TP} {s0 s1 : Option TP} {os : List (Nat × Nat)} {ox : Nat} {v : Int32} (hM : MJ hp (ms, (cs, sc, un, wd), hs, s0, s1, os, ox)) : SpI l X mX12_setStartCase [.ref 61, .int v] hp (fun r hp' => r = (f_start (ms, (cs, sc, un, wd), hs, s0, s1, os, ox) v).1 ∧ MJ hp' (f_start (ms, (cs, sc, un, wd), hs, s0, s1, os, ox) v).2 ∧ Fr LM hp hp') := by
  obtain ⟨nx, tl, sl, st, M0, MM, MN, MT, MD, MK, MO, A70, A71, A72, A73, A74, A75, A76, A77⟩ := id hM
  refine SpI.of pnX12 (Nat.le_of_ble_eq_true rfl) rfl ?_
  refine R_aload_n dX12_setStartCase_0 rfl rfl ?_
  refine R_iconst (v := (nI 1)) dX12_setStartCase_1 (by decide) ?_
  refine R_iload_n dX12_setStartCase_2 rfl rfl ?_
  refine R_iconst (v := (nI 0)) dX12_setStartCase_3 (by decide) ?_
  refine R_iconst (v := (nI 1)) dX12_setStartCase_4 (by decide) ?_
  refine R_calli (As := [.int (nI 1), .int (v), .int (nI 0), .int (nI 1)]) (st := []) kX12_turn lX12_159 (r_turn1 hM) rfl M0 dX12_setStartCase_5 rfl rfl (Nat.le_of_ble_eq_true rfl) ⟨by decide, by decide⟩ zX12_turn ⟨Nat.le_refl _, Nat.le_refl _⟩ (fun wr3 wp2 wq1 => ?_)
  obtain ⟨rfl, hq1, hq2⟩ := wq1
  exact R_reti dX12_setStartCase_8 rfl rfl rfl ⟨rfl, hq1, hq2⟩
set_option maxRecDepth 100000 in
set_option maxHeartbeats 4000000 in
theorem r_turn2 {ms : List Nat} {cs : List Nat} {sc un wd : Nat} {hs : List TP} {s0 s1 : Option TP} {os : List (Nat × Nat)} {ox : Nat} {v : Int32} (hM : MJ hp (ms, (cs, sc, un, wd), hs, s0, s1, os, ox)) : SpI l X mX12_turn [.ref 61, .int (nI 2), .int v, .int (nI 0), .int (nI 1)] hp (fun r hp' => r = (f_opt (ms, (cs, sc, un, wd), hs, s0, s1, os, ox) v).1 ∧ MJ hp' (f_opt (ms, (cs, sc, un, wd), hs, s0, s1, os, ox) v).2 ∧ Fr LM hp hp') := by
  obtain ⟨nx, tl, sl, st, M0, MM, MN, MT, MD, MK, MO, A70, A71, A72, A73, A74, A75, A76, A77⟩ := hM
  obtain ⟨hL, hC3, hs1, hu1, hw1, hw2⟩ := MN.ok
  refine SpI.of pnX12 (Nat.le_of_ble_eq_true rfl) rfl ?_
  refine R_iload_n dX12_turn_0 rfl rfl ?_
  refine R_i2l dX12_turn_1 ?_
  refine R_iload_n dX12_turn_2 rfl rfl ?_
  refine R_i2l dX12_turn_3 ?_
  refine R_iload dX12_turn_4 rfl ?_
  refine R_i2l dX12_turn_6 ?_
  refine R_stati (As := [.long ((v).toInt64), .long ((nI 0).toInt64), .long ((nI 1).toInt64)]) (st := []) kX12_in lX12_67 (r_inW 0 1 (nI_l (by decide)) (nI_l (by decide)) (by decide) (by decide)) dX12_turn_7 rfl rfl (Nat.le_of_ble_eq_true rfl) ⟨by decide, by decide⟩ zX12_in ⟨Nat.le_refl _, Nat.le_refl _⟩ (fun wr3 wp2 wq1 => ?_)
  obtain ⟨rfl, rfl⟩ : wr3 = _ ∧ hp = wp2 := ⟨wq1.1, wq1.2.symm⟩
  cases hw : inW v 0 1 with
  | false =>
    show PZ _ _ _ _ _ _ (.int (nI 0) :: _) _ _ _
    refine N_if_ne (tgt := 16) dX12_turn_10 (by decide) (by decide) (fun hc => absurd hc (by decide)) (fun _ => ?_)
    have hf : f_opt (ms, (cs, sc, un, wd), hs, s0, s1, os, ox) v = (-2, (ms, (cs, sc, un, wd), hs, s0, s1, os, ox)) := by unfold f_opt; dsimp only; rw [hw]; rfl
    refine R_bipush (v := (-2)) dX12_turn_13 (by decide) ?_
    rw [hf]
    exact R_reti dX12_turn_15 rfl rfl rfl ⟨rfl, ⟨_, _, _, _, M0, MM, MN, MT, MD, MK, MO, A70, A71, A72, A73, A74, A75, A76, A77⟩, (Fr.rf (L := LM) (hp := hp))⟩
  | true =>
    show PZ _ _ _ _ _ _ (.int (nI 1) :: _) _ _ _
    obtain ⟨j, hj0, hj, rfl⟩ := inW_t (by decide) hw
    refine N_if_ne (tgt := 16) dX12_turn_10 (by decide) (by decide) (fun _ => ?_) (fun hc => absurd hc (by decide))
    refine R_aload_n dX12_turn_16 rfl rfl ?_
    refine R_callv (As := []) (st := []) kX12_note lX12_122 (r_note M0 MN MD) rfl M0 dX12_turn_17 rfl rfl (Nat.le_of_ble_eq_true rfl) ⟨by decide, by decide⟩ zX12_note ⟨Nat.le_refl _, Nat.le_refl _⟩ (fun wp5 wq4 => ?_)
    obtain ⟨hn1, hn2, hn3⟩ := wq4
    have c7 := MM.fr hn3 (by decide)
    have c8 := MN.fr hn3 (by decide)
    have c9 := MT.fr hn3 (by decide)
    have c10 := MK.fr hn3 (by decide) (by decide)
    have c11 := MO.fr hn3 (by decide) (by decide)
    have c12 := A70.fr hn3 (by decide)
    have c13 := A71.fr hn3 (by decide)
    have c14 := A72.fr hn3 (by decide)
    have c15 := A73.fr hn3 (by decide)
    have c16 := A74.fr hn3 (by decide)
    have c17 := A75.fr hn3 (by decide)
    have c18 := A76.fr hn3 (by decide)
    have c19 := A77.fr hn3 (by decide)
    have FF20 : Fr LM hp wp5 := (Fr.rf (L := LM) (hp := hp)).trans (hn3.mono (by decide))
    obtain ⟨f, Ha, hR⟩ := id c8
    obtain ⟨h0, h1, h2, h3, hf, -⟩ := hR.to
    refine R_aload_n dX12_turn_20 rfl rfl ?_
    refine R_getf dX12_turn_21 gX12_13 hn1 rfl ?_
    refine R_iload_n dX12_turn_24 rfl rfl ?_
    refine N_iald (y := (nI un)) dX12_turn_25 Ha (by decide) (by decide) h2 ?_
    refine R_istore (lv' := [some (.ref 61), some (.int (nI 2)), some (.int (nI j)), some (.int (nI 0)), some (.int (nI 1)), some (.int (nI un))]) dX12_turn_26 (by decide) rfl ?_
    refine R_aload_n dX12_turn_28 rfl rfl ?_
    refine R_getf dX12_turn_29 gX12_13 hn1 rfl ?_
    refine R_iload_n dX12_turn_32 rfl rfl ?_
    refine R_iload_n dX12_turn_33 rfl rfl ?_
    obtain ⟨g2, eg2⟩ : ∃ y, y = upd f 2 (nI j) := ⟨_, rfl⟩
    refine W_iast (f' := g2) dX12_turn_34 Ha (by decide) (by decide) eg2 (fun wp21 wH22 wE23 => ?_)
    have wH24 := (wE23 61 (by decide)).trans hn1
    have wF25 : Fr [63] wp5 wp21 := Fr.one wE23 (by simp)
    have hq1 : RwAt wp21 63 (cs, sc, j, wd) := ⟨g2, wH22, RwH.to ⟨by rw [eg2, upd_n (by omega)]; exact h0, by rw [eg2, upd_n (by omega)]; exact h1, by rw [eg2, upd_s], by rw [eg2, upd_n (by omega)]; exact h3, fun i hi => by rw [eg2, upd_n (by omega)]; exact hf i hi, hL, hC3, by omega, by omega, by omega, by omega⟩⟩
    have c26 := wF25.at (by decide) hn1
    have c27 := c7.fr wF25 (by decide)
    have c28 := c9.fr wF25 (by decide)
    have c29 := hn2.fr wF25 (by decide)
    have c30 := c10.fr wF25 (by decide) (by decide)
    have c31 := c11.fr wF25 (by decide) (by decide)
    have c32 := c12.fr wF25 (by decide)
    have c33 := c13.fr wF25 (by decide)
    have c34 := c14.fr wF25 (by decide)
    have c35 := c15.fr wF25 (by decide)
    have c36 := c16.fr wF25 (by decide)
    have c37 := c17.fr wF25 (by decide)
    have c38 := c18.fr wF25 (by decide)
    have c39 := c19.fr wF25 (by decide)
    have FF40 : Fr LM hp wp21 := FF20.trans (wF25.mono (by decide))
    refine R_iload dX12_turn_35 rfl ?_
    have hf9 : f_opt (ms, (cs, sc, un, wd), hs, s0, s1, os, ox) (nI j) = (nI un, psh (ms, (cs, sc, un, wd), hs, s0, s1, os, ox) (cs, sc, j, wd)) := by unfold f_opt; dsimp only; rw [hw, if_pos rfl, vN_n (by omega)]
    rw [hf9]
    exact R_reti dX12_turn_37 rfl rfl rfl ⟨rfl, ⟨_, _, _, _, c26, c27, hq1, c28, c29, c30, c31, c32, c33, c34, c35, c36, c37, c38, c39⟩, FF40⟩
set_option maxRecDepth 100000 in
set_option maxHeartbeats 4000000 in
theorem y_opt {ms : List Nat} {cs : List Nat} {sc un wd : Nat} {hs : List TP} {s0 s1 : Option TP} {os : List (Nat × Nat)} {ox : Nat} {v : Int32} (hM : MJ hp (ms, (cs, sc, un, wd), hs, s0, s1, os, ox)) : SpI l X mX12_setUnshiftOnSpace [.ref 61, .int v] hp (fun r hp' => r = (f_opt (ms, (cs, sc, un, wd), hs, s0, s1, os, ox) v).1 ∧ MJ hp' (f_opt (ms, (cs, sc, un, wd), hs, s0, s1, os, ox) v).2 ∧ Fr LM hp hp') := by
  obtain ⟨nx, tl, sl, st, M0, MM, MN, MT, MD, MK, MO, A70, A71, A72, A73, A74, A75, A76, A77⟩ := id hM
  refine SpI.of pnX12 (Nat.le_of_ble_eq_true rfl) rfl ?_
  refine R_aload_n dX12_setUnshiftOnSpace_0 rfl rfl ?_
  refine R_iconst (v := (nI 2)) dX12_setUnshiftOnSpace_1 (by decide) ?_
  refine R_iload_n dX12_setUnshiftOnSpace_2 rfl rfl ?_
  refine R_iconst (v := (nI 0)) dX12_setUnshiftOnSpace_3 (by decide) ?_
  refine R_iconst (v := (nI 1)) dX12_setUnshiftOnSpace_4 (by decide) ?_
  refine R_calli (As := [.int (nI 2), .int (v), .int (nI 0), .int (nI 1)]) (st := []) kX12_turn lX12_159 (r_turn2 hM) rfl M0 dX12_setUnshiftOnSpace_5 rfl rfl (Nat.le_of_ble_eq_true rfl) ⟨by decide, by decide⟩ zX12_turn ⟨Nat.le_refl _, Nat.le_refl _⟩ (fun wr3 wp2 wq1 => ?_)
  obtain ⟨rfl, hq1, hq2⟩ := wq1
  exact R_reti dX12_setUnshiftOnSpace_8 rfl rfl rfl ⟨rfl, hq1, hq2⟩
set_option maxRecDepth 100000 in
set_option maxHeartbeats 4000000 in
theorem r_turn3 {ms : List Nat} {cs : List Nat} {sc un wd : Nat} {hs : List TP} {s0 s1 : Option TP} {os : List (Nat × Nat)} {ox : Nat} {v : Int32} (hM : MJ hp (ms, (cs, sc, un, wd), hs, s0, s1, os, ox)) : SpI l X mX12_turn [.ref 61, .int (nI 3), .int v, .int (nI 5), .int (nI 40)] hp (fun r hp' => r = (f_wid (ms, (cs, sc, un, wd), hs, s0, s1, os, ox) v).1 ∧ MJ hp' (f_wid (ms, (cs, sc, un, wd), hs, s0, s1, os, ox) v).2 ∧ Fr LM hp hp') := by
  obtain ⟨nx, tl, sl, st, M0, MM, MN, MT, MD, MK, MO, A70, A71, A72, A73, A74, A75, A76, A77⟩ := hM
  obtain ⟨hL, hC3, hs1, hu1, hw1, hw2⟩ := MN.ok
  refine SpI.of pnX12 (Nat.le_of_ble_eq_true rfl) rfl ?_
  refine R_iload_n dX12_turn_0 rfl rfl ?_
  refine R_i2l dX12_turn_1 ?_
  refine R_iload_n dX12_turn_2 rfl rfl ?_
  refine R_i2l dX12_turn_3 ?_
  refine R_iload dX12_turn_4 rfl ?_
  refine R_i2l dX12_turn_6 ?_
  refine R_stati (As := [.long ((v).toInt64), .long ((nI 5).toInt64), .long ((nI 40).toInt64)]) (st := []) kX12_in lX12_67 (r_inW 5 40 (nI_l (by decide)) (nI_l (by decide)) (by decide) (by decide)) dX12_turn_7 rfl rfl (Nat.le_of_ble_eq_true rfl) ⟨by decide, by decide⟩ zX12_in ⟨Nat.le_refl _, Nat.le_refl _⟩ (fun wr3 wp2 wq1 => ?_)
  obtain ⟨rfl, rfl⟩ : wr3 = _ ∧ hp = wp2 := ⟨wq1.1, wq1.2.symm⟩
  cases hw : inW v 5 40 with
  | false =>
    show PZ _ _ _ _ _ _ (.int (nI 0) :: _) _ _ _
    refine N_if_ne (tgt := 16) dX12_turn_10 (by decide) (by decide) (fun hc => absurd hc (by decide)) (fun _ => ?_)
    have hf : f_wid (ms, (cs, sc, un, wd), hs, s0, s1, os, ox) v = (-2, (ms, (cs, sc, un, wd), hs, s0, s1, os, ox)) := by unfold f_wid; dsimp only; rw [hw]; rfl
    refine R_bipush (v := (-2)) dX12_turn_13 (by decide) ?_
    rw [hf]
    exact R_reti dX12_turn_15 rfl rfl rfl ⟨rfl, ⟨_, _, _, _, M0, MM, MN, MT, MD, MK, MO, A70, A71, A72, A73, A74, A75, A76, A77⟩, (Fr.rf (L := LM) (hp := hp))⟩
  | true =>
    show PZ _ _ _ _ _ _ (.int (nI 1) :: _) _ _ _
    obtain ⟨j, hj0, hj, rfl⟩ := inW_t (by decide) hw
    refine N_if_ne (tgt := 16) dX12_turn_10 (by decide) (by decide) (fun _ => ?_) (fun hc => absurd hc (by decide))
    refine R_aload_n dX12_turn_16 rfl rfl ?_
    refine R_callv (As := []) (st := []) kX12_note lX12_122 (r_note M0 MN MD) rfl M0 dX12_turn_17 rfl rfl (Nat.le_of_ble_eq_true rfl) ⟨by decide, by decide⟩ zX12_note ⟨Nat.le_refl _, Nat.le_refl _⟩ (fun wp5 wq4 => ?_)
    obtain ⟨hn1, hn2, hn3⟩ := wq4
    have c7 := MM.fr hn3 (by decide)
    have c8 := MN.fr hn3 (by decide)
    have c9 := MT.fr hn3 (by decide)
    have c10 := MK.fr hn3 (by decide) (by decide)
    have c11 := MO.fr hn3 (by decide) (by decide)
    have c12 := A70.fr hn3 (by decide)
    have c13 := A71.fr hn3 (by decide)
    have c14 := A72.fr hn3 (by decide)
    have c15 := A73.fr hn3 (by decide)
    have c16 := A74.fr hn3 (by decide)
    have c17 := A75.fr hn3 (by decide)
    have c18 := A76.fr hn3 (by decide)
    have c19 := A77.fr hn3 (by decide)
    have FF20 : Fr LM hp wp5 := (Fr.rf (L := LM) (hp := hp)).trans (hn3.mono (by decide))
    obtain ⟨f, Ha, hR⟩ := id c8
    obtain ⟨h0, h1, h2, h3, hf, -⟩ := hR.to
    refine R_aload_n dX12_turn_20 rfl rfl ?_
    refine R_getf dX12_turn_21 gX12_13 hn1 rfl ?_
    refine R_iload_n dX12_turn_24 rfl rfl ?_
    refine N_iald (y := (nI wd)) dX12_turn_25 Ha (by decide) (by decide) h3 ?_
    refine R_istore (lv' := [some (.ref 61), some (.int (nI 3)), some (.int (nI j)), some (.int (nI 5)), some (.int (nI 40)), some (.int (nI wd))]) dX12_turn_26 (by decide) rfl ?_
    refine R_aload_n dX12_turn_28 rfl rfl ?_
    refine R_getf dX12_turn_29 gX12_13 hn1 rfl ?_
    refine R_iload_n dX12_turn_32 rfl rfl ?_
    refine R_iload_n dX12_turn_33 rfl rfl ?_
    obtain ⟨g2, eg2⟩ : ∃ y, y = upd f 3 (nI j) := ⟨_, rfl⟩
    refine W_iast (f' := g2) dX12_turn_34 Ha (by decide) (by decide) eg2 (fun wp21 wH22 wE23 => ?_)
    have wH24 := (wE23 61 (by decide)).trans hn1
    have wF25 : Fr [63] wp5 wp21 := Fr.one wE23 (by simp)
    have hq1 : RwAt wp21 63 (cs, sc, un, j) := ⟨g2, wH22, RwH.to ⟨by rw [eg2, upd_n (by omega)]; exact h0, by rw [eg2, upd_n (by omega)]; exact h1, by rw [eg2, upd_n (by omega)]; exact h2, by rw [eg2, upd_s], fun i hi => by rw [eg2, upd_n (by omega)]; exact hf i hi, hL, hC3, by omega, by omega, by omega, by omega⟩⟩
    have c26 := wF25.at (by decide) hn1
    have c27 := c7.fr wF25 (by decide)
    have c28 := c9.fr wF25 (by decide)
    have c29 := hn2.fr wF25 (by decide)
    have c30 := c10.fr wF25 (by decide) (by decide)
    have c31 := c11.fr wF25 (by decide) (by decide)
    have c32 := c12.fr wF25 (by decide)
    have c33 := c13.fr wF25 (by decide)
    have c34 := c14.fr wF25 (by decide)
    have c35 := c15.fr wF25 (by decide)
    have c36 := c16.fr wF25 (by decide)
    have c37 := c17.fr wF25 (by decide)
    have c38 := c18.fr wF25 (by decide)
    have c39 := c19.fr wF25 (by decide)
    have FF40 : Fr LM hp wp21 := FF20.trans (wF25.mono (by decide))
    refine R_iload dX12_turn_35 rfl ?_
    have hf9 : f_wid (ms, (cs, sc, un, wd), hs, s0, s1, os, ox) (nI j) = (nI wd, psh (ms, (cs, sc, un, wd), hs, s0, s1, os, ox) (cs, sc, un, j)) := by unfold f_wid; dsimp only; rw [hw, if_pos rfl, vN_n (by omega)]
    rw [hf9]
    exact R_reti dX12_turn_37 rfl rfl rfl ⟨rfl, ⟨_, _, _, _, c26, c27, hq1, c28, c29, c30, c31, c32, c33, c34, c35, c36, c37, c38, c39⟩, FF40⟩
set_option maxRecDepth 100000 in
set_option maxHeartbeats 4000000 in
theorem y_wid {ms : List Nat} {cs : List Nat} {sc un wd : Nat} {hs : List TP} {s0 s1 : Option TP} {os : List (Nat × Nat)} {ox : Nat} {v : Int32} (hM : MJ hp (ms, (cs, sc, un, wd), hs, s0, s1, os, ox)) : SpI l X mX12_setWidth [.ref 61, .int v] hp (fun r hp' => r = (f_wid (ms, (cs, sc, un, wd), hs, s0, s1, os, ox) v).1 ∧ MJ hp' (f_wid (ms, (cs, sc, un, wd), hs, s0, s1, os, ox) v).2 ∧ Fr LM hp hp') := by
  obtain ⟨nx, tl, sl, st, M0, MM, MN, MT, MD, MK, MO, A70, A71, A72, A73, A74, A75, A76, A77⟩ := id hM
  refine SpI.of pnX12 (Nat.le_of_ble_eq_true rfl) rfl ?_
  refine R_aload_n dX12_setWidth_0 rfl rfl ?_
  refine R_iconst (v := (nI 3)) dX12_setWidth_1 (by decide) ?_
  refine R_iload_n dX12_setWidth_2 rfl rfl ?_
  refine R_iconst (v := (nI 5)) dX12_setWidth_3 (by decide) ?_
  refine R_bipush (v := (nI 40)) dX12_setWidth_4 (by decide) ?_
  refine R_calli (As := [.int (nI 3), .int (v), .int (nI 5), .int (nI 40)]) (st := []) kX12_turn lX12_159 (r_turn3 hM) rfl M0 dX12_setWidth_6 rfl rfl (Nat.le_of_ble_eq_true rfl) ⟨by decide, by decide⟩ zX12_turn ⟨Nat.le_refl _, Nat.le_refl _⟩ (fun wr3 wp2 wq1 => ?_)
  obtain ⟨rfl, hq1, hq2⟩ := wq1
  exact R_reti dX12_setWidth_9 rfl rfl rfl ⟨rfl, hq1, hq2⟩
set_option maxRecDepth 100000 in
set_option maxHeartbeats 4000000 in
theorem r_unL {Z : ZT} {ln ac sn sx tl sl st : Int32} {ny : Nat} {f f0 : Nat → Int32} (hny : ny < 14) (K : ∀ (hz : HPt) (g : Nat → Int32), hz[61]? = some (ob 11 [.ref 62, .int (ln), .ref 63, .ref 64, .ref 65, .int (ac), .int (nI ny), .ref 66, .ref 67, .ref 68, .ref 69, .int (sn), .int (sx), .ref 70, .ref 71, .ref 72, .ref 73, .ref 74, .int (tl), .ref 75, .int (sl), .ref 76, .int (st), .ref 77]) → hz[65]? = some (ia 1400 f) → hz[63]? = some (ia 100 g) → (∀ q, q < 100 → g (q) = f (100 * ny + q)) → (∀ q, (q < 0 ∨ 0 + 100 ≤ q) → g q = f0 q) → Fr [63] hp hz → PZ l X Z mX12_undo 70 [some (.ref 61), some (.int (nI 100))] [] hz 0 0) : ∀ (d j : Nat) (hz : HPt) (g : Nat → Int32), j + d = 100 → hz[61]? = some (ob 11 [.ref 62, .int (ln), .ref 63, .ref 64, .ref 65, .int (ac), .int (nI ny), .ref 66, .ref 67, .ref 68, .ref 69, .int (sn), .int (sx), .ref 70, .ref 71, .ref 72, .ref 73, .ref 74, .int (tl), .ref 75, .int (sl), .ref 76, .int (st), .ref 77]) → hz[65]? = some (ia 1400 f) → hz[63]? = some (ia 100 g) → (∀ q, q < j → g (q) = f (100 * ny + q)) → (∀ q, (q < 0 ∨ 0 + 100 ≤ q) → g q = f0 q) → Fr [63] hp hz → PZ l X Z mX12_undo 38 [some (.ref 61), some (.int (nI j))] [] hz 0 0 := by
  intro d
  induction d with
  | zero =>
    intro j hz g hj H0 Hs Hd hg ho hF
    have hje : j = 100 := by omega
    subst hje
    refine R_iload_n dX12_undo_38 rfl rfl ?_
    refine R_bipush (v := (nI 100)) dX12_undo_39 (by decide) ?_
    refine N_icmp_ge (tgt := 70) dX12_undo_41 (by decide) (by omega) (by omega) (fun _ => ?_) (fun hc => absurd hc (by omega))
    exact K hz g H0 Hs Hd hg ho hF
  | succ d ih =>
    intro j hz g hj H0 Hs Hd hg ho hF
    refine R_iload_n dX12_undo_38 rfl rfl ?_
    refine R_bipush (v := (nI 100)) dX12_undo_39 (by decide) ?_
    refine N_icmp_ge (tgt := 70) dX12_undo_41 (by decide) (by omega) (by omega) (fun hc => absurd hc (by omega)) (fun _ => ?_)
    refine R_aload_n dX12_undo_44 rfl rfl ?_
    refine R_getf dX12_undo_45 gX12_13 H0 rfl ?_
    refine R_iload_n dX12_undo_48 rfl rfl ?_
    refine R_aload_n dX12_undo_49 rfl rfl ?_
    refine R_getf dX12_undo_50 gX12_19 H0 rfl ?_
    refine R_bipush (v := (nI 100)) dX12_undo_53 (by decide) ?_
    refine R_aload_n dX12_undo_55 rfl rfl ?_
    refine R_getf dX12_undo_56 gX12_106 H0 rfl ?_
    refine N_imul dX12_undo_59 ?_
    refine R_iload_n dX12_undo_60 rfl rfl ?_
    refine N_iadd dX12_undo_61 ?_
    refine N_iald (y := (f (100 * ny + j))) dX12_undo_62 Hs (by omega) (by decide) rfl ?_
    obtain ⟨g2, eg2⟩ : ∃ y, y = upd g j (f (100 * ny + j)) := ⟨_, rfl⟩
    refine W_iast (f' := g2) dX12_undo_63 Hd (by omega) (by decide) eg2 (fun wp1 wH2 wE3 => ?_)
    have wH4 := (wE3 61 (by decide)).trans H0
    have wH5 := (wE3 65 (by decide)).trans Hs
    have wF6 : Fr [63] hp wp1 := hF.trans (Fr.one wE3 (by simp))
    refine N_iinc (d := 1) (lv' := [some (.ref 61), some (.int (nI (j + 1)))]) dX12_undo_64 rfl rfl ?_
    refine R_goto (tgt := 38) dX12_undo_67 (by decide) ?_
    refine ih (j + 1) _ g2 (by omega) wH4 wH5 wH2 (fun q hq => ?_) (fun q hq => by rw [eg2, upd_n (by omega)]; exact ho q hq) wF6
    by_cases e : q = j
    · subst e; rw [eg2, upd_s]
    · rw [eg2, upd_n (by omega)]; exact hg q (by omega)
set_option maxRecDepth 100000 in
set_option maxHeartbeats 4000000 in
theorem y_undo {ms : List Nat} {cs : List Nat} {sc un wd : Nat} {hs : List TP} {s0 s1 : Option TP} {os : List (Nat × Nat)} {ox : Nat} (hM : MJ hp (ms, (cs, sc, un, wd), hs, s0, s1, os, ox)) : SpI l X mX12_undo [.ref 61] hp (fun r hp' => r = (f_undo (ms, (cs, sc, un, wd), hs, s0, s1, os, ox)).1 ∧ MJ hp' (f_undo (ms, (cs, sc, un, wd), hs, s0, s1, os, ox)).2 ∧ Fr LM hp hp') := by
  obtain ⟨nx, tl, sl, st, M0, MM, MN, MT, MD, MK, MO, A70, A71, A72, A73, A74, A75, A76, A77⟩ := hM
  obtain ⟨hL, hC3, hs1, hu1, hw1, hw2⟩ := MN.ok
  obtain ⟨hmL, hmC⟩ := MM.ok
  obtain ⟨hnx0, hsl0⟩ := MD.ok
  obtain ⟨hol0, hox0⟩ := MO.ok
  refine SpI.of pnX12 (Nat.le_of_ble_eq_true rfl) rfl ?_
  refine R_aload_n dX12_undo_0 rfl rfl ?_
  refine R_getf dX12_undo_1 gX12_109 M0 rfl ?_
  refine N_if_ne (tgt := 10) dX12_undo_4 (by decide) (by omega) (fun ha => ?_) (fun ha => ?_)
  · obtain ⟨T0, hs2, rfl⟩ := List.exists_cons_of_length_pos (Nat.pos_of_ne_zero ha)
    obtain ⟨f, Ha, hR⟩ := id MN
    obtain ⟨h0, h1, h2, h3, hf, -⟩ := hR.to
    obtain ⟨fd, Hd, hnx, hsl, hD⟩ := id MD
    refine R_aload_n dX12_undo_10 rfl rfl ?_
    refine R_dup dX12_undo_11 rfl ?_
    refine R_getf dX12_undo_12 gX12_109 M0 rfl ?_
    refine R_iconst (v := (nI 1)) dX12_undo_15 (by decide) ?_
    refine N_isub dX12_undo_16 (by simp) ?_
    refine W_puti (fs' := [.ref 62, .int (nI (ms.length)), .ref 63, .ref 64, .ref 65, .int (nI (((T0 :: hs2).length) - 1)), .int (nI nx), .ref 66, .ref 67, .ref 68, .ref 69, .int (nI (os.length)), .int (nI ox), .ref 70, .ref 71, .ref 72, .ref 73, .ref 74, .int (tl), .ref 75, .int (sl), .ref 76, .int (st), .ref 77]) dX12_undo_17 pX12_109 M0 (Nat.le_of_ble_eq_true rfl) rfl (fun wp1 wH2 wE3 => ?_)
    have wH4 := (wE3 63 (by decide)).trans Ha
    have wH5 := (wE3 65 (by decide)).trans Hd
    have wF6 : Fr [61] hp wp1 := Fr.one wE3 (by simp)
    refine R_aload_n dX12_undo_20 rfl rfl ?_
    refine R_aload_n dX12_undo_21 rfl rfl ?_
    refine R_getf dX12_undo_22 gX12_106 wH2 rfl ?_
    refine R_bipush (v := (nI 14)) dX12_undo_25 (by decide) ?_
    refine N_iadd dX12_undo_27 ?_
    refine R_iconst (v := (nI 1)) dX12_undo_28 (by decide) ?_
    refine N_isub dX12_undo_29 (by omega) ?_
    refine R_bipush (v := (nI 14)) dX12_undo_30 (by decide) ?_
    refine N_irem dX12_undo_32 (by omega) (by omega) (by omega) ?_
    refine W_puti (fs' := [.ref 62, .int (nI (ms.length)), .ref 63, .ref 64, .ref 65, .int (nI (((T0 :: hs2).length) - 1)), .int (nI (((nx + 14) - 1) % 14)), .ref 66, .ref 67, .ref 68, .ref 69, .int (nI (os.length)), .int (nI ox), .ref 70, .ref 71, .ref 72, .ref 73, .ref 74, .int (tl), .ref 75, .int (sl), .ref 76, .int (st), .ref 77]) dX12_undo_33 pX12_106 wH2 (Nat.le_of_ble_eq_true rfl) rfl (fun wp7 wH8 wE9 => ?_)
    have wH10 := (wE9 63 (by decide)).trans wH4
    have wH11 := (wE9 65 (by decide)).trans wH5
    have wF12 : Fr [61] hp wp7 := wF6.trans (Fr.one wE9 (by simp))
    refine R_iconst (v := (nI 0)) dX12_undo_36 (by decide) ?_
    refine R_istore_n (lv' := [some (.ref 61), some (.int (nI 0))]) dX12_undo_37 rfl (by decide) rfl ?_
    refine r_unL (ny := (nx + 14 - 1) % 14) (Nat.mod_lt _ (by omega)) (f0 := f) (fun hz g H0 Hs Hg hg ho hF => ?_) 100 0 _ f (by omega) wH8 wH11 wH10 (fun q hq => absurd hq (by omega)) (fun q hq => rfl) Fr.rf
    have hF9 : Fr [61, 63] hp hz := (wF12.mono (by decide)).trans (hF.mono (by decide))
    have hT0 : RwF fd (100 * rw14 nx 0) T0 := hD 0 (by simp)
    have e0 : rw14 nx 0 = (nx + 14 - 1) % 14 := by unfold rw14; omega
    rw [e0] at hT0
    have hq1 : RwAt hz 63 T0 := ⟨g, Hg, hT0.cg (fun q hq => by rw [Nat.zero_add]; exact hg q hq)⟩
    have hq2 : DiA hz hs2 ((nx + 14 - 1) % 14) := ⟨fd, Hs, Nat.mod_lt _ (by omega), by simp at hsl; omega, fun j hj => by
      have e1 : rw14 nx (j + 1) = rw14 ((nx + 14 - 1) % 14) j := by simp at hsl; unfold rw14; omega
      have := hD (j + 1) (by simp; omega)
      rw [e1] at this
      exact this⟩
    have c13 := MM.fr hF9 (by decide)
    have c14 := MT.fr hF9 (by decide)
    have c15 := MK.fr hF9 (by decide) (by decide)
    have c16 := MO.fr hF9 (by decide) (by decide)
    have c17 := A70.fr hF9 (by decide)
    have c18 := A71.fr hF9 (by decide)
    have c19 := A72.fr hF9 (by decide)
    have c20 := A73.fr hF9 (by decide)
    have c21 := A74.fr hF9 (by decide)
    have c22 := A75.fr hF9 (by decide)
    have c23 := A76.fr hF9 (by decide)
    have c24 := A77.fr hF9 (by decide)
    have FF25 : Fr LM hp hz := (Fr.rf (L := LM) (hp := hp)).trans (hF9.mono (by decide))
    refine R_aload_n dX12_undo_70 rfl rfl ?_
    refine R_getf dX12_undo_71 gX12_109 H0 rfl ?_
    exact R_reti dX12_undo_74 rfl rfl rfl ⟨rfl, ⟨_, _, _, _, H0, c13, hq1, c14, hq2, c15, c16, c17, c18, c19, c20, c21, c22, c23, c24⟩, FF25⟩
  · have hn : hs = [] := List.length_eq_zero_iff.mp ha
    subst hn
    refine R_bipush (v := (-3)) dX12_undo_7 (by decide) ?_
    skip
    exact R_reti dX12_undo_9 rfl rfl rfl ⟨rfl, ⟨_, _, _, _, M0, MM, MN, MT, MD, MK, MO, A70, A71, A72, A73, A74, A75, A76, A77⟩, (Fr.rf (L := LM) (hp := hp))⟩
theorem shf_len (un sc : Nat) (V : List Nat) (x : Nat) : V.length ≤ (shfV un sc V x).length := by
  unfold shfV; split
  · exact Nat.le_refl _
  · rw [len1]; omega
theorem encV_len (un sc : Nat) (V : List Nat) (x : Nat) : V.length < (encV un sc V x).length := by
  unfold encV; rw [len1]; have := shf_len un sc V x; omega
theorem encR_len (un sc : Nat) : ∀ (xs : List Nat) (V : List Nat), V.length ≤ (encR un sc V xs).length
  | [], V => Nat.le_refl _
  | x :: t, V => Nat.le_trans (Nat.le_of_lt (encV_len un sc V x)) (encR_len un sc t (encV un sc V x))
theorem tk_id {V : List Nat} (h : V.length ≤ 96) : V.take 96 = V := List.take_of_length_le h
set_option maxRecDepth 100000 in
set_option maxHeartbeats 4000000 in
theorem r_emL {ms : List Nat} {cs : List Nat} {sc un wd : Nat} {hs : List TP} {s0 s1 : Option TP} {os : List (Nat × Nat)} {ox : Nat} (hE : aEnc ms = true) : ∀ (d j : Nat) (hz : HPt) (V : List Nat), j + d = ms.length → MJ hz (ms, (cs, sc, un, wd), hs, s0, s1, os, ox) → (V.length ≤ 96 → RwAt hz 64 (V, sc, un, wd)) → encR un sc cs ms = encR un sc V (ms.drop j) → Fr LM hp hz → PZ l X (MZi X mX12_encodeMessage (fun r hp' => r = (f_enc (ms, (cs, sc, un, wd), hs, s0, s1, os, ox)).1 ∧ MJ hp' (f_enc (ms, (cs, sc, un, wd), hs, s0, s1, os, ox)).2 ∧ Fr LM hp hp')) mX12_encodeMessage 27 [some (.ref 61), some (.int (bz (decide (V.length ≤ 96)))), some (.int (nI j))] [] hz 0 0 := by
  intro d
  induction d with
  | zero =>
    intro j hz V hj hM hV hR hF
    obtain ⟨nx, tl, sl, st, M0, MM, MN, MT, MD, MK, MO, A70, A71, A72, A73, A74, A75, A76, A77⟩ := hM
    have hmL := MM.ok.1
    have hVt : encR un sc cs ms = V := by rw [hR, List.drop_eq_nil_of_le (by omega)]; rfl
    refine R_iload_n dX12_encodeMessage_27 rfl rfl ?_
    refine R_aload_n dX12_encodeMessage_28 rfl rfl ?_
    refine R_getf dX12_encodeMessage_29 gX12_92 M0 rfl ?_
    refine N_icmp_ge (tgt := 59) dX12_encodeMessage_32 (by decide) (by omega) (by omega) (fun _ => ?_) (fun hc => absurd hc (by omega))
    refine R_aload_n dX12_encodeMessage_59 rfl rfl ?_
    refine R_iload_n dX12_encodeMessage_60 rfl rfl ?_
    refine R_calli (As := [.int (bz (decide (V.length ≤ 96)))]) (st := []) kX12_take lX12_136 (r_take (V := V) (sc := sc) (un := un) (wd := wd) (b := decide (V.length ≤ 96)) M0 MN MT (fun h => hV (of_decide_eq_true h)) MD) rfl M0 dX12_encodeMessage_61 rfl rfl (Nat.le_of_ble_eq_true rfl) ⟨by decide, by decide⟩ zX12_take ⟨Nat.le_refl _, Nat.le_refl _⟩ (fun wr3 wp2 wq1 => ?_)
    obtain ⟨ht1, ht2⟩ := wq1
    by_cases hl : V.length ≤ 96
    · rw [if_pos (decide_eq_true hl)] at ht1
      obtain ⟨rfl, ht3, ht4, ht5⟩ := ht1
      have c4 := MM.fr ht2 (by decide)
      have c5 := MT.fr ht2 (by decide)
      have c6 := MK.fr ht2 (by decide) (by decide)
      have c7 := MO.fr ht2 (by decide) (by decide)
      have c8 := A70.fr ht2 (by decide)
      have c9 := A71.fr ht2 (by decide)
      have c10 := A72.fr ht2 (by decide)
      have c11 := A73.fr ht2 (by decide)
      have c12 := A74.fr ht2 (by decide)
      have c13 := A75.fr ht2 (by decide)
      have c14 := A76.fr ht2 (by decide)
      have c15 := A77.fr ht2 (by decide)
      have FF16 : Fr LM hp wp2 := hF.trans (ht2.mono (by decide))
      have hf : f_enc (ms, (cs, sc, un, wd), hs, s0, s1, os, ox) = (nI V.length, psh (ms, (cs, sc, un, wd), hs, s0, s1, os, ox) (V, sc, un, wd)) := by unfold f_enc; dsimp only; rw [hE, if_pos rfl]; unfold f_take; dsimp only; rw [hVt, if_pos hl]
      rw [hf]
      exact R_reti dX12_encodeMessage_64 rfl rfl rfl ⟨rfl, ⟨_, _, _, _, ht3, c4, ht4, c5, ht5, c6, c7, c8, c9, c10, c11, c12, c13, c14, c15⟩, FF16⟩
    · rw [if_neg (by rw [decide_eq_false hl]; decide)] at ht1
      obtain ⟨rfl, rfl⟩ := ht1
      have hf : f_enc (ms, (cs, sc, un, wd), hs, s0, s1, os, ox) = (-4, (ms, (cs, sc, un, wd), hs, s0, s1, os, ox)) := by unfold f_enc; dsimp only; rw [hE, if_pos rfl]; unfold f_take; dsimp only; rw [hVt, if_neg hl]
      rw [hf]
      exact R_reti dX12_encodeMessage_64 rfl rfl rfl ⟨rfl, ⟨_, _, _, _, M0, MM, MN, MT, MD, MK, MO, A70, A71, A72, A73, A74, A75, A76, A77⟩, hF⟩
  | succ d ih =>
    intro j hz V hj hM hV hR hF
    obtain ⟨nx, tl, sl, st, M0, MM, MN, MT, MD, MK, MO, A70, A71, A72, A73, A74, A75, A76, A77⟩ := hM
    have hmL := MM.ok.1
    have hmC := MM.ok.2 ms[j] (List.getElem_mem (by omega))
    have hce := aEnc_at hE (List.getElem_mem (l := ms) (n := j) (by omega))
    obtain ⟨fm, Hm, hfm, -⟩ := id MM
    refine R_iload_n dX12_encodeMessage_27 rfl rfl ?_
    refine R_aload_n dX12_encodeMessage_28 rfl rfl ?_
    refine R_getf dX12_encodeMessage_29 gX12_92 M0 rfl ?_
    refine N_icmp_ge (tgt := 59) dX12_encodeMessage_32 (by decide) (by omega) (by omega) (fun hc => absurd hc (by omega)) (fun _ => ?_)
    refine R_iload_n dX12_encodeMessage_35 rfl rfl ?_
    by_cases hl : V.length ≤ 96
    · rw [decide_eq_true hl]
      show PZ _ _ _ _ _ _ (.int (nI 1) :: _) _ _ _
      refine N_if_eq (tgt := 59) dX12_encodeMessage_36 (by decide) (by decide) (fun hc => absurd hc (by decide)) (fun _ => ?_)
      refine R_aload_n dX12_encodeMessage_39 rfl rfl ?_
      refine R_getf dX12_encodeMessage_40 gX12_16 M0 rfl ?_
      refine R_aload_n dX12_encodeMessage_43 rfl rfl ?_
      refine R_getf dX12_encodeMessage_44 gX12_7 M0 rfl ?_
      refine R_iload_n dX12_encodeMessage_47 rfl rfl ?_
      refine N_iald (y := (nI (ms[j]))) dX12_encodeMessage_48 Hm (by have := MM.ok.1; omega) (by decide) (hfm j (by omega)) ?_
      refine R_stati (As := [.ref 64, .int (nI (ms[j]))]) (st := []) kX12_encode lX12_133 (r_enc hce hmC (hV hl)) dX12_encodeMessage_49 rfl rfl (Nat.le_of_ble_eq_true rfl) ⟨by decide, by decide⟩ zX12_encode ⟨Nat.le_refl _, Nat.le_refl _⟩ (fun wr19 wp18 wq17 => ?_)
      obtain ⟨rfl, hq1, hq2⟩ := wq17
      have c20 := hq2.at (by decide) M0
      have c21 := MM.fr hq2 (by decide)
      have c22 := MN.fr hq2 (by decide)
      have c23 := MD.fr hq2 (by decide)
      have c24 := MK.fr hq2 (by decide) (by decide)
      have c25 := MO.fr hq2 (by decide) (by decide)
      have c26 := A70.fr hq2 (by decide)
      have c27 := A71.fr hq2 (by decide)
      have c28 := A72.fr hq2 (by decide)
      have c29 := A73.fr hq2 (by decide)
      have c30 := A74.fr hq2 (by decide)
      have c31 := A75.fr hq2 (by decide)
      have c32 := A76.fr hq2 (by decide)
      have c33 := A77.fr hq2 (by decide)
      have FF34 : Fr LM hp wp18 := hF.trans (hq2.mono (by decide))
      refine R_istore_n (lv' := [some (.ref 61), some (.int (bz (decide ((encV un sc V ms[j]).length ≤ 96)))), some (.int (nI j))]) dX12_encodeMessage_52 rfl (by decide) rfl ?_
      refine N_iinc (d := 1) (lv' := [some (.ref 61), some (.int (bz (decide ((encV un sc V ms[j]).length ≤ 96)))), some (.int (nI (j + 1)))]) dX12_encodeMessage_53 rfl rfl ?_
      refine R_goto (tgt := 27) dX12_encodeMessage_56 (by decide) ?_
      refine ih (j + 1) _ (encV un sc V ms[j]) (by omega) ⟨_, _, _, _, c20, c21, c22, hq1.ax, c23, c24, c25, c26, c27, c28, c29, c30, c31, c32, c33⟩ (fun h => by rw [tk_id h] at hq1; exact hq1) ?_ FF34
      rw [hR, drop_c (by omega)]; rfl
    · rw [decide_eq_false hl]
      show PZ _ _ _ _ _ _ (.int (nI 0) :: _) _ _ _
      refine N_if_eq (tgt := 59) dX12_encodeMessage_36 (by decide) (by decide) (fun _ => ?_) (fun hc => absurd hc (by decide))
      refine R_aload_n dX12_encodeMessage_59 rfl rfl ?_
      refine R_iload_n dX12_encodeMessage_60 rfl rfl ?_
      refine R_calli (As := [.int (bz false)]) (st := []) kX12_take lX12_136 (r_take (V := V) (sc := sc) (un := un) (wd := wd) (b := false) M0 MN MT (fun h => Bool.noConfusion h) MD) rfl M0 dX12_encodeMessage_61 rfl rfl (Nat.le_of_ble_eq_true rfl) ⟨by decide, by decide⟩ zX12_take ⟨Nat.le_refl _, Nat.le_refl _⟩ (fun wr37 wp36 wq35 => ?_)
      obtain ⟨⟨rfl, rfl⟩, ht2⟩ := wq35
      have hf : f_enc (ms, (cs, sc, un, wd), hs, s0, s1, os, ox) = (-4, (ms, (cs, sc, un, wd), hs, s0, s1, os, ox)) := by unfold f_enc; dsimp only; rw [hE, if_pos rfl]; unfold f_take; dsimp only; rw [if_neg (by rw [hR]; have := encR_len un sc (ms.drop j) V; omega)]
      rw [hf]
      exact R_reti dX12_encodeMessage_64 rfl rfl rfl ⟨rfl, ⟨_, _, _, _, M0, MM, MN, MT, MD, MK, MO, A70, A71, A72, A73, A74, A75, A76, A77⟩, hF⟩
set_option maxRecDepth 100000 in
set_option maxHeartbeats 4000000 in
theorem y_enc {ms : List Nat} {cs : List Nat} {sc un wd : Nat} {hs : List TP} {s0 s1 : Option TP} {os : List (Nat × Nat)} {ox : Nat} (hM : MJ hp (ms, (cs, sc, un, wd), hs, s0, s1, os, ox)) : SpI l X mX12_encodeMessage [.ref 61] hp (fun r hp' => r = (f_enc (ms, (cs, sc, un, wd), hs, s0, s1, os, ox)).1 ∧ MJ hp' (f_enc (ms, (cs, sc, un, wd), hs, s0, s1, os, ox)).2 ∧ Fr LM hp hp') := by
  obtain ⟨nx, tl, sl, st, M0, MM, MN, MT, MD, MK, MO, A70, A71, A72, A73, A74, A75, A76, A77⟩ := hM
  obtain ⟨hL, hC3, hs1, hu1, hw1, hw2⟩ := MN.ok
  obtain ⟨hmL, hmC⟩ := MM.ok
  obtain ⟨hnx0, hsl0⟩ := MD.ok
  obtain ⟨hol0, hox0⟩ := MO.ok
  refine SpI.of pnX12 (Nat.le_of_ble_eq_true rfl) rfl ?_
  refine R_aload_n dX12_encodeMessage_0 rfl rfl ?_
  refine R_calli (As := []) (st := []) kX12_errorPosition lX12_125 (r_err M0 MM) rfl M0 dX12_encodeMessage_1 rfl rfl (Nat.le_of_ble_eq_true rfl) ⟨by decide, by decide⟩ zX12_errorPosition ⟨Nat.le_refl _, Nat.le_refl _⟩ (fun wr3 wp2 wq1 => ?_)
  obtain ⟨rfl, rfl⟩ : wr3 = _ ∧ hp = wp2 := ⟨wq1.1, wq1.2.symm⟩
  refine R_bipush (v := (-9)) dX12_encodeMessage_4 (by decide) ?_
  cases hE : aEnc ms with
  | false =>
    refine R_icmp_eq (tgt := 12) dX12_encodeMessage_6 (by decide) (fun hc => absurd hc (errG_f ms 0 (by omega) hE)) (fun _ => ?_)
    refine R_bipush (v := (-3)) dX12_encodeMessage_9 (by decide) ?_
    have hf : f_enc (ms, (cs, sc, un, wd), hs, s0, s1, os, ox) = (-3, (ms, (cs, sc, un, wd), hs, s0, s1, os, ox)) := by unfold f_enc; dsimp only; rw [hE]; rfl
    rw [hf]
    exact R_reti dX12_encodeMessage_11 rfl rfl rfl ⟨rfl, ⟨_, _, _, _, M0, MM, MN, MT, MD, MK, MO, A70, A71, A72, A73, A74, A75, A76, A77⟩, (Fr.rf (L := LM) (hp := hp))⟩
  | true =>
    refine R_icmp_eq (tgt := 12) dX12_encodeMessage_6 (by decide) (fun _ => ?_) (fun hc => (hc (errG_t ms 0 hE)).elim)
    refine R_aload_n dX12_encodeMessage_12 rfl rfl ?_
    refine R_getf dX12_encodeMessage_13 gX12_13 M0 rfl ?_
    refine R_aload_n dX12_encodeMessage_16 rfl rfl ?_
    refine R_getf dX12_encodeMessage_17 gX12_16 M0 rfl ?_
    refine R_statv (As := [.ref 63, .ref 64]) (st := []) kX12_copy lX12_129 (r_cpR (by decide) MN MT) dX12_encodeMessage_20 rfl rfl (Nat.le_of_ble_eq_true rfl) ⟨by decide, by decide⟩ zX12_copy ⟨Nat.le_refl _, Nat.le_refl _⟩ (fun wp5 wq4 => ?_)
    obtain ⟨hq1, hq2⟩ := wq4
    have c7 := hq2.at (by decide) M0
    have c8 := MM.fr hq2 (by decide)
    have c9 := MN.fr hq2 (by decide)
    have c10 := MD.fr hq2 (by decide)
    have c11 := MK.fr hq2 (by decide) (by decide)
    have c12 := MO.fr hq2 (by decide) (by decide)
    have c13 := A70.fr hq2 (by decide)
    have c14 := A71.fr hq2 (by decide)
    have c15 := A72.fr hq2 (by decide)
    have c16 := A73.fr hq2 (by decide)
    have c17 := A74.fr hq2 (by decide)
    have c18 := A75.fr hq2 (by decide)
    have c19 := A76.fr hq2 (by decide)
    have c20 := A77.fr hq2 (by decide)
    have FF21 : Fr LM hp wp5 := (Fr.rf (L := LM) (hp := hp)).trans (hq2.mono (by decide))
    refine R_iconst (v := (nI 1)) dX12_encodeMessage_23 (by decide) ?_
    refine R_istore_n (lv' := [some (.ref 61), some (.int (nI 1)), none]) dX12_encodeMessage_24 rfl (by decide) rfl ?_
    refine R_iconst (v := (nI 0)) dX12_encodeMessage_25 (by decide) ?_
    refine R_istore_n (lv' := [some (.ref 61), some (.int (nI 1)), some (.int (nI 0))]) dX12_encodeMessage_26 rfl (by decide) rfl ?_
    have h9 := r_emL (l := l) (X := X) (hp := hp) hE ms.length 0 _ cs (by omega) ⟨_, _, _, _, c7, c8, c9, hq1.ax, c10, c11, c12, c13, c14, c15, c16, c17, c18, c19, c20⟩ (fun _ => hq1) rfl FF21
    rw [decide_eq_true hL] at h9
    exact h9
set_option maxRecDepth 100000 in
set_option maxHeartbeats 4000000 in
theorem y_obs {ms : List Nat} {cs : List Nat} {sc un wd : Nat} {hs : List TP} {s0 s1 : Option TP} {os : List (Nat × Nat)} {ox : Nat} {i c : Int32} (hM : MJ hp (ms, (cs, sc, un, wd), hs, s0, s1, os, ox)) : SpI l X mX12_observe [.ref 61, .int (i), .int (c)] hp (fun r hp' => r = (f_obs (ms, (cs, sc, un, wd), hs, s0, s1, os, ox) i c).1 ∧ MJ hp' (f_obs (ms, (cs, sc, un, wd), hs, s0, s1, os, ox) i c).2 ∧ Fr LM hp hp') := by
  obtain ⟨nx, tl, sl, st, M0, MM, MN, MT, MD, MK, MO, A70, A71, A72, A73, A74, A75, A76, A77⟩ := hM
  obtain ⟨hL, hC3, hs1, hu1, hw1, hw2⟩ := MN.ok
  obtain ⟨hmL, hmC⟩ := MM.ok
  obtain ⟨hnx0, hsl0⟩ := MD.ok
  obtain ⟨hol0, hox0⟩ := MO.ok
  refine SpI.of pnX12 (Nat.le_of_ble_eq_true rfl) rfl ?_
  refine R_iload_n dX12_observe_0 rfl rfl ?_
  refine R_i2l dX12_observe_1 ?_
  refine R_lconst (v := 0) dX12_observe_2 (by decide) ?_
  refine R_ldc2 dX12_observe_3 nX12_205 ?_
  refine R_stati (As := [.long ((i).toInt64), .long (0), .long (95)]) (st := []) kX12_in lX12_67 (r_inW 0 95 rfl rfl (by decide) (by decide)) dX12_observe_6 rfl rfl (Nat.le_of_ble_eq_true rfl) ⟨by decide, by decide⟩ zX12_in ⟨Nat.le_refl _, Nat.le_refl _⟩ (fun wr3 wp2 wq1 => ?_)
  obtain ⟨rfl, rfl⟩ : wr3 = _ ∧ hp = wp2 := ⟨wq1.1, wq1.2.symm⟩
  cases hw4 : inW i 0 95 with
  | false =>
    show PZ _ _ _ _ _ _ (.int (nI 0) :: _) _ _ _
    refine N_if_eq (tgt := 24) dX12_observe_9 (by decide) (by decide) (fun _ => ?_) (fun hc => absurd hc (by decide))
    have hf : f_obs (ms, (cs, sc, un, wd), hs, s0, s1, os, ox) i c = (-2, (ms, (cs, sc, un, wd), hs, s0, s1, os, ox)) := by unfold f_obs; dsimp only; rw [hw4]; rfl
    refine R_bipush (v := (-2)) dX12_observe_24 (by decide) ?_
    rw [hf]
    exact R_reti dX12_observe_26 rfl rfl rfl ⟨rfl, ⟨_, _, _, _, M0, MM, MN, MT, MD, MK, MO, A70, A71, A72, A73, A74, A75, A76, A77⟩, (Fr.rf (L := LM) (hp := hp))⟩
  | true =>
    show PZ _ _ _ _ _ _ (.int (nI 1) :: _) _ _ _
    obtain ⟨i2, -, hi, rfl⟩ := inW_t (by decide) hw4
    refine N_if_eq (tgt := 24) dX12_observe_9 (by decide) (by decide) (fun hc => absurd hc (by decide)) (fun _ => ?_)
    refine R_iload_n dX12_observe_12 rfl rfl ?_
    refine R_i2l dX12_observe_13 ?_
    refine R_lconst (v := 0) dX12_observe_14 (by decide) ?_
    refine R_ldc2 dX12_observe_15 nX12_90 ?_
    refine R_stati (As := [.long ((c).toInt64), .long (0), .long (255)]) (st := []) kX12_in lX12_67 (r_inW 0 255 rfl rfl (by decide) (by decide)) dX12_observe_18 rfl rfl (Nat.le_of_ble_eq_true rfl) ⟨by decide, by decide⟩ zX12_in ⟨Nat.le_refl _, Nat.le_refl _⟩ (fun wr7 wp6 wq5 => ?_)
    obtain ⟨rfl, rfl⟩ : wr7 = _ ∧ hp = wp6 := ⟨wq5.1, wq5.2.symm⟩
    cases hw8 : inW c 0 255 with
    | false =>
      show PZ _ _ _ _ _ _ (.int (nI 0) :: _) _ _ _
      refine N_if_ne (tgt := 27) dX12_observe_21 (by decide) (by decide) (fun hc => absurd hc (by decide)) (fun _ => ?_)
      have hf : f_obs (ms, (cs, sc, un, wd), hs, s0, s1, os, ox) (nI i2) c = (-2, (ms, (cs, sc, un, wd), hs, s0, s1, os, ox)) := by unfold f_obs; dsimp only; rw [hw4, hw8]; rfl
      refine R_bipush (v := (-2)) dX12_observe_24 (by decide) ?_
      rw [hf]
      exact R_reti dX12_observe_26 rfl rfl rfl ⟨rfl, ⟨_, _, _, _, M0, MM, MN, MT, MD, MK, MO, A70, A71, A72, A73, A74, A75, A76, A77⟩, (Fr.rf (L := LM) (hp := hp))⟩
    | true =>
      show PZ _ _ _ _ _ _ (.int (nI 1) :: _) _ _ _
      obtain ⟨c2, -, hc, rfl⟩ := inW_t (by decide) hw8
      refine N_if_ne (tgt := 27) dX12_observe_21 (by decide) (by decide) (fun _ => ?_) (fun hc => absurd hc (by decide))
      obtain ⟨f, g, Hf, Hg, hf, hoL, hox, hnl, hoC⟩ := id MO
      refine R_aload_n dX12_observe_27 rfl rfl ?_
      refine R_getf dX12_observe_28 gX12_29 M0 rfl ?_
      refine R_aload_n dX12_observe_31 rfl rfl ?_
      refine R_getf dX12_observe_32 gX12_207 M0 rfl ?_
      refine R_iload_n dX12_observe_35 rfl rfl ?_
      obtain ⟨f2, ef2⟩ : ∃ y, y = upd f ox (nI i2) := ⟨_, rfl⟩
      refine W_iast (f' := f2) dX12_observe_36 Hf (by omega) (by decide) ef2 (fun wp9 wH10 wE11 => ?_)
      have wH12 := (wE11 61 (by decide)).trans M0
      have wH13 := (wE11 69 (by decide)).trans Hg
      have wF14 : Fr [61, 68, 69] hp wp9 := Fr.one wE11 (by simp)
      refine R_aload_n dX12_observe_37 rfl rfl ?_
      refine R_getf dX12_observe_38 gX12_32 wH12 rfl ?_
      refine R_aload_n dX12_observe_41 rfl rfl ?_
      refine R_getf dX12_observe_42 gX12_207 wH12 rfl ?_
      refine R_iload_n dX12_observe_45 rfl rfl ?_
      obtain ⟨g2, eg2⟩ : ∃ y, y = upd g ox (nI c2) := ⟨_, rfl⟩
      refine W_iast (f' := g2) dX12_observe_46 wH13 (by omega) (by decide) eg2 (fun wp15 wH16 wE17 => ?_)
      have wH18 := (wE17 61 (by decide)).trans wH12
      have wH19 := (wE17 68 (by decide)).trans wH10
      have wF20 : Fr [61, 68, 69] hp wp15 := wF14.trans (Fr.one wE17 (by simp))
      refine R_aload_n dX12_observe_47 rfl rfl ?_
      refine R_aload_n dX12_observe_48 rfl rfl ?_
      refine R_getf dX12_observe_49 gX12_207 wH18 rfl ?_
      refine R_iconst (v := (nI 1)) dX12_observe_52 (by decide) ?_
      refine N_iadd dX12_observe_53 ?_
      refine R_bipush (v := (nI 6)) dX12_observe_54 (by decide) ?_
      refine N_irem dX12_observe_56 (by omega) (by omega) (by omega) ?_
      refine W_puti (fs' := [.ref 62, .int (nI (ms.length)), .ref 63, .ref 64, .ref 65, .int (nI (hs.length)), .int (nI nx), .ref 66, .ref 67, .ref 68, .ref 69, .int (nI (os.length)), .int (nI ((ox + 1) % 6)), .ref 70, .ref 71, .ref 72, .ref 73, .ref 74, .int (tl), .ref 75, .int (sl), .ref 76, .int (st), .ref 77]) dX12_observe_57 pX12_207 wH18 (Nat.le_of_ble_eq_true rfl) rfl (fun wp21 wH22 wE23 => ?_)
      have wH24 := (wE23 68 (by decide)).trans wH19
      have wH25 := (wE23 69 (by decide)).trans wH16
      have wF26 : Fr [61, 68, 69] hp wp21 := wF20.trans (Fr.one wE23 (by simp))
      refine R_aload_n dX12_observe_60 rfl rfl ?_
      refine R_aload_n dX12_observe_61 rfl rfl ?_
      refine R_getf dX12_observe_62 gX12_210 wH22 rfl ?_
      refine R_bipush (v := (nI 6)) dX12_observe_65 (by decide) ?_
      refine N_icmp_ge (tgt := 79) dX12_observe_67 (by decide) (by omega) (by omega) (fun h6 => ?_) (fun h6 => ?_)
      · refine R_bipush (v := (nI 6)) dX12_observe_79 (by decide) ?_
        refine W_puti (fs' := [.ref 62, .int (nI (ms.length)), .ref 63, .ref 64, .ref 65, .int (nI (hs.length)), .int (nI nx), .ref 66, .ref 67, .ref 68, .ref 69, .int (nI 6), .int (nI ((ox + 1) % 6)), .ref 70, .ref 71, .ref 72, .ref 73, .ref 74, .int (tl), .ref 75, .int (sl), .ref 76, .int (st), .ref 77]) dX12_observe_81 pX12_210 wH22 (Nat.le_of_ble_eq_true rfl) rfl (fun wp27 wH28 wE29 => ?_)
        have wH30 := (wE29 68 (by decide)).trans wH24
        have wH31 := (wE29 69 (by decide)).trans wH25
        have wF32 : Fr [61, 68, 69] hp wp27 := wF26.trans (Fr.one wE29 (by simp))
        refine R_aload_n dX12_observe_84 rfl rfl ?_
        refine R_getf dX12_observe_85 gX12_210 wH28 rfl ?_
        have hn : (obsP os ox (i2, c2)).length = 6 := by unfold obsP; split <;> simp <;> omega
        have hq1 : ObA wp27 (obsP os ox (i2, c2)) ((ox + 1) % 6) := by
          refine ⟨f2, g2, wH30, wH31, fun j hj => ?_, ?_, Nat.mod_lt _ (by omega), ?_, ?_⟩
          · rw [ef2, eg2]
            have hjj := hj
            unfold obsP at hjj ⊢
            by_cases h6 : os.length < 6
            · rw [if_pos h6, List.length_append] at hjj; simp only [if_pos h6]; simp at hjj
              have hx := hnl h6; subst hx
              by_cases hjl : j = os.length
              · subst hjl; rw [upd_s, upd_s]; simp
              · rw [upd_n hjl, upd_n hjl, List.getElem_append_left (by omega)]; exact hf j (by omega)
            · rw [if_neg h6, List.length_set] at hjj; simp only [if_neg h6]
              rw [List.getElem_set]
              by_cases hjn : ox = j
              · subst hjn; rw [upd_s, upd_s, if_pos rfl]; exact ⟨rfl, rfl⟩
              · rw [upd_n (Ne.symm hjn), upd_n (Ne.symm hjn), if_neg hjn]; exact hf j hjj
          · unfold obsP; split <;> simp <;> omega
          · unfold obsP; split <;> simp <;> omega
          · intro q hq; unfold obsP at hq; by_cases h7 : os.length < 6
            · rw [if_pos h7] at hq
              rcases List.mem_append.mp hq with z | z
              · exact hoC q z
              · simp at z; subst z; exact ⟨by show i2 < 96; omega, by show c2 < 256; omega⟩
            · rw [if_neg h7] at hq
              rcases List.mem_or_eq_of_mem_set hq with z | z
              · exact hoC q z
              · subst z; exact ⟨by show i2 < 96; omega, by show c2 < 256; omega⟩
        have hq0 : wp27[61]? = some (ob 11 [.ref 62, .int (nI (ms.length)), .ref 63, .ref 64, .ref 65, .int (nI (hs.length)), .int (nI nx), .ref 66, .ref 67, .ref 68, .ref 69, .int (nI ((obsP os ox (i2, c2)).length)), .int (nI ((ox + 1) % 6)), .ref 70, .ref 71, .ref 72, .ref 73, .ref 74, .int (tl), .ref 75, .int (sl), .ref 76, .int (st), .ref 77]) := by rw [hn]; exact wH28
        have c33 := MM.fr wF32 (by decide)
        have c34 := MN.fr wF32 (by decide)
        have c35 := MT.fr wF32 (by decide)
        have c36 := MD.fr wF32 (by decide)
        have c37 := MK.fr wF32 (by decide) (by decide)
        have c38 := A70.fr wF32 (by decide)
        have c39 := A71.fr wF32 (by decide)
        have c40 := A72.fr wF32 (by decide)
        have c41 := A73.fr wF32 (by decide)
        have c42 := A74.fr wF32 (by decide)
        have c43 := A75.fr wF32 (by decide)
        have c44 := A76.fr wF32 (by decide)
        have c45 := A77.fr wF32 (by decide)
        have FF46 : Fr LM hp wp27 := (Fr.rf (L := LM) (hp := hp)).trans (wF32.mono (by decide))
        have hf9 : f_obs (ms, (cs, sc, un, wd), hs, s0, s1, os, ox) (nI i2) (nI c2) = (nI (6), (ms, (cs, sc, un, wd), hs, s0, s1, obsP os ox (i2, c2), (ox + 1) % 6)) := by unfold f_obs; dsimp only; rw [hw4, hw8, vN_n (by omega), vN_n (by omega), hn]; rfl
        rw [hf9]
        exact R_reti dX12_observe_88 rfl rfl rfl ⟨rfl, ⟨_, _, _, _, hq0, c33, c34, c35, c36, c37, hq1, c38, c39, c40, c41, c42, c43, c44, c45⟩, FF46⟩
      · refine R_aload_n dX12_observe_70 rfl rfl ?_
        refine R_getf dX12_observe_71 gX12_210 wH22 rfl ?_
        refine R_iconst (v := (nI 1)) dX12_observe_74 (by decide) ?_
        refine N_iadd dX12_observe_75 ?_
        refine R_goto (tgt := 81) dX12_observe_76 (by decide) ?_
        refine W_puti (fs' := [.ref 62, .int (nI (ms.length)), .ref 63, .ref 64, .ref 65, .int (nI (hs.length)), .int (nI nx), .ref 66, .ref 67, .ref 68, .ref 69, .int (nI ((os.length) + 1)), .int (nI ((ox + 1) % 6)), .ref 70, .ref 71, .ref 72, .ref 73, .ref 74, .int (tl), .ref 75, .int (sl), .ref 76, .int (st), .ref 77]) dX12_observe_81 pX12_210 wH22 (Nat.le_of_ble_eq_true rfl) rfl (fun wp47 wH48 wE49 => ?_)
        have wH50 := (wE49 68 (by decide)).trans wH24
        have wH51 := (wE49 69 (by decide)).trans wH25
        have wF52 : Fr [61, 68, 69] hp wp47 := wF26.trans (Fr.one wE49 (by simp))
        refine R_aload_n dX12_observe_84 rfl rfl ?_
        refine R_getf dX12_observe_85 gX12_210 wH48 rfl ?_
        have hn : (obsP os ox (i2, c2)).length = os.length + 1 := by unfold obsP; split <;> simp <;> omega
        have hq1 : ObA wp47 (obsP os ox (i2, c2)) ((ox + 1) % 6) := by
          refine ⟨f2, g2, wH50, wH51, fun j hj => ?_, ?_, Nat.mod_lt _ (by omega), ?_, ?_⟩
          · rw [ef2, eg2]
            have hjj := hj
            unfold obsP at hjj ⊢
            by_cases h6 : os.length < 6
            · rw [if_pos h6, List.length_append] at hjj; simp only [if_pos h6]; simp at hjj
              have hx := hnl h6; subst hx
              by_cases hjl : j = os.length
              · subst hjl; rw [upd_s, upd_s]; simp
              · rw [upd_n hjl, upd_n hjl, List.getElem_append_left (by omega)]; exact hf j (by omega)
            · rw [if_neg h6, List.length_set] at hjj; simp only [if_neg h6]
              rw [List.getElem_set]
              by_cases hjn : ox = j
              · subst hjn; rw [upd_s, upd_s, if_pos rfl]; exact ⟨rfl, rfl⟩
              · rw [upd_n (Ne.symm hjn), upd_n (Ne.symm hjn), if_neg hjn]; exact hf j hjj
          · unfold obsP; split <;> simp <;> omega
          · unfold obsP; split <;> simp <;> omega
          · intro q hq; unfold obsP at hq; by_cases h7 : os.length < 6
            · rw [if_pos h7] at hq
              rcases List.mem_append.mp hq with z | z
              · exact hoC q z
              · simp at z; subst z; exact ⟨by show i2 < 96; omega, by show c2 < 256; omega⟩
            · rw [if_neg h7] at hq
              rcases List.mem_or_eq_of_mem_set hq with z | z
              · exact hoC q z
              · subst z; exact ⟨by show i2 < 96; omega, by show c2 < 256; omega⟩
        have hq0 : wp47[61]? = some (ob 11 [.ref 62, .int (nI (ms.length)), .ref 63, .ref 64, .ref 65, .int (nI (hs.length)), .int (nI nx), .ref 66, .ref 67, .ref 68, .ref 69, .int (nI ((obsP os ox (i2, c2)).length)), .int (nI ((ox + 1) % 6)), .ref 70, .ref 71, .ref 72, .ref 73, .ref 74, .int (tl), .ref 75, .int (sl), .ref 76, .int (st), .ref 77]) := by rw [hn]; exact wH48
        have c53 := MM.fr wF52 (by decide)
        have c54 := MN.fr wF52 (by decide)
        have c55 := MT.fr wF52 (by decide)
        have c56 := MD.fr wF52 (by decide)
        have c57 := MK.fr wF52 (by decide) (by decide)
        have c58 := A70.fr wF52 (by decide)
        have c59 := A71.fr wF52 (by decide)
        have c60 := A72.fr wF52 (by decide)
        have c61 := A73.fr wF52 (by decide)
        have c62 := A74.fr wF52 (by decide)
        have c63 := A75.fr wF52 (by decide)
        have c64 := A76.fr wF52 (by decide)
        have c65 := A77.fr wF52 (by decide)
        have FF66 : Fr LM hp wp47 := (Fr.rf (L := LM) (hp := hp)).trans (wF52.mono (by decide))
        have hf9 : f_obs (ms, (cs, sc, un, wd), hs, s0, s1, os, ox) (nI i2) (nI c2) = (nI (os.length + 1), (ms, (cs, sc, un, wd), hs, s0, s1, obsP os ox (i2, c2), (ox + 1) % 6)) := by unfold f_obs; dsimp only; rw [hw4, hw8, vN_n (by omega), vN_n (by omega), hn]; rfl
        rw [hf9]
        exact R_reti dX12_observe_88 rfl rfl rfl ⟨rfl, ⟨_, _, _, _, hq0, c53, c54, c55, c56, c57, hq1, c58, c59, c60, c61, c62, c63, c64, c65⟩, FF66⟩
end R34
