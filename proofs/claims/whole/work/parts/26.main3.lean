/-! The class TeleprinterTape: noise, scripts, observations, slots, distance -/
section X26
variable {l : Launch} {X : EX} {hp : HPt}
set_option maxRecDepth 100000 in
set_option maxHeartbeats 4000000 in
theorem x_noise {ms : List Nat} {cs : List Nat} {sc un wd : Nat} {hs : List TP} {s0 s1 : Option TP} {os : List (Nat × Nat)} {ox : Nat} {x : Int64} {m : Int32} (hC : CI hp (ms, (cs, sc, un, wd), hs, s0, s1, os, ox)) : SpI l X mX11_noise [.ref 0, .long x, .int m] hp (fun r hp' => r = (f_noise (ms, (cs, sc, un, wd), hs, s0, s1, os, ox) x m).1 ∧ CI hp' (f_noise (ms, (cs, sc, un, wd), hs, s0, s1, os, ox) x m).2 ∧ Fr LC hp hp') := by
  obtain ⟨nx, C0, CT, ⟨⟨cs3, sc3, un3, wd3⟩, C3⟩, CP, CM, CH, CS, ⟨tx, CX⟩, ⟨ty, CY⟩, CG, CO, CF, CR⟩ := hC
  obtain ⟨ft, KT, KT2, hft, hL, hC3, hs1, hu1, hw1, hw2⟩ := id CT
  refine SpI.of pnX11 (Nat.le_of_ble_eq_true rfl) rfl ?_
  refine R_iload_n dX11_noise_0 rfl rfl ?_
  refine R_iconst (v := (nI 1)) dX11_noise_1 (by decide) ?_
  refine R_bipush (v := (nI 60)) dX11_noise_2 (by decide) ?_
  refine R_stati (As := [.int (m), .int (nI 1), .int (nI 60)]) (st := []) kX11_isWithin lX11_85 (x_within (by decide) (by decide)) dX11_noise_4 rfl rfl (Nat.le_of_ble_eq_true rfl) ⟨by decide, by decide⟩ zX11_isWithin ⟨Nat.le_refl _, Nat.le_refl _⟩ (fun wr3 wp2 wq1 => ?_)
  obtain ⟨rfl, rfl⟩ : wr3 = _ ∧ hp = wp2 := ⟨wq1.1, wq1.2.symm⟩
  cases hw4 : inW m 1 60 with
  | false =>
    show PZ _ _ _ _ _ _ (.int (nI 0) :: _) _ _ _
    refine N_if_ne (tgt := 13) dX11_noise_7 (by decide) (by decide) (fun hc => absurd hc (by decide)) (fun _ => ?_)
    have hf : f_noise (ms, (cs, sc, un, wd), hs, s0, s1, os, ox) x m = (-2, (ms, (cs, sc, un, wd), hs, s0, s1, os, ox)) := by unfold f_noise; dsimp only; rw [hw4]; rfl
    refine R_bipush (v := (-2)) dX11_noise_10 (by decide) ?_
    rw [hf]
    exact R_reti dX11_noise_12 rfl rfl rfl ⟨rfl, ⟨nx, C0, CT, ⟨_, C3⟩, CP, CM, CH, CS, ⟨_, CX⟩, ⟨_, CY⟩, CG, CO, CF, CR⟩, (Fr.rf (L := LC) (hp := hp))⟩
  | true =>
    show PZ _ _ _ _ _ _ (.int (nI 1) :: _) _ _ _
    obtain ⟨q, -, hq, rfl⟩ := inW_t (by decide) hw4
    refine N_if_ne (tgt := 13) dX11_noise_7 (by decide) (by decide) (fun _ => ?_) (fun hc => absurd hc (by decide))
    refine R_aload_n dX11_noise_13 rfl rfl ?_
    refine R_getf dX11_noise_14 gX11_16 C0 rfl ?_
    refine R_aload_n dX11_noise_17 rfl rfl ?_
    refine R_getf dX11_noise_18 gX11_10 C0 rfl ?_
    obtain ⟨y6, K5, -⟩ := id C3
    refine R_callv (As := [.ref 1]) (st := []) kX9_become lX11_196 (t_become C3 CT (by decide) (by decide)) rfl K5 dX11_noise_21 rfl rfl (Nat.le_of_ble_eq_true rfl) ⟨by decide, by decide⟩ zX9_become ⟨Nat.le_refl _, Nat.le_refl _⟩ (fun wp8 wq7 => ?_)
    obtain ⟨hb1, hb2⟩ := wq7
    have c10 := hb2.at (by decide) C0
    have c11 := CT.fr hb2 (by decide) (by decide)
    have c12 := CP.fr hb2 (by decide) (by decide) (by decide)
    have c13 := CM.fr hb2 (by decide) (by decide)
    have c14 := CH.fr hb2 (by decide) (by decide)
    have c15 := CS.fr hb2 (by decide)
    have c16 := CX.fr hb2 (by decide) (by decide) (by decide)
    have c17 := CY.fr hb2 (by decide) (by decide) (by decide)
    have c18 := CG.fr hb2 (by decide) (by decide)
    have c19 := CO.fr hb2 (by decide) (by decide) (by decide)
    have c20 := CF.fr hb2 (by decide)
    have c21 := CR.fr hb2 (by decide) (by decide)
    have FF22 : Fr LC hp wp8 := (Fr.rf (L := LC) (hp := hp)).trans (hb2.mono (by decide))
    refine R_aload_n dX11_noise_24 rfl rfl ?_
    refine R_getf dX11_noise_25 gX11_16 c10 rfl ?_
    refine R_lload_n dX11_noise_28 rfl rfl ?_
    refine R_iload_n dX11_noise_29 rfl rfl ?_
    obtain ⟨y24, K23, -⟩ := id hb1
    refine R_callv (As := [.long (x), .int (nI q)]) (st := []) kX9_disturb lX11_229 (t_disturb (m := q) (x0 := x) (by omega) hb1) rfl K23 dX11_noise_30 rfl rfl (Nat.le_of_ble_eq_true rfl) ⟨by decide, by decide⟩ zX9_disturb ⟨Nat.le_refl _, Nat.le_refl _⟩ (fun wp26 wq25 => ?_)
    obtain ⟨hq1, hq2⟩ := wq25
    have c28 := hq2.at (by decide) c10
    have c29 := c11.fr hq2 (by decide) (by decide)
    have c30 := c12.fr hq2 (by decide) (by decide) (by decide)
    have c31 := c13.fr hq2 (by decide) (by decide)
    have c32 := c14.fr hq2 (by decide) (by decide)
    have c33 := c15.fr hq2 (by decide)
    have c34 := c16.fr hq2 (by decide) (by decide) (by decide)
    have c35 := c17.fr hq2 (by decide) (by decide) (by decide)
    have c36 := c18.fr hq2 (by decide) (by decide)
    have c37 := c19.fr hq2 (by decide) (by decide) (by decide)
    have c38 := c20.fr hq2 (by decide)
    have c39 := c21.fr hq2 (by decide) (by decide)
    have FF40 : Fr LC hp wp26 := FF22.trans (hq2.mono (by decide))
    refine R_aload_n dX11_noise_33 rfl rfl ?_
    refine R_getf dX11_noise_34 gX11_10 c28 rfl ?_
    refine R_aload_n dX11_noise_37 rfl rfl ?_
    refine R_getf dX11_noise_38 gX11_16 c28 rfl ?_
    obtain ⟨y42, K41, -⟩ := id c29
    refine R_calli (As := [.ref 3]) (st := []) kX9_differences lX11_199 (t_differences c29 hq1 (by split; rfl; exact noi_len _ _ _)) rfl K41 dX11_noise_41 rfl rfl (Nat.le_of_ble_eq_true rfl) ⟨by decide, by decide⟩ zX9_differences ⟨Nat.le_refl _, Nat.le_refl _⟩ (fun wr45 wp44 wq43 => ?_)
    obtain ⟨rfl, rfl⟩ : wr45 = _ ∧ wp26 = wp44 := ⟨wq43.1, wq43.2.symm⟩
    have hf : f_noise (ms, (cs, sc, un, wd), hs, s0, s1, os, ox) x (nI q) = (nI (diffC un sc sc cs (if cs.length = 0 then cs else noi q x cs)), (ms, (cs, sc, un, wd), hs, s0, s1, os, ox)) := by unfold f_noise; dsimp only; rw [hw4, if_pos rfl, vN_n (by omega)]
    rw [hf]
    exact R_reti dX11_noise_44 rfl rfl rfl ⟨rfl, ⟨nx, c28, c29, ⟨_, hq1⟩, c30, c31, c32, c33, ⟨_, c34⟩, ⟨_, c35⟩, c36, c37, c38, c39⟩, FF40⟩
set_option maxRecDepth 100000 in
set_option maxHeartbeats 4000000 in
theorem x_run {ms : List Nat} {cs : List Nat} {sc un wd : Nat} {hs : List TP} {s0 s1 : Option TP} {os : List (Nat × Nat)} {ox : Nat} {n : Int32} {x : Int64} (hC : CI hp (ms, (cs, sc, un, wd), hs, s0, s1, os, ox)) : SpI l X mX11_runScript [.ref 0, .int n, .long x] hp (fun r hp' => r = (f_run (ms, (cs, sc, un, wd), hs, s0, s1, os, ox) n x).1 ∧ CI hp' (f_run (ms, (cs, sc, un, wd), hs, s0, s1, os, ox) n x).2 ∧ Fr LC hp hp') := by
  obtain ⟨nx, C0, CT, ⟨⟨cs3, sc3, un3, wd3⟩, C3⟩, CP, CM, CH, CS, ⟨tx, CX⟩, ⟨ty, CY⟩, CG, CO, CF, CR⟩ := hC
  obtain ⟨ft, KT, KT2, hft, hL, hC3, hs1, hu1, hw1, hw2⟩ := id CT
  refine SpI.of pnX11 (Nat.le_of_ble_eq_true rfl) rfl ?_
  refine R_iload_n dX11_runScript_0 rfl rfl ?_
  refine R_iconst (v := (nI 1)) dX11_runScript_1 (by decide) ?_
  refine R_iconst (v := (nI 4)) dX11_runScript_2 (by decide) ?_
  refine R_stati (As := [.int (n), .int (nI 1), .int (nI 4)]) (st := []) kX11_isWithin lX11_85 (x_within (by decide) (by decide)) dX11_runScript_3 rfl rfl (Nat.le_of_ble_eq_true rfl) ⟨by decide, by decide⟩ zX11_isWithin ⟨Nat.le_refl _, Nat.le_refl _⟩ (fun wr3 wp2 wq1 => ?_)
  obtain ⟨rfl, rfl⟩ : wr3 = _ ∧ hp = wp2 := ⟨wq1.1, wq1.2.symm⟩
  cases hw4 : inW n 1 4 with
  | false =>
    show PZ _ _ _ _ _ _ (.int (nI 0) :: _) _ _ _
    refine N_if_eq (tgt := 21) dX11_runScript_6 (by decide) (by decide) (fun _ => ?_) (fun hc => absurd hc (by decide))
    have hf : f_run (ms, (cs, sc, un, wd), hs, s0, s1, os, ox) n x = (-2, (ms, (cs, sc, un, wd), hs, s0, s1, os, ox)) := by unfold f_run; dsimp only; rw [hw4, if_neg (fun z => by cases z.1)]
    refine R_bipush (v := (-2)) dX11_runScript_21 (by decide) ?_
    rw [hf]
    exact R_reti dX11_runScript_23 rfl rfl rfl ⟨rfl, ⟨nx, C0, CT, ⟨_, C3⟩, CP, CM, CH, CS, ⟨_, CX⟩, ⟨_, CY⟩, CG, CO, CF, CR⟩, (Fr.rf (L := LC) (hp := hp))⟩
  | true =>
    show PZ _ _ _ _ _ _ (.int (nI 1) :: _) _ _ _
    obtain ⟨q, hq1, hq, rfl⟩ := inW_t (by decide) hw4
    refine N_if_eq (tgt := 21) dX11_runScript_6 (by decide) (by decide) (fun hc => absurd hc (by decide)) (fun _ => ?_)
    refine R_aload_n dX11_runScript_9 rfl rfl ?_
    refine R_getf dX11_runScript_10 gX11_81 C0 rfl ?_
    refine R_iload_n dX11_runScript_13 rfl rfl ?_
    refine R_lload_n dX11_runScript_14 rfl rfl ?_
    by_cases hx : x < 0
    · obtain ⟨y6a, y6b, K5, -⟩ := id CR
      refine R_calli (As := [.int (nI q), .long (x)]) (st := []) kX7_split lX11_213 (q_splitN hx) rfl K5 dX11_runScript_15 rfl rfl (Nat.le_of_ble_eq_true rfl) ⟨by decide, by decide⟩ zX7_split ⟨Nat.le_refl _, Nat.le_refl _⟩ (fun wr9 wp8 wq7 => ?_)
      obtain ⟨rfl, rfl⟩ : wr9 = _ ∧ hp = wp8 := ⟨wq7.1, wq7.2.symm⟩
      refine N_if_ne (tgt := 24) dX11_runScript_18 (by decide) (by decide) (fun hc => absurd hc (by decide)) (fun _ => ?_)
      have hf : f_run (ms, (cs, sc, un, wd), hs, s0, s1, os, ox) (nI q) x = (-2, (ms, (cs, sc, un, wd), hs, s0, s1, os, ox)) := by unfold f_run; dsimp only; rw [if_neg (fun z => z.2.1 hx)]
      refine R_bipush (v := (-2)) dX11_runScript_21 (by decide) ?_
      rw [hf]
      exact R_reti dX11_runScript_23 rfl rfl rfl ⟨rfl, ⟨nx, C0, CT, ⟨_, C3⟩, CP, CM, CH, CS, ⟨_, CX⟩, ⟨_, CY⟩, CG, CO, CF, CR⟩, (Fr.rf (L := LC) (hp := hp))⟩
    · obtain ⟨s, hs9, rfl⟩ := pk_lOf hx
      have hsn : (lN s).toInt.toNat = s := by rw [pk_lT hs9]; rfl
      obtain ⟨y11a, y11b, K10, -⟩ := id CR
      refine R_calli (As := [.int (nI q), .long (lN s)]) (st := []) kX7_split lX11_213 (q_split hs9 hq1 hq CR) rfl K10 dX11_runScript_15 rfl rfl (Nat.le_of_ble_eq_true rfl) ⟨by decide, by decide⟩ zX7_split ⟨Nat.le_refl _, Nat.le_refl _⟩ (fun wr14 wp13 wq12 => ?_)
      obtain ⟨rfl, hg1, hg2⟩ := wq12
      have c15 := hg2.at (by decide) C0
      have c16 := CT.fr hg2 (by decide) (by decide)
      have c17 := C3.fr hg2 (by decide) (by decide)
      have c18 := CP.fr hg2 (by decide) (by decide) (by decide)
      have c19 := CM.fr hg2 (by decide) (by decide)
      have c20 := CH.fr hg2 (by decide) (by decide)
      have c21 := CS.fr hg2 (by decide)
      have c22 := CX.fr hg2 (by decide) (by decide) (by decide)
      have c23 := CY.fr hg2 (by decide) (by decide) (by decide)
      have c24 := CG.fr hg2 (by decide) (by decide)
      have c25 := CO.fr hg2 (by decide) (by decide) (by decide)
      have c26 := CF.fr hg2 (by decide)
      have FF27 : Fr LC hp wp13 := (Fr.rf (L := LC) (hp := hp)).trans (hg2.mono (by decide))
      by_cases hlt : s < 1000 ^ q
      · rw [decide_eq_true hlt]
        show PZ _ _ _ _ _ _ (.int (nI 1) :: _) _ _ _
        refine N_if_ne (tgt := 24) dX11_runScript_18 (by decide) (by decide) (fun _ => ?_) (fun hc => absurd hc (by decide))
        refine R_aload_n dX11_runScript_24 rfl rfl ?_
        refine R_getf dX11_runScript_25 gX11_16 c15 rfl ?_
        refine R_aload_n dX11_runScript_28 rfl rfl ?_
        refine R_getf dX11_runScript_29 gX11_10 c15 rfl ?_
        obtain ⟨y29, K28, -⟩ := id c17
        refine R_callv (As := [.ref 1]) (st := []) kX9_become lX11_196 (t_become c17 c16 (by decide) (by decide)) rfl K28 dX11_runScript_32 rfl rfl (Nat.le_of_ble_eq_true rfl) ⟨by decide, by decide⟩ zX9_become ⟨Nat.le_refl _, Nat.le_refl _⟩ (fun wp31 wq30 => ?_)
        obtain ⟨hb1, hb2⟩ := wq30
        have c33 := hb2.at (by decide) c15
        have c34 := c16.fr hb2 (by decide) (by decide)
        have c35 := c18.fr hb2 (by decide) (by decide) (by decide)
        have c36 := c19.fr hb2 (by decide) (by decide)
        have c37 := c20.fr hb2 (by decide) (by decide)
        have c38 := c21.fr hb2 (by decide)
        have c39 := c22.fr hb2 (by decide) (by decide) (by decide)
        have c40 := c23.fr hb2 (by decide) (by decide) (by decide)
        have c41 := c24.fr hb2 (by decide) (by decide)
        have c42 := c25.fr hb2 (by decide) (by decide) (by decide)
        have c43 := c26.fr hb2 (by decide)
        have c44 := hg1.x.fr hb2 (by decide) (by decide)
        have FF45 : Fr LC hp wp31 := FF27.trans (hb2.mono (by decide))
        have hg3 := hg1.fr hb2 (by decide) (by decide)
        refine R_aload_n dX11_runScript_35 rfl rfl ?_
        refine R_getf dX11_runScript_36 gX11_81 c33 rfl ?_
        refine R_aload_n dX11_runScript_39 rfl rfl ?_
        refine R_getf dX11_runScript_40 gX11_16 c33 rfl ?_
        refine R_aload_n dX11_runScript_43 rfl rfl ?_
        refine R_getf dX11_runScript_44 gX11_50 c33 rfl ?_
        obtain ⟨y47a, y47b, K46, -⟩ := id c44
        refine R_calli (As := [.ref 3, .ref 47]) (st := []) kX7_firstFailure lX11_217 (q_first hg3 hb1 c39) rfl K46 dX11_runScript_47 rfl rfl (Nat.le_of_ble_eq_true rfl) ⟨by decide, by decide⟩ zX7_firstFailure ⟨Nat.le_refl _, Nat.le_refl _⟩ (fun wr50 wp49 wq48 => ?_)
        obtain ⟨rfl, ⟨T9, hz1⟩, ⟨ts9, hz2⟩, hz3⟩ := wq48
        have c51 := hz3.at (by decide) c33
        have c52 := c34.fr hz3 (by decide) (by decide)
        have c53 := c35.fr hz3 (by decide) (by decide) (by decide)
        have c54 := c36.fr hz3 (by decide) (by decide)
        have c55 := c37.fr hz3 (by decide) (by decide)
        have c56 := c38.fr hz3 (by decide)
        have c57 := c40.fr hz3 (by decide) (by decide) (by decide)
        have c58 := c41.fr hz3 (by decide) (by decide)
        have c59 := c42.fr hz3 (by decide) (by decide) (by decide)
        have c60 := c43.fr hz3 (by decide)
        have c61 := c44.fr hz3 (by decide) (by decide)
        have FF62 : Fr LC hp wp49 := FF45.trans (hz3.mono (by decide))
        have hf : f_run (ms, (cs, sc, un, wd), hs, s0, s1, os, ox) (nI q) (lN s) = (scrF (cs, sc, un, wd) (grp s q) 0, (ms, (cs, sc, un, wd), hs, s0, s1, os, ox)) := by unfold f_run; dsimp only; rw [vN_n (by omega), hsn, if_pos ⟨hw4, hx, hlt⟩]
        rw [hf]
        exact R_reti dX11_runScript_50 rfl rfl rfl ⟨rfl, ⟨nx, c51, c52, ⟨_, hz1⟩, c53, c54, c55, c56, ⟨_, hz2⟩, ⟨_, c57⟩, c58, c59, c60, c61⟩, FF62⟩
      · rw [decide_eq_false hlt]
        show PZ _ _ _ _ _ _ (.int (nI 0) :: _) _ _ _
        refine N_if_ne (tgt := 24) dX11_runScript_18 (by decide) (by decide) (fun hc => absurd hc (by decide)) (fun _ => ?_)
        have hf : f_run (ms, (cs, sc, un, wd), hs, s0, s1, os, ox) (nI q) (lN s) = (-2, (ms, (cs, sc, un, wd), hs, s0, s1, os, ox)) := by unfold f_run; dsimp only; rw [vN_n (by omega), hsn, if_neg (fun z => hlt z.2.2)]
        refine R_bipush (v := (-2)) dX11_runScript_21 (by decide) ?_
        rw [hf]
        exact R_reti dX11_runScript_23 rfl rfl rfl ⟨rfl, ⟨nx, c15, c16, ⟨_, c17⟩, c18, c19, c20, c21, ⟨_, c22⟩, ⟨_, c23⟩, c24, c25, c26, hg1.x⟩, FF27⟩
set_option maxRecDepth 100000 in
set_option maxHeartbeats 4000000 in
theorem x_obs {ms : List Nat} {cs : List Nat} {sc un wd : Nat} {hs : List TP} {s0 s1 : Option TP} {os : List (Nat × Nat)} {ox : Nat} {i c : Int32} (hC : CI hp (ms, (cs, sc, un, wd), hs, s0, s1, os, ox)) : SpI l X mX11_observe [.ref 0, .int (i), .int (c)] hp (fun r hp' => r = (f_obs (ms, (cs, sc, un, wd), hs, s0, s1, os, ox) i c).1 ∧ CI hp' (f_obs (ms, (cs, sc, un, wd), hs, s0, s1, os, ox) i c).2 ∧ Fr LC hp hp') := by
  obtain ⟨nx, C0, CT, ⟨⟨cs3, sc3, un3, wd3⟩, C3⟩, CP, CM, CH, CS, ⟨tx, CX⟩, ⟨ty, CY⟩, CG, CO, CF, CR⟩ := hC
  obtain ⟨ft, KT, KT2, hft, hL, hC3, hs1, hu1, hw1, hw2⟩ := id CT
  refine SpI.of pnX11 (Nat.le_of_ble_eq_true rfl) rfl ?_
  refine R_iload_n dX11_observe_0 rfl rfl ?_
  refine R_iconst (v := (nI 0)) dX11_observe_1 (by decide) ?_
  refine R_bipush (v := (nI 95)) dX11_observe_2 (by decide) ?_
  refine R_stati (As := [.int (i), .int (nI 0), .int (nI 95)]) (st := []) kX11_isWithin lX11_85 (x_within (by decide) (by decide)) dX11_observe_4 rfl rfl (Nat.le_of_ble_eq_true rfl) ⟨by decide, by decide⟩ zX11_isWithin ⟨Nat.le_refl _, Nat.le_refl _⟩ (fun wr3 wp2 wq1 => ?_)
  obtain ⟨rfl, rfl⟩ : wr3 = _ ∧ hp = wp2 := ⟨wq1.1, wq1.2.symm⟩
  cases hw4 : inW i 0 95 with
  | false =>
    show PZ _ _ _ _ _ _ (.int (nI 0) :: _) _ _ _
    refine N_if_eq (tgt := 21) dX11_observe_7 (by decide) (by decide) (fun _ => ?_) (fun hc => absurd hc (by decide))
    have hf : f_obs (ms, (cs, sc, un, wd), hs, s0, s1, os, ox) i c = (-2, (ms, (cs, sc, un, wd), hs, s0, s1, os, ox)) := by unfold f_obs; dsimp only; rw [hw4]; rfl
    refine R_bipush (v := (-2)) dX11_observe_21 (by decide) ?_
    rw [hf]
    exact R_reti dX11_observe_23 rfl rfl rfl ⟨rfl, ⟨nx, C0, CT, ⟨_, C3⟩, CP, CM, CH, CS, ⟨_, CX⟩, ⟨_, CY⟩, CG, CO, CF, CR⟩, (Fr.rf (L := LC) (hp := hp))⟩
  | true =>
    show PZ _ _ _ _ _ _ (.int (nI 1) :: _) _ _ _
    obtain ⟨p, -, hp9, rfl⟩ := inW_t (by decide) hw4
    refine N_if_eq (tgt := 21) dX11_observe_7 (by decide) (by decide) (fun hc => absurd hc (by decide)) (fun _ => ?_)
    refine R_iload_n dX11_observe_10 rfl rfl ?_
    refine R_iconst (v := (nI 0)) dX11_observe_11 (by decide) ?_
    refine R_sipush (v := (nI 255)) dX11_observe_12 (by decide) ?_
    refine R_stati (As := [.int (c), .int (nI 0), .int (nI 255)]) (st := []) kX11_isWithin lX11_85 (x_within (by decide) (by decide)) dX11_observe_15 rfl rfl (Nat.le_of_ble_eq_true rfl) ⟨by decide, by decide⟩ zX11_isWithin ⟨Nat.le_refl _, Nat.le_refl _⟩ (fun wr7 wp6 wq5 => ?_)
    obtain ⟨rfl, rfl⟩ : wr7 = _ ∧ hp = wp6 := ⟨wq5.1, wq5.2.symm⟩
    cases hw8 : inW c 0 255 with
    | false =>
      show PZ _ _ _ _ _ _ (.int (nI 0) :: _) _ _ _
      refine N_if_ne (tgt := 24) dX11_observe_18 (by decide) (by decide) (fun hc => absurd hc (by decide)) (fun _ => ?_)
      have hf : f_obs (ms, (cs, sc, un, wd), hs, s0, s1, os, ox) (nI p) c = (-2, (ms, (cs, sc, un, wd), hs, s0, s1, os, ox)) := by unfold f_obs; dsimp only; rw [hw4, hw8]; rfl
      refine R_bipush (v := (-2)) dX11_observe_21 (by decide) ?_
      rw [hf]
      exact R_reti dX11_observe_23 rfl rfl rfl ⟨rfl, ⟨nx, C0, CT, ⟨_, C3⟩, CP, CM, CH, CS, ⟨_, CX⟩, ⟨_, CY⟩, CG, CO, CF, CR⟩, (Fr.rf (L := LC) (hp := hp))⟩
    | true =>
      show PZ _ _ _ _ _ _ (.int (nI 1) :: _) _ _ _
      obtain ⟨q, -, hq, rfl⟩ := inW_t (by decide) hw8
      refine N_if_ne (tgt := 24) dX11_observe_18 (by decide) (by decide) (fun _ => ?_) (fun hc => absurd hc (by decide))
      refine R_aload_n dX11_observe_24 rfl rfl ?_
      refine R_getf dX11_observe_25 gX11_67 C0 rfl ?_
      refine R_iload_n dX11_observe_28 rfl rfl ?_
      refine R_iload_n dX11_observe_29 rfl rfl ?_
      obtain ⟨y10a, y10b, K9, -⟩ := id CO
      refine R_callv (As := [.int (nI p), .int (nI q)]) (st := []) kX4_keep lX11_221 (o_keep (i := p) (c := q) (by omega) (by omega) CO) rfl K9 dX11_observe_30 rfl rfl (Nat.le_of_ble_eq_true rfl) ⟨by decide, by decide⟩ zX4_keep ⟨Nat.le_refl _, Nat.le_refl _⟩ (fun wp12 wq11 => ?_)
      obtain ⟨hq1, hq2⟩ := wq11
      have c14 := hq2.at (by decide) C0
      have c15 := CT.fr hq2 (by decide) (by decide)
      have c16 := C3.fr hq2 (by decide) (by decide)
      have c17 := CP.fr hq2 (by decide) (by decide) (by decide)
      have c18 := CM.fr hq2 (by decide) (by decide)
      have c19 := CH.fr hq2 (by decide) (by decide)
      have c20 := CS.fr hq2 (by decide)
      have c21 := CX.fr hq2 (by decide) (by decide) (by decide)
      have c22 := CY.fr hq2 (by decide) (by decide) (by decide)
      have c23 := CG.fr hq2 (by decide) (by decide)
      have c24 := CF.fr hq2 (by decide)
      have c25 := CR.fr hq2 (by decide) (by decide)
      have FF26 : Fr LC hp wp12 := (Fr.rf (L := LC) (hp := hp)).trans (hq2.mono (by decide))
      refine R_aload_n dX11_observe_33 rfl rfl ?_
      refine R_getf dX11_observe_34 gX11_67 c14 rfl ?_
      obtain ⟨y28a, y28b, K27, -⟩ := id hq1
      refine R_getf dX11_observe_37 gX11_224 K27 rfl ?_
      have hf : f_obs (ms, (cs, sc, un, wd), hs, s0, s1, os, ox) (nI p) (nI q) = (nI (obsP os ox (p, q)).length, (ms, (cs, sc, un, wd), hs, s0, s1, obsP os ox (p, q), (ox + 1) % 6)) := by unfold f_obs; dsimp only; rw [hw4, hw8, vN_n (by omega), vN_n (by omega)]; rfl
      rw [hf]
      exact R_reti dX11_observe_40 rfl rfl rfl ⟨rfl, ⟨nx, c14, c15, ⟨_, c16⟩, c17, c18, c19, c20, ⟨_, c21⟩, ⟨_, c22⟩, c23, hq1, c24, c25⟩, FF26⟩
set_option maxRecDepth 100000 in
set_option maxHeartbeats 4000000 in
theorem x_save {ms : List Nat} {cs : List Nat} {sc un wd : Nat} {hs : List TP} {s0 s1 : Option TP} {os : List (Nat × Nat)} {ox : Nat} {j : Int32} (hC : CI hp (ms, (cs, sc, un, wd), hs, s0, s1, os, ox)) : SpI l X mX11_save [.ref 0, .int (j)] hp (fun r hp' => r = (f_save (ms, (cs, sc, un, wd), hs, s0, s1, os, ox) j).1 ∧ CI hp' (f_save (ms, (cs, sc, un, wd), hs, s0, s1, os, ox) j).2 ∧ Fr LC hp hp') := by
  obtain ⟨nx, C0, CT, ⟨⟨cs3, sc3, un3, wd3⟩, C3⟩, CP, CM, CH, CS, ⟨tx, CX⟩, ⟨ty, CY⟩, CG, CO, CF, CR⟩ := hC
  obtain ⟨ft, KT, KT2, hft, hL, hC3, hs1, hu1, hw1, hw2⟩ := id CT
  refine SpI.of pnX11 (Nat.le_of_ble_eq_true rfl) rfl ?_
  refine R_aload_n dX11_save_0 rfl rfl ?_
  refine R_getf dX11_save_1 gX11_43 C0 rfl ?_
  refine R_iload_n dX11_save_4 rfl rfl ?_
  obtain ⟨y2a, y2b, y2c, y2d, K1, -⟩ := id CS
  refine R_calli (As := [.int (j)]) (st := []) kX8_has lX11_233 (s_has (i := j)) rfl K1 dX11_save_5 rfl rfl (Nat.le_of_ble_eq_true rfl) ⟨by decide, by decide⟩ zX8_has ⟨Nat.le_refl _, Nat.le_refl _⟩ (fun wr5 wp4 wq3 => ?_)
  obtain ⟨rfl, rfl⟩ : wr5 = _ ∧ hp = wp4 := ⟨wq3.1, wq3.2.symm⟩
  cases hb : inB j 2 with
  | false =>
    show PZ _ _ _ _ _ _ (.int (nI 0) :: _) _ _ _
    refine N_if_ne (tgt := 13) dX11_save_8 (by decide) (by decide) (fun hc => absurd hc (by decide)) (fun _ => ?_)
    have hf : f_save (ms, (cs, sc, un, wd), hs, s0, s1, os, ox) j = (-1, (ms, (cs, sc, un, wd), hs, s0, s1, os, ox)) := by unfold f_save; dsimp only; rw [hb]; rfl
    refine R_iconst (v := (-1)) dX11_save_11 (by decide) ?_
    rw [hf]
    exact R_reti dX11_save_12 rfl rfl rfl ⟨rfl, ⟨nx, C0, CT, ⟨_, C3⟩, CP, CM, CH, CS, ⟨_, CX⟩, ⟨_, CY⟩, CG, CO, CF, CR⟩, (Fr.rf (L := LC) (hp := hp))⟩
  | true =>
    show PZ _ _ _ _ _ _ (.int (nI 1) :: _) _ _ _
    obtain ⟨q, hq, rfl⟩ := inB_t (by decide) hb
    have hq2 : q = 0 ∨ q = 1 := by omega
    refine N_if_ne (tgt := 13) dX11_save_8 (by decide) (by decide) (fun _ => ?_) (fun hc => absurd hc (by decide))
    rcases hq2 with rfl | rfl
    · refine R_aload_n dX11_save_13 rfl rfl ?_
      refine R_getf dX11_save_14 gX11_43 C0 rfl ?_
      refine R_iload_n dX11_save_17 rfl rfl ?_
      refine R_aload_n dX11_save_18 rfl rfl ?_
      refine R_getf dX11_save_19 gX11_10 C0 rfl ?_
      refine R_callv (As := [.int (nI 0), .ref 1]) (st := []) kX8_keep lX11_234 (s_keep0 CT CS) rfl K1 dX11_save_22 rfl rfl (Nat.le_of_ble_eq_true rfl) ⟨by decide, by decide⟩ zX8_keep ⟨Nat.le_refl _, Nat.le_refl _⟩ (fun wp7 wq6 => ?_)
      obtain ⟨hq1, hq2⟩ := wq6
      have c9 := hq2.at (by decide) C0
      have c10 := CT.fr hq2 (by decide) (by decide)
      have c11 := C3.fr hq2 (by decide) (by decide)
      have c12 := CP.fr hq2 (by decide) (by decide) (by decide)
      have c13 := CM.fr hq2 (by decide) (by decide)
      have c14 := CH.fr hq2 (by decide) (by decide)
      have c15 := CX.fr hq2 (by decide) (by decide) (by decide)
      have c16 := CY.fr hq2 (by decide) (by decide) (by decide)
      have c17 := CG.fr hq2 (by decide) (by decide)
      have c18 := CO.fr hq2 (by decide) (by decide) (by decide)
      have c19 := CF.fr hq2 (by decide)
      have c20 := CR.fr hq2 (by decide) (by decide)
      have FF21 : Fr LC hp wp7 := (Fr.rf (L := LC) (hp := hp)).trans (hq2.mono (by decide))
      refine R_aload_n dX11_save_25 rfl rfl ?_
      refine R_getf dX11_save_26 gX11_10 c9 rfl ?_
      obtain ⟨y23, K22, -⟩ := id c10
      refine R_getf dX11_save_29 gX11_101 K22 rfl ?_
      have hf : f_save (ms, (cs, sc, un, wd), hs, s0, s1, os, ox) (nI 0) = (nI cs.length, (ms, (cs, sc, un, wd), hs, some (cs, sc, un, wd), s1, os, ox)) := by unfold f_save; dsimp only; rw [hb]; rfl
      rw [hf]
      exact R_reti dX11_save_32 rfl rfl rfl ⟨rfl, ⟨nx, c9, c10, ⟨_, c11⟩, c12, c13, c14, hq1, ⟨_, c15⟩, ⟨_, c16⟩, c17, c18, c19, c20⟩, FF21⟩
    · refine R_aload_n dX11_save_13 rfl rfl ?_
      refine R_getf dX11_save_14 gX11_43 C0 rfl ?_
      refine R_iload_n dX11_save_17 rfl rfl ?_
      refine R_aload_n dX11_save_18 rfl rfl ?_
      refine R_getf dX11_save_19 gX11_10 C0 rfl ?_
      refine R_callv (As := [.int (nI 1), .ref 1]) (st := []) kX8_keep lX11_234 (s_keep1 CT CS) rfl K1 dX11_save_22 rfl rfl (Nat.le_of_ble_eq_true rfl) ⟨by decide, by decide⟩ zX8_keep ⟨Nat.le_refl _, Nat.le_refl _⟩ (fun wp25 wq24 => ?_)
      obtain ⟨hq1, hq2⟩ := wq24
      have c27 := hq2.at (by decide) C0
      have c28 := CT.fr hq2 (by decide) (by decide)
      have c29 := C3.fr hq2 (by decide) (by decide)
      have c30 := CP.fr hq2 (by decide) (by decide) (by decide)
      have c31 := CM.fr hq2 (by decide) (by decide)
      have c32 := CH.fr hq2 (by decide) (by decide)
      have c33 := CX.fr hq2 (by decide) (by decide) (by decide)
      have c34 := CY.fr hq2 (by decide) (by decide) (by decide)
      have c35 := CG.fr hq2 (by decide) (by decide)
      have c36 := CO.fr hq2 (by decide) (by decide) (by decide)
      have c37 := CF.fr hq2 (by decide)
      have c38 := CR.fr hq2 (by decide) (by decide)
      have FF39 : Fr LC hp wp25 := (Fr.rf (L := LC) (hp := hp)).trans (hq2.mono (by decide))
      refine R_aload_n dX11_save_25 rfl rfl ?_
      refine R_getf dX11_save_26 gX11_10 c27 rfl ?_
      obtain ⟨y41, K40, -⟩ := id c28
      refine R_getf dX11_save_29 gX11_101 K40 rfl ?_
      have hf : f_save (ms, (cs, sc, un, wd), hs, s0, s1, os, ox) (nI 1) = (nI cs.length, (ms, (cs, sc, un, wd), hs, s0, some (cs, sc, un, wd), os, ox)) := by unfold f_save; dsimp only; rw [hb]; rfl
      rw [hf]
      exact R_reti dX11_save_32 rfl rfl rfl ⟨rfl, ⟨nx, c27, c28, ⟨_, c29⟩, c30, c31, c32, hq1, ⟨_, c33⟩, ⟨_, c34⟩, c35, c36, c37, c38⟩, FF39⟩
set_option maxRecDepth 100000 in
set_option maxHeartbeats 4000000 in
theorem x_rest {ms : List Nat} {cs : List Nat} {sc un wd : Nat} {hs : List TP} {s0 s1 : Option TP} {os : List (Nat × Nat)} {ox : Nat} {j : Int32} (hC : CI hp (ms, (cs, sc, un, wd), hs, s0, s1, os, ox)) : SpI l X mX11_restore [.ref 0, .int (j)] hp (fun r hp' => r = (f_rest (ms, (cs, sc, un, wd), hs, s0, s1, os, ox) j).1 ∧ CI hp' (f_rest (ms, (cs, sc, un, wd), hs, s0, s1, os, ox) j).2 ∧ Fr LC hp hp') := by
  obtain ⟨nx, C0, CT, ⟨⟨cs3, sc3, un3, wd3⟩, C3⟩, CP, CM, CH, CS, ⟨tx, CX⟩, ⟨ty, CY⟩, CG, CO, CF, CR⟩ := hC
  obtain ⟨ft, KT, KT2, hft, hL, hC3, hs1, hu1, hw1, hw2⟩ := id CT
  refine SpI.of pnX11 (Nat.le_of_ble_eq_true rfl) rfl ?_
  refine R_aload_n dX11_restore_0 rfl rfl ?_
  refine R_getf dX11_restore_1 gX11_43 C0 rfl ?_
  refine R_iload_n dX11_restore_4 rfl rfl ?_
  obtain ⟨y2a, y2b, y2c, y2d, K1, -⟩ := id CS
  refine R_calli (As := [.int (j)]) (st := []) kX8_has lX11_233 (s_has (i := j)) rfl K1 dX11_restore_5 rfl rfl (Nat.le_of_ble_eq_true rfl) ⟨by decide, by decide⟩ zX8_has ⟨Nat.le_refl _, Nat.le_refl _⟩ (fun wr5 wp4 wq3 => ?_)
  obtain ⟨rfl, rfl⟩ : wr5 = _ ∧ hp = wp4 := ⟨wq3.1, wq3.2.symm⟩
  cases hb : inB j 2 with
  | false =>
    show PZ _ _ _ _ _ _ (.int (nI 0) :: _) _ _ _
    refine N_if_ne (tgt := 13) dX11_restore_8 (by decide) (by decide) (fun hc => absurd hc (by decide)) (fun _ => ?_)
    have hf : f_rest (ms, (cs, sc, un, wd), hs, s0, s1, os, ox) j = (-1, (ms, (cs, sc, un, wd), hs, s0, s1, os, ox)) := by unfold f_rest; dsimp only; rw [hb]; rfl
    refine R_iconst (v := (-1)) dX11_restore_11 (by decide) ?_
    rw [hf]
    exact R_reti dX11_restore_12 rfl rfl rfl ⟨rfl, ⟨nx, C0, CT, ⟨_, C3⟩, CP, CM, CH, CS, ⟨_, CX⟩, ⟨_, CY⟩, CG, CO, CF, CR⟩, (Fr.rf (L := LC) (hp := hp))⟩
  | true =>
    show PZ _ _ _ _ _ _ (.int (nI 1) :: _) _ _ _
    obtain ⟨q, hq, rfl⟩ := inB_t (by decide) hb
    have hq2 : q = 0 ∨ q = 1 := by omega
    refine N_if_ne (tgt := 13) dX11_restore_8 (by decide) (by decide) (fun _ => ?_) (fun hc => absurd hc (by decide))
    rcases hq2 with rfl | rfl
    · refine R_aload_n dX11_restore_13 rfl rfl ?_
      refine R_getf dX11_restore_14 gX11_43 C0 rfl ?_
      refine R_iload_n dX11_restore_17 rfl rfl ?_
      refine R_aload_n dX11_restore_18 rfl rfl ?_
      refine R_getf dX11_restore_19 gX11_10 C0 rfl ?_
      cases s0 with
      | none =>
        refine R_calli (As := [.int (nI 0), .ref 1]) (st := []) kX8_bringBack lX11_237 (s_backN0 CS) rfl K1 dX11_restore_22 rfl rfl (Nat.le_of_ble_eq_true rfl) ⟨by decide, by decide⟩ zX8_bringBack ⟨Nat.le_refl _, Nat.le_refl _⟩ (fun wr8 wp7 wq6 => ?_)
        obtain ⟨rfl, rfl⟩ : wr8 = _ ∧ hp = wp7 := ⟨wq6.1, wq6.2.symm⟩
        refine N_if_ne (tgt := 31) dX11_restore_25 (by decide) (by decide) (fun hc => absurd hc (by decide)) (fun _ => ?_)
        refine R_bipush (v := (-3)) dX11_restore_28 (by decide) ?_
        skip
        exact R_reti dX11_restore_30 rfl rfl rfl ⟨rfl, ⟨nx, C0, CT, ⟨_, C3⟩, CP, CM, CH, CS, ⟨_, CX⟩, ⟨_, CY⟩, CG, CO, CF, CR⟩, (Fr.rf (L := LC) (hp := hp))⟩
      | some T =>
        obtain ⟨ds, sc2, un2, wd2⟩ := T
        refine R_calli (As := [.int (nI 0), .ref 1]) (st := []) kX8_bringBack lX11_237 (s_back0 CT (by decide) (by decide) CS) rfl K1 dX11_restore_22 rfl rfl (Nat.le_of_ble_eq_true rfl) ⟨by decide, by decide⟩ zX8_bringBack ⟨Nat.le_refl _, Nat.le_refl _⟩ (fun wr11 wp10 wq9 => ?_)
        obtain ⟨rfl, hq1, hq2⟩ := wq9
        have c12 := hq2.at (by decide) C0
        have c13 := C3.fr hq2 (by decide) (by decide)
        have c14 := CP.fr hq2 (by decide) (by decide) (by decide)
        have c15 := CM.fr hq2 (by decide) (by decide)
        have c16 := CH.fr hq2 (by decide) (by decide)
        have c17 := CS.fr hq2 (by decide)
        have c18 := CX.fr hq2 (by decide) (by decide) (by decide)
        have c19 := CY.fr hq2 (by decide) (by decide) (by decide)
        have c20 := CG.fr hq2 (by decide) (by decide)
        have c21 := CO.fr hq2 (by decide) (by decide) (by decide)
        have c22 := CF.fr hq2 (by decide)
        have c23 := CR.fr hq2 (by decide) (by decide)
        have FF24 : Fr LC hp wp10 := (Fr.rf (L := LC) (hp := hp)).trans (hq2.mono (by decide))
        refine N_if_ne (tgt := 31) dX11_restore_25 (by decide) (by decide) (fun _ => ?_) (fun hc => absurd hc (by decide))
        refine R_aload_n dX11_restore_31 rfl rfl ?_
        refine R_getf dX11_restore_32 gX11_36 c12 rfl ?_
        obtain ⟨y26, K25, -⟩ := id c16
        refine R_callv (As := []) (st := []) kX2_forgetAll lX11_240 (h_forget c16) rfl K25 dX11_restore_35 rfl rfl (Nat.le_of_ble_eq_true rfl) ⟨by decide, by decide⟩ zX2_forgetAll ⟨Nat.le_refl _, Nat.le_refl _⟩ (fun wp28 wq27 => ?_)
        obtain ⟨hr1, hr2⟩ := wq27
        have c30 := hr2.at (by decide) c12
        have c31 := hq1.fr hr2 (by decide) (by decide)
        have c32 := c13.fr hr2 (by decide) (by decide)
        have c33 := c14.fr hr2 (by decide) (by decide) (by decide)
        have c34 := c15.fr hr2 (by decide) (by decide)
        have c35 := c17.fr hr2 (by decide)
        have c36 := c18.fr hr2 (by decide) (by decide) (by decide)
        have c37 := c19.fr hr2 (by decide) (by decide) (by decide)
        have c38 := c20.fr hr2 (by decide) (by decide)
        have c39 := c21.fr hr2 (by decide) (by decide) (by decide)
        have c40 := c22.fr hr2 (by decide)
        have c41 := c23.fr hr2 (by decide) (by decide)
        have FF42 : Fr LC hp wp28 := FF24.trans (hr2.mono (by decide))
        refine R_aload_n dX11_restore_38 rfl rfl ?_
        refine R_getf dX11_restore_39 gX11_10 c30 rfl ?_
        obtain ⟨y44, K43, -⟩ := id c31
        refine R_getf dX11_restore_42 gX11_101 K43 rfl ?_
        skip
        exact R_reti dX11_restore_45 rfl rfl rfl ⟨rfl, ⟨_, c30, c31, ⟨_, c32⟩, c33, c34, hr1, c35, ⟨_, c36⟩, ⟨_, c37⟩, c38, c39, c40, c41⟩, FF42⟩
    · refine R_aload_n dX11_restore_13 rfl rfl ?_
      refine R_getf dX11_restore_14 gX11_43 C0 rfl ?_
      refine R_iload_n dX11_restore_17 rfl rfl ?_
      refine R_aload_n dX11_restore_18 rfl rfl ?_
      refine R_getf dX11_restore_19 gX11_10 C0 rfl ?_
      cases s1 with
      | none =>
        refine R_calli (As := [.int (nI 1), .ref 1]) (st := []) kX8_bringBack lX11_237 (s_backN1 CS) rfl K1 dX11_restore_22 rfl rfl (Nat.le_of_ble_eq_true rfl) ⟨by decide, by decide⟩ zX8_bringBack ⟨Nat.le_refl _, Nat.le_refl _⟩ (fun wr47 wp46 wq45 => ?_)
        obtain ⟨rfl, rfl⟩ : wr47 = _ ∧ hp = wp46 := ⟨wq45.1, wq45.2.symm⟩
        refine N_if_ne (tgt := 31) dX11_restore_25 (by decide) (by decide) (fun hc => absurd hc (by decide)) (fun _ => ?_)
        refine R_bipush (v := (-3)) dX11_restore_28 (by decide) ?_
        skip
        exact R_reti dX11_restore_30 rfl rfl rfl ⟨rfl, ⟨nx, C0, CT, ⟨_, C3⟩, CP, CM, CH, CS, ⟨_, CX⟩, ⟨_, CY⟩, CG, CO, CF, CR⟩, (Fr.rf (L := LC) (hp := hp))⟩
      | some T =>
        obtain ⟨ds, sc2, un2, wd2⟩ := T
        refine R_calli (As := [.int (nI 1), .ref 1]) (st := []) kX8_bringBack lX11_237 (s_back1 CT (by decide) (by decide) CS) rfl K1 dX11_restore_22 rfl rfl (Nat.le_of_ble_eq_true rfl) ⟨by decide, by decide⟩ zX8_bringBack ⟨Nat.le_refl _, Nat.le_refl _⟩ (fun wr50 wp49 wq48 => ?_)
        obtain ⟨rfl, hq1, hq2⟩ := wq48
        have c51 := hq2.at (by decide) C0
        have c52 := C3.fr hq2 (by decide) (by decide)
        have c53 := CP.fr hq2 (by decide) (by decide) (by decide)
        have c54 := CM.fr hq2 (by decide) (by decide)
        have c55 := CH.fr hq2 (by decide) (by decide)
        have c56 := CS.fr hq2 (by decide)
        have c57 := CX.fr hq2 (by decide) (by decide) (by decide)
        have c58 := CY.fr hq2 (by decide) (by decide) (by decide)
        have c59 := CG.fr hq2 (by decide) (by decide)
        have c60 := CO.fr hq2 (by decide) (by decide) (by decide)
        have c61 := CF.fr hq2 (by decide)
        have c62 := CR.fr hq2 (by decide) (by decide)
        have FF63 : Fr LC hp wp49 := (Fr.rf (L := LC) (hp := hp)).trans (hq2.mono (by decide))
        refine N_if_ne (tgt := 31) dX11_restore_25 (by decide) (by decide) (fun _ => ?_) (fun hc => absurd hc (by decide))
        refine R_aload_n dX11_restore_31 rfl rfl ?_
        refine R_getf dX11_restore_32 gX11_36 c51 rfl ?_
        obtain ⟨y65, K64, -⟩ := id c55
        refine R_callv (As := []) (st := []) kX2_forgetAll lX11_240 (h_forget c55) rfl K64 dX11_restore_35 rfl rfl (Nat.le_of_ble_eq_true rfl) ⟨by decide, by decide⟩ zX2_forgetAll ⟨Nat.le_refl _, Nat.le_refl _⟩ (fun wp67 wq66 => ?_)
        obtain ⟨hr1, hr2⟩ := wq66
        have c69 := hr2.at (by decide) c51
        have c70 := hq1.fr hr2 (by decide) (by decide)
        have c71 := c52.fr hr2 (by decide) (by decide)
        have c72 := c53.fr hr2 (by decide) (by decide) (by decide)
        have c73 := c54.fr hr2 (by decide) (by decide)
        have c74 := c56.fr hr2 (by decide)
        have c75 := c57.fr hr2 (by decide) (by decide) (by decide)
        have c76 := c58.fr hr2 (by decide) (by decide) (by decide)
        have c77 := c59.fr hr2 (by decide) (by decide)
        have c78 := c60.fr hr2 (by decide) (by decide) (by decide)
        have c79 := c61.fr hr2 (by decide)
        have c80 := c62.fr hr2 (by decide) (by decide)
        have FF81 : Fr LC hp wp67 := FF63.trans (hr2.mono (by decide))
        refine R_aload_n dX11_restore_38 rfl rfl ?_
        refine R_getf dX11_restore_39 gX11_10 c69 rfl ?_
        obtain ⟨y83, K82, -⟩ := id c70
        refine R_getf dX11_restore_42 gX11_101 K82 rfl ?_
        skip
        exact R_reti dX11_restore_45 rfl rfl rfl ⟨rfl, ⟨_, c69, c70, ⟨_, c71⟩, c72, c73, hr1, c74, ⟨_, c75⟩, ⟨_, c76⟩, c77, c78, c79, c80⟩, FF81⟩
set_option maxRecDepth 100000 in
set_option maxHeartbeats 4000000 in
theorem x_dist {ms : List Nat} {cs : List Nat} {sc un wd : Nat} {hs : List TP} {s0 s1 : Option TP} {os : List (Nat × Nat)} {ox : Nat} {j : Int32} (hC : CI hp (ms, (cs, sc, un, wd), hs, s0, s1, os, ox)) : SpI l X mX11_editDistance [.ref 0, .int (j)] hp (fun r hp' => r = (f_dist (ms, (cs, sc, un, wd), hs, s0, s1, os, ox) j).1 ∧ CI hp' (f_dist (ms, (cs, sc, un, wd), hs, s0, s1, os, ox) j).2 ∧ Fr LC hp hp') := by
  obtain ⟨nx, C0, CT, ⟨⟨cs3, sc3, un3, wd3⟩, C3⟩, CP, CM, CH, CS, ⟨tx, CX⟩, ⟨ty, CY⟩, CG, CO, CF, CR⟩ := hC
  obtain ⟨ft, KT, KT2, hft, hL, hC3, hs1, hu1, hw1, hw2⟩ := id CT
  refine SpI.of pnX11 (Nat.le_of_ble_eq_true rfl) rfl ?_
  refine R_aload_n dX11_editDistance_0 rfl rfl ?_
  refine R_getf dX11_editDistance_1 gX11_43 C0 rfl ?_
  refine R_iload_n dX11_editDistance_4 rfl rfl ?_
  obtain ⟨y2a, y2b, y2c, y2d, K1, -⟩ := id CS
  refine R_calli (As := [.int (j)]) (st := []) kX8_has lX11_233 (s_has (i := j)) rfl K1 dX11_editDistance_5 rfl rfl (Nat.le_of_ble_eq_true rfl) ⟨by decide, by decide⟩ zX8_has ⟨Nat.le_refl _, Nat.le_refl _⟩ (fun wr5 wp4 wq3 => ?_)
  obtain ⟨rfl, rfl⟩ : wr5 = _ ∧ hp = wp4 := ⟨wq3.1, wq3.2.symm⟩
  cases hb : inB j 2 with
  | false =>
    show PZ _ _ _ _ _ _ (.int (nI 0) :: _) _ _ _
    refine N_if_ne (tgt := 13) dX11_editDistance_8 (by decide) (by decide) (fun hc => absurd hc (by decide)) (fun _ => ?_)
    have hf : f_dist (ms, (cs, sc, un, wd), hs, s0, s1, os, ox) j = (-1, (ms, (cs, sc, un, wd), hs, s0, s1, os, ox)) := by unfold f_dist; dsimp only; rw [hb]; rfl
    refine R_iconst (v := (-1)) dX11_editDistance_11 (by decide) ?_
    rw [hf]
    exact R_reti dX11_editDistance_12 rfl rfl rfl ⟨rfl, ⟨nx, C0, CT, ⟨_, C3⟩, CP, CM, CH, CS, ⟨_, CX⟩, ⟨_, CY⟩, CG, CO, CF, CR⟩, (Fr.rf (L := LC) (hp := hp))⟩
  | true =>
    show PZ _ _ _ _ _ _ (.int (nI 1) :: _) _ _ _
    obtain ⟨q, hq, rfl⟩ := inB_t (by decide) hb
    have hq2 : q = 0 ∨ q = 1 := by omega
    refine N_if_ne (tgt := 13) dX11_editDistance_8 (by decide) (by decide) (fun _ => ?_) (fun hc => absurd hc (by decide))
    rcases hq2 with rfl | rfl
    · refine R_aload_n dX11_editDistance_13 rfl rfl ?_
      refine R_getf dX11_editDistance_14 gX11_43 C0 rfl ?_
      refine R_iload_n dX11_editDistance_17 rfl rfl ?_
      refine R_aload_n dX11_editDistance_18 rfl rfl ?_
      refine R_getf dX11_editDistance_19 gX11_16 C0 rfl ?_
      cases s0 with
      | none =>
        refine R_calli (As := [.int (nI 0), .ref 3]) (st := []) kX8_bringBack lX11_237 (s_backN0 CS) rfl K1 dX11_editDistance_22 rfl rfl (Nat.le_of_ble_eq_true rfl) ⟨by decide, by decide⟩ zX8_bringBack ⟨Nat.le_refl _, Nat.le_refl _⟩ (fun wr8 wp7 wq6 => ?_)
        obtain ⟨rfl, rfl⟩ : wr8 = _ ∧ hp = wp7 := ⟨wq6.1, wq6.2.symm⟩
        refine N_if_ne (tgt := 31) dX11_editDistance_25 (by decide) (by decide) (fun hc => absurd hc (by decide)) (fun _ => ?_)
        refine R_bipush (v := (-3)) dX11_editDistance_28 (by decide) ?_
        skip
        exact R_reti dX11_editDistance_30 rfl rfl rfl ⟨rfl, ⟨nx, C0, CT, ⟨_, C3⟩, CP, CM, CH, CS, ⟨_, CX⟩, ⟨_, CY⟩, CG, CO, CF, CR⟩, (Fr.rf (L := LC) (hp := hp))⟩
      | some T =>
        obtain ⟨ds, sc2, un2, wd2⟩ := T
        refine R_calli (As := [.int (nI 0), .ref 3]) (st := []) kX8_bringBack lX11_237 (s_back0 C3 (by decide) (by decide) CS) rfl K1 dX11_editDistance_22 rfl rfl (Nat.le_of_ble_eq_true rfl) ⟨by decide, by decide⟩ zX8_bringBack ⟨Nat.le_refl _, Nat.le_refl _⟩ (fun wr11 wp10 wq9 => ?_)
        obtain ⟨rfl, hq1, hq2⟩ := wq9
        have c12 := hq2.at (by decide) C0
        have c13 := CT.fr hq2 (by decide) (by decide)
        have c14 := CP.fr hq2 (by decide) (by decide) (by decide)
        have c15 := CM.fr hq2 (by decide) (by decide)
        have c16 := CH.fr hq2 (by decide) (by decide)
        have c17 := CS.fr hq2 (by decide)
        have c18 := CX.fr hq2 (by decide) (by decide) (by decide)
        have c19 := CY.fr hq2 (by decide) (by decide) (by decide)
        have c20 := CG.fr hq2 (by decide) (by decide)
        have c21 := CO.fr hq2 (by decide) (by decide) (by decide)
        have c22 := CF.fr hq2 (by decide)
        have c23 := CR.fr hq2 (by decide) (by decide)
        have FF24 : Fr LC hp wp10 := (Fr.rf (L := LC) (hp := hp)).trans (hq2.mono (by decide))
        refine N_if_ne (tgt := 31) dX11_editDistance_25 (by decide) (by decide) (fun _ => ?_) (fun hc => absurd hc (by decide))
        refine R_aload_n dX11_editDistance_31 rfl rfl ?_
        refine R_getf dX11_editDistance_32 gX11_50 c12 rfl ?_
        refine R_aload_n dX11_editDistance_35 rfl rfl ?_
        refine R_getf dX11_editDistance_36 gX11_10 c12 rfl ?_
        obtain ⟨y26a, y26b, K25, -⟩ := id c18
        refine R_callv (As := [.ref 1]) (st := []) kX10_read lX11_112 (x_read c18 c13 (by decide) (by decide) (by decide) (by decide)) rfl K25 dX11_editDistance_39 rfl rfl (Nat.le_of_ble_eq_true rfl) ⟨by decide, by decide⟩ zX10_read ⟨Nat.le_refl _, Nat.le_refl _⟩ (fun wp28 wq27 => ?_)
        obtain ⟨hx1, hx2⟩ := wq27
        have c30 := hx2.at (by decide) c12
        have c31 := c13.fr hx2 (by decide) (by decide)
        have c32 := hq1.fr hx2 (by decide) (by decide)
        have c33 := c14.fr hx2 (by decide) (by decide) (by decide)
        have c34 := c15.fr hx2 (by decide) (by decide)
        have c35 := c16.fr hx2 (by decide) (by decide)
        have c36 := c17.fr hx2 (by decide)
        have c37 := c19.fr hx2 (by decide) (by decide) (by decide)
        have c38 := c20.fr hx2 (by decide) (by decide)
        have c39 := c21.fr hx2 (by decide) (by decide) (by decide)
        have c40 := c22.fr hx2 (by decide)
        have c41 := c23.fr hx2 (by decide) (by decide)
        have FF42 : Fr LC hp wp28 := FF24.trans (hx2.mono (by decide))
        refine R_aload_n dX11_editDistance_42 rfl rfl ?_
        refine R_getf dX11_editDistance_43 gX11_54 c30 rfl ?_
        refine R_aload_n dX11_editDistance_46 rfl rfl ?_
        refine R_getf dX11_editDistance_47 gX11_16 c30 rfl ?_
        obtain ⟨y44a, y44b, K43, -⟩ := id c37
        refine R_callv (As := [.ref 3]) (st := []) kX10_read lX11_112 (x_read c37 c32 (by decide) (by decide) (by decide) (by decide)) rfl K43 dX11_editDistance_50 rfl rfl (Nat.le_of_ble_eq_true rfl) ⟨by decide, by decide⟩ zX10_read ⟨Nat.le_refl _, Nat.le_refl _⟩ (fun wp46 wq45 => ?_)
        obtain ⟨hy1, hy2⟩ := wq45
        have c48 := hy2.at (by decide) c30
        have c49 := c31.fr hy2 (by decide) (by decide)
        have c50 := c32.fr hy2 (by decide) (by decide)
        have c51 := c33.fr hy2 (by decide) (by decide) (by decide)
        have c52 := c34.fr hy2 (by decide) (by decide)
        have c53 := c35.fr hy2 (by decide) (by decide)
        have c54 := c36.fr hy2 (by decide)
        have c55 := hx1.fr hy2 (by decide) (by decide) (by decide)
        have c56 := c38.fr hy2 (by decide) (by decide)
        have c57 := c39.fr hy2 (by decide) (by decide) (by decide)
        have c58 := c40.fr hy2 (by decide)
        have c59 := c41.fr hy2 (by decide) (by decide)
        have FF60 : Fr LC hp wp46 := FF42.trans (hy2.mono (by decide))
        refine R_aload_n dX11_editDistance_53 rfl rfl ?_
        refine R_getf dX11_editDistance_54 gX11_50 c48 rfl ?_
        refine R_aload_n dX11_editDistance_57 rfl rfl ?_
        refine R_getf dX11_editDistance_58 gX11_54 c48 rfl ?_
        obtain ⟨y62a, y62b, K61, -⟩ := id c55
        refine R_calli (As := [.ref 50]) (st := []) kX10_distanceTo lX11_243 (d_dist c55 hy1) rfl K61 dX11_editDistance_61 rfl rfl (Nat.le_of_ble_eq_true rfl) ⟨by decide, by decide⟩ zX10_distanceTo ⟨Nat.le_refl _, Nat.le_refl _⟩ (fun wr65 wp64 wq63 => ?_)
        obtain ⟨rfl, ⟨g9, hd1⟩, hd2⟩ := wq63
        have cx9 : TxAt wp64 47 48 49 (txt un sc cs) := by
          obtain ⟨f8, g8, A1, A2, A3, A4⟩ := id c55
          exact ⟨f8, g9, hd2.at (by decide) A1, hd2.at (by decide) A2, hd1, A4⟩
        have c66 := hd2.at (by decide) c48
        have c67 := c49.fr hd2 (by decide) (by decide)
        have c68 := c50.fr hd2 (by decide) (by decide)
        have c69 := c51.fr hd2 (by decide) (by decide) (by decide)
        have c70 := c52.fr hd2 (by decide) (by decide)
        have c71 := c53.fr hd2 (by decide) (by decide)
        have c72 := c54.fr hd2 (by decide)
        have c73 := hy1.fr hd2 (by decide) (by decide) (by decide)
        have c74 := c56.fr hd2 (by decide) (by decide)
        have c75 := c57.fr hd2 (by decide) (by decide) (by decide)
        have c76 := c58.fr hd2 (by decide)
        have c77 := c59.fr hd2 (by decide) (by decide)
        have FF78 : Fr LC hp wp64 := FF60.trans (hd2.mono (by decide))
        skip
        exact R_reti dX11_editDistance_64 rfl rfl rfl ⟨rfl, ⟨nx, c66, c67, ⟨_, c68⟩, c69, c70, c71, c72, ⟨_, cx9⟩, ⟨_, c73⟩, c74, c75, c76, c77⟩, FF78⟩
    · refine R_aload_n dX11_editDistance_13 rfl rfl ?_
      refine R_getf dX11_editDistance_14 gX11_43 C0 rfl ?_
      refine R_iload_n dX11_editDistance_17 rfl rfl ?_
      refine R_aload_n dX11_editDistance_18 rfl rfl ?_
      refine R_getf dX11_editDistance_19 gX11_16 C0 rfl ?_
      cases s1 with
      | none =>
        refine R_calli (As := [.int (nI 1), .ref 3]) (st := []) kX8_bringBack lX11_237 (s_backN1 CS) rfl K1 dX11_editDistance_22 rfl rfl (Nat.le_of_ble_eq_true rfl) ⟨by decide, by decide⟩ zX8_bringBack ⟨Nat.le_refl _, Nat.le_refl _⟩ (fun wr81 wp80 wq79 => ?_)
        obtain ⟨rfl, rfl⟩ : wr81 = _ ∧ hp = wp80 := ⟨wq79.1, wq79.2.symm⟩
        refine N_if_ne (tgt := 31) dX11_editDistance_25 (by decide) (by decide) (fun hc => absurd hc (by decide)) (fun _ => ?_)
        refine R_bipush (v := (-3)) dX11_editDistance_28 (by decide) ?_
        skip
        exact R_reti dX11_editDistance_30 rfl rfl rfl ⟨rfl, ⟨nx, C0, CT, ⟨_, C3⟩, CP, CM, CH, CS, ⟨_, CX⟩, ⟨_, CY⟩, CG, CO, CF, CR⟩, (Fr.rf (L := LC) (hp := hp))⟩
      | some T =>
        obtain ⟨ds, sc2, un2, wd2⟩ := T
        refine R_calli (As := [.int (nI 1), .ref 3]) (st := []) kX8_bringBack lX11_237 (s_back1 C3 (by decide) (by decide) CS) rfl K1 dX11_editDistance_22 rfl rfl (Nat.le_of_ble_eq_true rfl) ⟨by decide, by decide⟩ zX8_bringBack ⟨Nat.le_refl _, Nat.le_refl _⟩ (fun wr84 wp83 wq82 => ?_)
        obtain ⟨rfl, hq1, hq2⟩ := wq82
        have c85 := hq2.at (by decide) C0
        have c86 := CT.fr hq2 (by decide) (by decide)
        have c87 := CP.fr hq2 (by decide) (by decide) (by decide)
        have c88 := CM.fr hq2 (by decide) (by decide)
        have c89 := CH.fr hq2 (by decide) (by decide)
        have c90 := CS.fr hq2 (by decide)
        have c91 := CX.fr hq2 (by decide) (by decide) (by decide)
        have c92 := CY.fr hq2 (by decide) (by decide) (by decide)
        have c93 := CG.fr hq2 (by decide) (by decide)
        have c94 := CO.fr hq2 (by decide) (by decide) (by decide)
        have c95 := CF.fr hq2 (by decide)
        have c96 := CR.fr hq2 (by decide) (by decide)
        have FF97 : Fr LC hp wp83 := (Fr.rf (L := LC) (hp := hp)).trans (hq2.mono (by decide))
        refine N_if_ne (tgt := 31) dX11_editDistance_25 (by decide) (by decide) (fun _ => ?_) (fun hc => absurd hc (by decide))
        refine R_aload_n dX11_editDistance_31 rfl rfl ?_
        refine R_getf dX11_editDistance_32 gX11_50 c85 rfl ?_
        refine R_aload_n dX11_editDistance_35 rfl rfl ?_
        refine R_getf dX11_editDistance_36 gX11_10 c85 rfl ?_
        obtain ⟨y99a, y99b, K98, -⟩ := id c91
        refine R_callv (As := [.ref 1]) (st := []) kX10_read lX11_112 (x_read c91 c86 (by decide) (by decide) (by decide) (by decide)) rfl K98 dX11_editDistance_39 rfl rfl (Nat.le_of_ble_eq_true rfl) ⟨by decide, by decide⟩ zX10_read ⟨Nat.le_refl _, Nat.le_refl _⟩ (fun wp101 wq100 => ?_)
        obtain ⟨hx1, hx2⟩ := wq100
        have c103 := hx2.at (by decide) c85
        have c104 := c86.fr hx2 (by decide) (by decide)
        have c105 := hq1.fr hx2 (by decide) (by decide)
        have c106 := c87.fr hx2 (by decide) (by decide) (by decide)
        have c107 := c88.fr hx2 (by decide) (by decide)
        have c108 := c89.fr hx2 (by decide) (by decide)
        have c109 := c90.fr hx2 (by decide)
        have c110 := c92.fr hx2 (by decide) (by decide) (by decide)
        have c111 := c93.fr hx2 (by decide) (by decide)
        have c112 := c94.fr hx2 (by decide) (by decide) (by decide)
        have c113 := c95.fr hx2 (by decide)
        have c114 := c96.fr hx2 (by decide) (by decide)
        have FF115 : Fr LC hp wp101 := FF97.trans (hx2.mono (by decide))
        refine R_aload_n dX11_editDistance_42 rfl rfl ?_
        refine R_getf dX11_editDistance_43 gX11_54 c103 rfl ?_
        refine R_aload_n dX11_editDistance_46 rfl rfl ?_
        refine R_getf dX11_editDistance_47 gX11_16 c103 rfl ?_
        obtain ⟨y117a, y117b, K116, -⟩ := id c110
        refine R_callv (As := [.ref 3]) (st := []) kX10_read lX11_112 (x_read c110 c105 (by decide) (by decide) (by decide) (by decide)) rfl K116 dX11_editDistance_50 rfl rfl (Nat.le_of_ble_eq_true rfl) ⟨by decide, by decide⟩ zX10_read ⟨Nat.le_refl _, Nat.le_refl _⟩ (fun wp119 wq118 => ?_)
        obtain ⟨hy1, hy2⟩ := wq118
        have c121 := hy2.at (by decide) c103
        have c122 := c104.fr hy2 (by decide) (by decide)
        have c123 := c105.fr hy2 (by decide) (by decide)
        have c124 := c106.fr hy2 (by decide) (by decide) (by decide)
        have c125 := c107.fr hy2 (by decide) (by decide)
        have c126 := c108.fr hy2 (by decide) (by decide)
        have c127 := c109.fr hy2 (by decide)
        have c128 := hx1.fr hy2 (by decide) (by decide) (by decide)
        have c129 := c111.fr hy2 (by decide) (by decide)
        have c130 := c112.fr hy2 (by decide) (by decide) (by decide)
        have c131 := c113.fr hy2 (by decide)
        have c132 := c114.fr hy2 (by decide) (by decide)
        have FF133 : Fr LC hp wp119 := FF115.trans (hy2.mono (by decide))
        refine R_aload_n dX11_editDistance_53 rfl rfl ?_
        refine R_getf dX11_editDistance_54 gX11_50 c121 rfl ?_
        refine R_aload_n dX11_editDistance_57 rfl rfl ?_
        refine R_getf dX11_editDistance_58 gX11_54 c121 rfl ?_
        obtain ⟨y135a, y135b, K134, -⟩ := id c128
        refine R_calli (As := [.ref 50]) (st := []) kX10_distanceTo lX11_243 (d_dist c128 hy1) rfl K134 dX11_editDistance_61 rfl rfl (Nat.le_of_ble_eq_true rfl) ⟨by decide, by decide⟩ zX10_distanceTo ⟨Nat.le_refl _, Nat.le_refl _⟩ (fun wr138 wp137 wq136 => ?_)
        obtain ⟨rfl, ⟨g9, hd1⟩, hd2⟩ := wq136
        have cx9 : TxAt wp137 47 48 49 (txt un sc cs) := by
          obtain ⟨f8, g8, A1, A2, A3, A4⟩ := id c128
          exact ⟨f8, g9, hd2.at (by decide) A1, hd2.at (by decide) A2, hd1, A4⟩
        have c139 := hd2.at (by decide) c121
        have c140 := c122.fr hd2 (by decide) (by decide)
        have c141 := c123.fr hd2 (by decide) (by decide)
        have c142 := c124.fr hd2 (by decide) (by decide) (by decide)
        have c143 := c125.fr hd2 (by decide) (by decide)
        have c144 := c126.fr hd2 (by decide) (by decide)
        have c145 := c127.fr hd2 (by decide)
        have c146 := hy1.fr hd2 (by decide) (by decide) (by decide)
        have c147 := c129.fr hd2 (by decide) (by decide)
        have c148 := c130.fr hd2 (by decide) (by decide) (by decide)
        have c149 := c131.fr hd2 (by decide)
        have c150 := c132.fr hd2 (by decide) (by decide)
        have FF151 : Fr LC hp wp137 := FF133.trans (hd2.mono (by decide))
        skip
        exact R_reti dX11_editDistance_64 rfl rfl rfl ⟨rfl, ⟨nx, c139, c140, ⟨_, c141⟩, c142, c143, c144, c145, ⟨_, cx9⟩, ⟨_, c146⟩, c147, c148, c149, c150⟩, FF151⟩
theorem b_and : ∀ k, k < 4 → nI k &&& nI 1 = nI (k % 2) := by decide
theorem b_shr : ∀ k, k < 4 → nI k >>> (nI 1 &&& 31) = nI (k / 2) := by decide
theorem b_or : ∀ k, k < 4 → ∀ a, a < 2 ^ k → nI a ||| (nI 1 <<< (nI k &&& 31)) = nI (a + 2 ^ k) := by decide +kernel
def psS (os : List (Nat × Nat)) (cs : List Nat) : Nat → Nat
  | 0 => 0
  | k + 1 => psS os cs k + psb os cs k
theorem psS_lt (os : List (Nat × Nat)) (cs : List Nat) : ∀ k, psS os cs k < 2 ^ k
  | 0 => by simp [psS]
  | k + 1 => by
    have := psS_lt os cs k
    have h2 : psb os cs k ≤ 2 ^ k := by unfold psb; split <;> omega
    rw [Nat.pow_succ]; simp only [psS]; omega
set_option maxRecDepth 100000 in
set_option maxHeartbeats 4000000 in
theorem x_psL {ms : List Nat} {cs : List Nat} {sc un wd : Nat} {hs : List TP} {s0 s1 : Option TP} {os : List (Nat × Nat)} {ox : Nat} {hp0 : HPt} : ∀ (d : Nat) (hp : HPt) (k sc3 un3 : Nat), k + d = 4 → CI hp (ms, (cs, sc, un, wd), hs, s0, s1, os, ox) → (∃ wd3, TpAt hp 3 4 (cs, sc3, un3, wd3)) → Fr LC hp0 hp → PZ l X (MZi X mX11_possibleSettings (fun r hp' => r = (f_poss (ms, (cs, sc, un, wd), hs, s0, s1, os, ox)).1 ∧ CI hp' (f_poss (ms, (cs, sc, un, wd), hs, s0, s1, os, ox)).2 ∧ Fr LC hp0 hp')) mX11_possibleSettings 15 [some (.ref 0), some (.int (nI (psS os cs k))), some (.int (nI k))] [] hp 0 0 := by
  intro d
  induction d with
  | zero =>
    intro hp k sc3 un3 hk hC h3 hF
    have hke : k = 4 := by omega
    subst hke
    have hC0 := hC
    obtain ⟨nx, C0, -⟩ := hC
    refine R_iload_n dX11_possibleSettings_15 rfl rfl ?_
    refine R_iconst (v := (nI 4)) dX11_possibleSettings_16 (by decide) ?_
    refine N_icmp_ge (tgt := 77) dX11_possibleSettings_17 (by decide) (by omega) (by omega) (fun _ => ?_) (fun hc => absurd hc (by omega))
    refine R_iload_n dX11_possibleSettings_77 rfl rfl ?_
    exact R_reti dX11_possibleSettings_78 rfl rfl rfl ⟨by unfold f_poss; simp [psS], hC0, hF⟩
  | succ d ih =>
    intro hp k sc3 un3 hk hC h3 hF
    obtain ⟨wd3, h3⟩ := h3
    obtain ⟨nx, C0, CT, -, CP, CM, CH, CS, ⟨tx, CX⟩, ⟨ty, CY⟩, CG, CO, CF, CR⟩ := hC
    have C3 := h3
    obtain ⟨f3, K3, K4, hf3, hL3, hC33, -, -, hw31, hw32⟩ := id C3
    have hk4 : k < 4 := by omega
    refine R_iload_n dX11_possibleSettings_15 rfl rfl ?_
    refine R_iconst (v := (nI 4)) dX11_possibleSettings_16 (by decide) ?_
    refine N_icmp_ge (tgt := 77) dX11_possibleSettings_17 (by decide) (by omega) (by omega) (fun hc => absurd hc (by omega)) (fun _ => ?_)
    refine R_aload_n dX11_possibleSettings_20 rfl rfl ?_
    refine R_getf dX11_possibleSettings_21 gX11_16 C0 rfl ?_
    refine R_iload_n dX11_possibleSettings_24 rfl rfl ?_
    refine R_iconst (v := (nI 1)) dX11_possibleSettings_25 (by decide) ?_
    refine R_iand dX11_possibleSettings_26 ?_
    rw [b_and k hk4]
    refine W_puti (fs' := [.ref 4, .int (nI (cs.length)), .int (nI (k % 2)), .int (nI un3), .int (nI wd3)]) dX11_possibleSettings_27 pX11_173 K3 (Nat.le_of_ble_eq_true rfl) rfl (fun wp1 wH2 wE3 => ?_)
    have wH4 := (wE3 0 (by decide)).trans C0
    have wH5 := (wE3 4 (by decide)).trans K4
    have wF6 : Fr [3] hp wp1 := Fr.one wE3 (by simp)
    refine R_aload_n dX11_possibleSettings_30 rfl rfl ?_
    refine R_getf dX11_possibleSettings_31 gX11_16 wH4 rfl ?_
    refine R_iload_n dX11_possibleSettings_34 rfl rfl ?_
    refine R_iconst (v := (nI 1)) dX11_possibleSettings_35 (by decide) ?_
    refine R_ishr dX11_possibleSettings_36 ?_
    rw [b_shr k hk4]
    refine W_puti (fs' := [.ref 4, .int (nI (cs.length)), .int (nI (k % 2)), .int (nI (k / 2)), .int (nI wd3)]) dX11_possibleSettings_37 pX11_176 wH2 (Nat.le_of_ble_eq_true rfl) rfl (fun wp7 wH8 wE9 => ?_)
    have wH10 := (wE9 0 (by decide)).trans wH4
    have wH11 := (wE9 4 (by decide)).trans wH5
    have wF12 : Fr [3] hp wp7 := wF6.trans (Fr.one wE9 (by simp))
    refine R_aload_n dX11_possibleSettings_40 rfl rfl ?_
    refine R_getf dX11_possibleSettings_41 gX11_50 wH10 rfl ?_
    refine R_aload_n dX11_possibleSettings_44 rfl rfl ?_
    refine R_getf dX11_possibleSettings_45 gX11_16 wH10 rfl ?_
    have c39 : TpAt wp7 3 4 (cs, k % 2, k / 2, wd3) := ⟨f3, wH8, wH11, hf3, hL3, hC33, by omega, by omega, hw31, hw32⟩
    have c13 := wF12.at (by decide) C0
    have c14 := CT.fr wF12 (by decide) (by decide)
    have c15 := CP.fr wF12 (by decide) (by decide) (by decide)
    have c16 := CM.fr wF12 (by decide) (by decide)
    have c17 := CH.fr wF12 (by decide) (by decide)
    have c18 := CS.fr wF12 (by decide)
    have c19 := CX.fr wF12 (by decide) (by decide) (by decide)
    have c20 := CY.fr wF12 (by decide) (by decide) (by decide)
    have c21 := CG.fr wF12 (by decide) (by decide)
    have c22 := CO.fr wF12 (by decide) (by decide) (by decide)
    have c23 := CF.fr wF12 (by decide)
    have c24 := CR.fr wF12 (by decide) (by decide)
    have FF25 : Fr LC hp0 wp7 := hF.trans (wF12.mono (by decide))
    obtain ⟨y27a, y27b, K26, -⟩ := id c19
    refine R_callv (As := [.ref 3]) (st := []) kX10_read lX11_112 (x_read c19 c39 (by decide) (by decide) (by decide) (by decide)) rfl K26 dX11_possibleSettings_48 rfl rfl (Nat.le_of_ble_eq_true rfl) ⟨by decide, by decide⟩ zX10_read ⟨Nat.le_refl _, Nat.le_refl _⟩ (fun wp29 wq28 => ?_)
    obtain ⟨hx1, hx2⟩ := wq28
    have c31 := hx2.at (by decide) c13
    have c32 := c14.fr hx2 (by decide) (by decide)
    have c33 := c39.fr hx2 (by decide) (by decide)
    have c34 := c15.fr hx2 (by decide) (by decide) (by decide)
    have c35 := c16.fr hx2 (by decide) (by decide)
    have c36 := c17.fr hx2 (by decide) (by decide)
    have c37 := c18.fr hx2 (by decide)
    have c38 := c20.fr hx2 (by decide) (by decide) (by decide)
    have c39 := c21.fr hx2 (by decide) (by decide)
    have c40 := c22.fr hx2 (by decide) (by decide) (by decide)
    have c41 := c23.fr hx2 (by decide)
    have c42 := c24.fr hx2 (by decide) (by decide)
    have FF43 : Fr LC hp0 wp29 := FF25.trans (hx2.mono (by decide))
    refine R_aload_n dX11_possibleSettings_51 rfl rfl ?_
    refine R_getf dX11_possibleSettings_52 gX11_67 c31 rfl ?_
    refine R_aload_n dX11_possibleSettings_55 rfl rfl ?_
    refine R_getf dX11_possibleSettings_56 gX11_50 c31 rfl ?_
    obtain ⟨y45a, y45b, K44, -⟩ := id c40
    refine R_calli (As := [.ref 47]) (st := []) kX4_holdFor lX11_225 (o_hold c40 hx1) rfl K44 dX11_possibleSettings_59 rfl rfl (Nat.le_of_ble_eq_true rfl) ⟨by decide, by decide⟩ zX4_holdFor ⟨Nat.le_refl _, Nat.le_refl _⟩ (fun wr48 wp47 wq46 => ?_)
    obtain ⟨rfl, rfl⟩ : wr48 = _ ∧ wp29 = wp47 := ⟨wq46.1, wq46.2.symm⟩
    by_cases hh : obsH (txt (k / 2) (k % 2) cs) os = true
    · rw [hh]
      show PZ _ _ _ _ _ _ (.int (nI 1) :: _) _ _ _
      refine N_if_eq (tgt := 71) dX11_possibleSettings_62 (by decide) (by decide) (fun hc => absurd hc (by decide)) (fun _ => ?_)
      refine R_iload_n dX11_possibleSettings_65 rfl rfl ?_
      refine R_iconst (v := (nI 1)) dX11_possibleSettings_66 (by decide) ?_
      refine R_iload_n dX11_possibleSettings_67 rfl rfl ?_
      refine R_ishl dX11_possibleSettings_68 ?_
      refine R_ior dX11_possibleSettings_69 ?_
      rw [b_or k hk4 _ (psS_lt os cs k)]
      refine R_istore_n (lv' := [some (.ref 0), some (.int (nI (psS os cs k + 2 ^ k))), some (.int (nI k))]) dX11_possibleSettings_70 rfl (by decide) rfl ?_
      refine N_iinc (d := 1) (lv' := [some (.ref 0), some (.int (nI (psS os cs k + 2 ^ k))), some (.int (nI (k + 1)))]) dX11_possibleSettings_71 rfl rfl ?_
      refine R_goto (tgt := 15) dX11_possibleSettings_74 (by decide) ?_
      have hps : psS os cs (k + 1) = psS os cs k + 2 ^ k := by simp only [psS, psb]; rw [if_pos hh]
      rw [← hps]
      exact ih _ (k + 1) _ _ (by omega) ⟨nx, c31, c32, ⟨_, c33⟩, c34, c35, c36, c37, ⟨_, hx1⟩, ⟨_, c38⟩, c39, c40, c41, c42⟩ ⟨_, c33⟩ FF43
    · rw [Bool.eq_false_iff.mpr hh]
      show PZ _ _ _ _ _ _ (.int (nI 0) :: _) _ _ _
      refine N_if_eq (tgt := 71) dX11_possibleSettings_62 (by decide) (by decide) (fun _ => ?_) (fun hc => absurd hc (by decide))
      refine N_iinc (d := 1) (lv' := [some (.ref 0), some (.int (nI (psS os cs k))), some (.int (nI (k + 1)))]) dX11_possibleSettings_71 rfl rfl ?_
      refine R_goto (tgt := 15) dX11_possibleSettings_74 (by decide) ?_
      have hps : psS os cs (k + 1) = psS os cs k := by simp only [psS, psb]; rw [if_neg hh]; rfl
      have h9 := ih _ (k + 1) _ _ (by omega) ⟨nx, c31, c32, ⟨_, c33⟩, c34, c35, c36, c37, ⟨_, hx1⟩, ⟨_, c38⟩, c39, c40, c41, c42⟩ ⟨_, c33⟩ FF43
      rw [hps] at h9
      exact h9
set_option maxRecDepth 100000 in
set_option maxHeartbeats 4000000 in
theorem x_poss {ms : List Nat} {cs : List Nat} {sc un wd : Nat} {hs : List TP} {s0 s1 : Option TP} {os : List (Nat × Nat)} {ox : Nat} (hC : CI hp (ms, (cs, sc, un, wd), hs, s0, s1, os, ox)) : SpI l X mX11_possibleSettings [.ref 0] hp (fun r hp' => r = (f_poss (ms, (cs, sc, un, wd), hs, s0, s1, os, ox)).1 ∧ CI hp' (f_poss (ms, (cs, sc, un, wd), hs, s0, s1, os, ox)).2 ∧ Fr LC hp hp') := by
  obtain ⟨nx, C0, CT, ⟨⟨cs3, sc3, un3, wd3⟩, C3⟩, CP, CM, CH, CS, ⟨tx, CX⟩, ⟨ty, CY⟩, CG, CO, CF, CR⟩ := hC
  obtain ⟨ft, KT, KT2, hft, hL, hC3, hs1, hu1, hw1, hw2⟩ := id CT
  refine SpI.of pnX11 (Nat.le_of_ble_eq_true rfl) rfl ?_
  refine R_iconst (v := (nI 0)) dX11_possibleSettings_0 (by decide) ?_
  refine R_istore_n (lv' := [some (.ref 0), some (.int (nI 0)), none]) dX11_possibleSettings_1 rfl (by decide) rfl ?_
  refine R_aload_n dX11_possibleSettings_2 rfl rfl ?_
  refine R_getf dX11_possibleSettings_3 gX11_16 C0 rfl ?_
  refine R_aload_n dX11_possibleSettings_6 rfl rfl ?_
  refine R_getf dX11_possibleSettings_7 gX11_10 C0 rfl ?_
  obtain ⟨y2, K1, -⟩ := id C3
  refine R_callv (As := [.ref 1]) (st := []) kX9_become lX11_196 (t_become C3 CT (by decide) (by decide)) rfl K1 dX11_possibleSettings_10 rfl rfl (Nat.le_of_ble_eq_true rfl) ⟨by decide, by decide⟩ zX9_become ⟨Nat.le_refl _, Nat.le_refl _⟩ (fun wp4 wq3 => ?_)
  obtain ⟨hb1, hb2⟩ := wq3
  have c6 := hb2.at (by decide) C0
  have c7 := CT.fr hb2 (by decide) (by decide)
  have c8 := CP.fr hb2 (by decide) (by decide) (by decide)
  have c9 := CM.fr hb2 (by decide) (by decide)
  have c10 := CH.fr hb2 (by decide) (by decide)
  have c11 := CS.fr hb2 (by decide)
  have c12 := CX.fr hb2 (by decide) (by decide) (by decide)
  have c13 := CY.fr hb2 (by decide) (by decide) (by decide)
  have c14 := CG.fr hb2 (by decide) (by decide)
  have c15 := CO.fr hb2 (by decide) (by decide) (by decide)
  have c16 := CF.fr hb2 (by decide)
  have c17 := CR.fr hb2 (by decide) (by decide)
  have FF18 : Fr LC hp wp4 := (Fr.rf (L := LC) (hp := hp)).trans (hb2.mono (by decide))
  refine R_iconst (v := (nI 0)) dX11_possibleSettings_13 (by decide) ?_
  refine R_istore_n (lv' := [some (.ref 0), some (.int (nI 0)), some (.int (nI 0))]) dX11_possibleSettings_14 rfl (by decide) rfl ?_
  exact x_psL 4 _ 0 sc un (by omega) ⟨nx, c6, c7, ⟨_, hb1⟩, c8, c9, c10, c11, ⟨_, c12⟩, ⟨_, c13⟩, c14, c15, c16, c17⟩ ⟨_, hb1⟩ FF18
end X26
