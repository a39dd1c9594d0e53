/-! The class TeleprinterTape: actions, page, damage, scripts, slots -/
section X25
variable {l : Launch} {X : EX} {hp : HPt}
set_option maxRecDepth 100000 in
set_option maxHeartbeats 4000000 in
theorem x_takeF {V : List Nat} {sc un wd : Nat} (hl : 96 < V.length) (C0 : hp[0]? = some (ob 10 [.ref 1, .ref 3, .ref 5, .ref 8, .ref 10, .ref 40, .ref 47, .ref 50, .ref 53, .ref 55, .ref 58, .ref 59])) (hP : PunAt hp V sc un wd) : SpI l X mX11_takePunched [.ref 0] hp (fun r hp' => r = nI 0 ∧ hp' = hp) := by
  have H5 := hP.1
  refine SpI.of pnX11 (Nat.le_of_ble_eq_true rfl) rfl ?_
  refine R_aload_n dX11_takePunched_0 rfl rfl ?_
  refine R_getf dX11_takePunched_1 gX11_22 C0 rfl ?_
  refine R_getf dX11_takePunched_4 gX11_247 H5 rfl ?_
  rw [decide_eq_true hl]
  show PZ _ _ _ _ _ _ (.int (nI 1) :: _) _ _ _
  refine N_if_eq (tgt := 12) dX11_takePunched_7 (by decide) (by decide) (fun hc => absurd hc (by decide)) (fun _ => ?_)
  refine R_iconst (v := (nI 0)) dX11_takePunched_10 (by decide) ?_
  exact R_retz dX11_takePunched_11 rfl rfl rfl rfl ⟨rfl, rfl⟩
set_option maxRecDepth 100000 in
set_option maxHeartbeats 4000000 in
theorem x_take {V : List Nat} {hs : List TP} {nx : Nat} {cs : List Nat} {sc un wd : Nat} (hl : V.length ≤ 96) (C0 : hp[0]? = some (ob 10 [.ref 1, .ref 3, .ref 5, .ref 8, .ref 10, .ref 40, .ref 47, .ref 50, .ref 53, .ref 55, .ref 58, .ref 59])) (hP : PunAt hp V sc un wd) (CT : TpAt hp 1 2 (cs, sc, un, wd)) (CH : HisAt hp hs nx) : SpI l X mX11_takePunched [.ref 0] hp (fun r hp' => r = nI 1 ∧ TpAt hp' 1 2 (V, sc, un, wd) ∧ HisAt hp' ((cs, sc, un, wd) :: hs.take 13) ((nx + 1) % 14) ∧ Fr (1 :: 2 :: LHis) hp hp') := by
  have H5 := hP.1
  obtain ⟨qh, K10, -⟩ := id CH
  refine SpI.of pnX11 (Nat.le_of_ble_eq_true rfl) rfl ?_
  refine R_aload_n dX11_takePunched_0 rfl rfl ?_
  refine R_getf dX11_takePunched_1 gX11_22 C0 rfl ?_
  refine R_getf dX11_takePunched_4 gX11_247 H5 rfl ?_
  rw [decide_eq_false (by omega)]
  show PZ _ _ _ _ _ _ (.int (nI 0) :: _) _ _ _
  refine N_if_eq (tgt := 12) dX11_takePunched_7 (by decide) (by decide) (fun _ => ?_) (fun hc => absurd hc (by decide))
  refine R_aload_n dX11_takePunched_12 rfl rfl ?_
  refine R_getf dX11_takePunched_13 gX11_36 C0 rfl ?_
  refine R_aload_n dX11_takePunched_16 rfl rfl ?_
  refine R_getf dX11_takePunched_17 gX11_10 C0 rfl ?_
  refine R_callv (As := [.ref 1]) (st := []) kX2_remember lX11_125 (h_remember CT CH) rfl K10 dX11_takePunched_20 rfl rfl (Nat.le_of_ble_eq_true rfl) ⟨by decide, by decide⟩ zX2_remember ⟨Nat.le_refl _, Nat.le_refl _⟩ (fun wp2 wq1 => ?_)
  obtain ⟨hh1, hh2⟩ := wq1
  have c0 := hh2.at (by decide) C0
  have ct := CT.fr hh2 (by decide) (by decide)
  have h5 := hh2.at (by decide) H5
  have h6 := hP.2.1.fr hh2 (by decide) (by decide)
  rw [List.take_of_length_le hl] at h6
  obtain ⟨f1, K1, -⟩ := id ct
  refine R_aload_n dX11_takePunched_23 rfl rfl ?_
  refine R_getf dX11_takePunched_24 gX11_10 c0 rfl ?_
  refine R_aload_n dX11_takePunched_27 rfl rfl ?_
  refine R_getf dX11_takePunched_28 gX11_22 c0 rfl ?_
  refine R_getf dX11_takePunched_31 gX11_251 h5 rfl ?_
  refine R_callv (As := [.ref 6]) (st := []) kX9_become lX11_196 (t_become ct h6 (by decide) (by decide)) rfl K1 dX11_takePunched_34 rfl rfl (Nat.le_of_ble_eq_true rfl) ⟨by decide, by decide⟩ zX9_become ⟨Nat.le_refl _, Nat.le_refl _⟩ (fun wp5 wq4 => ?_)
  obtain ⟨hq1, hq2⟩ := wq4
  refine R_iconst (v := (nI 1)) dX11_takePunched_37 (by decide) ?_
  exact R_retz dX11_takePunched_38 rfl rfl rfl rfl ⟨rfl, hq1, hh1.fr hq2 (by decide) (by decide), (hh2.mono (by decide)).trans (hq2.mono (by decide))⟩
set_option maxRecDepth 100000 in
set_option maxHeartbeats 4000000 in
theorem x_enc {ms : List Nat} {cs : List Nat} {sc un wd : Nat} {hs : List TP} {s0 s1 : Option TP} {os : List (Nat × Nat)} {ox : Nat} (hC : CI hp (ms, (cs, sc, un, wd), hs, s0, s1, os, ox)) : SpI l X mX11_encodeMessage [.ref 0] hp (fun r hp' => r = (f_enc (ms, (cs, sc, un, wd), hs, s0, s1, os, ox)).1 ∧ CI hp' (f_enc (ms, (cs, sc, un, wd), hs, s0, s1, os, ox)).2 ∧ Fr LC hp hp') := by
  obtain ⟨nx, C0, CT, ⟨⟨cs3, sc3, un3, wd3⟩, C3⟩, CP, CM, CH, CS, ⟨tx, CX⟩, ⟨ty, CY⟩, CG, CO, CF, CR⟩ := hC
  obtain ⟨ft, KT, KT2, hft, hL, hC3, hs1, hu1, hw1, hw2⟩ := id CT
  refine SpI.of pnX11 (Nat.le_of_ble_eq_true rfl) rfl ?_
  refine R_aload_n dX11_encodeMessage_0 rfl rfl ?_
  refine R_getf dX11_encodeMessage_1 gX11_29 C0 rfl ?_
  obtain ⟨y2, K1, -⟩ := id CM
  refine R_calli (As := []) (st := []) kX3_isEncodable lX11_129 (m_isEnc CM) rfl K1 dX11_encodeMessage_4 rfl rfl (Nat.le_of_ble_eq_true rfl) ⟨by decide, by decide⟩ zX3_isEncodable ⟨Nat.le_refl _, Nat.le_refl _⟩ (fun wr5 wp4 wq3 => ?_)
  obtain ⟨rfl, rfl⟩ : wr5 = _ ∧ hp = wp4 := ⟨wq3.1, wq3.2.symm⟩
  cases hE : aEnc ms with
  | false =>
    show PZ _ _ _ _ _ _ (.int (nI 0) :: _) _ _ _
    refine N_if_ne (tgt := 13) dX11_encodeMessage_7 (by decide) (by decide) (fun hc => absurd hc (by decide)) (fun _ => ?_)
    have hf : f_enc (ms, (cs, sc, un, wd), hs, s0, s1, os, ox) = (-3, (ms, (cs, sc, un, wd), hs, s0, s1, os, ox)) := by unfold f_enc; dsimp only; rw [hE]; rfl
    refine R_bipush (v := (-3)) dX11_encodeMessage_10 (by decide) ?_
    rw [hf]
    exact R_reti dX11_encodeMessage_12 rfl rfl rfl ⟨rfl, ⟨nx, C0, CT, ⟨_, C3⟩, CP, CM, CH, CS, ⟨_, CX⟩, ⟨_, CY⟩, CG, CO, CF, CR⟩, (Fr.rf (L := LC) (hp := hp))⟩
  | true =>
    show PZ _ _ _ _ _ _ (.int (nI 1) :: _) _ _ _
    refine N_if_ne (tgt := 13) dX11_encodeMessage_7 (by decide) (by decide) (fun _ => ?_) (fun hc => absurd hc (by decide))
    refine R_aload_n dX11_encodeMessage_13 rfl rfl ?_
    refine R_getf dX11_encodeMessage_14 gX11_22 C0 rfl ?_
    refine R_aload_n dX11_encodeMessage_17 rfl rfl ?_
    refine R_getf dX11_encodeMessage_18 gX11_10 C0 rfl ?_
    obtain ⟨y7a, y7b, y7c, K6, -⟩ := id CP
    refine R_callv (As := [.ref 1]) (st := []) kX6_beginBehind lX11_132 (p_behind CP CT) rfl K6 dX11_encodeMessage_21 rfl rfl (Nat.le_of_ble_eq_true rfl) ⟨by decide, by decide⟩ zX6_beginBehind ⟨Nat.le_refl _, Nat.le_refl _⟩ (fun wp9 wq8 => ?_)
    obtain ⟨hp1, hp2⟩ := wq8
    have c11 := hp2.at (by decide) C0
    have c12 := CT.fr hp2 (by decide) (by decide)
    have c13 := C3.fr hp2 (by decide) (by decide)
    have c14 := CM.fr hp2 (by decide) (by decide)
    have c15 := CH.fr hp2 (by decide) (by decide)
    have c16 := CS.fr hp2 (by decide)
    have c17 := CX.fr hp2 (by decide) (by decide) (by decide)
    have c18 := CY.fr hp2 (by decide) (by decide) (by decide)
    have c19 := CG.fr hp2 (by decide) (by decide)
    have c20 := CO.fr hp2 (by decide) (by decide) (by decide)
    have c21 := CF.fr hp2 (by decide)
    have c22 := CR.fr hp2 (by decide) (by decide)
    have FF23 : Fr LC hp wp9 := (Fr.rf (L := LC) (hp := hp)).trans (hp2.mono (by decide))
    refine R_aload_n dX11_encodeMessage_24 rfl rfl ?_
    refine R_getf dX11_encodeMessage_25 gX11_22 c11 rfl ?_
    refine R_aload_n dX11_encodeMessage_28 rfl rfl ?_
    refine R_getf dX11_encodeMessage_29 gX11_29 c11 rfl ?_
    refine R_iconst (v := (nI 0)) dX11_encodeMessage_32 (by decide) ?_
    refine R_aload_n dX11_encodeMessage_33 rfl rfl ?_
    refine R_getf dX11_encodeMessage_34 gX11_29 c11 rfl ?_
    obtain ⟨y25, K24, -⟩ := id c14
    refine R_getf dX11_encodeMessage_37 gX11_93 K24 rfl ?_
    obtain ⟨y27a, y27b, y27c, K26, -⟩ := id hp1.x
    refine R_callv (As := [.ref 8, .int (nI 0), .int (nI (ms.length))]) (st := []) kX6_encodeRun lX11_135 (p_encodeRun (i0 := 0) (Nat.zero_le _) (Nat.le_refl _) (fun x hx => aEnc_at hE hx) (by decide) (by decide) hp1 c14) rfl K26 dX11_encodeMessage_40 rfl rfl (Nat.le_of_ble_eq_true rfl) ⟨by decide, by decide⟩ zX6_encodeRun ⟨Nat.le_refl _, Nat.le_refl _⟩ (fun wp29 wq28 => ?_)
    obtain ⟨hp3, hp4⟩ := wq28
    have c31 := hp4.at (by decide) c11
    have c32 := c12.fr hp4 (by decide) (by decide)
    have c33 := c13.fr hp4 (by decide) (by decide)
    have c34 := c14.fr hp4 (by decide) (by decide)
    have c35 := c15.fr hp4 (by decide) (by decide)
    have c36 := c16.fr hp4 (by decide)
    have c37 := c17.fr hp4 (by decide) (by decide) (by decide)
    have c38 := c18.fr hp4 (by decide) (by decide) (by decide)
    have c39 := c19.fr hp4 (by decide) (by decide)
    have c40 := c20.fr hp4 (by decide) (by decide) (by decide)
    have c41 := c21.fr hp4 (by decide)
    have c42 := c22.fr hp4 (by decide) (by decide)
    have FF43 : Fr LC hp wp29 := FF23.trans (hp4.mono (by decide))
    rw [List.drop_zero, Nat.sub_zero, List.take_length] at hp3
    refine R_aload_n dX11_encodeMessage_43 rfl rfl ?_
    by_cases hl : (encR un sc cs ms).length ≤ 96
    · refine R_calli (As := []) (st := []) kX11_takePunched lX11_139 (x_take hl c31 hp3 c32 c35) rfl c31 dX11_encodeMessage_44 rfl rfl (Nat.le_of_ble_eq_true rfl) ⟨by decide, by decide⟩ zX11_takePunched ⟨Nat.le_refl _, Nat.le_refl _⟩ (fun wr46 wp45 wq44 => ?_)
      obtain ⟨rfl, hq1, hq2, hq3⟩ := wq44
      have c47 := hq3.at (by decide) c31
      have c48 := c33.fr hq3 (by decide) (by decide)
      have c49 := hp3.x.fr hq3 (by decide) (by decide) (by decide)
      have c50 := c34.fr hq3 (by decide) (by decide)
      have c51 := c36.fr hq3 (by decide)
      have c52 := c37.fr hq3 (by decide) (by decide) (by decide)
      have c53 := c38.fr hq3 (by decide) (by decide) (by decide)
      have c54 := c39.fr hq3 (by decide) (by decide)
      have c55 := c40.fr hq3 (by decide) (by decide) (by decide)
      have c56 := c41.fr hq3 (by decide)
      have c57 := c42.fr hq3 (by decide) (by decide)
      have FF58 : Fr LC hp wp45 := FF43.trans (hq3.mono (by decide))
      refine N_if_eq (tgt := 60) dX11_encodeMessage_47 (by decide) (by decide) (fun hc => absurd hc (by decide)) (fun _ => ?_)
      refine R_aload_n dX11_encodeMessage_50 rfl rfl ?_
      refine R_getf dX11_encodeMessage_51 gX11_10 c47 rfl ?_
      obtain ⟨y60, K59, -⟩ := id hq1
      refine R_getf dX11_encodeMessage_54 gX11_101 K59 rfl ?_
      refine R_goto (tgt := 62) dX11_encodeMessage_57 (by decide) ?_
      have hf : f_enc (ms, (cs, sc, un, wd), hs, s0, s1, os, ox) = (nI (encR un sc cs ms).length, psh (ms, (cs, sc, un, wd), hs, s0, s1, os, ox) (encR un sc cs ms, sc, un, wd)) := by unfold f_enc; dsimp only; rw [hE, if_pos rfl]; unfold f_take; dsimp only; rw [if_pos hl]
      rw [hf]
      exact R_reti dX11_encodeMessage_62 rfl rfl rfl ⟨rfl, ⟨_, c47, hq1, ⟨_, c48⟩, c49, c50, hq2, c51, ⟨_, c52⟩, ⟨_, c53⟩, c54, c55, c56, c57⟩, FF58⟩
    · refine R_calli (As := []) (st := []) kX11_takePunched lX11_139 (x_takeF (by omega) c31 hp3) rfl c31 dX11_encodeMessage_44 rfl rfl (Nat.le_of_ble_eq_true rfl) ⟨by decide, by decide⟩ zX11_takePunched ⟨Nat.le_refl _, Nat.le_refl _⟩ (fun wr63 wp62 wq61 => ?_)
      obtain ⟨rfl, rfl⟩ : wr63 = _ ∧ wp29 = wp62 := ⟨wq61.1, wq61.2.symm⟩
      refine N_if_eq (tgt := 60) dX11_encodeMessage_47 (by decide) (by decide) (fun _ => ?_) (fun hc => absurd hc (by decide))
      have hf : f_enc (ms, (cs, sc, un, wd), hs, s0, s1, os, ox) = (-4, (ms, (cs, sc, un, wd), hs, s0, s1, os, ox)) := by unfold f_enc; dsimp only; rw [hE, if_pos rfl]; unfold f_take; dsimp only; rw [if_neg hl]
      refine R_bipush (v := (-4)) dX11_encodeMessage_60 (by decide) ?_
      rw [hf]
      exact R_reti dX11_encodeMessage_62 rfl rfl rfl ⟨rfl, ⟨nx, c31, c32, ⟨_, c33⟩, hp3.x, c34, c35, c36, ⟨_, c37⟩, ⟨_, c38⟩, c39, c40, c41, c42⟩, FF43⟩
set_option maxRecDepth 100000 in
set_option maxHeartbeats 4000000 in
theorem x_wrap {ms : List Nat} {cs : List Nat} {sc un wd : Nat} {hs : List TP} {s0 s1 : Option TP} {os : List (Nat × Nat)} {ox : Nat} (hC : CI hp (ms, (cs, sc, un, wd), hs, s0, s1, os, ox)) : SpI l X mX11_encodeWrapped [.ref 0] hp (fun r hp' => r = (f_wrap (ms, (cs, sc, un, wd), hs, s0, s1, os, ox)).1 ∧ CI hp' (f_wrap (ms, (cs, sc, un, wd), hs, s0, s1, os, ox)).2 ∧ Fr LC hp hp') := by
  obtain ⟨nx, C0, CT, ⟨⟨cs3, sc3, un3, wd3⟩, C3⟩, CP, CM, CH, CS, ⟨tx, CX⟩, ⟨ty, CY⟩, CG, CO, CF, CR⟩ := hC
  obtain ⟨ft, KT, KT2, hft, hL, hC3, hs1, hu1, hw1, hw2⟩ := id CT
  refine SpI.of pnX11 (Nat.le_of_ble_eq_true rfl) rfl ?_
  refine R_aload_n dX11_encodeWrapped_0 rfl rfl ?_
  refine R_getf dX11_encodeWrapped_1 gX11_29 C0 rfl ?_
  obtain ⟨y2, K1, -⟩ := id CM
  refine R_calli (As := []) (st := []) kX3_isEncodable lX11_129 (m_isEnc CM) rfl K1 dX11_encodeWrapped_4 rfl rfl (Nat.le_of_ble_eq_true rfl) ⟨by decide, by decide⟩ zX3_isEncodable ⟨Nat.le_refl _, Nat.le_refl _⟩ (fun wr5 wp4 wq3 => ?_)
  obtain ⟨rfl, rfl⟩ : wr5 = _ ∧ hp = wp4 := ⟨wq3.1, wq3.2.symm⟩
  cases hE : aEnc ms with
  | false =>
    show PZ _ _ _ _ _ _ (.int (nI 0) :: _) _ _ _
    refine N_if_ne (tgt := 13) dX11_encodeWrapped_7 (by decide) (by decide) (fun hc => absurd hc (by decide)) (fun _ => ?_)
    have hf : f_wrap (ms, (cs, sc, un, wd), hs, s0, s1, os, ox) = (-3, (ms, (cs, sc, un, wd), hs, s0, s1, os, ox)) := by unfold f_wrap; dsimp only; rw [hE]; rfl
    refine R_bipush (v := (-3)) dX11_encodeWrapped_10 (by decide) ?_
    rw [hf]
    exact R_reti dX11_encodeWrapped_12 rfl rfl rfl ⟨rfl, ⟨nx, C0, CT, ⟨_, C3⟩, CP, CM, CH, CS, ⟨_, CX⟩, ⟨_, CY⟩, CG, CO, CF, CR⟩, (Fr.rf (L := LC) (hp := hp))⟩
  | true =>
    show PZ _ _ _ _ _ _ (.int (nI 1) :: _) _ _ _
    refine N_if_ne (tgt := 13) dX11_encodeWrapped_7 (by decide) (by decide) (fun _ => ?_) (fun hc => absurd hc (by decide))
    refine R_aload_n dX11_encodeWrapped_13 rfl rfl ?_
    refine R_getf dX11_encodeWrapped_14 gX11_22 C0 rfl ?_
    refine R_aload_n dX11_encodeWrapped_17 rfl rfl ?_
    refine R_getf dX11_encodeWrapped_18 gX11_10 C0 rfl ?_
    obtain ⟨y7a, y7b, y7c, K6, -⟩ := id CP
    refine R_callv (As := [.ref 1]) (st := []) kX6_beginBehind lX11_132 (p_behind CP CT) rfl K6 dX11_encodeWrapped_21 rfl rfl (Nat.le_of_ble_eq_true rfl) ⟨by decide, by decide⟩ zX6_beginBehind ⟨Nat.le_refl _, Nat.le_refl _⟩ (fun wp9 wq8 => ?_)
    obtain ⟨hp1, hp2⟩ := wq8
    have c11 := hp2.at (by decide) C0
    have c12 := CT.fr hp2 (by decide) (by decide)
    have c13 := C3.fr hp2 (by decide) (by decide)
    have c14 := CM.fr hp2 (by decide) (by decide)
    have c15 := CH.fr hp2 (by decide) (by decide)
    have c16 := CS.fr hp2 (by decide)
    have c17 := CX.fr hp2 (by decide) (by decide) (by decide)
    have c18 := CY.fr hp2 (by decide) (by decide) (by decide)
    have c19 := CG.fr hp2 (by decide) (by decide)
    have c20 := CO.fr hp2 (by decide) (by decide) (by decide)
    have c21 := CF.fr hp2 (by decide)
    have c22 := CR.fr hp2 (by decide) (by decide)
    have FF23 : Fr LC hp wp9 := (Fr.rf (L := LC) (hp := hp)).trans (hp2.mono (by decide))
    refine R_aload_n dX11_encodeWrapped_24 rfl rfl ?_
    refine R_getf dX11_encodeWrapped_25 gX11_22 c11 rfl ?_
    refine R_aload_n dX11_encodeWrapped_28 rfl rfl ?_
    refine R_getf dX11_encodeWrapped_29 gX11_29 c11 rfl ?_
    refine R_aload_n dX11_encodeWrapped_32 rfl rfl ?_
    refine R_getf dX11_encodeWrapped_33 gX11_10 c11 rfl ?_
    obtain ⟨y25, K24, -⟩ := id c12
    refine R_getf dX11_encodeWrapped_36 gX11_142 K24 rfl ?_
    obtain ⟨y27a, y27b, y27c, K26, -⟩ := id hp1.x
    refine R_callv (As := [.ref 8, .int (nI wd)]) (st := []) kX6_encodeWords lX11_145 (p_encodeWords hw2 (fun x hx => aEnc_at hE hx) (by decide) (by decide) hp1 c14) rfl K26 dX11_encodeWrapped_39 rfl rfl (Nat.le_of_ble_eq_true rfl) ⟨by decide, by decide⟩ zX6_encodeWords ⟨Nat.le_refl _, Nat.le_refl _⟩ (fun wp29 wq28 => ?_)
    obtain ⟨hp3, hp4⟩ := wq28
    have c31 := hp4.at (by decide) c11
    have c32 := c12.fr hp4 (by decide) (by decide)
    have c33 := c13.fr hp4 (by decide) (by decide)
    have c34 := c14.fr hp4 (by decide) (by decide)
    have c35 := c15.fr hp4 (by decide) (by decide)
    have c36 := c16.fr hp4 (by decide)
    have c37 := c17.fr hp4 (by decide) (by decide) (by decide)
    have c38 := c18.fr hp4 (by decide) (by decide) (by decide)
    have c39 := c19.fr hp4 (by decide) (by decide)
    have c40 := c20.fr hp4 (by decide) (by decide) (by decide)
    have c41 := c21.fr hp4 (by decide)
    have c42 := c22.fr hp4 (by decide) (by decide)
    have FF43 : Fr LC hp wp29 := FF23.trans (hp4.mono (by decide))
    refine R_aload_n dX11_encodeWrapped_42 rfl rfl ?_
    by_cases hl : (wrpN un sc wd ms ms.length 0 cs 0).length ≤ 96
    · refine R_calli (As := []) (st := []) kX11_takePunched lX11_139 (x_take hl c31 hp3 c32 c35) rfl c31 dX11_encodeWrapped_43 rfl rfl (Nat.le_of_ble_eq_true rfl) ⟨by decide, by decide⟩ zX11_takePunched ⟨Nat.le_refl _, Nat.le_refl _⟩ (fun wr46 wp45 wq44 => ?_)
      obtain ⟨rfl, hq1, hq2, hq3⟩ := wq44
      have c47 := hq3.at (by decide) c31
      have c48 := c33.fr hq3 (by decide) (by decide)
      have c49 := hp3.x.fr hq3 (by decide) (by decide) (by decide)
      have c50 := c34.fr hq3 (by decide) (by decide)
      have c51 := c36.fr hq3 (by decide)
      have c52 := c37.fr hq3 (by decide) (by decide) (by decide)
      have c53 := c38.fr hq3 (by decide) (by decide) (by decide)
      have c54 := c39.fr hq3 (by decide) (by decide)
      have c55 := c40.fr hq3 (by decide) (by decide) (by decide)
      have c56 := c41.fr hq3 (by decide)
      have c57 := c42.fr hq3 (by decide) (by decide)
      have FF58 : Fr LC hp wp45 := FF43.trans (hq3.mono (by decide))
      refine N_if_eq (tgt := 59) dX11_encodeWrapped_46 (by decide) (by decide) (fun hc => absurd hc (by decide)) (fun _ => ?_)
      refine R_aload_n dX11_encodeWrapped_49 rfl rfl ?_
      refine R_getf dX11_encodeWrapped_50 gX11_10 c47 rfl ?_
      obtain ⟨y60, K59, -⟩ := id hq1
      refine R_getf dX11_encodeWrapped_53 gX11_101 K59 rfl ?_
      refine R_goto (tgt := 61) dX11_encodeWrapped_56 (by decide) ?_
      have hf : f_wrap (ms, (cs, sc, un, wd), hs, s0, s1, os, ox) = (nI (wrpN un sc wd ms ms.length 0 cs 0).length, psh (ms, (cs, sc, un, wd), hs, s0, s1, os, ox) (wrpN un sc wd ms ms.length 0 cs 0, sc, un, wd)) := by unfold f_wrap; dsimp only; rw [hE, if_pos rfl]; unfold f_take; dsimp only; rw [if_pos hl]
      rw [hf]
      exact R_reti dX11_encodeWrapped_61 rfl rfl rfl ⟨rfl, ⟨_, c47, hq1, ⟨_, c48⟩, c49, c50, hq2, c51, ⟨_, c52⟩, ⟨_, c53⟩, c54, c55, c56, c57⟩, FF58⟩
    · refine R_calli (As := []) (st := []) kX11_takePunched lX11_139 (x_takeF (by omega) c31 hp3) rfl c31 dX11_encodeWrapped_43 rfl rfl (Nat.le_of_ble_eq_true rfl) ⟨by decide, by decide⟩ zX11_takePunched ⟨Nat.le_refl _, Nat.le_refl _⟩ (fun wr63 wp62 wq61 => ?_)
      obtain ⟨rfl, rfl⟩ : wr63 = _ ∧ wp29 = wp62 := ⟨wq61.1, wq61.2.symm⟩
      refine N_if_eq (tgt := 59) dX11_encodeWrapped_46 (by decide) (by decide) (fun _ => ?_) (fun hc => absurd hc (by decide))
      have hf : f_wrap (ms, (cs, sc, un, wd), hs, s0, s1, os, ox) = (-4, (ms, (cs, sc, un, wd), hs, s0, s1, os, ox)) := by unfold f_wrap; dsimp only; rw [hE, if_pos rfl]; unfold f_take; dsimp only; rw [if_neg hl]
      refine R_bipush (v := (-4)) dX11_encodeWrapped_59 (by decide) ?_
      rw [hf]
      exact R_reti dX11_encodeWrapped_61 rfl rfl rfl ⟨rfl, ⟨nx, c31, c32, ⟨_, c33⟩, hp3.x, c34, c35, c36, ⟨_, c37⟩, ⟨_, c38⟩, c39, c40, c41, c42⟩, FF43⟩
set_option maxRecDepth 100000 in
set_option maxHeartbeats 4000000 in
theorem x_rem {ms : List Nat} {cs : List Nat} {sc un wd : Nat} {hs : List TP} {s0 s1 : Option TP} {os : List (Nat × Nat)} {ox : Nat} {i : Int32} (hC : CI hp (ms, (cs, sc, un, wd), hs, s0, s1, os, ox)) : SpI l X mX11_remove [.ref 0, .int (i)] hp (fun r hp' => r = (f_rem (ms, (cs, sc, un, wd), hs, s0, s1, os, ox) i).1 ∧ CI hp' (f_rem (ms, (cs, sc, un, wd), hs, s0, s1, os, ox) i).2 ∧ Fr LC hp hp') := by
  obtain ⟨nx, C0, CT, ⟨⟨cs3, sc3, un3, wd3⟩, C3⟩, CP, CM, CH, CS, ⟨tx, CX⟩, ⟨ty, CY⟩, CG, CO, CF, CR⟩ := hC
  obtain ⟨ft, KT, KT2, hft, hL, hC3, hs1, hu1, hw1, hw2⟩ := id CT
  refine SpI.of pnX11 (Nat.le_of_ble_eq_true rfl) rfl ?_
  refine R_aload_n dX11_remove_0 rfl rfl ?_
  refine R_getf dX11_remove_1 gX11_10 C0 rfl ?_
  refine R_iload_n dX11_remove_4 rfl rfl ?_
  obtain ⟨y2, K1, -⟩ := id CT
  refine R_calli (As := [.int (i)]) (st := []) kX9_has lX11_102 (t_has (i := i) CT) rfl K1 dX11_remove_5 rfl rfl (Nat.le_of_ble_eq_true rfl) ⟨by decide, by decide⟩ zX9_has ⟨Nat.le_refl _, Nat.le_refl _⟩ (fun wr5 wp4 wq3 => ?_)
  obtain ⟨rfl, rfl⟩ : wr5 = _ ∧ hp = wp4 := ⟨wq3.1, wq3.2.symm⟩
  cases hb6 : inB i cs.length with
  | false =>
    show PZ _ _ _ _ _ _ (.int (nI 0) :: _) _ _ _
    refine N_if_ne (tgt := 13) dX11_remove_8 (by decide) (by decide) (fun hc => absurd hc (by decide)) (fun _ => ?_)
    have hf : f_rem (ms, (cs, sc, un, wd), hs, s0, s1, os, ox) i = (-1, (ms, (cs, sc, un, wd), hs, s0, s1, os, ox)) := by unfold f_rem; dsimp only; rw [hb6]; rfl
    refine R_iconst (v := (-1)) dX11_remove_11 (by decide) ?_
    rw [hf]
    exact R_reti dX11_remove_12 rfl rfl rfl ⟨rfl, ⟨nx, C0, CT, ⟨_, C3⟩, CP, CM, CH, CS, ⟨_, CX⟩, ⟨_, CY⟩, CG, CO, CF, CR⟩, (Fr.rf (L := LC) (hp := hp))⟩
  | true =>
    show PZ _ _ _ _ _ _ (.int (nI 1) :: _) _ _ _
    obtain ⟨j, hj, rfl⟩ := inB_t (by omega) hb6
    refine N_if_ne (tgt := 13) dX11_remove_8 (by decide) (by decide) (fun _ => ?_) (fun hc => absurd hc (by decide))
    refine R_aload_n dX11_remove_13 rfl rfl ?_
    refine R_getf dX11_remove_14 gX11_36 C0 rfl ?_
    refine R_aload_n dX11_remove_17 rfl rfl ?_
    refine R_getf dX11_remove_18 gX11_10 C0 rfl ?_
    obtain ⟨y8, K7, -⟩ := id CH
    refine R_callv (As := [.ref 1]) (st := []) kX2_remember lX11_125 (h_remember CT CH) rfl K7 dX11_remove_21 rfl rfl (Nat.le_of_ble_eq_true rfl) ⟨by decide, by decide⟩ zX2_remember ⟨Nat.le_refl _, Nat.le_refl _⟩ (fun wp10 wq9 => ?_)
    obtain ⟨hh1, hh2⟩ := wq9
    have c12 := hh2.at (by decide) C0
    have c13 := CT.fr hh2 (by decide) (by decide)
    have c14 := C3.fr hh2 (by decide) (by decide)
    have c15 := CP.fr hh2 (by decide) (by decide) (by decide)
    have c16 := CM.fr hh2 (by decide) (by decide)
    have c17 := CS.fr hh2 (by decide)
    have c18 := CX.fr hh2 (by decide) (by decide) (by decide)
    have c19 := CY.fr hh2 (by decide) (by decide) (by decide)
    have c20 := CG.fr hh2 (by decide) (by decide)
    have c21 := CO.fr hh2 (by decide) (by decide) (by decide)
    have c22 := CF.fr hh2 (by decide)
    have c23 := CR.fr hh2 (by decide) (by decide)
    have FF24 : Fr LC hp wp10 := (Fr.rf (L := LC) (hp := hp)).trans (hh2.mono (by decide))
    refine R_aload_n dX11_remove_24 rfl rfl ?_
    refine R_getf dX11_remove_25 gX11_10 c12 rfl ?_
    refine R_iload_n dX11_remove_28 rfl rfl ?_
    obtain ⟨y26, K25, -⟩ := id c13
    refine R_calli (As := [.int (nI j)]) (st := []) kX9_takeOut lX11_149 (t_takeOut hj c13) rfl K25 dX11_remove_29 rfl rfl (Nat.le_of_ble_eq_true rfl) ⟨by decide, by decide⟩ zX9_takeOut ⟨Nat.le_refl _, Nat.le_refl _⟩ (fun wr29 wp28 wq27 => ?_)
    obtain ⟨rfl, hq1, hq2⟩ := wq27
    have c30 := hq2.at (by decide) c12
    have c31 := c14.fr hq2 (by decide) (by decide)
    have c32 := c15.fr hq2 (by decide) (by decide) (by decide)
    have c33 := c16.fr hq2 (by decide) (by decide)
    have c34 := hh1.fr hq2 (by decide) (by decide)
    have c35 := c17.fr hq2 (by decide)
    have c36 := c18.fr hq2 (by decide) (by decide) (by decide)
    have c37 := c19.fr hq2 (by decide) (by decide) (by decide)
    have c38 := c20.fr hq2 (by decide) (by decide)
    have c39 := c21.fr hq2 (by decide) (by decide) (by decide)
    have c40 := c22.fr hq2 (by decide)
    have c41 := c23.fr hq2 (by decide) (by decide)
    have FF42 : Fr LC hp wp28 := FF24.trans (hq2.mono (by decide))
    have hf : f_rem (ms, (cs, sc, un, wd), hs, s0, s1, os, ox) (nI j) = (nI cs[j], psh (ms, (cs, sc, un, wd), hs, s0, s1, os, ox) (cs.eraseIdx j, sc, un, wd)) := by unfold f_rem; dsimp only; rw [hb6, if_pos rfl, vN_n (by omega), gD hj]
    rw [hf]
    exact R_reti dX11_remove_32 rfl rfl rfl ⟨rfl, ⟨_, c30, hq1, ⟨_, c31⟩, c32, c33, c34, c35, ⟨_, c36⟩, ⟨_, c37⟩, c38, c39, c40, c41⟩, FF42⟩
set_option maxRecDepth 100000 in
set_option maxHeartbeats 4000000 in
theorem x_flip {ms : List Nat} {cs : List Nat} {sc un wd : Nat} {hs : List TP} {s0 s1 : Option TP} {os : List (Nat × Nat)} {ox : Nat} {i b : Int32} (hC : CI hp (ms, (cs, sc, un, wd), hs, s0, s1, os, ox)) : SpI l X mX11_flip [.ref 0, .int (i), .int (b)] hp (fun r hp' => r = (f_flip (ms, (cs, sc, un, wd), hs, s0, s1, os, ox) i b).1 ∧ CI hp' (f_flip (ms, (cs, sc, un, wd), hs, s0, s1, os, ox) i b).2 ∧ Fr LC hp hp') := by
  obtain ⟨nx, C0, CT, ⟨⟨cs3, sc3, un3, wd3⟩, C3⟩, CP, CM, CH, CS, ⟨tx, CX⟩, ⟨ty, CY⟩, CG, CO, CF, CR⟩ := hC
  obtain ⟨ft, KT, KT2, hft, hL, hC3, hs1, hu1, hw1, hw2⟩ := id CT
  refine SpI.of pnX11 (Nat.le_of_ble_eq_true rfl) rfl ?_
  refine R_aload_n dX11_flip_0 rfl rfl ?_
  refine R_getf dX11_flip_1 gX11_10 C0 rfl ?_
  refine R_iload_n dX11_flip_4 rfl rfl ?_
  obtain ⟨y2, K1, -⟩ := id CT
  refine R_calli (As := [.int (i)]) (st := []) kX9_has lX11_102 (t_has (i := i) CT) rfl K1 dX11_flip_5 rfl rfl (Nat.le_of_ble_eq_true rfl) ⟨by decide, by decide⟩ zX9_has ⟨Nat.le_refl _, Nat.le_refl _⟩ (fun wr5 wp4 wq3 => ?_)
  obtain ⟨rfl, rfl⟩ : wr5 = _ ∧ hp = wp4 := ⟨wq3.1, wq3.2.symm⟩
  cases hb6 : inB i cs.length with
  | false =>
    show PZ _ _ _ _ _ _ (.int (nI 0) :: _) _ _ _
    refine N_if_ne (tgt := 13) dX11_flip_8 (by decide) (by decide) (fun hc => absurd hc (by decide)) (fun _ => ?_)
    have hf : f_flip (ms, (cs, sc, un, wd), hs, s0, s1, os, ox) i b = (-1, (ms, (cs, sc, un, wd), hs, s0, s1, os, ox)) := by unfold f_flip; dsimp only; rw [hb6]; rfl
    refine R_iconst (v := (-1)) dX11_flip_11 (by decide) ?_
    rw [hf]
    exact R_reti dX11_flip_12 rfl rfl rfl ⟨rfl, ⟨nx, C0, CT, ⟨_, C3⟩, CP, CM, CH, CS, ⟨_, CX⟩, ⟨_, CY⟩, CG, CO, CF, CR⟩, (Fr.rf (L := LC) (hp := hp))⟩
  | true =>
    show PZ _ _ _ _ _ _ (.int (nI 1) :: _) _ _ _
    obtain ⟨j, hj, rfl⟩ := inB_t (by omega) hb6
    refine N_if_ne (tgt := 13) dX11_flip_8 (by decide) (by decide) (fun _ => ?_) (fun hc => absurd hc (by decide))
    refine R_iload_n dX11_flip_13 rfl rfl ?_
    refine R_stati (As := [.int (b)]) (st := []) kX11_isBit lX11_152 (x_isBit) dX11_flip_14 rfl rfl (Nat.le_of_ble_eq_true rfl) ⟨by decide, by decide⟩ zX11_isBit ⟨Nat.le_refl _, Nat.le_refl _⟩ (fun wr9 wp8 wq7 => ?_)
    obtain ⟨rfl, rfl⟩ : wr9 = _ ∧ hp = wp8 := ⟨wq7.1, wq7.2.symm⟩
    cases hw10 : inW b 0 4 with
    | false =>
      show PZ _ _ _ _ _ _ (.int (nI 0) :: _) _ _ _
      refine N_if_ne (tgt := 23) dX11_flip_17 (by decide) (by decide) (fun hc => absurd hc (by decide)) (fun _ => ?_)
      have hf : f_flip (ms, (cs, sc, un, wd), hs, s0, s1, os, ox) (nI j) b = (-2, (ms, (cs, sc, un, wd), hs, s0, s1, os, ox)) := by unfold f_flip; dsimp only; rw [hb6, if_pos rfl, hw10]; rfl
      refine R_bipush (v := (-2)) dX11_flip_20 (by decide) ?_
      rw [hf]
      exact R_reti dX11_flip_22 rfl rfl rfl ⟨rfl, ⟨nx, C0, CT, ⟨_, C3⟩, CP, CM, CH, CS, ⟨_, CX⟩, ⟨_, CY⟩, CG, CO, CF, CR⟩, (Fr.rf (L := LC) (hp := hp))⟩
    | true =>
      show PZ _ _ _ _ _ _ (.int (nI 1) :: _) _ _ _
      obtain ⟨q, -, hq, rfl⟩ := inW_t (by decide) hw10
      refine N_if_ne (tgt := 23) dX11_flip_17 (by decide) (by decide) (fun _ => ?_) (fun hc => absurd hc (by decide))
      refine R_aload_n dX11_flip_23 rfl rfl ?_
      refine R_getf dX11_flip_24 gX11_36 C0 rfl ?_
      refine R_aload_n dX11_flip_27 rfl rfl ?_
      refine R_getf dX11_flip_28 gX11_10 C0 rfl ?_
      obtain ⟨y12, K11, -⟩ := id CH
      refine R_callv (As := [.ref 1]) (st := []) kX2_remember lX11_125 (h_remember CT CH) rfl K11 dX11_flip_31 rfl rfl (Nat.le_of_ble_eq_true rfl) ⟨by decide, by decide⟩ zX2_remember ⟨Nat.le_refl _, Nat.le_refl _⟩ (fun wp14 wq13 => ?_)
      obtain ⟨hh1, hh2⟩ := wq13
      have c16 := hh2.at (by decide) C0
      have c17 := CT.fr hh2 (by decide) (by decide)
      have c18 := C3.fr hh2 (by decide) (by decide)
      have c19 := CP.fr hh2 (by decide) (by decide) (by decide)
      have c20 := CM.fr hh2 (by decide) (by decide)
      have c21 := CS.fr hh2 (by decide)
      have c22 := CX.fr hh2 (by decide) (by decide) (by decide)
      have c23 := CY.fr hh2 (by decide) (by decide) (by decide)
      have c24 := CG.fr hh2 (by decide) (by decide)
      have c25 := CO.fr hh2 (by decide) (by decide) (by decide)
      have c26 := CF.fr hh2 (by decide)
      have c27 := CR.fr hh2 (by decide) (by decide)
      have FF28 : Fr LC hp wp14 := (Fr.rf (L := LC) (hp := hp)).trans (hh2.mono (by decide))
      refine R_aload_n dX11_flip_34 rfl rfl ?_
      refine R_getf dX11_flip_35 gX11_10 c16 rfl ?_
      refine R_iload_n dX11_flip_38 rfl rfl ?_
      refine R_iload_n dX11_flip_39 rfl rfl ?_
      obtain ⟨y30, K29, -⟩ := id c17
      refine R_callv (As := [.int (nI j), .int (nI q)]) (st := []) kX9_turnBit lX11_155 (t_turnBit hj (b := q) (by omega) c17) rfl K29 dX11_flip_40 rfl rfl (Nat.le_of_ble_eq_true rfl) ⟨by decide, by decide⟩ zX9_turnBit ⟨Nat.le_refl _, Nat.le_refl _⟩ (fun wp32 wq31 => ?_)
      obtain ⟨hq1, hq2⟩ := wq31
      have c34 := hq2.at (by decide) c16
      have c35 := c18.fr hq2 (by decide) (by decide)
      have c36 := c19.fr hq2 (by decide) (by decide) (by decide)
      have c37 := c20.fr hq2 (by decide) (by decide)
      have c38 := hh1.fr hq2 (by decide) (by decide)
      have c39 := c21.fr hq2 (by decide)
      have c40 := c22.fr hq2 (by decide) (by decide) (by decide)
      have c41 := c23.fr hq2 (by decide) (by decide) (by decide)
      have c42 := c24.fr hq2 (by decide) (by decide)
      have c43 := c25.fr hq2 (by decide) (by decide) (by decide)
      have c44 := c26.fr hq2 (by decide)
      have c45 := c27.fr hq2 (by decide) (by decide)
      have FF46 : Fr LC hp wp32 := FF28.trans (hq2.mono (by decide))
      refine R_aload_n dX11_flip_43 rfl rfl ?_
      refine R_getf dX11_flip_44 gX11_10 c34 rfl ?_
      refine R_iload_n dX11_flip_47 rfl rfl ?_
      obtain ⟨y48, K47, -⟩ := id hq1
      refine R_calli (As := [.int (nI j)]) (st := []) kX9_at lX11_105 (t_at (j := j) (by omega) hq1) rfl K47 dX11_flip_48 rfl rfl (Nat.le_of_ble_eq_true rfl) ⟨by decide, by decide⟩ zX9_at ⟨Nat.le_refl _, Nat.le_refl _⟩ (fun wr51 wp50 wq49 => ?_)
      obtain ⟨rfl, rfl⟩ : wr51 = _ ∧ wp32 = wp50 := ⟨wq49.1, wq49.2.symm⟩
      have hf : f_flip (ms, (cs, sc, un, wd), hs, s0, s1, os, ox) (nI j) (nI q) = (nI ((cs.set j (cs[j] ^^^ 2 ^ q)).getD j 31), psh (ms, (cs, sc, un, wd), hs, s0, s1, os, ox) (cs.set j (cs[j] ^^^ 2 ^ q), sc, un, wd)) := by unfold f_flip; dsimp only; rw [hb6, if_pos rfl, hw10, if_pos rfl, vN_n (by omega), vN_n (by omega), gD hj, gD (by rw [List.length_set]; exact hj), List.getElem_set_self]
      rw [hf]
      exact R_reti dX11_flip_51 rfl rfl rfl ⟨rfl, ⟨_, c34, hq1, ⟨_, c35⟩, c36, c37, c38, c39, ⟨_, c40⟩, ⟨_, c41⟩, c42, c43, c44, c45⟩, FF46⟩
set_option maxRecDepth 100000 in
set_option maxHeartbeats 4000000 in
theorem x_dfl {ms : List Nat} {cs : List Nat} {sc un wd : Nat} {hs : List TP} {s0 s1 : Option TP} {os : List (Nat × Nat)} {ox : Nat} {i b : Int32} (hC : CI hp (ms, (cs, sc, un, wd), hs, s0, s1, os, ox)) : SpI l X mX11_damageIfFlipped [.ref 0, .int (i), .int (b)] hp (fun r hp' => r = (f_dfl (ms, (cs, sc, un, wd), hs, s0, s1, os, ox) i b).1 ∧ CI hp' (f_dfl (ms, (cs, sc, un, wd), hs, s0, s1, os, ox) i b).2 ∧ Fr LC hp hp') := by
  obtain ⟨nx, C0, CT, ⟨⟨cs3, sc3, un3, wd3⟩, C3⟩, CP, CM, CH, CS, ⟨tx, CX⟩, ⟨ty, CY⟩, CG, CO, CF, CR⟩ := hC
  obtain ⟨ft, KT, KT2, hft, hL, hC3, hs1, hu1, hw1, hw2⟩ := id CT
  refine SpI.of pnX11 (Nat.le_of_ble_eq_true rfl) rfl ?_
  refine R_aload_n dX11_damageIfFlipped_0 rfl rfl ?_
  refine R_getf dX11_damageIfFlipped_1 gX11_10 C0 rfl ?_
  refine R_iload_n dX11_damageIfFlipped_4 rfl rfl ?_
  obtain ⟨y2, K1, -⟩ := id CT
  refine R_calli (As := [.int (i)]) (st := []) kX9_has lX11_102 (t_has (i := i) CT) rfl K1 dX11_damageIfFlipped_5 rfl rfl (Nat.le_of_ble_eq_true rfl) ⟨by decide, by decide⟩ zX9_has ⟨Nat.le_refl _, Nat.le_refl _⟩ (fun wr5 wp4 wq3 => ?_)
  obtain ⟨rfl, rfl⟩ : wr5 = _ ∧ hp = wp4 := ⟨wq3.1, wq3.2.symm⟩
  cases hb6 : inB i cs.length with
  | false =>
    show PZ _ _ _ _ _ _ (.int (nI 0) :: _) _ _ _
    refine N_if_ne (tgt := 13) dX11_damageIfFlipped_8 (by decide) (by decide) (fun hc => absurd hc (by decide)) (fun _ => ?_)
    have hf : f_dfl (ms, (cs, sc, un, wd), hs, s0, s1, os, ox) i b = (-1, (ms, (cs, sc, un, wd), hs, s0, s1, os, ox)) := by unfold f_dfl; dsimp only; rw [hb6]; rfl
    refine R_iconst (v := (-1)) dX11_damageIfFlipped_11 (by decide) ?_
    rw [hf]
    exact R_reti dX11_damageIfFlipped_12 rfl rfl rfl ⟨rfl, ⟨nx, C0, CT, ⟨_, C3⟩, CP, CM, CH, CS, ⟨_, CX⟩, ⟨_, CY⟩, CG, CO, CF, CR⟩, (Fr.rf (L := LC) (hp := hp))⟩
  | true =>
    show PZ _ _ _ _ _ _ (.int (nI 1) :: _) _ _ _
    obtain ⟨j, hj, rfl⟩ := inB_t (by omega) hb6
    refine N_if_ne (tgt := 13) dX11_damageIfFlipped_8 (by decide) (by decide) (fun _ => ?_) (fun hc => absurd hc (by decide))
    refine R_iload_n dX11_damageIfFlipped_13 rfl rfl ?_
    refine R_stati (As := [.int (b)]) (st := []) kX11_isBit lX11_152 (x_isBit) dX11_damageIfFlipped_14 rfl rfl (Nat.le_of_ble_eq_true rfl) ⟨by decide, by decide⟩ zX11_isBit ⟨Nat.le_refl _, Nat.le_refl _⟩ (fun wr9 wp8 wq7 => ?_)
    obtain ⟨rfl, rfl⟩ : wr9 = _ ∧ hp = wp8 := ⟨wq7.1, wq7.2.symm⟩
    cases hw10 : inW b 0 4 with
    | false =>
      show PZ _ _ _ _ _ _ (.int (nI 0) :: _) _ _ _
      refine N_if_ne (tgt := 23) dX11_damageIfFlipped_17 (by decide) (by decide) (fun hc => absurd hc (by decide)) (fun _ => ?_)
      have hf : f_dfl (ms, (cs, sc, un, wd), hs, s0, s1, os, ox) (nI j) b = (-2, (ms, (cs, sc, un, wd), hs, s0, s1, os, ox)) := by unfold f_dfl; dsimp only; rw [hb6, if_pos rfl, hw10]; rfl
      refine R_bipush (v := (-2)) dX11_damageIfFlipped_20 (by decide) ?_
      rw [hf]
      exact R_reti dX11_damageIfFlipped_22 rfl rfl rfl ⟨rfl, ⟨nx, C0, CT, ⟨_, C3⟩, CP, CM, CH, CS, ⟨_, CX⟩, ⟨_, CY⟩, CG, CO, CF, CR⟩, (Fr.rf (L := LC) (hp := hp))⟩
    | true =>
      show PZ _ _ _ _ _ _ (.int (nI 1) :: _) _ _ _
      obtain ⟨q, -, hq, rfl⟩ := inW_t (by decide) hw10
      refine N_if_ne (tgt := 23) dX11_damageIfFlipped_17 (by decide) (by decide) (fun _ => ?_) (fun hc => absurd hc (by decide))
      refine R_aload_n dX11_damageIfFlipped_23 rfl rfl ?_
      refine R_getf dX11_damageIfFlipped_24 gX11_16 C0 rfl ?_
      refine R_aload_n dX11_damageIfFlipped_27 rfl rfl ?_
      refine R_getf dX11_damageIfFlipped_28 gX11_10 C0 rfl ?_
      obtain ⟨y12, K11, -⟩ := id C3
      refine R_callv (As := [.ref 1]) (st := []) kX9_become lX11_196 (t_become C3 CT (by decide) (by decide)) rfl K11 dX11_damageIfFlipped_31 rfl rfl (Nat.le_of_ble_eq_true rfl) ⟨by decide, by decide⟩ zX9_become ⟨Nat.le_refl _, Nat.le_refl _⟩ (fun wp14 wq13 => ?_)
      obtain ⟨hb1, hb2⟩ := wq13
      have c16 := hb2.at (by decide) C0
      have c17 := CT.fr hb2 (by decide) (by decide)
      have c18 := CP.fr hb2 (by decide) (by decide) (by decide)
      have c19 := CM.fr hb2 (by decide) (by decide)
      have c20 := CH.fr hb2 (by decide) (by decide)
      have c21 := CS.fr hb2 (by decide)
      have c22 := CX.fr hb2 (by decide) (by decide) (by decide)
      have c23 := CY.fr hb2 (by decide) (by decide) (by decide)
      have c24 := CG.fr hb2 (by decide) (by decide)
      have c25 := CO.fr hb2 (by decide) (by decide) (by decide)
      have c26 := CF.fr hb2 (by decide)
      have c27 := CR.fr hb2 (by decide) (by decide)
      have FF28 : Fr LC hp wp14 := (Fr.rf (L := LC) (hp := hp)).trans (hb2.mono (by decide))
      refine R_aload_n dX11_damageIfFlipped_34 rfl rfl ?_
      refine R_getf dX11_damageIfFlipped_35 gX11_16 c16 rfl ?_
      refine R_iload_n dX11_damageIfFlipped_38 rfl rfl ?_
      refine R_iload_n dX11_damageIfFlipped_39 rfl rfl ?_
      obtain ⟨y30, K29, -⟩ := id hb1
      refine R_callv (As := [.int (nI j), .int (nI q)]) (st := []) kX9_turnBit lX11_155 (t_turnBit hj (b := q) (by omega) hb1) rfl K29 dX11_damageIfFlipped_40 rfl rfl (Nat.le_of_ble_eq_true rfl) ⟨by decide, by decide⟩ zX9_turnBit ⟨Nat.le_refl _, Nat.le_refl _⟩ (fun wp32 wq31 => ?_)
      obtain ⟨hq1, hq2⟩ := wq31
      have c34 := hq2.at (by decide) c16
      have c35 := c17.fr hq2 (by decide) (by decide)
      have c36 := c18.fr hq2 (by decide) (by decide) (by decide)
      have c37 := c19.fr hq2 (by decide) (by decide)
      have c38 := c20.fr hq2 (by decide) (by decide)
      have c39 := c21.fr hq2 (by decide)
      have c40 := c22.fr hq2 (by decide) (by decide) (by decide)
      have c41 := c23.fr hq2 (by decide) (by decide) (by decide)
      have c42 := c24.fr hq2 (by decide) (by decide)
      have c43 := c25.fr hq2 (by decide) (by decide) (by decide)
      have c44 := c26.fr hq2 (by decide)
      have c45 := c27.fr hq2 (by decide) (by decide)
      have FF46 : Fr LC hp wp32 := FF28.trans (hq2.mono (by decide))
      refine R_aload_n dX11_damageIfFlipped_43 rfl rfl ?_
      refine R_getf dX11_damageIfFlipped_44 gX11_10 c34 rfl ?_
      refine R_aload_n dX11_damageIfFlipped_47 rfl rfl ?_
      refine R_getf dX11_damageIfFlipped_48 gX11_16 c34 rfl ?_
      obtain ⟨y48, K47, -⟩ := id c35
      refine R_calli (As := [.ref 3]) (st := []) kX9_differences lX11_199 (t_differences c35 hq1 (by rw [List.length_set])) rfl K47 dX11_damageIfFlipped_51 rfl rfl (Nat.le_of_ble_eq_true rfl) ⟨by decide, by decide⟩ zX9_differences ⟨Nat.le_refl _, Nat.le_refl _⟩ (fun wr51 wp50 wq49 => ?_)
      obtain ⟨rfl, rfl⟩ : wr51 = _ ∧ wp32 = wp50 := ⟨wq49.1, wq49.2.symm⟩
      have hf : f_dfl (ms, (cs, sc, un, wd), hs, s0, s1, os, ox) (nI j) (nI q) = (nI (diffC un sc sc cs (cs.set j (cs[j] ^^^ 2 ^ q))), (ms, (cs, sc, un, wd), hs, s0, s1, os, ox)) := by unfold f_dfl; dsimp only; rw [hb6, if_pos rfl, hw10, if_pos rfl, vN_n (by omega), vN_n (by omega), gD hj]
      rw [hf]
      exact R_reti dX11_damageIfFlipped_54 rfl rfl rfl ⟨rfl, ⟨nx, c34, c35, ⟨_, hq1⟩, c36, c37, c38, c39, ⟨_, c40⟩, ⟨_, c41⟩, c42, c43, c44, c45⟩, FF46⟩
set_option maxRecDepth 100000 in
set_option maxHeartbeats 4000000 in
theorem x_comp {ms : List Nat} {cs : List Nat} {sc un wd : Nat} {hs : List TP} {s0 s1 : Option TP} {os : List (Nat × Nat)} {ox : Nat} (hC : CI hp (ms, (cs, sc, un, wd), hs, s0, s1, os, ox)) : SpI l X mX11_compact [.ref 0] hp (fun r hp' => r = (f_comp (ms, (cs, sc, un, wd), hs, s0, s1, os, ox)).1 ∧ CI hp' (f_comp (ms, (cs, sc, un, wd), hs, s0, s1, os, ox)).2 ∧ Fr LC hp hp') := by
  obtain ⟨nx, C0, CT, ⟨⟨cs3, sc3, un3, wd3⟩, C3⟩, CP, CM, CH, CS, ⟨tx, CX⟩, ⟨ty, CY⟩, CG, CO, CF, CR⟩ := hC
  obtain ⟨ft, KT, KT2, hft, hL, hC3, hs1, hu1, hw1, hw2⟩ := id CT
  refine SpI.of pnX11 (Nat.le_of_ble_eq_true rfl) rfl ?_
  refine R_aload_n dX11_compact_0 rfl rfl ?_
  refine R_getf dX11_compact_1 gX11_36 C0 rfl ?_
  refine R_aload_n dX11_compact_4 rfl rfl ?_
  refine R_getf dX11_compact_5 gX11_10 C0 rfl ?_
  obtain ⟨y2, K1, -⟩ := id CH
  refine R_callv (As := [.ref 1]) (st := []) kX2_remember lX11_125 (h_remember CT CH) rfl K1 dX11_compact_8 rfl rfl (Nat.le_of_ble_eq_true rfl) ⟨by decide, by decide⟩ zX2_remember ⟨Nat.le_refl _, Nat.le_refl _⟩ (fun wp4 wq3 => ?_)
  obtain ⟨hh1, hh2⟩ := wq3
  have c6 := hh2.at (by decide) C0
  have c7 := CT.fr hh2 (by decide) (by decide)
  have c8 := C3.fr hh2 (by decide) (by decide)
  have c9 := CP.fr hh2 (by decide) (by decide) (by decide)
  have c10 := CM.fr hh2 (by decide) (by decide)
  have c11 := CS.fr hh2 (by decide)
  have c12 := CX.fr hh2 (by decide) (by decide) (by decide)
  have c13 := CY.fr hh2 (by decide) (by decide) (by decide)
  have c14 := CG.fr hh2 (by decide) (by decide)
  have c15 := CO.fr hh2 (by decide) (by decide) (by decide)
  have c16 := CF.fr hh2 (by decide)
  have c17 := CR.fr hh2 (by decide) (by decide)
  have FF18 : Fr LC hp wp4 := (Fr.rf (L := LC) (hp := hp)).trans (hh2.mono (by decide))
  refine R_aload_n dX11_compact_11 rfl rfl ?_
  refine R_getf dX11_compact_12 gX11_10 c6 rfl ?_
  obtain ⟨y20, K19, -⟩ := id c7
  refine R_calli (As := []) (st := []) kX9_dropRedundant lX11_159 (t_dropRedundant c7) rfl K19 dX11_compact_15 rfl rfl (Nat.le_of_ble_eq_true rfl) ⟨by decide, by decide⟩ zX9_dropRedundant ⟨Nat.le_refl _, Nat.le_refl _⟩ (fun wr23 wp22 wq21 => ?_)
  obtain ⟨rfl, hq1, hq2⟩ := wq21
  have c24 := hq2.at (by decide) c6
  have c25 := c8.fr hq2 (by decide) (by decide)
  have c26 := c9.fr hq2 (by decide) (by decide) (by decide)
  have c27 := c10.fr hq2 (by decide) (by decide)
  have c28 := hh1.fr hq2 (by decide) (by decide)
  have c29 := c11.fr hq2 (by decide)
  have c30 := c12.fr hq2 (by decide) (by decide) (by decide)
  have c31 := c13.fr hq2 (by decide) (by decide) (by decide)
  have c32 := c14.fr hq2 (by decide) (by decide)
  have c33 := c15.fr hq2 (by decide) (by decide) (by decide)
  have c34 := c16.fr hq2 (by decide)
  have c35 := c17.fr hq2 (by decide) (by decide)
  have FF36 : Fr LC hp wp22 := FF18.trans (hq2.mono (by decide))
  skip
  exact R_reti dX11_compact_18 rfl rfl rfl ⟨rfl, ⟨_, c24, hq1, ⟨_, c25⟩, c26, c27, c28, c29, ⟨_, c30⟩, ⟨_, c31⟩, c32, c33, c34, c35⟩, FF36⟩
set_option maxRecDepth 100000 in
set_option maxHeartbeats 4000000 in
theorem x_rep {ms : List Nat} {cs : List Nat} {sc un wd : Nat} {hs : List TP} {s0 s1 : Option TP} {os : List (Nat × Nat)} {ox : Nat} (hC : CI hp (ms, (cs, sc, un, wd), hs, s0, s1, os, ox)) : SpI l X mX11_repair [.ref 0] hp (fun r hp' => r = (f_rep (ms, (cs, sc, un, wd), hs, s0, s1, os, ox)).1 ∧ CI hp' (f_rep (ms, (cs, sc, un, wd), hs, s0, s1, os, ox)).2 ∧ Fr LC hp hp') := by
  obtain ⟨nx, C0, CT, ⟨⟨cs3, sc3, un3, wd3⟩, C3⟩, CP, CM, CH, CS, ⟨tx, CX⟩, ⟨ty, CY⟩, CG, CO, CF, CR⟩ := hC
  obtain ⟨ft, KT, KT2, hft, hL, hC3, hs1, hu1, hw1, hw2⟩ := id CT
  refine SpI.of pnX11 (Nat.le_of_ble_eq_true rfl) rfl ?_
  have htl := txt_len un cs sc
  refine R_aload_n dX11_repair_0 rfl rfl ?_
  refine R_getf dX11_repair_1 gX11_50 C0 rfl ?_
  refine R_aload_n dX11_repair_4 rfl rfl ?_
  refine R_getf dX11_repair_5 gX11_10 C0 rfl ?_
  obtain ⟨y2a, y2b, K1, -⟩ := id CX
  refine R_callv (As := [.ref 1]) (st := []) kX10_read lX11_112 (x_read CX CT (by decide) (by decide) (by decide) (by decide)) rfl K1 dX11_repair_8 rfl rfl (Nat.le_of_ble_eq_true rfl) ⟨by decide, by decide⟩ zX10_read ⟨Nat.le_refl _, Nat.le_refl _⟩ (fun wp4 wq3 => ?_)
  obtain ⟨hx1, hx2⟩ := wq3
  have c6 := hx2.at (by decide) C0
  have c7 := CT.fr hx2 (by decide) (by decide)
  have c8 := C3.fr hx2 (by decide) (by decide)
  have c9 := CP.fr hx2 (by decide) (by decide) (by decide)
  have c10 := CM.fr hx2 (by decide) (by decide)
  have c11 := CH.fr hx2 (by decide) (by decide)
  have c12 := CS.fr hx2 (by decide)
  have c13 := CY.fr hx2 (by decide) (by decide) (by decide)
  have c14 := CG.fr hx2 (by decide) (by decide)
  have c15 := CO.fr hx2 (by decide) (by decide) (by decide)
  have c16 := CF.fr hx2 (by decide)
  have c17 := CR.fr hx2 (by decide) (by decide)
  have FF18 : Fr LC hp wp4 := (Fr.rf (L := LC) (hp := hp)).trans (hx2.mono (by decide))
  refine R_aload_n dX11_repair_11 rfl rfl ?_
  refine R_getf dX11_repair_12 gX11_29 c6 rfl ?_
  refine R_aload_n dX11_repair_15 rfl rfl ?_
  refine R_getf dX11_repair_16 gX11_10 c6 rfl ?_
  refine R_aload_n dX11_repair_19 rfl rfl ?_
  refine R_getf dX11_repair_20 gX11_50 c6 rfl ?_
  obtain ⟨y20a, y20b, K19, -⟩ := id hx1
  refine R_getf dX11_repair_23 gX11_116 K19 rfl ?_
  obtain ⟨y22, K21, -⟩ := id c10
  refine R_calli (As := [.ref 1, .int (nI ((txt un sc cs).length))]) (st := []) kX3_canBeReadFrom lX11_162 (m_cb (by omega) c10 c7) rfl K21 dX11_repair_26 rfl rfl (Nat.le_of_ble_eq_true rfl) ⟨by decide, by decide⟩ zX3_canBeReadFrom ⟨Nat.le_refl _, Nat.le_refl _⟩ (fun wr25 wp24 wq23 => ?_)
  obtain ⟨rfl, rfl⟩ : wr25 = _ ∧ wp4 = wp24 := ⟨wq23.1, wq23.2.symm⟩
  cases hE : (decide ((txt un sc cs).length = ms.length) && rdG ms cs 0) with
  | false =>
    show PZ _ _ _ _ _ _ (.int (nI 0) :: _) _ _ _
    refine N_if_ne (tgt := 35) dX11_repair_29 (by decide) (by decide) (fun hc => absurd hc (by decide)) (fun _ => ?_)
    have hf : f_rep (ms, (cs, sc, un, wd), hs, s0, s1, os, ox) = (-3, (ms, (cs, sc, un, wd), hs, s0, s1, os, ox)) := by unfold f_rep; dsimp only; rw [hE]; rfl
    refine R_bipush (v := (-3)) dX11_repair_32 (by decide) ?_
    rw [hf]
    exact R_reti dX11_repair_34 rfl rfl rfl ⟨rfl, ⟨nx, c6, c7, ⟨_, c8⟩, c9, c10, c11, c12, ⟨_, hx1⟩, ⟨_, c13⟩, c14, c15, c16, c17⟩, FF18⟩
  | true =>
    show PZ _ _ _ _ _ _ (.int (nI 1) :: _) _ _ _
    refine N_if_ne (tgt := 35) dX11_repair_29 (by decide) (by decide) (fun _ => ?_) (fun hc => absurd hc (by decide))
    refine R_aload_n dX11_repair_35 rfl rfl ?_
    refine R_getf dX11_repair_36 gX11_10 c6 rfl ?_
    obtain ⟨y27, K26, -⟩ := id c7
    refine R_getf dX11_repair_39 gX11_101 K26 rfl ?_
    refine R_istore_n (lv' := [some (.ref 0), some (.int (nI (cs.length)))]) dX11_repair_42 rfl (by decide) rfl ?_
    refine R_aload_n dX11_repair_43 rfl rfl ?_
    refine R_getf dX11_repair_44 gX11_22 c6 rfl ?_
    refine R_aload_n dX11_repair_47 rfl rfl ?_
    refine R_getf dX11_repair_48 gX11_10 c6 rfl ?_
    obtain ⟨y29a, y29b, y29c, K28, -⟩ := id c9
    refine R_callv (As := [.ref 1]) (st := []) kX6_beginAnew lX11_166 (p_anew c9 c7) rfl K28 dX11_repair_51 rfl rfl (Nat.le_of_ble_eq_true rfl) ⟨by decide, by decide⟩ zX6_beginAnew ⟨Nat.le_refl _, Nat.le_refl _⟩ (fun wp31 wq30 => ?_)
    obtain ⟨hp1, hp2⟩ := wq30
    have c33 := hp2.at (by decide) c6
    have c34 := c7.fr hp2 (by decide) (by decide)
    have c35 := c8.fr hp2 (by decide) (by decide)
    have c36 := c10.fr hp2 (by decide) (by decide)
    have c37 := c11.fr hp2 (by decide) (by decide)
    have c38 := c12.fr hp2 (by decide)
    have c39 := hx1.fr hp2 (by decide) (by decide) (by decide)
    have c40 := c13.fr hp2 (by decide) (by decide) (by decide)
    have c41 := c14.fr hp2 (by decide) (by decide)
    have c42 := c15.fr hp2 (by decide) (by decide) (by decide)
    have c43 := c16.fr hp2 (by decide)
    have c44 := c17.fr hp2 (by decide) (by decide)
    have FF45 : Fr LC hp wp31 := FF18.trans (hp2.mono (by decide))
    refine R_aload_n dX11_repair_54 rfl rfl ?_
    refine R_getf dX11_repair_55 gX11_22 c33 rfl ?_
    refine R_aload_n dX11_repair_58 rfl rfl ?_
    refine R_getf dX11_repair_59 gX11_10 c33 rfl ?_
    refine R_aload_n dX11_repair_62 rfl rfl ?_
    refine R_getf dX11_repair_63 gX11_29 c33 rfl ?_
    obtain ⟨y47a, y47b, y47c, K46, -⟩ := id hp1.x
    refine R_callv (As := [.ref 1, .ref 8]) (st := []) kX6_punchRepaired lX11_169 (p_repaired (by decide) (by decide) hp1 c36 c34) rfl K46 dX11_repair_66 rfl rfl (Nat.le_of_ble_eq_true rfl) ⟨by decide, by decide⟩ zX6_punchRepaired ⟨Nat.le_refl _, Nat.le_refl _⟩ (fun wp49 wq48 => ?_)
    obtain ⟨hp3, hp4⟩ := wq48
    have c51 := hp4.at (by decide) c33
    have c52 := c34.fr hp4 (by decide) (by decide)
    have c53 := c35.fr hp4 (by decide) (by decide)
    have c54 := c36.fr hp4 (by decide) (by decide)
    have c55 := c37.fr hp4 (by decide) (by decide)
    have c56 := c38.fr hp4 (by decide)
    have c57 := c39.fr hp4 (by decide) (by decide) (by decide)
    have c58 := c40.fr hp4 (by decide) (by decide) (by decide)
    have c59 := c41.fr hp4 (by decide) (by decide)
    have c60 := c42.fr hp4 (by decide) (by decide) (by decide)
    have c61 := c43.fr hp4 (by decide)
    have c62 := c44.fr hp4 (by decide) (by decide)
    have FF63 : Fr LC hp wp49 := FF45.trans (hp4.mono (by decide))
    refine R_aload_n dX11_repair_69 rfl rfl ?_
    by_cases hl : (rprN un sc ms cs 0 []).length ≤ 96
    · refine R_calli (As := []) (st := []) kX11_takePunched lX11_139 (x_take hl c51 hp3 c52 c55) rfl c51 dX11_repair_70 rfl rfl (Nat.le_of_ble_eq_true rfl) ⟨by decide, by decide⟩ zX11_takePunched ⟨Nat.le_refl _, Nat.le_refl _⟩ (fun wr66 wp65 wq64 => ?_)
      obtain ⟨rfl, hq1, hq2, hq3⟩ := wq64
      have c67 := hq3.at (by decide) c51
      have c68 := c53.fr hq3 (by decide) (by decide)
      have c69 := hp3.x.fr hq3 (by decide) (by decide) (by decide)
      have c70 := c54.fr hq3 (by decide) (by decide)
      have c71 := c56.fr hq3 (by decide)
      have c72 := c57.fr hq3 (by decide) (by decide) (by decide)
      have c73 := c58.fr hq3 (by decide) (by decide) (by decide)
      have c74 := c59.fr hq3 (by decide) (by decide)
      have c75 := c60.fr hq3 (by decide) (by decide) (by decide)
      have c76 := c61.fr hq3 (by decide)
      have c77 := c62.fr hq3 (by decide) (by decide)
      have FF78 : Fr LC hp wp65 := FF63.trans (hq3.mono (by decide))
      refine N_if_eq (tgt := 88) dX11_repair_73 (by decide) (by decide) (fun hc => absurd hc (by decide)) (fun _ => ?_)
      refine R_aload_n dX11_repair_76 rfl rfl ?_
      refine R_getf dX11_repair_77 gX11_10 c67 rfl ?_
      obtain ⟨y80, K79, -⟩ := id hq1
      refine R_getf dX11_repair_80 gX11_101 K79 rfl ?_
      refine R_iload_n dX11_repair_83 rfl rfl ?_
      refine R_isub dX11_repair_84 ?_
      refine R_goto (tgt := 90) dX11_repair_85 (by decide) ?_
      have hf : f_rep (ms, (cs, sc, un, wd), hs, s0, s1, os, ox) = (nI (rprN un sc ms cs 0 []).length - nI cs.length, psh (ms, (cs, sc, un, wd), hs, s0, s1, os, ox) (rprN un sc ms cs 0 [], sc, un, wd)) := by unfold f_rep; dsimp only; rw [hE, if_pos rfl]; unfold f_take; dsimp only; rw [if_pos hl]
      rw [hf]
      exact R_reti dX11_repair_90 rfl rfl rfl ⟨rfl, ⟨_, c67, hq1, ⟨_, c68⟩, c69, c70, hq2, c71, ⟨_, c72⟩, ⟨_, c73⟩, c74, c75, c76, c77⟩, FF78⟩
    · refine R_calli (As := []) (st := []) kX11_takePunched lX11_139 (x_takeF (by omega) c51 hp3) rfl c51 dX11_repair_70 rfl rfl (Nat.le_of_ble_eq_true rfl) ⟨by decide, by decide⟩ zX11_takePunched ⟨Nat.le_refl _, Nat.le_refl _⟩ (fun wr83 wp82 wq81 => ?_)
      obtain ⟨rfl, rfl⟩ : wr83 = _ ∧ wp49 = wp82 := ⟨wq81.1, wq81.2.symm⟩
      refine N_if_eq (tgt := 88) dX11_repair_73 (by decide) (by decide) (fun _ => ?_) (fun hc => absurd hc (by decide))
      have hf : f_rep (ms, (cs, sc, un, wd), hs, s0, s1, os, ox) = (-4, (ms, (cs, sc, un, wd), hs, s0, s1, os, ox)) := by unfold f_rep; dsimp only; rw [hE, if_pos rfl]; unfold f_take; dsimp only; rw [if_neg hl]
      refine R_bipush (v := (-4)) dX11_repair_88 (by decide) ?_
      rw [hf]
      exact R_reti dX11_repair_90 rfl rfl rfl ⟨rfl, ⟨nx, c51, c52, ⟨_, c53⟩, hp3.x, c54, c55, c56, ⟨_, c57⟩, ⟨_, c58⟩, c59, c60, c61, c62⟩, FF63⟩
set_option maxRecDepth 100000 in
set_option maxHeartbeats 4000000 in
theorem x_start {ms : List Nat} {cs : List Nat} {sc un wd : Nat} {hs : List TP} {s0 s1 : Option TP} {os : List (Nat × Nat)} {ox : Nat} {v : Int32} (hC : CI hp (ms, (cs, sc, un, wd), hs, s0, s1, os, ox)) : SpI l X mX11_setStartCase [.ref 0, .int (v)] hp (fun r hp' => r = (f_start (ms, (cs, sc, un, wd), hs, s0, s1, os, ox) v).1 ∧ CI hp' (f_start (ms, (cs, sc, un, wd), hs, s0, s1, os, ox) v).2 ∧ Fr LC hp hp') := by
  obtain ⟨nx, C0, CT, ⟨⟨cs3, sc3, un3, wd3⟩, C3⟩, CP, CM, CH, CS, ⟨tx, CX⟩, ⟨ty, CY⟩, CG, CO, CF, CR⟩ := hC
  obtain ⟨ft, KT, KT2, hft, hL, hC3, hs1, hu1, hw1, hw2⟩ := id CT
  refine SpI.of pnX11 (Nat.le_of_ble_eq_true rfl) rfl ?_
  refine R_iload_n dX11_setStartCase_0 rfl rfl ?_
  refine R_iconst (v := (nI 0)) dX11_setStartCase_1 (by decide) ?_
  refine R_iconst (v := (nI 1)) dX11_setStartCase_2 (by decide) ?_
  refine R_stati (As := [.int (v), .int (nI 0), .int (nI 1)]) (st := []) kX11_isWithin lX11_85 (x_within (by decide) (by decide)) dX11_setStartCase_3 rfl rfl (Nat.le_of_ble_eq_true rfl) ⟨by decide, by decide⟩ zX11_isWithin ⟨Nat.le_refl _, Nat.le_refl _⟩ (fun wr3 wp2 wq1 => ?_)
  obtain ⟨rfl, rfl⟩ : wr3 = _ ∧ hp = wp2 := ⟨wq1.1, wq1.2.symm⟩
  cases hw4 : inW v 0 1 with
  | false =>
    show PZ _ _ _ _ _ _ (.int (nI 0) :: _) _ _ _
    refine N_if_ne (tgt := 12) dX11_setStartCase_6 (by decide) (by decide) (fun hc => absurd hc (by decide)) (fun _ => ?_)
    have hf : f_start (ms, (cs, sc, un, wd), hs, s0, s1, os, ox) v = (-2, (ms, (cs, sc, un, wd), hs, s0, s1, os, ox)) := by unfold f_start; dsimp only; rw [hw4]; rfl
    refine R_bipush (v := (-2)) dX11_setStartCase_9 (by decide) ?_
    rw [hf]
    exact R_reti dX11_setStartCase_11 rfl rfl rfl ⟨rfl, ⟨nx, C0, CT, ⟨_, C3⟩, CP, CM, CH, CS, ⟨_, CX⟩, ⟨_, CY⟩, CG, CO, CF, CR⟩, (Fr.rf (L := LC) (hp := hp))⟩
  | true =>
    show PZ _ _ _ _ _ _ (.int (nI 1) :: _) _ _ _
    obtain ⟨j, hj1, hj, rfl⟩ := inW_t (by decide) hw4
    refine N_if_ne (tgt := 12) dX11_setStartCase_6 (by decide) (by decide) (fun _ => ?_) (fun hc => absurd hc (by decide))
    refine R_aload_n dX11_setStartCase_12 rfl rfl ?_
    refine R_getf dX11_setStartCase_13 gX11_36 C0 rfl ?_
    refine R_aload_n dX11_setStartCase_16 rfl rfl ?_
    refine R_getf dX11_setStartCase_17 gX11_10 C0 rfl ?_
    obtain ⟨y6, K5, -⟩ := id CH
    refine R_callv (As := [.ref 1]) (st := []) kX2_remember lX11_125 (h_remember CT CH) rfl K5 dX11_setStartCase_20 rfl rfl (Nat.le_of_ble_eq_true rfl) ⟨by decide, by decide⟩ zX2_remember ⟨Nat.le_refl _, Nat.le_refl _⟩ (fun wp8 wq7 => ?_)
    obtain ⟨hh1, hh2⟩ := wq7
    have c10 := hh2.at (by decide) C0
    have c11 := CT.fr hh2 (by decide) (by decide)
    have c12 := C3.fr hh2 (by decide) (by decide)
    have c13 := CP.fr hh2 (by decide) (by decide) (by decide)
    have c14 := CM.fr hh2 (by decide) (by decide)
    have c15 := CS.fr hh2 (by decide)
    have c16 := CX.fr hh2 (by decide) (by decide) (by decide)
    have c17 := CY.fr hh2 (by decide) (by decide) (by decide)
    have c18 := CG.fr hh2 (by decide) (by decide)
    have c19 := CO.fr hh2 (by decide) (by decide) (by decide)
    have c20 := CF.fr hh2 (by decide)
    have c21 := CR.fr hh2 (by decide) (by decide)
    have FF22 : Fr LC hp wp8 := (Fr.rf (L := LC) (hp := hp)).trans (hh2.mono (by decide))
    obtain ⟨f5, K5, K6, hf5, -⟩ := id c11
    refine R_aload_n dX11_setStartCase_23 rfl rfl ?_
    refine R_getf dX11_setStartCase_24 gX11_10 c10 rfl ?_
    refine R_getf dX11_setStartCase_27 gX11_173 K5 rfl ?_
    refine R_istore_n (lv' := [some (.ref 0), some (.int (nI j)), some (.int (nI sc))]) dX11_setStartCase_30 rfl (by decide) rfl ?_
    refine R_aload_n dX11_setStartCase_31 rfl rfl ?_
    refine R_getf dX11_setStartCase_32 gX11_10 c10 rfl ?_
    refine R_iload_n dX11_setStartCase_35 rfl rfl ?_
    refine W_puti (fs' := [.ref 2, .int (nI (cs.length)), .int (nI j), .int (nI un), .int (nI wd)]) dX11_setStartCase_36 pX11_173 K5 (Nat.le_of_ble_eq_true rfl) rfl (fun wp23 wH24 wE25 => ?_)
    have wH26 := (wE25 0 (by decide)).trans c10
    have wH27 := (wE25 2 (by decide)).trans K6
    have wF28 : Fr [1] wp8 wp23 := Fr.one wE25 (by simp)
    refine R_iload_n dX11_setStartCase_39 rfl rfl ?_
    have ct9 : TpAt wp23 1 2 (cs, j, un, wd) := ⟨f5, wH24, wH27, hf5, hL, hC3, by omega, hu1, hw1, hw2⟩
    have c29 := wF28.at (by decide) c10
    have c30 := c12.fr wF28 (by decide) (by decide)
    have c31 := c13.fr wF28 (by decide) (by decide) (by decide)
    have c32 := c14.fr wF28 (by decide) (by decide)
    have c33 := hh1.fr wF28 (by decide) (by decide)
    have c34 := c15.fr wF28 (by decide)
    have c35 := c16.fr wF28 (by decide) (by decide) (by decide)
    have c36 := c17.fr wF28 (by decide) (by decide) (by decide)
    have c37 := c18.fr wF28 (by decide) (by decide)
    have c38 := c19.fr wF28 (by decide) (by decide) (by decide)
    have c39 := c20.fr wF28 (by decide)
    have c40 := c21.fr wF28 (by decide) (by decide)
    have FF41 : Fr LC hp wp23 := FF22.trans (wF28.mono (by decide))
    have hf : f_start (ms, (cs, sc, un, wd), hs, s0, s1, os, ox) (nI j) = (nI sc, psh (ms, (cs, sc, un, wd), hs, s0, s1, os, ox) (cs, j, un, wd)) := by unfold f_start; dsimp only; rw [hw4, if_pos rfl, vN_n (by omega)]
    rw [hf]
    exact R_reti dX11_setStartCase_40 rfl rfl rfl ⟨rfl, ⟨_, c29, ct9, ⟨_, c30⟩, c31, c32, c33, c34, ⟨_, c35⟩, ⟨_, c36⟩, c37, c38, c39, c40⟩, FF41⟩
set_option maxRecDepth 100000 in
set_option maxHeartbeats 4000000 in
theorem x_opt {ms : List Nat} {cs : List Nat} {sc un wd : Nat} {hs : List TP} {s0 s1 : Option TP} {os : List (Nat × Nat)} {ox : Nat} {v : Int32} (hC : CI hp (ms, (cs, sc, un, wd), hs, s0, s1, os, ox)) : SpI l X mX11_setUnshiftOnSpace [.ref 0, .int (v)] hp (fun r hp' => r = (f_opt (ms, (cs, sc, un, wd), hs, s0, s1, os, ox) v).1 ∧ CI hp' (f_opt (ms, (cs, sc, un, wd), hs, s0, s1, os, ox) v).2 ∧ Fr LC hp hp') := by
  obtain ⟨nx, C0, CT, ⟨⟨cs3, sc3, un3, wd3⟩, C3⟩, CP, CM, CH, CS, ⟨tx, CX⟩, ⟨ty, CY⟩, CG, CO, CF, CR⟩ := hC
  obtain ⟨ft, KT, KT2, hft, hL, hC3, hs1, hu1, hw1, hw2⟩ := id CT
  refine SpI.of pnX11 (Nat.le_of_ble_eq_true rfl) rfl ?_
  refine R_iload_n dX11_setUnshiftOnSpace_0 rfl rfl ?_
  refine R_iconst (v := (nI 0)) dX11_setUnshiftOnSpace_1 (by decide) ?_
  refine R_iconst (v := (nI 1)) dX11_setUnshiftOnSpace_2 (by decide) ?_
  refine R_stati (As := [.int (v), .int (nI 0), .int (nI 1)]) (st := []) kX11_isWithin lX11_85 (x_within (by decide) (by decide)) dX11_setUnshiftOnSpace_3 rfl rfl (Nat.le_of_ble_eq_true rfl) ⟨by decide, by decide⟩ zX11_isWithin ⟨Nat.le_refl _, Nat.le_refl _⟩ (fun wr3 wp2 wq1 => ?_)
  obtain ⟨rfl, rfl⟩ : wr3 = _ ∧ hp = wp2 := ⟨wq1.1, wq1.2.symm⟩
  cases hw4 : inW v 0 1 with
  | false =>
    show PZ _ _ _ _ _ _ (.int (nI 0) :: _) _ _ _
    refine N_if_ne (tgt := 12) dX11_setUnshiftOnSpace_6 (by decide) (by decide) (fun hc => absurd hc (by decide)) (fun _ => ?_)
    have hf : f_opt (ms, (cs, sc, un, wd), hs, s0, s1, os, ox) v = (-2, (ms, (cs, sc, un, wd), hs, s0, s1, os, ox)) := by unfold f_opt; dsimp only; rw [hw4]; rfl
    refine R_bipush (v := (-2)) dX11_setUnshiftOnSpace_9 (by decide) ?_
    rw [hf]
    exact R_reti dX11_setUnshiftOnSpace_11 rfl rfl rfl ⟨rfl, ⟨nx, C0, CT, ⟨_, C3⟩, CP, CM, CH, CS, ⟨_, CX⟩, ⟨_, CY⟩, CG, CO, CF, CR⟩, (Fr.rf (L := LC) (hp := hp))⟩
  | true =>
    show PZ _ _ _ _ _ _ (.int (nI 1) :: _) _ _ _
    obtain ⟨j, hj1, hj, rfl⟩ := inW_t (by decide) hw4
    refine N_if_ne (tgt := 12) dX11_setUnshiftOnSpace_6 (by decide) (by decide) (fun _ => ?_) (fun hc => absurd hc (by decide))
    refine R_aload_n dX11_setUnshiftOnSpace_12 rfl rfl ?_
    refine R_getf dX11_setUnshiftOnSpace_13 gX11_36 C0 rfl ?_
    refine R_aload_n dX11_setUnshiftOnSpace_16 rfl rfl ?_
    refine R_getf dX11_setUnshiftOnSpace_17 gX11_10 C0 rfl ?_
    obtain ⟨y6, K5, -⟩ := id CH
    refine R_callv (As := [.ref 1]) (st := []) kX2_remember lX11_125 (h_remember CT CH) rfl K5 dX11_setUnshiftOnSpace_20 rfl rfl (Nat.le_of_ble_eq_true rfl) ⟨by decide, by decide⟩ zX2_remember ⟨Nat.le_refl _, Nat.le_refl _⟩ (fun wp8 wq7 => ?_)
    obtain ⟨hh1, hh2⟩ := wq7
    have c10 := hh2.at (by decide) C0
    have c11 := CT.fr hh2 (by decide) (by decide)
    have c12 := C3.fr hh2 (by decide) (by decide)
    have c13 := CP.fr hh2 (by decide) (by decide) (by decide)
    have c14 := CM.fr hh2 (by decide) (by decide)
    have c15 := CS.fr hh2 (by decide)
    have c16 := CX.fr hh2 (by decide) (by decide) (by decide)
    have c17 := CY.fr hh2 (by decide) (by decide) (by decide)
    have c18 := CG.fr hh2 (by decide) (by decide)
    have c19 := CO.fr hh2 (by decide) (by decide) (by decide)
    have c20 := CF.fr hh2 (by decide)
    have c21 := CR.fr hh2 (by decide) (by decide)
    have FF22 : Fr LC hp wp8 := (Fr.rf (L := LC) (hp := hp)).trans (hh2.mono (by decide))
    obtain ⟨f5, K5, K6, hf5, -⟩ := id c11
    refine R_aload_n dX11_setUnshiftOnSpace_23 rfl rfl ?_
    refine R_getf dX11_setUnshiftOnSpace_24 gX11_10 c10 rfl ?_
    refine R_getf dX11_setUnshiftOnSpace_27 gX11_176 K5 rfl ?_
    refine R_istore_n (lv' := [some (.ref 0), some (.int (nI j)), some (.int (nI un))]) dX11_setUnshiftOnSpace_30 rfl (by decide) rfl ?_
    refine R_aload_n dX11_setUnshiftOnSpace_31 rfl rfl ?_
    refine R_getf dX11_setUnshiftOnSpace_32 gX11_10 c10 rfl ?_
    refine R_iload_n dX11_setUnshiftOnSpace_35 rfl rfl ?_
    refine W_puti (fs' := [.ref 2, .int (nI (cs.length)), .int (nI sc), .int (nI j), .int (nI wd)]) dX11_setUnshiftOnSpace_36 pX11_176 K5 (Nat.le_of_ble_eq_true rfl) rfl (fun wp23 wH24 wE25 => ?_)
    have wH26 := (wE25 0 (by decide)).trans c10
    have wH27 := (wE25 2 (by decide)).trans K6
    have wF28 : Fr [1] wp8 wp23 := Fr.one wE25 (by simp)
    refine R_iload_n dX11_setUnshiftOnSpace_39 rfl rfl ?_
    have ct9 : TpAt wp23 1 2 (cs, sc, j, wd) := ⟨f5, wH24, wH27, hf5, hL, hC3, hs1, by omega, hw1, hw2⟩
    have c29 := wF28.at (by decide) c10
    have c30 := c12.fr wF28 (by decide) (by decide)
    have c31 := c13.fr wF28 (by decide) (by decide) (by decide)
    have c32 := c14.fr wF28 (by decide) (by decide)
    have c33 := hh1.fr wF28 (by decide) (by decide)
    have c34 := c15.fr wF28 (by decide)
    have c35 := c16.fr wF28 (by decide) (by decide) (by decide)
    have c36 := c17.fr wF28 (by decide) (by decide) (by decide)
    have c37 := c18.fr wF28 (by decide) (by decide)
    have c38 := c19.fr wF28 (by decide) (by decide) (by decide)
    have c39 := c20.fr wF28 (by decide)
    have c40 := c21.fr wF28 (by decide) (by decide)
    have FF41 : Fr LC hp wp23 := FF22.trans (wF28.mono (by decide))
    have hf : f_opt (ms, (cs, sc, un, wd), hs, s0, s1, os, ox) (nI j) = (nI un, psh (ms, (cs, sc, un, wd), hs, s0, s1, os, ox) (cs, sc, j, wd)) := by unfold f_opt; dsimp only; rw [hw4, if_pos rfl, vN_n (by omega)]
    rw [hf]
    exact R_reti dX11_setUnshiftOnSpace_40 rfl rfl rfl ⟨rfl, ⟨_, c29, ct9, ⟨_, c30⟩, c31, c32, c33, c34, ⟨_, c35⟩, ⟨_, c36⟩, c37, c38, c39, c40⟩, FF41⟩
set_option maxRecDepth 100000 in
set_option maxHeartbeats 4000000 in
theorem x_wid {ms : List Nat} {cs : List Nat} {sc un wd : Nat} {hs : List TP} {s0 s1 : Option TP} {os : List (Nat × Nat)} {ox : Nat} {v : Int32} (hC : CI hp (ms, (cs, sc, un, wd), hs, s0, s1, os, ox)) : SpI l X mX11_setWidth [.ref 0, .int (v)] hp (fun r hp' => r = (f_wid (ms, (cs, sc, un, wd), hs, s0, s1, os, ox) v).1 ∧ CI hp' (f_wid (ms, (cs, sc, un, wd), hs, s0, s1, os, ox) v).2 ∧ Fr LC hp hp') := by
  obtain ⟨nx, C0, CT, ⟨⟨cs3, sc3, un3, wd3⟩, C3⟩, CP, CM, CH, CS, ⟨tx, CX⟩, ⟨ty, CY⟩, CG, CO, CF, CR⟩ := hC
  obtain ⟨ft, KT, KT2, hft, hL, hC3, hs1, hu1, hw1, hw2⟩ := id CT
  refine SpI.of pnX11 (Nat.le_of_ble_eq_true rfl) rfl ?_
  refine R_iload_n dX11_setWidth_0 rfl rfl ?_
  refine R_iconst (v := (nI 5)) dX11_setWidth_1 (by decide) ?_
  refine R_bipush (v := (nI 40)) dX11_setWidth_2 (by decide) ?_
  refine R_stati (As := [.int (v), .int (nI 5), .int (nI 40)]) (st := []) kX11_isWithin lX11_85 (x_within (by decide) (by decide)) dX11_setWidth_4 rfl rfl (Nat.le_of_ble_eq_true rfl) ⟨by decide, by decide⟩ zX11_isWithin ⟨Nat.le_refl _, Nat.le_refl _⟩ (fun wr3 wp2 wq1 => ?_)
  obtain ⟨rfl, rfl⟩ : wr3 = _ ∧ hp = wp2 := ⟨wq1.1, wq1.2.symm⟩
  cases hw4 : inW v 5 40 with
  | false =>
    show PZ _ _ _ _ _ _ (.int (nI 0) :: _) _ _ _
    refine N_if_ne (tgt := 13) dX11_setWidth_7 (by decide) (by decide) (fun hc => absurd hc (by decide)) (fun _ => ?_)
    have hf : f_wid (ms, (cs, sc, un, wd), hs, s0, s1, os, ox) v = (-2, (ms, (cs, sc, un, wd), hs, s0, s1, os, ox)) := by unfold f_wid; dsimp only; rw [hw4]; rfl
    refine R_bipush (v := (-2)) dX11_setWidth_10 (by decide) ?_
    rw [hf]
    exact R_reti dX11_setWidth_12 rfl rfl rfl ⟨rfl, ⟨nx, C0, CT, ⟨_, C3⟩, CP, CM, CH, CS, ⟨_, CX⟩, ⟨_, CY⟩, CG, CO, CF, CR⟩, (Fr.rf (L := LC) (hp := hp))⟩
  | true =>
    show PZ _ _ _ _ _ _ (.int (nI 1) :: _) _ _ _
    obtain ⟨j, hj1, hj, rfl⟩ := inW_t (by decide) hw4
    refine N_if_ne (tgt := 13) dX11_setWidth_7 (by decide) (by decide) (fun _ => ?_) (fun hc => absurd hc (by decide))
    refine R_aload_n dX11_setWidth_13 rfl rfl ?_
    refine R_getf dX11_setWidth_14 gX11_36 C0 rfl ?_
    refine R_aload_n dX11_setWidth_17 rfl rfl ?_
    refine R_getf dX11_setWidth_18 gX11_10 C0 rfl ?_
    obtain ⟨y6, K5, -⟩ := id CH
    refine R_callv (As := [.ref 1]) (st := []) kX2_remember lX11_125 (h_remember CT CH) rfl K5 dX11_setWidth_21 rfl rfl (Nat.le_of_ble_eq_true rfl) ⟨by decide, by decide⟩ zX2_remember ⟨Nat.le_refl _, Nat.le_refl _⟩ (fun wp8 wq7 => ?_)
    obtain ⟨hh1, hh2⟩ := wq7
    have c10 := hh2.at (by decide) C0
    have c11 := CT.fr hh2 (by decide) (by decide)
    have c12 := C3.fr hh2 (by decide) (by decide)
    have c13 := CP.fr hh2 (by decide) (by decide) (by decide)
    have c14 := CM.fr hh2 (by decide) (by decide)
    have c15 := CS.fr hh2 (by decide)
    have c16 := CX.fr hh2 (by decide) (by decide) (by decide)
    have c17 := CY.fr hh2 (by decide) (by decide) (by decide)
    have c18 := CG.fr hh2 (by decide) (by decide)
    have c19 := CO.fr hh2 (by decide) (by decide) (by decide)
    have c20 := CF.fr hh2 (by decide)
    have c21 := CR.fr hh2 (by decide) (by decide)
    have FF22 : Fr LC hp wp8 := (Fr.rf (L := LC) (hp := hp)).trans (hh2.mono (by decide))
    obtain ⟨f5, K5, K6, hf5, -⟩ := id c11
    refine R_aload_n dX11_setWidth_24 rfl rfl ?_
    refine R_getf dX11_setWidth_25 gX11_10 c10 rfl ?_
    refine R_getf dX11_setWidth_28 gX11_142 K5 rfl ?_
    refine R_istore_n (lv' := [some (.ref 0), some (.int (nI j)), some (.int (nI wd))]) dX11_setWidth_31 rfl (by decide) rfl ?_
    refine R_aload_n dX11_setWidth_32 rfl rfl ?_
    refine R_getf dX11_setWidth_33 gX11_10 c10 rfl ?_
    refine R_iload_n dX11_setWidth_36 rfl rfl ?_
    refine W_puti (fs' := [.ref 2, .int (nI (cs.length)), .int (nI sc), .int (nI un), .int (nI j)]) dX11_setWidth_37 pX11_142 K5 (Nat.le_of_ble_eq_true rfl) rfl (fun wp23 wH24 wE25 => ?_)
    have wH26 := (wE25 0 (by decide)).trans c10
    have wH27 := (wE25 2 (by decide)).trans K6
    have wF28 : Fr [1] wp8 wp23 := Fr.one wE25 (by simp)
    refine R_iload_n dX11_setWidth_40 rfl rfl ?_
    have ct9 : TpAt wp23 1 2 (cs, sc, un, j) := ⟨f5, wH24, wH27, hf5, hL, hC3, hs1, hu1, by omega, by omega⟩
    have c29 := wF28.at (by decide) c10
    have c30 := c12.fr wF28 (by decide) (by decide)
    have c31 := c13.fr wF28 (by decide) (by decide) (by decide)
    have c32 := c14.fr wF28 (by decide) (by decide)
    have c33 := hh1.fr wF28 (by decide) (by decide)
    have c34 := c15.fr wF28 (by decide)
    have c35 := c16.fr wF28 (by decide) (by decide) (by decide)
    have c36 := c17.fr wF28 (by decide) (by decide) (by decide)
    have c37 := c18.fr wF28 (by decide) (by decide)
    have c38 := c19.fr wF28 (by decide) (by decide) (by decide)
    have c39 := c20.fr wF28 (by decide)
    have c40 := c21.fr wF28 (by decide) (by decide)
    have FF41 : Fr LC hp wp23 := FF22.trans (wF28.mono (by decide))
    have hf : f_wid (ms, (cs, sc, un, wd), hs, s0, s1, os, ox) (nI j) = (nI wd, psh (ms, (cs, sc, un, wd), hs, s0, s1, os, ox) (cs, sc, un, j)) := by unfold f_wid; dsimp only; rw [hw4, if_pos rfl, vN_n (by omega)]
    rw [hf]
    exact R_reti dX11_setWidth_41 rfl rfl rfl ⟨rfl, ⟨_, c29, ct9, ⟨_, c30⟩, c31, c32, c33, c34, ⟨_, c35⟩, ⟨_, c36⟩, c37, c38, c39, c40⟩, FF41⟩
set_option maxRecDepth 100000 in
set_option maxHeartbeats 4000000 in
theorem x_undo {ms : List Nat} {cs : List Nat} {sc un wd : Nat} {hs : List TP} {s0 s1 : Option TP} {os : List (Nat × Nat)} {ox : Nat} (hC : CI hp (ms, (cs, sc, un, wd), hs, s0, s1, os, ox)) : SpI l X mX11_undo [.ref 0] hp (fun r hp' => r = (f_undo (ms, (cs, sc, un, wd), hs, s0, s1, os, ox)).1 ∧ CI hp' (f_undo (ms, (cs, sc, un, wd), hs, s0, s1, os, ox)).2 ∧ Fr LC hp hp') := by
  obtain ⟨nx, C0, CT, ⟨⟨cs3, sc3, un3, wd3⟩, C3⟩, CP, CM, CH, CS, ⟨tx, CX⟩, ⟨ty, CY⟩, CG, CO, CF, CR⟩ := hC
  obtain ⟨ft, KT, KT2, hft, hL, hC3, hs1, hu1, hw1, hw2⟩ := id CT
  refine SpI.of pnX11 (Nat.le_of_ble_eq_true rfl) rfl ?_
  refine R_aload_n dX11_undo_0 rfl rfl ?_
  refine R_getf dX11_undo_1 gX11_36 C0 rfl ?_
  refine R_aload_n dX11_undo_4 rfl rfl ?_
  refine R_getf dX11_undo_5 gX11_10 C0 rfl ?_
  cases hs with
  | nil =>
    obtain ⟨y2, K1, -⟩ := id CH
    refine R_calli (As := [.ref 1]) (st := []) kX2_bringBack lX11_179 (h_back0 CH) rfl K1 dX11_undo_8 rfl rfl (Nat.le_of_ble_eq_true rfl) ⟨by decide, by decide⟩ zX2_bringBack ⟨Nat.le_refl _, Nat.le_refl _⟩ (fun wr5 wp4 wq3 => ?_)
    obtain ⟨rfl, rfl⟩ : wr5 = _ ∧ hp = wp4 := ⟨wq3.1, wq3.2.symm⟩
    refine N_if_eq (tgt := 24) dX11_undo_11 (by decide) (by decide) (fun _ => ?_) (fun hc => absurd hc (by decide))
    refine R_bipush (v := (-3)) dX11_undo_24 (by decide) ?_
    skip
    exact R_reti dX11_undo_26 rfl rfl rfl ⟨rfl, ⟨nx, C0, CT, ⟨_, C3⟩, CP, CM, CH, CS, ⟨_, CX⟩, ⟨_, CY⟩, CG, CO, CF, CR⟩, (Fr.rf (L := LC) (hp := hp))⟩
  | cons T hs =>
    obtain ⟨y7, K6, -⟩ := id CH
    refine R_calli (As := [.ref 1]) (st := []) kX2_bringBack lX11_179 (h_back CT CH) rfl K6 dX11_undo_8 rfl rfl (Nat.le_of_ble_eq_true rfl) ⟨by decide, by decide⟩ zX2_bringBack ⟨Nat.le_refl _, Nat.le_refl _⟩ (fun wr10 wp9 wq8 => ?_)
    obtain ⟨rfl, hq1, hq2, hq3⟩ := wq8
    have c11 := hq3.at (by decide) C0
    have c12 := C3.fr hq3 (by decide) (by decide)
    have c13 := CP.fr hq3 (by decide) (by decide) (by decide)
    have c14 := CM.fr hq3 (by decide) (by decide)
    have c15 := CS.fr hq3 (by decide)
    have c16 := CX.fr hq3 (by decide) (by decide) (by decide)
    have c17 := CY.fr hq3 (by decide) (by decide) (by decide)
    have c18 := CG.fr hq3 (by decide) (by decide)
    have c19 := CO.fr hq3 (by decide) (by decide) (by decide)
    have c20 := CF.fr hq3 (by decide)
    have c21 := CR.fr hq3 (by decide) (by decide)
    have FF22 : Fr LC hp wp9 := (Fr.rf (L := LC) (hp := hp)).trans (hq3.mono (by decide))
    refine N_if_eq (tgt := 24) dX11_undo_11 (by decide) (by decide) (fun hc => absurd hc (by decide)) (fun _ => ?_)
    refine R_aload_n dX11_undo_14 rfl rfl ?_
    refine R_getf dX11_undo_15 gX11_36 c11 rfl ?_
    obtain ⟨y24, K23, -⟩ := id hq2
    refine R_getf dX11_undo_18 gX11_183 K23 rfl ?_
    refine R_goto (tgt := 26) dX11_undo_21 (by decide) ?_
    skip
    exact R_reti dX11_undo_26 rfl rfl rfl ⟨rfl, ⟨_, c11, hq1, ⟨_, c12⟩, c13, c14, hq2, c15, ⟨_, c16⟩, ⟨_, c17⟩, c18, c19, c20, c21⟩, FF22⟩
set_option maxRecDepth 100000 in
set_option maxHeartbeats 4000000 in
theorem x_page {cs : List Nat} {sc un wd : Nat} {tx : List Nat} (C0 : hp[0]? = some (ob 10 [.ref 1, .ref 3, .ref 5, .ref 8, .ref 10, .ref 40, .ref 47, .ref 50, .ref 53, .ref 55, .ref 58, .ref 59])) (CT : TpAt hp 1 2 (cs, sc, un, wd)) (CX : TxAt hp 47 48 49 tx) (CG : PgX hp) : SpV l X mX11_printPage [.ref 0] hp (fun hp' => PgAt hp' wd (pgL wd (txt un sc cs)) ∧ TxAt hp' 47 48 49 (txt un sc cs) ∧ Fr [47, 48, 53, 54] hp hp') := by
  obtain ⟨ft, KT, KT2, hft, hL, hC3, hs1, hu1, hw1, hw2⟩ := id CT
  obtain ⟨fx, gx, K47, -⟩ := id CX
  refine SpV.of pnX11 (Nat.le_of_ble_eq_true rfl) rfl ?_
  refine R_aload_n dX11_printPage_0 rfl rfl ?_
  refine R_getf dX11_printPage_1 gX11_50 C0 rfl ?_
  refine R_aload_n dX11_printPage_4 rfl rfl ?_
  refine R_getf dX11_printPage_5 gX11_10 C0 rfl ?_
  refine R_callv (As := [.ref 1]) (st := []) kX10_read lX11_112 (x_read CX CT (by decide) (by decide) (by decide) (by decide)) rfl K47 dX11_printPage_8 rfl rfl (Nat.le_of_ble_eq_true rfl) ⟨by decide, by decide⟩ zX10_read ⟨Nat.le_refl _, Nat.le_refl _⟩ (fun wp2 wq1 => ?_)
  obtain ⟨hx1, hx2⟩ := wq1
  have c0 := hx2.at (by decide) C0
  have cg := CG.fr hx2 (by decide) (by decide)
  obtain ⟨ga, gb, gc, gd, K53, -⟩ := id cg
  have k1 := hx2.at (by decide) KT
  refine R_aload_n dX11_printPage_11 rfl rfl ?_
  refine R_getf dX11_printPage_12 gX11_60 c0 rfl ?_
  refine R_aload_n dX11_printPage_15 rfl rfl ?_
  refine R_getf dX11_printPage_16 gX11_50 c0 rfl ?_
  refine R_aload_n dX11_printPage_19 rfl rfl ?_
  refine R_getf dX11_printPage_20 gX11_10 c0 rfl ?_
  refine R_getf dX11_printPage_23 gX11_142 k1 rfl ?_
  refine R_callv (As := [.ref 47, .int (nI wd)]) (st := []) kX5_print lX11_254 (g_print hw1 hw2 cg hx1) rfl K53 dX11_printPage_26 rfl rfl (Nat.le_of_ble_eq_true rfl) ⟨by decide, by decide⟩ zX5_print ⟨Nat.le_refl _, Nat.le_refl _⟩ (fun wp5 wq4 => ?_)
  obtain ⟨hg1, hg2⟩ := wq4
  exact R_retv dX11_printPage_29 rfl rfl rfl ⟨hg1, hx1.fr hg2 (by decide) (by decide) (by decide), (hx2.mono (by decide)).trans (hg2.mono (by decide))⟩
set_option maxRecDepth 100000 in
set_option maxHeartbeats 4000000 in
theorem x_over {ms : List Nat} {cs : List Nat} {sc un wd : Nat} {hs : List TP} {s0 s1 : Option TP} {os : List (Nat × Nat)} {ox : Nat} (hC : CI hp (ms, (cs, sc, un, wd), hs, s0, s1, os, ox)) : SpI l X mX11_overstrikes [.ref 0] hp (fun r hp' => r = (f_over (ms, (cs, sc, un, wd), hs, s0, s1, os, ox)).1 ∧ CI hp' (f_over (ms, (cs, sc, un, wd), hs, s0, s1, os, ox)).2 ∧ Fr LC hp hp') := by
  obtain ⟨nx, C0, CT, ⟨⟨cs3, sc3, un3, wd3⟩, C3⟩, CP, CM, CH, CS, ⟨tx, CX⟩, ⟨ty, CY⟩, CG, CO, CF, CR⟩ := hC
  obtain ⟨ft, KT, KT2, hft, hL, hC3, hs1, hu1, hw1, hw2⟩ := id CT
  refine SpI.of pnX11 (Nat.le_of_ble_eq_true rfl) rfl ?_
  refine R_aload_n dX11_overstrikes_0 rfl rfl ?_
  refine R_callv (As := []) (st := []) kX11_printPage lX11_184 (x_page C0 CT CX CG) rfl C0 dX11_overstrikes_1 rfl rfl (Nat.le_of_ble_eq_true rfl) ⟨by decide, by decide⟩ zX11_printPage ⟨Nat.le_refl _, Nat.le_refl _⟩ (fun wp2 wq1 => ?_)
  obtain ⟨hg1, hg3, hg2⟩ := wq1
  have c4 := hg2.at (by decide) C0
  have c5 := CT.fr hg2 (by decide) (by decide)
  have c6 := C3.fr hg2 (by decide) (by decide)
  have c7 := CP.fr hg2 (by decide) (by decide) (by decide)
  have c8 := CM.fr hg2 (by decide) (by decide)
  have c9 := CH.fr hg2 (by decide) (by decide)
  have c10 := CS.fr hg2 (by decide)
  have c11 := CY.fr hg2 (by decide) (by decide) (by decide)
  have c12 := CO.fr hg2 (by decide) (by decide) (by decide)
  have c13 := CF.fr hg2 (by decide)
  have c14 := CR.fr hg2 (by decide) (by decide)
  have FF15 : Fr LC hp wp2 := (Fr.rf (L := LC) (hp := hp)).trans (hg2.mono (by decide))
  obtain ⟨pp, pr, pco, pk, hpe⟩ : ∃ p r co k, pgL wd (txt un sc cs) = (p, r, co, k) := ⟨_, _, _, _, rfl⟩
  have hg4 := hg1
  rw [hpe] at hg4
  obtain ⟨fg, K53, -⟩ := id hg4
  refine R_aload_n dX11_overstrikes_4 rfl rfl ?_
  refine R_getf dX11_overstrikes_5 gX11_60 c4 rfl ?_
  refine R_getf dX11_overstrikes_8 gX11_190 K53 rfl ?_
  have hf : f_over (ms, (cs, sc, un, wd), hs, s0, s1, os, ox) = (nI pk, (ms, (cs, sc, un, wd), hs, s0, s1, os, ox)) := by unfold f_over; dsimp only; rw [hpe]
  rw [hf]
  exact R_reti dX11_overstrikes_11 rfl rfl rfl ⟨rfl, ⟨nx, c4, c5, ⟨_, c6⟩, c7, c8, c9, c10, ⟨_, hg3⟩, ⟨_, c11⟩, hg1.x, c12, c13, c14⟩, FF15⟩
set_option maxRecDepth 100000 in
set_option maxHeartbeats 4000000 in
theorem x_cell {ms : List Nat} {cs : List Nat} {sc un wd : Nat} {hs : List TP} {s0 s1 : Option TP} {os : List (Nat × Nat)} {ox : Nat} {i j : Int32} (hC : CI hp (ms, (cs, sc, un, wd), hs, s0, s1, os, ox)) : SpI l X mX11_cell [.ref 0, .int (i), .int (j)] hp (fun r hp' => r = (f_cell (ms, (cs, sc, un, wd), hs, s0, s1, os, ox) i j).1 ∧ CI hp' (f_cell (ms, (cs, sc, un, wd), hs, s0, s1, os, ox) i j).2 ∧ Fr LC hp hp') := by
  obtain ⟨nx, C0, CT, ⟨⟨cs3, sc3, un3, wd3⟩, C3⟩, CP, CM, CH, CS, ⟨tx, CX⟩, ⟨ty, CY⟩, CG, CO, CF, CR⟩ := hC
  obtain ⟨ft, KT, KT2, hft, hL, hC3, hs1, hu1, hw1, hw2⟩ := id CT
  refine SpI.of pnX11 (Nat.le_of_ble_eq_true rfl) rfl ?_
  refine R_iload_n dX11_cell_0 rfl rfl ?_
  refine R_iconst (v := (nI 0)) dX11_cell_1 (by decide) ?_
  refine R_bipush (v := (nI 7)) dX11_cell_2 (by decide) ?_
  refine R_stati (As := [.int (i), .int (nI 0), .int (nI 7)]) (st := []) kX11_isWithin lX11_85 (x_within (by decide) (by decide)) dX11_cell_4 rfl rfl (Nat.le_of_ble_eq_true rfl) ⟨by decide, by decide⟩ zX11_isWithin ⟨Nat.le_refl _, Nat.le_refl _⟩ (fun wr3 wp2 wq1 => ?_)
  obtain ⟨rfl, rfl⟩ : wr3 = _ ∧ hp = wp2 := ⟨wq1.1, wq1.2.symm⟩
  cases hw4 : inW i 0 7 with
  | false =>
    show PZ _ _ _ _ _ _ (.int (nI 0) :: _) _ _ _
    refine N_if_eq (tgt := 27) dX11_cell_7 (by decide) (by decide) (fun _ => ?_) (fun hc => absurd hc (by decide))
    have hf : f_cell (ms, (cs, sc, un, wd), hs, s0, s1, os, ox) i j = (-1, (ms, (cs, sc, un, wd), hs, s0, s1, os, ox)) := by unfold f_cell; dsimp only; rw [hw4]; rfl
    refine R_iconst (v := (-1)) dX11_cell_27 (by decide) ?_
    rw [hf]
    exact R_reti dX11_cell_28 rfl rfl rfl ⟨rfl, ⟨nx, C0, CT, ⟨_, C3⟩, CP, CM, CH, CS, ⟨_, CX⟩, ⟨_, CY⟩, CG, CO, CF, CR⟩, (Fr.rf (L := LC) (hp := hp))⟩
  | true =>
    show PZ _ _ _ _ _ _ (.int (nI 1) :: _) _ _ _
    obtain ⟨r, -, hr, rfl⟩ := inW_t (by decide) hw4
    refine N_if_eq (tgt := 27) dX11_cell_7 (by decide) (by decide) (fun hc => absurd hc (by decide)) (fun _ => ?_)
    refine R_iload_n dX11_cell_10 rfl rfl ?_
    refine R_iconst (v := (nI 0)) dX11_cell_11 (by decide) ?_
    refine R_aload_n dX11_cell_12 rfl rfl ?_
    refine R_getf dX11_cell_13 gX11_10 C0 rfl ?_
    obtain ⟨y6, K5, -⟩ := id CT
    refine R_getf dX11_cell_16 gX11_142 K5 rfl ?_
    refine R_iconst (v := (nI 1)) dX11_cell_19 (by decide) ?_
    refine N_isub dX11_cell_20 (by omega) ?_
    refine R_stati (As := [.int (j), .int (nI 0), .int (nI (wd - 1))]) (st := []) kX11_isWithin lX11_85 (x_within (by decide) (by omega)) dX11_cell_21 rfl rfl (Nat.le_of_ble_eq_true rfl) ⟨by decide, by decide⟩ zX11_isWithin ⟨Nat.le_refl _, Nat.le_refl _⟩ (fun wr9 wp8 wq7 => ?_)
    obtain ⟨rfl, rfl⟩ : wr9 = _ ∧ hp = wp8 := ⟨wq7.1, wq7.2.symm⟩
    cases hw10 : inW j 0 (wd - 1) with
    | false =>
      show PZ _ _ _ _ _ _ (.int (nI 0) :: _) _ _ _
      refine N_if_ne (tgt := 29) dX11_cell_24 (by decide) (by decide) (fun hc => absurd hc (by decide)) (fun _ => ?_)
      have hf : f_cell (ms, (cs, sc, un, wd), hs, s0, s1, os, ox) (nI r) j = (-1, (ms, (cs, sc, un, wd), hs, s0, s1, os, ox)) := by unfold f_cell; dsimp only; rw [hw4, hw10]; rfl
      refine R_iconst (v := (-1)) dX11_cell_27 (by decide) ?_
      rw [hf]
      exact R_reti dX11_cell_28 rfl rfl rfl ⟨rfl, ⟨nx, C0, CT, ⟨_, C3⟩, CP, CM, CH, CS, ⟨_, CX⟩, ⟨_, CY⟩, CG, CO, CF, CR⟩, (Fr.rf (L := LC) (hp := hp))⟩
    | true =>
      show PZ _ _ _ _ _ _ (.int (nI 1) :: _) _ _ _
      obtain ⟨q, -, hq, rfl⟩ := inW_t (by omega) hw10
      refine N_if_ne (tgt := 29) dX11_cell_24 (by decide) (by decide) (fun _ => ?_) (fun hc => absurd hc (by decide))
      refine R_aload_n dX11_cell_29 rfl rfl ?_
      refine R_callv (As := []) (st := []) kX11_printPage lX11_184 (x_page C0 CT CX CG) rfl C0 dX11_cell_30 rfl rfl (Nat.le_of_ble_eq_true rfl) ⟨by decide, by decide⟩ zX11_printPage ⟨Nat.le_refl _, Nat.le_refl _⟩ (fun wp12 wq11 => ?_)
      obtain ⟨hg1, hg3, hg2⟩ := wq11
      have c14 := hg2.at (by decide) C0
      have c15 := CT.fr hg2 (by decide) (by decide)
      have c16 := C3.fr hg2 (by decide) (by decide)
      have c17 := CP.fr hg2 (by decide) (by decide) (by decide)
      have c18 := CM.fr hg2 (by decide) (by decide)
      have c19 := CH.fr hg2 (by decide) (by decide)
      have c20 := CS.fr hg2 (by decide)
      have c21 := CY.fr hg2 (by decide) (by decide) (by decide)
      have c22 := CO.fr hg2 (by decide) (by decide) (by decide)
      have c23 := CF.fr hg2 (by decide)
      have c24 := CR.fr hg2 (by decide) (by decide)
      have FF25 : Fr LC hp wp12 := (Fr.rf (L := LC) (hp := hp)).trans (hg2.mono (by decide))
      obtain ⟨pp, pr, pco, pk, hpe⟩ : ∃ p r co k, pgL wd (txt un sc cs) = (p, r, co, k) := ⟨_, _, _, _, rfl⟩
      have hg4 := hg1
      rw [hpe] at hg4
      refine R_aload_n dX11_cell_33 rfl rfl ?_
      refine R_getf dX11_cell_34 gX11_60 c14 rfl ?_
      refine R_iload_n dX11_cell_37 rfl rfl ?_
      refine R_iload_n dX11_cell_38 rfl rfl ?_
      obtain ⟨y27a, y27b, y27c, y27d, K26, -⟩ := id hg1.x
      refine R_calli (As := [.int (nI r), .int (nI q)]) (st := []) kX5_at lX11_187 (g_at (i := r) (j := q) (by omega) (by omega) hg4) rfl K26 dX11_cell_39 rfl rfl (Nat.le_of_ble_eq_true rfl) ⟨by decide, by decide⟩ zX5_at ⟨Nat.le_refl _, Nat.le_refl _⟩ (fun wr30 wp29 wq28 => ?_)
      obtain ⟨rfl, rfl⟩ : wr30 = _ ∧ wp12 = wp29 := ⟨wq28.1, wq28.2.symm⟩
      have hf : f_cell (ms, (cs, sc, un, wd), hs, s0, s1, os, ox) (nI r) (nI q) = (nI (pp (r * 40 + q)), (ms, (cs, sc, un, wd), hs, s0, s1, os, ox)) := by unfold f_cell; dsimp only; rw [hw4, hw10, hpe, vN_n (by omega), vN_n (by omega)]; rfl
      rw [hf]
      exact R_reti dX11_cell_42 rfl rfl rfl ⟨rfl, ⟨nx, c14, c15, ⟨_, c16⟩, c17, c18, c19, c20, ⟨_, hg3⟩, ⟨_, c21⟩, hg1.x, c22, c23, c24⟩, FF25⟩
end X25
