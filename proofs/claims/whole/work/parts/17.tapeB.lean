/-! The class Tape: writes, damage, differences, compacting, noise -/
def rdn (un sc : Nat) (cs : List Nat) (j : Nat) : Bool := decide (j < cs.length ∧ 29 ≤ cs.getD j 0 ∧ lossD un sc cs j = 0)
def cmpN (un sc : Nat) : Nat → List Nat → Nat → List Nat
  | 0, cs, _ => cs
  | n + 1, cs, i => if rdn un sc cs i = true then cmpN un sc n (cs.eraseIdx i) i else cmpN un sc n cs (i + 1)
theorem cmpN_len (un sc : Nat) : ∀ (n : Nat) (cs : List Nat) (i : Nat), (cmpN un sc n cs i).length ≤ cs.length
  | 0, _, _ => Nat.le_refl _
  | n + 1, cs, i => by
    simp only [cmpN]
    split
    · have := cmpN_len un sc n (cs.eraseIdx i) i
      have := List.length_eraseIdx_le cs i
      omega
    · exact cmpN_len un sc n cs (i + 1)
def nzA (x : Int64) : Int64 := x * 6364136223846793005 + 1442695040888963407
def nzW (x : Int64) : Nat := x.toUInt64.toNat / 2 ^ 33
theorem nzW_lt (x : Int64) : nzW x < 2 ^ 31 := by
  unfold nzW
  have := x.toUInt64.toNat_lt
  omega
theorem nzW_I (x : Int64) : ((x.toUInt64 >>> ((nI 33).toInt64.toUInt64 &&& Int64.toUInt64 63)).toInt64).toInt32 = nI (nzW x) := by
  have e1 : ((nI 33).toInt64.toUInt64 &&& Int64.toUInt64 63) = 33 := by decide +kernel
  rw [e1]
  have e2 : (x.toUInt64 >>> 33).toNat = nzW x := by
    unfold nzW
    rw [UInt64.toNat_shiftRight]
    show x.toUInt64.toNat >>> (33 % 64) = _
    rw [Nat.shiftRight_eq_div_pow]
  have h3 := nzW_lt x
  generalize x.toUInt64 >>> 33 = y at e2
  generalize nzW x = w at e2 h3
  have : y = UInt64.ofNat w := by rw [← e2, UInt64.ofNat_toNat]
  subst this
  have e4 : (UInt64.ofNat w).toInt64 = lN w := rfl
  rw [e4, lN_i]
def noi : Nat → Int64 → List Nat → List Nat
  | 0, _, cs => cs
  | m + 1, x, cs => noi m (nzA x) (cs.set (nzW (nzA x) % cs.length) (cs.getD (nzW (nzA x) % cs.length) 0 ^^^ 2 ^ (nzW (nzA x) / 96 % 5)))
theorem noi_len : ∀ (m : Nat) (x : Int64) (cs : List Nat), (noi m x cs).length = cs.length
  | 0, _, _ => rfl
  | m + 1, x, cs => by simp only [noi]; rw [noi_len m, List.length_set]
section T17
variable {l : Launch} {X : EX} {hp : HPt} {h a : Nat} {cs : List Nat} {sc un wd : Nat}
set_option maxRecDepth 100000 in
set_option maxHeartbeats 4000000 in
theorem t_add {c : Nat} (hc : c < 32) (hlt : cs.length < 96) (hT : TpAt hp h a (cs, sc, un, wd)) : SpI l X mX9_add [.ref h, .int (nI c)] hp (fun r hp' => r = nI 1 ∧ TpAt hp' h a (cs ++ [c], sc, un, wd) ∧ Fr [h, a] hp hp') := by
  obtain ⟨f, Hh, Ha, hf, hL, hC, hs, hu, hw1, hw2⟩ := hT
  refine SpI.of pnX9 (Nat.le_of_ble_eq_true rfl) rfl ?_
  refine R_aload_n dX9_add_0 rfl rfl ?_
  refine R_getf dX9_add_1 gX9_15 Hh rfl ?_
  refine R_bipush (v := (nI 96)) dX9_add_4 (by decide) ?_
  refine N_icmp_lt (tgt := 11) dX9_add_6 (by decide) (by omega) (by omega) (fun _ => ?_) (fun hc => absurd hc (by omega))
  refine R_aload_n dX9_add_11 rfl rfl ?_
  refine R_getf dX9_add_12 gX9_9 Hh rfl ?_
  refine R_aload_n dX9_add_15 rfl rfl ?_
  refine R_getf dX9_add_16 gX9_15 Hh rfl ?_
  refine R_iload_n dX9_add_19 rfl rfl ?_
  obtain ⟨wf1, ewf1⟩ : ∃ y, y = upd f (cs.length) (nI c) := ⟨_, rfl⟩
  refine W_iast (f' := wf1) dX9_add_20 Ha (by omega) (by decide) ewf1 (fun wp2 wH3 wE4 => ?_)
  have wH5 := (wE4 h (kd_ne Ha Hh).symm).trans Hh
  have wF6 : Fr [h, a] hp wp2 := Fr.one wE4 (by simp)
  refine R_aload_n dX9_add_21 rfl rfl ?_
  refine R_dup dX9_add_22 rfl ?_
  refine R_getf dX9_add_23 gX9_15 wH5 rfl ?_
  refine R_iconst (v := (nI 1)) dX9_add_26 (by decide) ?_
  refine N_iadd dX9_add_27 ?_
  refine W_puti (fs' := [.ref a, .int (nI ((cs.length) + 1)), .int (nI sc), .int (nI un), .int (nI wd)]) dX9_add_28 pX9_15 wH5 (Nat.le_of_ble_eq_true rfl) rfl (fun wp7 wH8 wE9 => ?_)
  have wH10 := (wE9 a (kd_ne wH3 wH5)).trans wH3
  have wF11 : Fr [h, a] hp wp7 := wF6.trans (Fr.one wE9 (by simp))
  refine R_iconst (v := (nI 1)) dX9_add_31 (by decide) ?_
  have hn : (cs ++ [c]).length = cs.length + 1 := by simp
  refine R_retz dX9_add_32 rfl rfl rfl rfl ⟨rfl, ⟨wf1, by rw [hn]; exact wH8, wH10, fun i hi => ?_, by omega, fun x hx => ?_, hs, hu, hw1, hw2⟩, wF11⟩
  · rw [ewf1]
    by_cases hic : i = cs.length
    · subst hic; rw [upd_s]; simp
    · rw [upd_n hic, hf i (by omega), List.getElem_append_left (by omega)]
  · rcases List.mem_append.mp hx with q | q
    · exact hC x q
    · simp at q; omega
set_option maxRecDepth 100000 in
set_option maxHeartbeats 4000000 in
theorem t_addF {c : Nat} (hge : 96 ≤ cs.length) (hT : TpAt hp h a (cs, sc, un, wd)) : SpI l X mX9_add [.ref h, .int (nI c)] hp (fun r hp' => r = nI 0 ∧ hp' = hp) := by
  obtain ⟨f, Hh, Ha, hf, hL, hC, hs, hu, hw1, hw2⟩ := hT
  refine SpI.of pnX9 (Nat.le_of_ble_eq_true rfl) rfl ?_
  refine R_aload_n dX9_add_0 rfl rfl ?_
  refine R_getf dX9_add_1 gX9_15 Hh rfl ?_
  refine R_bipush (v := (nI 96)) dX9_add_4 (by decide) ?_
  refine N_icmp_lt (tgt := 11) dX9_add_6 (by decide) (by omega) (by omega) (fun hc => absurd hc (by omega)) (fun _ => ?_)
  refine R_iconst (v := (nI 0)) dX9_add_9 (by decide) ?_
  exact R_retz dX9_add_10 rfl rfl rfl rfl ⟨rfl, rfl⟩
set_option maxRecDepth 100000 in
set_option maxHeartbeats 4000000 in
theorem t_takeOut {j : Nat} (hj : j < cs.length) (hT : TpAt hp h a (cs, sc, un, wd)) : SpI l X mX9_takeOut [.ref h, .int (nI j)] hp (fun r hp' => r = nI cs[j] ∧ TpAt hp' h a (cs.eraseIdx j, sc, un, wd) ∧ Fr [h, a] hp hp') := by
  have hT0 := hT
  obtain ⟨f, Hh, Ha, hf, hL, hC, hs, hu, hw1, hw2⟩ := hT
  refine SpI.of pnX9 (Nat.le_of_ble_eq_true rfl) rfl ?_
  refine R_aload_n dX9_takeOut_0 rfl rfl ?_
  refine R_iload_n dX9_takeOut_1 rfl rfl ?_
  refine R_calli (As := [.int (nI j)]) (st := []) kX9_has lX9_38 (t_has hT0) rfl Hh dX9_takeOut_2 rfl rfl (Nat.le_of_ble_eq_true rfl) ⟨by decide, by decide⟩ zX9_has ⟨Nat.le_refl _, Nat.le_refl _⟩ (fun wr3 wp2 wq1 => ?_)
  obtain ⟨rfl, rfl⟩ : wr3 = _ ∧ hp = wp2 := ⟨wq1.1, wq1.2.symm⟩
  rw [inB_n (by omega), decide_eq_true hj]
  show PZ _ _ _ _ _ _ [.int (nI 1)] _ _ _
  refine N_if_ne (tgt := 10) dX9_takeOut_5 (by decide) (by omega) (fun _ => ?_) (fun hc => absurd hc (by decide))
  refine R_aload_n dX9_takeOut_10 rfl rfl ?_
  refine R_getf dX9_takeOut_11 gX9_9 Hh rfl ?_
  refine R_iload_n dX9_takeOut_14 rfl rfl ?_
  refine N_iald (y := (nI (cs[j]))) dX9_takeOut_15 Ha (by omega) (by decide) (hf j hj) ?_
  refine R_istore_n (lv' := [some (.ref h), some (.int (nI j)), some (.int (nI (cs[j])))]) dX9_takeOut_16 rfl (by decide) rfl ?_
  refine R_aload_n dX9_takeOut_17 rfl rfl ?_
  refine R_getf dX9_takeOut_18 gX9_9 Hh rfl ?_
  refine R_iload_n dX9_takeOut_21 rfl rfl ?_
  refine R_iconst (v := (nI 1)) dX9_takeOut_22 (by decide) ?_
  refine N_iadd dX9_takeOut_23 ?_
  refine R_aload_n dX9_takeOut_24 rfl rfl ?_
  refine R_getf dX9_takeOut_25 gX9_9 Hh rfl ?_
  refine R_iload_n dX9_takeOut_28 rfl rfl ?_
  refine R_aload_n dX9_takeOut_29 rfl rfl ?_
  refine R_getf dX9_takeOut_30 gX9_15 Hh rfl ?_
  refine R_iload_n dX9_takeOut_33 rfl rfl ?_
  refine N_isub dX9_takeOut_34 (by omega) ?_
  refine R_iconst (v := (nI 1)) dX9_takeOut_35 (by decide) ?_
  refine N_isub dX9_takeOut_36 (by omega) ?_
  obtain ⟨g, eg⟩ : ∃ y, y = va_cpy f f (j + 1) j (((cs.length) - j) - 1) := ⟨_, rfl⟩
  refine W_copy dX9_takeOut_37 lX9_28 Ha Ha (by decide) (by decide) (by omega) (by omega) (by decide) (by decide) eg (fun wp4 wH5 wE6 => ?_)
  have wH7 := (wE6 h (kd_ne Ha Hh).symm).trans Hh
  have wF8 : Fr [h, a] hp wp4 := Fr.one wE6 (by simp)
  refine R_aload_n dX9_takeOut_40 rfl rfl ?_
  refine R_dup dX9_takeOut_41 rfl ?_
  refine R_getf dX9_takeOut_42 gX9_15 wH7 rfl ?_
  refine R_iconst (v := (nI 1)) dX9_takeOut_45 (by decide) ?_
  refine N_isub dX9_takeOut_46 (by omega) ?_
  refine W_puti (fs' := [.ref a, .int (nI ((cs.length) - 1)), .int (nI sc), .int (nI un), .int (nI wd)]) dX9_takeOut_47 pX9_15 wH7 (Nat.le_of_ble_eq_true rfl) rfl (fun wp9 wH10 wE11 => ?_)
  have wH12 := (wE11 a (kd_ne wH5 wH7)).trans wH5
  have wF13 : Fr [h, a] hp wp9 := wF8.trans (Fr.one wE11 (by simp))
  refine R_iload_n dX9_takeOut_50 rfl rfl ?_
  have hn : (cs.eraseIdx j).length = cs.length - 1 := List.length_eraseIdx_of_lt hj
  refine R_reti dX9_takeOut_51 rfl rfl rfl ⟨rfl, ⟨g, by rw [hn]; exact wH10, wH12, fun i hi => ?_, by omega, fun x hx => hC x (List.mem_of_mem_eraseIdx hx), hs, hu, hw1, hw2⟩, wF13⟩
  rw [eg, List.getElem_eraseIdx]
  by_cases hij : i < j
  · rw [pk_cpy_out (by omega), hf i (by omega), dif_pos hij]
  · rw [pk_cpy_in (by omega) (by omega), dif_neg hij, hf _ (by omega)]
    congr 2; omega
set_option maxRecDepth 100000 in
set_option maxHeartbeats 4000000 in
theorem t_takeOutN {j : Nat} (hj : cs.length ≤ j) (hb : j < 2 ^ 31) (hT : TpAt hp h a (cs, sc, un, wd)) : SpI l X mX9_takeOut [.ref h, .int (nI j)] hp (fun r hp' => r = -1 ∧ hp' = hp) := by
  have hT0 := hT
  obtain ⟨f, Hh, Ha, hf, hL, hC, hs, hu, hw1, hw2⟩ := hT
  refine SpI.of pnX9 (Nat.le_of_ble_eq_true rfl) rfl ?_
  refine R_aload_n dX9_takeOut_0 rfl rfl ?_
  refine R_iload_n dX9_takeOut_1 rfl rfl ?_
  refine R_calli (As := [.int (nI j)]) (st := []) kX9_has lX9_38 (t_has hT0) rfl Hh dX9_takeOut_2 rfl rfl (Nat.le_of_ble_eq_true rfl) ⟨by decide, by decide⟩ zX9_has ⟨Nat.le_refl _, Nat.le_refl _⟩ (fun wr3 wp2 wq1 => ?_)
  obtain ⟨rfl, rfl⟩ : wr3 = _ ∧ hp = wp2 := ⟨wq1.1, wq1.2.symm⟩
  rw [inB_n (by omega), decide_eq_false (by omega)]
  show PZ _ _ _ _ _ _ [.int (nI 0)] _ _ _
  refine N_if_ne (tgt := 10) dX9_takeOut_5 (by decide) (by omega) (fun hc => absurd hc (by decide)) (fun _ => ?_)
  refine R_iconst (v := (-1)) dX9_takeOut_8 (by decide) ?_
  exact R_reti dX9_takeOut_9 rfl rfl rfl ⟨rfl, rfl⟩
set_option maxRecDepth 100000 in
set_option maxHeartbeats 4000000 in
theorem t_turnBit {j b : Nat} (hj : j < cs.length) (hb : b < 5) (hT : TpAt hp h a (cs, sc, un, wd)) : SpV l X mX9_turnBit [.ref h, .int (nI j), .int (nI b)] hp (fun hp' => TpAt hp' h a (cs.set j (cs[j] ^^^ 2 ^ b), sc, un, wd) ∧ Fr [h, a] hp hp') := by
  have hT0 := hT
  obtain ⟨f, Hh, Ha, hf, hL, hC, hs, hu, hw1, hw2⟩ := hT
  refine SpV.of pnX9 (Nat.le_of_ble_eq_true rfl) rfl ?_
  refine R_aload_n dX9_turnBit_0 rfl rfl ?_
  refine R_iload_n dX9_turnBit_1 rfl rfl ?_
  refine R_calli (As := [.int (nI j)]) (st := []) kX9_has lX9_38 (t_has hT0) rfl Hh dX9_turnBit_2 rfl rfl (Nat.le_of_ble_eq_true rfl) ⟨by decide, by decide⟩ zX9_has ⟨Nat.le_refl _, Nat.le_refl _⟩ (fun wr3 wp2 wq1 => ?_)
  obtain ⟨rfl, rfl⟩ : wr3 = _ ∧ hp = wp2 := ⟨wq1.1, wq1.2.symm⟩
  rw [inB_n (by omega), decide_eq_true hj]
  show PZ _ _ _ _ _ _ [.int (nI 1)] _ _ _
  refine N_if_eq (tgt := 20) dX9_turnBit_5 (by decide) (by omega) (fun hc => absurd hc (by decide)) (fun _ => ?_)
  refine R_aload_n dX9_turnBit_8 rfl rfl ?_
  refine R_getf dX9_turnBit_9 gX9_9 Hh rfl ?_
  refine R_iload_n dX9_turnBit_12 rfl rfl ?_
  refine R_dup2 dX9_turnBit_13 rfl rfl ?_
  refine N_iald (y := (nI (cs[j]))) dX9_turnBit_14 Ha (by omega) (by decide) (hf j hj) ?_
  refine R_iconst (v := (nI 1)) dX9_turnBit_15 (by decide) ?_
  refine R_iload_n dX9_turnBit_16 rfl rfl ?_
  refine R_ishl dX9_turnBit_17 ?_
  refine R_ixor dX9_turnBit_18 ?_
  rw [xor_I _ (hC _ (List.getElem_mem hj)) b hb]
  obtain ⟨wf4, ewf4⟩ : ∃ y, y = upd f j (nI (cs[j] ^^^ 2 ^ b)) := ⟨_, rfl⟩
  refine W_iast (f' := wf4) dX9_turnBit_19 Ha (by omega) (by decide) ewf4 (fun wp5 wH6 wE7 => ?_)
  have wH8 := (wE7 h (kd_ne Ha Hh).symm).trans Hh
  have wF9 : Fr [h, a] hp wp5 := Fr.one wE7 (by simp)
  refine R_retv dX9_turnBit_20 rfl rfl rfl ⟨⟨wf4, by rw [List.length_set]; exact wH8, wH6, fun i hi => ?_, by rw [List.length_set]; exact hL, fun x hx => ?_, hs, hu, hw1, hw2⟩, wF9⟩
  · rw [ewf4, List.getElem_set]
    by_cases hij : j = i
    · subst hij; rw [upd_s, if_pos rfl]
    · rw [upd_n (Ne.symm hij), if_neg hij, hf i (by rw [List.length_set] at hi; exact hi)]
  · rcases List.mem_or_eq_of_mem_set hx with q | q
    · exact hC x q
    · rw [q]; exact xor_lt (hC _ (List.getElem_mem hj)) hb
set_option maxRecDepth 100000 in
set_option maxHeartbeats 4000000 in
theorem t_takeSettings {g b : Nat} {ds : List Nat} {sc2 un2 wd2 : Nat} (hT : TpAt hp h a (cs, sc, un, wd)) (hG : TpAt hp g b (ds, sc2, un2, wd2)) (hgh : g ≠ h) (hba : b ≠ a) : SpV l X mX9_takeSettings [.ref h, .ref g] hp (fun hp' => TpAt hp' h a (cs, sc2, un2, wd2) ∧ Fr [h, a] hp hp') := by
  obtain ⟨f, Hh, Ha, hf, hL, hC, hs, hu, hw1, hw2⟩ := hT
  obtain ⟨f2, Hg, Hb, hf2, gL, gC, gs, gu, gw1, gw2⟩ := hG
  refine SpV.of pnX9 (Nat.le_of_ble_eq_true rfl) rfl ?_
  refine R_aload_n dX9_takeSettings_0 rfl rfl ?_
  refine R_aload_n dX9_takeSettings_1 rfl rfl ?_
  refine R_getf dX9_takeSettings_2 gX9_19 Hg rfl ?_
  refine W_puti (fs' := [.ref a, .int (nI (cs.length)), .int (nI sc2), .int (nI un), .int (nI wd)]) dX9_takeSettings_5 pX9_19 Hh (Nat.le_of_ble_eq_true rfl) rfl (fun wp1 wH2 wE3 => ?_)
  have wH4 := (wE3 a (kd_ne Ha Hh)).trans Ha
  have wH5 := (wE3 g (by omega)).trans Hg
  have wH6 := (wE3 b (kd_ne Hb Hh)).trans Hb
  have wF7 : Fr [h, a] hp wp1 := Fr.one wE3 (by simp)
  refine R_aload_n dX9_takeSettings_8 rfl rfl ?_
  refine R_aload_n dX9_takeSettings_9 rfl rfl ?_
  refine R_getf dX9_takeSettings_10 gX9_22 wH5 rfl ?_
  refine W_puti (fs' := [.ref a, .int (nI (cs.length)), .int (nI sc2), .int (nI un2), .int (nI wd)]) dX9_takeSettings_13 pX9_22 wH2 (Nat.le_of_ble_eq_true rfl) rfl (fun wp8 wH9 wE10 => ?_)
  have wH11 := (wE10 a (kd_ne wH4 wH2)).trans wH4
  have wH12 := (wE10 g (by omega)).trans wH5
  have wH13 := (wE10 b (kd_ne wH6 wH2)).trans wH6
  have wF14 : Fr [h, a] hp wp8 := wF7.trans (Fr.one wE10 (by simp))
  refine R_aload_n dX9_takeSettings_16 rfl rfl ?_
  refine R_aload_n dX9_takeSettings_17 rfl rfl ?_
  refine R_getf dX9_takeSettings_18 gX9_25 wH12 rfl ?_
  refine W_puti (fs' := [.ref a, .int (nI (cs.length)), .int (nI sc2), .int (nI un2), .int (nI wd2)]) dX9_takeSettings_21 pX9_25 wH9 (Nat.le_of_ble_eq_true rfl) rfl (fun wp15 wH16 wE17 => ?_)
  have wH18 := (wE17 a (kd_ne wH11 wH9)).trans wH11
  have wH19 := (wE17 g (by omega)).trans wH12
  have wH20 := (wE17 b (kd_ne wH13 wH9)).trans wH13
  have wF21 : Fr [h, a] hp wp15 := wF14.trans (Fr.one wE17 (by simp))
  exact R_retv dX9_takeSettings_24 rfl rfl rfl ⟨⟨f, wH16, wH18, hf, hL, hC, gs, gu, gw1, gw2⟩, wF21⟩
set_option maxRecDepth 100000 in
set_option maxHeartbeats 4000000 in
theorem t_become {g b : Nat} {ds : List Nat} {sc2 un2 wd2 : Nat} (hT : TpAt hp h a (cs, sc, un, wd)) (hG : TpAt hp g b (ds, sc2, un2, wd2)) (hgh : g ≠ h) (hba : b ≠ a) : SpV l X mX9_become [.ref h, .ref g] hp (fun hp' => TpAt hp' h a (ds, sc2, un2, wd2) ∧ Fr [h, a] hp hp') := by
  obtain ⟨f, Hh, Ha, hf, hL, hC, hs, hu, hw1, hw2⟩ := hT
  obtain ⟨f2, Hg, Hb, hf2, gL, gC, gs, gu, gw1, gw2⟩ := hG
  refine SpV.of pnX9 (Nat.le_of_ble_eq_true rfl) rfl ?_
  refine R_aload_n dX9_become_0 rfl rfl ?_
  refine R_getf dX9_become_1 gX9_9 Hg rfl ?_
  refine R_iconst (v := (nI 0)) dX9_become_4 (by decide) ?_
  refine R_aload_n dX9_become_5 rfl rfl ?_
  refine R_getf dX9_become_6 gX9_9 Hh rfl ?_
  refine R_iconst (v := (nI 0)) dX9_become_9 (by decide) ?_
  refine R_aload_n dX9_become_10 rfl rfl ?_
  refine R_getf dX9_become_11 gX9_15 Hg rfl ?_
  obtain ⟨g9, eg9⟩ : ∃ y, y = va_cpy f2 f 0 0 (ds.length) := ⟨_, rfl⟩
  refine W_copy dX9_become_14 lX9_28 Hb Ha (by decide) (by decide) (by omega) (by omega) (by decide) (by decide) eg9 (fun wp1 wH2 wE3 => ?_)
  have wH4 := (wE3 h (kd_ne Ha Hh).symm).trans Hh
  have wH5 := (wE3 g (kd_ne Ha Hg).symm).trans Hg
  have wH6 := (wE3 b (by omega)).trans Hb
  have wF7 : Fr [h, a] hp wp1 := Fr.one wE3 (by simp)
  refine R_aload_n dX9_become_17 rfl rfl ?_
  refine R_aload_n dX9_become_18 rfl rfl ?_
  refine R_getf dX9_become_19 gX9_15 wH5 rfl ?_
  refine W_puti (fs' := [.ref a, .int (nI (ds.length)), .int (nI sc), .int (nI un), .int (nI wd)]) dX9_become_22 pX9_15 wH4 (Nat.le_of_ble_eq_true rfl) rfl (fun wp8 wH9 wE10 => ?_)
  have wH11 := (wE10 a (kd_ne wH2 wH4)).trans wH2
  have wH12 := (wE10 g (by omega)).trans wH5
  have wH13 := (wE10 b (kd_ne wH6 wH4)).trans wH6
  have wF14 : Fr [h, a] hp wp8 := wF7.trans (Fr.one wE10 (by simp))
  refine R_aload_n dX9_become_25 rfl rfl ?_
  refine R_aload_n dX9_become_26 rfl rfl ?_
  have hg9 : ∀ (i : Nat) (hi : i < ds.length), g9 i = nI ds[i] := fun i hi => by
    rw [eg9, pk_cpy_in (by omega) (by omega)]
    rw [show 0 + (i - 0) = i by omega]; exact hf2 i hi
  refine R_callv (As := [.ref g]) (st := []) kX9_takeSettings lX9_34 (t_takeSettings (hp := wp8) (cs := ds) (sc := sc) (un := un) (wd := wd) ⟨g9, wH9, wH11, hg9, gL, gC, hs, hu, hw1, hw2⟩ ⟨f2, wH12, wH13, hf2, gL, gC, gs, gu, gw1, gw2⟩ hgh hba) rfl wH9 dX9_become_27 rfl rfl (Nat.le_of_ble_eq_true rfl) ⟨by decide, by decide⟩ zX9_takeSettings ⟨Nat.le_refl _, Nat.le_refl _⟩ (fun wp16 wq15 => ?_)
  obtain ⟨hq1, hq2⟩ := wq15
  exact R_retv dX9_become_30 rfl rfl rfl ⟨hq1, wF14.trans hq2⟩
set_option maxRecDepth 100000 in
set_option maxHeartbeats 4000000 in
theorem t_ldL {i R : Nat} (hT : TpAt hp h a (cs, sc, un, wd)) : ∀ (d j w p dm : Nat), j + d = cs.length → w ≤ 1 → p ≤ 1 → R = dm + lossC un w p (cs.drop j) → PZ l X (MZi X mX9_lossDamage (fun r hp' => r = nI R ∧ hp' = hp)) mX9_lossDamage 25 [some (.ref h), some (.int (nI i)), some (.int (nI p)), some (.int (nI w)), some (.int (nI dm)), some (.int (nI j))] [] hp 0 0 := by
  have hT0 := hT
  obtain ⟨f, Hh, Ha, hf, hL, hC, hs, hu, hw1, hw2⟩ := hT
  intro d
  induction d with
  | zero =>
    intro j w p dm hj hw hp1 hR
    refine R_iload dX9_lossDamage_25 rfl ?_
    refine R_aload_n dX9_lossDamage_27 rfl rfl ?_
    refine R_getf dX9_lossDamage_28 gX9_15 Hh rfl ?_
    refine N_icmp_ge (tgt := 87) dX9_lossDamage_31 (by decide) (by omega) (by omega) (fun _ => ?_) (fun hc => absurd hc (by omega))
    refine R_iload dX9_lossDamage_87 rfl ?_
    exact R_reti dX9_lossDamage_89 rfl rfl rfl ⟨by rw [hR, List.drop_eq_nil_of_le (by omega)]; rfl, rfl⟩
  | succ d ih =>
    intro j w p dm hj hw hp1 hR
    have h1 : j < cs.length := by omega
    have hc3 := hC _ (List.getElem_mem h1)
    rw [drop_c h1] at hR
    simp only [lossC] at hR
    refine R_iload dX9_lossDamage_25 rfl ?_
    refine R_aload_n dX9_lossDamage_27 rfl rfl ?_
    refine R_getf dX9_lossDamage_28 gX9_15 Hh rfl ?_
    refine N_icmp_ge (tgt := 87) dX9_lossDamage_31 (by decide) (by omega) (by omega) (fun hc => absurd hc (by omega)) (fun _ => ?_)
    refine R_iload_n dX9_lossDamage_34 rfl rfl ?_
    refine R_iload_n dX9_lossDamage_35 rfl rfl ?_
    refine N_icmp_eq (tgt := 87) dX9_lossDamage_36 (by decide) (by omega) (by omega) (fun he => ?_) (fun he => ?_)
    · subst he
      refine R_iload dX9_lossDamage_87 rfl ?_
      exact R_reti dX9_lossDamage_89 rfl rfl rfl ⟨by rw [hR, lossC_eq]; simp, rfl⟩
    · refine R_aload_n dX9_lossDamage_39 rfl rfl ?_
      refine R_getf dX9_lossDamage_40 gX9_9 Hh rfl ?_
      refine R_iload dX9_lossDamage_43 rfl ?_
      refine N_iald (y := (nI (cs[j]))) dX9_lossDamage_45 Ha (by omega) (by decide) (hf j h1) ?_
      refine R_stati (As := [.int (nI (cs[j]))]) (st := []) kX0_dependsOnCase lX9_58 (c_dep (c := cs[j]) (by omega)) dX9_lossDamage_46 rfl rfl (Nat.le_of_ble_eq_true rfl) ⟨by decide, by decide⟩ zX0_dependsOnCase ⟨Nat.le_refl _, Nat.le_refl _⟩ (fun wr3 wp2 wq1 => ?_)
      obtain ⟨rfl, rfl⟩ : wr3 = _ ∧ hp = wp2 := ⟨wq1.1, wq1.2.symm⟩
      by_cases h26 : cs[j] < 26
      · rw [if_pos h26]
        refine N_if_eq (tgt := 55) dX9_lossDamage_49 (by decide) (by omega) (fun hc => absurd hc (by decide)) (fun _ => ?_)
        refine N_iinc (d := 1) (lv' := [some (.ref h), some (.int (nI i)), some (.int (nI p)), some (.int (nI w)), some (.int (nI (dm + 1))), some (.int (nI j))]) dX9_lossDamage_52 rfl rfl ?_
        refine R_aload_n dX9_lossDamage_55 rfl rfl ?_
        refine R_aload_n dX9_lossDamage_56 rfl rfl ?_
        refine R_getf dX9_lossDamage_57 gX9_9 Hh rfl ?_
        refine R_iload dX9_lossDamage_60 rfl ?_
        refine N_iald (y := (nI (cs[j]))) dX9_lossDamage_62 Ha (by omega) (by decide) (hf j h1) ?_
        refine R_iload_n dX9_lossDamage_63 rfl rfl ?_
        refine R_calli (As := [.int (nI (cs[j])), .int (nI w)]) (st := []) kX9_caseAfter lX9_48 (t_caseAfter hc3 hw hT0) rfl Hh dX9_lossDamage_64 rfl rfl (Nat.le_of_ble_eq_true rfl) ⟨by decide, by decide⟩ zX9_caseAfter ⟨Nat.le_refl _, Nat.le_refl _⟩ (fun wr6 wp5 wq4 => ?_)
        obtain ⟨rfl, rfl⟩ : wr6 = _ ∧ hp = wp5 := ⟨wq4.1, wq4.2.symm⟩
        refine R_istore_n (lv' := [some (.ref h), some (.int (nI i)), some (.int (nI p)), some (.int (nI (cAft un cs[j] w))), some (.int (nI (dm + 1))), some (.int (nI j))]) dX9_lossDamage_67 rfl (by decide) rfl ?_
        refine R_aload_n dX9_lossDamage_68 rfl rfl ?_
        refine R_aload_n dX9_lossDamage_69 rfl rfl ?_
        refine R_getf dX9_lossDamage_70 gX9_9 Hh rfl ?_
        refine R_iload dX9_lossDamage_73 rfl ?_
        refine N_iald (y := (nI (cs[j]))) dX9_lossDamage_75 Ha (by omega) (by decide) (hf j h1) ?_
        refine R_iload_n dX9_lossDamage_76 rfl rfl ?_
        refine R_calli (As := [.int (nI (cs[j])), .int (nI p)]) (st := []) kX9_caseAfter lX9_48 (t_caseAfter hc3 hp1 hT0) rfl Hh dX9_lossDamage_77 rfl rfl (Nat.le_of_ble_eq_true rfl) ⟨by decide, by decide⟩ zX9_caseAfter ⟨Nat.le_refl _, Nat.le_refl _⟩ (fun wr9 wp8 wq7 => ?_)
        obtain ⟨rfl, rfl⟩ : wr9 = _ ∧ hp = wp8 := ⟨wq7.1, wq7.2.symm⟩
        refine R_istore_n (lv' := [some (.ref h), some (.int (nI i)), some (.int (nI (cAft un cs[j] p))), some (.int (nI (cAft un cs[j] w))), some (.int (nI (dm + 1))), some (.int (nI j))]) dX9_lossDamage_80 rfl (by decide) rfl ?_
        refine N_iinc (d := 1) (lv' := [some (.ref h), some (.int (nI i)), some (.int (nI (cAft un cs[j] p))), some (.int (nI (cAft un cs[j] w))), some (.int (nI (dm + 1))), some (.int (nI (j + 1)))]) dX9_lossDamage_81 rfl rfl ?_
        refine R_goto (tgt := 25) dX9_lossDamage_84 (by decide) ?_
        exact ih (j + 1) _ _ _ (by omega) (cAft_le hw) (cAft_le hp1) (by rw [hR, if_pos ⟨h26, he⟩]; omega)
      · rw [if_neg h26]
        refine N_if_eq (tgt := 55) dX9_lossDamage_49 (by decide) (by omega) (fun _ => ?_) (fun hc => absurd hc (by decide))
        refine R_aload_n dX9_lossDamage_55 rfl rfl ?_
        refine R_aload_n dX9_lossDamage_56 rfl rfl ?_
        refine R_getf dX9_lossDamage_57 gX9_9 Hh rfl ?_
        refine R_iload dX9_lossDamage_60 rfl ?_
        refine N_iald (y := (nI (cs[j]))) dX9_lossDamage_62 Ha (by omega) (by decide) (hf j h1) ?_
        refine R_iload_n dX9_lossDamage_63 rfl rfl ?_
        refine R_calli (As := [.int (nI (cs[j])), .int (nI w)]) (st := []) kX9_caseAfter lX9_48 (t_caseAfter hc3 hw hT0) rfl Hh dX9_lossDamage_64 rfl rfl (Nat.le_of_ble_eq_true rfl) ⟨by decide, by decide⟩ zX9_caseAfter ⟨Nat.le_refl _, Nat.le_refl _⟩ (fun wr12 wp11 wq10 => ?_)
        obtain ⟨rfl, rfl⟩ : wr12 = _ ∧ hp = wp11 := ⟨wq10.1, wq10.2.symm⟩
        refine R_istore_n (lv' := [some (.ref h), some (.int (nI i)), some (.int (nI p)), some (.int (nI (cAft un cs[j] w))), some (.int (nI dm)), some (.int (nI j))]) dX9_lossDamage_67 rfl (by decide) rfl ?_
        refine R_aload_n dX9_lossDamage_68 rfl rfl ?_
        refine R_aload_n dX9_lossDamage_69 rfl rfl ?_
        refine R_getf dX9_lossDamage_70 gX9_9 Hh rfl ?_
        refine R_iload dX9_lossDamage_73 rfl ?_
        refine N_iald (y := (nI (cs[j]))) dX9_lossDamage_75 Ha (by omega) (by decide) (hf j h1) ?_
        refine R_iload_n dX9_lossDamage_76 rfl rfl ?_
        refine R_calli (As := [.int (nI (cs[j])), .int (nI p)]) (st := []) kX9_caseAfter lX9_48 (t_caseAfter hc3 hp1 hT0) rfl Hh dX9_lossDamage_77 rfl rfl (Nat.le_of_ble_eq_true rfl) ⟨by decide, by decide⟩ zX9_caseAfter ⟨Nat.le_refl _, Nat.le_refl _⟩ (fun wr15 wp14 wq13 => ?_)
        obtain ⟨rfl, rfl⟩ : wr15 = _ ∧ hp = wp14 := ⟨wq13.1, wq13.2.symm⟩
        refine R_istore_n (lv' := [some (.ref h), some (.int (nI i)), some (.int (nI (cAft un cs[j] p))), some (.int (nI (cAft un cs[j] w))), some (.int (nI dm)), some (.int (nI j))]) dX9_lossDamage_80 rfl (by decide) rfl ?_
        refine N_iinc (d := 1) (lv' := [some (.ref h), some (.int (nI i)), some (.int (nI (cAft un cs[j] p))), some (.int (nI (cAft un cs[j] w))), some (.int (nI dm)), some (.int (nI (j + 1)))]) dX9_lossDamage_81 rfl rfl ?_
        refine R_goto (tgt := 25) dX9_lossDamage_84 (by decide) ?_
        exact ih (j + 1) _ _ _ (by omega) (cAft_le hw) (cAft_le hp1) (by rw [hR, if_neg (fun z => h26 z.1)]; omega)
set_option maxRecDepth 100000 in
set_option maxHeartbeats 4000000 in
theorem t_lossDamage {i : Nat} (hi : i < cs.length) (hT : TpAt hp h a (cs, sc, un, wd)) : SpI l X mX9_lossDamage [.ref h, .int (nI i)] hp (fun r hp' => r = nI (lossD un sc cs i) ∧ hp' = hp) := by
  have hT0 := hT
  obtain ⟨f, Hh, Ha, hf, hL, hC, hs, hu, hw1, hw2⟩ := hT
  have hg : cs.getD i 31 < 32 := by rw [List.getD_eq_getElem?_getD, List.getElem?_eq_getElem hi]; exact hC _ (List.getElem_mem hi)
  refine SpI.of pnX9 (Nat.le_of_ble_eq_true rfl) rfl ?_
  refine R_aload_n dX9_lossDamage_0 rfl rfl ?_
  refine R_iload_n dX9_lossDamage_1 rfl rfl ?_
  refine R_calli (As := [.int (nI i)]) (st := []) kX9_caseBefore lX9_51 (t_caseBefore (i := i) (by omega) hT0) rfl Hh dX9_lossDamage_2 rfl rfl (Nat.le_of_ble_eq_true rfl) ⟨by decide, by decide⟩ zX9_caseBefore ⟨Nat.le_refl _, Nat.le_refl _⟩ (fun wr3 wp2 wq1 => ?_)
  obtain ⟨rfl, rfl⟩ : wr3 = _ ∧ hp = wp2 := ⟨wq1.1, wq1.2.symm⟩
  refine R_istore_n (lv' := [some (.ref h), some (.int (nI i)), some (.int (nI (cAt un sc cs i))), none, none, none]) dX9_lossDamage_5 rfl (by decide) rfl ?_
  refine R_aload_n dX9_lossDamage_6 rfl rfl ?_
  refine R_aload_n dX9_lossDamage_7 rfl rfl ?_
  refine R_iload_n dX9_lossDamage_8 rfl rfl ?_
  refine R_calli (As := [.int (nI i)]) (st := [.ref h]) kX9_at lX9_55 (t_at (j := i) (by omega) hT0) rfl Hh dX9_lossDamage_9 rfl rfl (Nat.le_of_ble_eq_true rfl) ⟨by decide, by decide⟩ zX9_at ⟨Nat.le_refl _, Nat.le_refl _⟩ (fun wr6 wp5 wq4 => ?_)
  obtain ⟨rfl, rfl⟩ : wr6 = _ ∧ hp = wp5 := ⟨wq4.1, wq4.2.symm⟩
  refine R_iload_n dX9_lossDamage_12 rfl rfl ?_
  refine R_calli (As := [.int (nI (cs.getD i 31)), .int (nI (cAt un sc cs i))]) (st := []) kX9_caseAfter lX9_48 (t_caseAfter hg (cAt_le hs) hT0) rfl Hh dX9_lossDamage_13 rfl rfl (Nat.le_of_ble_eq_true rfl) ⟨by decide, by decide⟩ zX9_caseAfter ⟨Nat.le_refl _, Nat.le_refl _⟩ (fun wr9 wp8 wq7 => ?_)
  obtain ⟨rfl, rfl⟩ : wr9 = _ ∧ hp = wp8 := ⟨wq7.1, wq7.2.symm⟩
  refine R_istore_n (lv' := [some (.ref h), some (.int (nI i)), some (.int (nI (cAt un sc cs i))), some (.int (nI (cAft un (cs.getD i 31) (cAt un sc cs i)))), none, none]) dX9_lossDamage_16 rfl (by decide) rfl ?_
  refine R_iconst (v := (nI 0)) dX9_lossDamage_17 (by decide) ?_
  refine R_istore (lv' := [some (.ref h), some (.int (nI i)), some (.int (nI (cAt un sc cs i))), some (.int (nI (cAft un (cs.getD i 31) (cAt un sc cs i)))), some (.int (nI 0)), none]) dX9_lossDamage_18 (by decide) rfl ?_
  refine R_iload_n dX9_lossDamage_20 rfl rfl ?_
  refine R_iconst (v := (nI 1)) dX9_lossDamage_21 (by decide) ?_
  refine N_iadd dX9_lossDamage_22 ?_
  refine R_istore (lv' := [some (.ref h), some (.int (nI i)), some (.int (nI (cAt un sc cs i))), some (.int (nI (cAft un (cs.getD i 31) (cAt un sc cs i)))), some (.int (nI 0)), some (.int (nI (i + 1)))]) dX9_lossDamage_23 (by decide) rfl ?_
  exact t_ldL hT0 (cs.length - (i + 1)) (i + 1) _ _ 0 (by omega) (cAft_le (cAt_le hs)) (cAt_le hs) (by rw [Nat.zero_add]; rfl)
set_option maxRecDepth 100000 in
set_option maxHeartbeats 4000000 in
theorem t_dfL {g b : Nat} {ds : List Nat} {wd2 : Nat} {R : Nat} (hT : TpAt hp h a (cs, sc, un, wd)) (hG : TpAt hp g b (ds, sc, un, wd2)) (hlen : ds.length = cs.length) : ∀ (d j p q dm : Nat), j + d = cs.length → p ≤ 1 → q ≤ 1 → R = dm + diffC un p q (cs.drop j) (ds.drop j) → PZ l X (MZi X mX9_differences (fun r hp' => r = nI R ∧ hp' = hp)) mX9_differences 16 [some (.ref h), some (.ref g), some (.int (nI p)), some (.int (nI q)), some (.int (nI dm)), some (.int (nI j))] [] hp 0 0 := by
  have hT0 := hT
  have hG0 := hG
  obtain ⟨f, Hh, Ha, hf, hL, hC, hs, hu, hw1, hw2⟩ := hT
  obtain ⟨f2, Hg, Hb, hf2, gL, gC, gs, gu, gw1, gw2⟩ := hG
  intro d
  induction d with
  | zero =>
    intro j p q dm hj hp1 hq1 hR
    refine R_iload dX9_differences_16 rfl ?_
    refine R_aload_n dX9_differences_18 rfl rfl ?_
    refine R_getf dX9_differences_19 gX9_15 Hh rfl ?_
    refine N_icmp_ge (tgt := 94) dX9_differences_22 (by decide) (by omega) (by omega) (fun _ => ?_) (fun hc => absurd hc (by omega))
    refine R_iload dX9_differences_94 rfl ?_
    exact R_reti dX9_differences_96 rfl rfl rfl ⟨by rw [hR, List.drop_eq_nil_of_le (by omega)]; rfl, rfl⟩
  | succ d ih =>
    intro j p q dm hj hp1 hq1 hR
    have h1 : j < cs.length := by omega
    have h2 : j < ds.length := by omega
    have hc3 := hC _ (List.getElem_mem h1)
    have hd3 := gC _ (List.getElem_mem h2)
    rw [drop_c h1, drop_c h2] at hR
    simp only [diffC] at hR
    refine R_iload dX9_differences_16 rfl ?_
    refine R_aload_n dX9_differences_18 rfl rfl ?_
    refine R_getf dX9_differences_19 gX9_15 Hh rfl ?_
    refine N_icmp_ge (tgt := 94) dX9_differences_22 (by decide) (by omega) (by omega) (fun hc => absurd hc (by omega)) (fun _ => ?_)
    refine R_iload dX9_differences_25 rfl ?_
    refine R_aload_n dX9_differences_27 rfl rfl ?_
    refine R_getf dX9_differences_28 gX9_15 Hg rfl ?_
    refine N_icmp_ge (tgt := 94) dX9_differences_31 (by decide) (by omega) (by omega) (fun hc => absurd hc (by omega)) (fun _ => ?_)
    refine R_aload_n dX9_differences_34 rfl rfl ?_
    refine R_getf dX9_differences_35 gX9_9 Hh rfl ?_
    refine R_iload dX9_differences_38 rfl ?_
    refine N_iald (y := (nI (cs[j]))) dX9_differences_40 Ha (by omega) (by decide) (hf j h1) ?_
    refine R_iload_n dX9_differences_41 rfl rfl ?_
    refine R_stati (As := [.int (nI (cs[j])), .int (nI p)]) (st := []) kX0_printed lX9_61 (c_printed hc3 hp1) dX9_differences_42 rfl rfl (Nat.le_of_ble_eq_true rfl) ⟨by decide, by decide⟩ zX0_printed ⟨Nat.le_refl _, Nat.le_refl _⟩ (fun wr3 wp2 wq1 => ?_)
    obtain ⟨rfl, rfl⟩ : wr3 = _ ∧ hp = wp2 := ⟨wq1.1, wq1.2.symm⟩
    refine R_aload_n dX9_differences_45 rfl rfl ?_
    refine R_getf dX9_differences_46 gX9_9 Hg rfl ?_
    refine R_iload dX9_differences_49 rfl ?_
    refine N_iald (y := (nI (ds[j]))) dX9_differences_51 Hb (by omega) (by decide) (hf2 j h2) ?_
    refine R_iload_n dX9_differences_52 rfl rfl ?_
    refine R_stati (As := [.int (nI (ds[j])), .int (nI q)]) (st := [.int (prt cs[j] p)]) kX0_printed lX9_61 (c_printed hd3 hq1) dX9_differences_53 rfl rfl (Nat.le_of_ble_eq_true rfl) ⟨by decide, by decide⟩ zX0_printed ⟨Nat.le_refl _, Nat.le_refl _⟩ (fun wr6 wp5 wq4 => ?_)
    obtain ⟨rfl, rfl⟩ : wr6 = _ ∧ hp = wp5 := ⟨wq4.1, wq4.2.symm⟩
    refine R_icmp_eq (tgt := 62) dX9_differences_56 (by decide) (fun he => ?_) (fun he => ?_)
    · refine R_aload_n dX9_differences_62 rfl rfl ?_
      refine R_aload_n dX9_differences_63 rfl rfl ?_
      refine R_getf dX9_differences_64 gX9_9 Hh rfl ?_
      refine R_iload dX9_differences_67 rfl ?_
      refine N_iald (y := (nI (cs[j]))) dX9_differences_69 Ha (by omega) (by decide) (hf j h1) ?_
      refine R_iload_n dX9_differences_70 rfl rfl ?_
      refine R_calli (As := [.int (nI (cs[j])), .int (nI p)]) (st := []) kX9_caseAfter lX9_48 (t_caseAfter hc3 hp1 hT0) rfl Hh dX9_differences_71 rfl rfl (Nat.le_of_ble_eq_true rfl) ⟨by decide, by decide⟩ zX9_caseAfter ⟨Nat.le_refl _, Nat.le_refl _⟩ (fun wr9 wp8 wq7 => ?_)
      obtain ⟨rfl, rfl⟩ : wr9 = _ ∧ hp = wp8 := ⟨wq7.1, wq7.2.symm⟩
      refine R_istore_n (lv' := [some (.ref h), some (.ref g), some (.int (nI (cAft un cs[j] p))), some (.int (nI q)), some (.int (nI dm)), some (.int (nI j))]) dX9_differences_74 rfl (by decide) rfl ?_
      refine R_aload_n dX9_differences_75 rfl rfl ?_
      refine R_aload_n dX9_differences_76 rfl rfl ?_
      refine R_getf dX9_differences_77 gX9_9 Hg rfl ?_
      refine R_iload dX9_differences_80 rfl ?_
      refine N_iald (y := (nI (ds[j]))) dX9_differences_82 Hb (by omega) (by decide) (hf2 j h2) ?_
      refine R_iload_n dX9_differences_83 rfl rfl ?_
      refine R_calli (As := [.int (nI (ds[j])), .int (nI q)]) (st := []) kX9_caseAfter lX9_48 (t_caseAfter hd3 hq1 hG0) rfl Hg dX9_differences_84 rfl rfl (Nat.le_of_ble_eq_true rfl) ⟨by decide, by decide⟩ zX9_caseAfter ⟨Nat.le_refl _, Nat.le_refl _⟩ (fun wr12 wp11 wq10 => ?_)
      obtain ⟨rfl, rfl⟩ : wr12 = _ ∧ hp = wp11 := ⟨wq10.1, wq10.2.symm⟩
      refine R_istore_n (lv' := [some (.ref h), some (.ref g), some (.int (nI (cAft un cs[j] p))), some (.int (nI (cAft un ds[j] q))), some (.int (nI dm)), some (.int (nI j))]) dX9_differences_87 rfl (by decide) rfl ?_
      refine N_iinc (d := 1) (lv' := [some (.ref h), some (.ref g), some (.int (nI (cAft un cs[j] p))), some (.int (nI (cAft un ds[j] q))), some (.int (nI dm)), some (.int (nI (j + 1)))]) dX9_differences_88 rfl rfl ?_
      refine R_goto (tgt := 16) dX9_differences_91 (by decide) ?_
      exact ih (j + 1) _ _ _ (by omega) (cAft_le hp1) (cAft_le hq1) (by rw [hR, if_pos he]; omega)
    · refine N_iinc (d := 1) (lv' := [some (.ref h), some (.ref g), some (.int (nI p)), some (.int (nI q)), some (.int (nI (dm + 1))), some (.int (nI j))]) dX9_differences_59 rfl rfl ?_
      refine R_aload_n dX9_differences_62 rfl rfl ?_
      refine R_aload_n dX9_differences_63 rfl rfl ?_
      refine R_getf dX9_differences_64 gX9_9 Hh rfl ?_
      refine R_iload dX9_differences_67 rfl ?_
      refine N_iald (y := (nI (cs[j]))) dX9_differences_69 Ha (by omega) (by decide) (hf j h1) ?_
      refine R_iload_n dX9_differences_70 rfl rfl ?_
      refine R_calli (As := [.int (nI (cs[j])), .int (nI p)]) (st := []) kX9_caseAfter lX9_48 (t_caseAfter hc3 hp1 hT0) rfl Hh dX9_differences_71 rfl rfl (Nat.le_of_ble_eq_true rfl) ⟨by decide, by decide⟩ zX9_caseAfter ⟨Nat.le_refl _, Nat.le_refl _⟩ (fun wr15 wp14 wq13 => ?_)
      obtain ⟨rfl, rfl⟩ : wr15 = _ ∧ hp = wp14 := ⟨wq13.1, wq13.2.symm⟩
      refine R_istore_n (lv' := [some (.ref h), some (.ref g), some (.int (nI (cAft un cs[j] p))), some (.int (nI q)), some (.int (nI (dm + 1))), some (.int (nI j))]) dX9_differences_74 rfl (by decide) rfl ?_
      refine R_aload_n dX9_differences_75 rfl rfl ?_
      refine R_aload_n dX9_differences_76 rfl rfl ?_
      refine R_getf dX9_differences_77 gX9_9 Hg rfl ?_
      refine R_iload dX9_differences_80 rfl ?_
      refine N_iald (y := (nI (ds[j]))) dX9_differences_82 Hb (by omega) (by decide) (hf2 j h2) ?_
      refine R_iload_n dX9_differences_83 rfl rfl ?_
      refine R_calli (As := [.int (nI (ds[j])), .int (nI q)]) (st := []) kX9_caseAfter lX9_48 (t_caseAfter hd3 hq1 hG0) rfl Hg dX9_differences_84 rfl rfl (Nat.le_of_ble_eq_true rfl) ⟨by decide, by decide⟩ zX9_caseAfter ⟨Nat.le_refl _, Nat.le_refl _⟩ (fun wr18 wp17 wq16 => ?_)
      obtain ⟨rfl, rfl⟩ : wr18 = _ ∧ hp = wp17 := ⟨wq16.1, wq16.2.symm⟩
      refine R_istore_n (lv' := [some (.ref h), some (.ref g), some (.int (nI (cAft un cs[j] p))), some (.int (nI (cAft un ds[j] q))), some (.int (nI (dm + 1))), some (.int (nI j))]) dX9_differences_87 rfl (by decide) rfl ?_
      refine N_iinc (d := 1) (lv' := [some (.ref h), some (.ref g), some (.int (nI (cAft un cs[j] p))), some (.int (nI (cAft un ds[j] q))), some (.int (nI (dm + 1))), some (.int (nI (j + 1)))]) dX9_differences_88 rfl rfl ?_
      refine R_goto (tgt := 16) dX9_differences_91 (by decide) ?_
      exact ih (j + 1) _ _ _ (by omega) (cAft_le hp1) (cAft_le hq1) (by rw [hR, if_neg he]; omega)
set_option maxRecDepth 100000 in
set_option maxHeartbeats 4000000 in
theorem t_differences {g b : Nat} {ds : List Nat} {wd2 : Nat} (hT : TpAt hp h a (cs, sc, un, wd)) (hG : TpAt hp g b (ds, sc, un, wd2)) (hlen : ds.length = cs.length) : SpI l X mX9_differences [.ref h, .ref g] hp (fun r hp' => r = nI (diffC un sc sc cs ds) ∧ hp' = hp) := by
  have hT0 := hT
  have hG0 := hG
  obtain ⟨f, Hh, Ha, hf, hL, hC, hs, hu, hw1, hw2⟩ := hT
  obtain ⟨f2, Hg, Hb, hf2, gL, gC, gs, gu, gw1, gw2⟩ := hG
  refine SpI.of pnX9 (Nat.le_of_ble_eq_true rfl) rfl ?_
  refine R_aload_n dX9_differences_0 rfl rfl ?_
  refine R_getf dX9_differences_1 gX9_19 Hh rfl ?_
  refine R_istore_n (lv' := [some (.ref h), some (.ref g), some (.int (nI sc)), none, none, none]) dX9_differences_4 rfl (by decide) rfl ?_
  refine R_aload_n dX9_differences_5 rfl rfl ?_
  refine R_getf dX9_differences_6 gX9_19 Hg rfl ?_
  refine R_istore_n (lv' := [some (.ref h), some (.ref g), some (.int (nI sc)), some (.int (nI sc)), none, none]) dX9_differences_9 rfl (by decide) rfl ?_
  refine R_iconst (v := (nI 0)) dX9_differences_10 (by decide) ?_
  refine R_istore (lv' := [some (.ref h), some (.ref g), some (.int (nI sc)), some (.int (nI sc)), some (.int (nI 0)), none]) dX9_differences_11 (by decide) rfl ?_
  refine R_iconst (v := (nI 0)) dX9_differences_13 (by decide) ?_
  refine R_istore (lv' := [some (.ref h), some (.ref g), some (.int (nI sc)), some (.int (nI sc)), some (.int (nI 0)), some (.int (nI 0))]) dX9_differences_14 (by decide) rfl ?_
  exact t_dfL hT0 hG0 hlen cs.length 0 sc sc 0 (by omega) hs hs (by rw [Nat.zero_add]; rfl)
set_option maxRecDepth 100000 in
set_option maxHeartbeats 4000000 in
theorem t_isRedundant {j : Nat} (hj : j < 2 ^ 31) (hT : TpAt hp h a (cs, sc, un, wd)) : SpI l X mX9_isRedundant [.ref h, .int (nI j)] hp (fun r hp' => r = bz (rdn un sc cs j) ∧ hp' = hp) := by
  have hT0 := hT
  obtain ⟨f, Hh, Ha, hf, hL, hC, hs, hu, hw1, hw2⟩ := hT
  refine SpI.of pnX9 (Nat.le_of_ble_eq_true rfl) rfl ?_
  refine R_aload_n dX9_isRedundant_0 rfl rfl ?_
  refine R_iload_n dX9_isRedundant_1 rfl rfl ?_
  refine R_calli (As := [.int (nI j)]) (st := []) kX9_at lX9_55 (t_at hj hT0) rfl Hh dX9_isRedundant_2 rfl rfl (Nat.le_of_ble_eq_true rfl) ⟨by decide, by decide⟩ zX9_at ⟨Nat.le_refl _, Nat.le_refl _⟩ (fun wr3 wp2 wq1 => ?_)
  obtain ⟨rfl, rfl⟩ : wr3 = _ ∧ hp = wp2 := ⟨wq1.1, wq1.2.symm⟩
  refine R_istore_n (lv' := [some (.ref h), some (.int (nI j)), some (.int (nI (cs.getD j 31)))]) dX9_isRedundant_5 rfl (by decide) rfl ?_
  refine R_aload_n dX9_isRedundant_6 rfl rfl ?_
  refine R_iload_n dX9_isRedundant_7 rfl rfl ?_
  refine R_calli (As := [.int (nI j)]) (st := []) kX9_has lX9_38 (t_has hT0) rfl Hh dX9_isRedundant_8 rfl rfl (Nat.le_of_ble_eq_true rfl) ⟨by decide, by decide⟩ zX9_has ⟨Nat.le_refl _, Nat.le_refl _⟩ (fun wr6 wp5 wq4 => ?_)
  obtain ⟨rfl, rfl⟩ : wr6 = _ ∧ hp = wp5 := ⟨wq4.1, wq4.2.symm⟩
  rw [inB_n hj]
  by_cases h1 : j < cs.length
  · rw [decide_eq_true h1]
    show PZ _ _ _ _ _ _ [.int (nI 1)] _ _ _
    have hg1 : cs.getD j 31 = cs[j] := by rw [List.getD_eq_getElem?_getD, List.getElem?_eq_getElem h1]; rfl
    have hg0 : cs.getD j 0 = cs[j] := by rw [List.getD_eq_getElem?_getD, List.getElem?_eq_getElem h1]; rfl
    have hc3 := hC _ (List.getElem_mem h1)
    rw [hg1]
    refine N_if_eq (tgt := 39) dX9_isRedundant_11 (by decide) (by omega) (fun hc => absurd hc (by decide)) (fun _ => ?_)
    refine R_iload_n dX9_isRedundant_14 rfl rfl ?_
    refine R_bipush (v := (nI 31)) dX9_isRedundant_15 (by decide) ?_
    refine N_icmp_eq (tgt := 27) dX9_isRedundant_17 (by decide) (by omega) (by omega) (fun h31 => ?_) (fun h31 => ?_)
    · refine R_aload_n dX9_isRedundant_27 rfl rfl ?_
      refine R_iload_n dX9_isRedundant_28 rfl rfl ?_
      refine R_calli (As := [.int (nI j)]) (st := []) kX9_lossDamage lX9_73 (t_lossDamage h1 hT0) rfl Hh dX9_isRedundant_29 rfl rfl (Nat.le_of_ble_eq_true rfl) ⟨by decide, by decide⟩ zX9_lossDamage ⟨Nat.le_refl _, Nat.le_refl _⟩ (fun wr9 wp8 wq7 => ?_)
      obtain ⟨rfl, rfl⟩ : wr9 = _ ∧ hp = wp8 := ⟨wq7.1, wq7.2.symm⟩
      have hlb : lossD un sc cs j ≤ 96 := Nat.le_trans (lossC_le _ _ _ _) (by rw [List.length_drop]; omega)
      refine N_if_ne (tgt := 39) dX9_isRedundant_32 (by decide) (by omega) (fun hz => ?_) (fun hz => ?_)
      · refine R_iconst (v := (nI 0)) dX9_isRedundant_39 (by decide) ?_
        exact R_retz dX9_isRedundant_40 rfl rfl rfl rfl ⟨by unfold rdn; rw [decide_eq_false (fun q => hz q.2.2)]; rfl, rfl⟩
      · refine R_iconst (v := (nI 1)) dX9_isRedundant_35 (by decide) ?_
        refine R_goto (tgt := 40) dX9_isRedundant_36 (by decide) ?_
        exact R_retz dX9_isRedundant_40 rfl rfl rfl rfl ⟨by unfold rdn; rw [decide_eq_true ⟨h1, by omega, hz⟩]; rfl, rfl⟩
    · refine R_iload_n dX9_isRedundant_20 rfl rfl ?_
      refine R_stati (As := [.int (nI (cs[j]))]) (st := []) kX0_isShift lX9_70 (c_isShift (c := cs[j]) (by omega)) dX9_isRedundant_21 rfl rfl (Nat.le_of_ble_eq_true rfl) ⟨by decide, by decide⟩ zX0_isShift ⟨Nat.le_refl _, Nat.le_refl _⟩ (fun wr12 wp11 wq10 => ?_)
      obtain ⟨rfl, rfl⟩ : wr12 = _ ∧ hp = wp11 := ⟨wq10.1, wq10.2.symm⟩
      by_cases h29 : cs[j] = 29 ∨ cs[j] = 30
      · rw [if_pos h29]
        refine N_if_eq (tgt := 39) dX9_isRedundant_24 (by decide) (by omega) (fun hc => absurd hc (by decide)) (fun _ => ?_)
        refine R_aload_n dX9_isRedundant_27 rfl rfl ?_
        refine R_iload_n dX9_isRedundant_28 rfl rfl ?_
        refine R_calli (As := [.int (nI j)]) (st := []) kX9_lossDamage lX9_73 (t_lossDamage h1 hT0) rfl Hh dX9_isRedundant_29 rfl rfl (Nat.le_of_ble_eq_true rfl) ⟨by decide, by decide⟩ zX9_lossDamage ⟨Nat.le_refl _, Nat.le_refl _⟩ (fun wr15 wp14 wq13 => ?_)
        obtain ⟨rfl, rfl⟩ : wr15 = _ ∧ hp = wp14 := ⟨wq13.1, wq13.2.symm⟩
        have hlb : lossD un sc cs j ≤ 96 := Nat.le_trans (lossC_le _ _ _ _) (by rw [List.length_drop]; omega)
        refine N_if_ne (tgt := 39) dX9_isRedundant_32 (by decide) (by omega) (fun hz => ?_) (fun hz => ?_)
        · refine R_iconst (v := (nI 0)) dX9_isRedundant_39 (by decide) ?_
          exact R_retz dX9_isRedundant_40 rfl rfl rfl rfl ⟨by unfold rdn; rw [decide_eq_false (fun q => hz q.2.2)]; rfl, rfl⟩
        · refine R_iconst (v := (nI 1)) dX9_isRedundant_35 (by decide) ?_
          refine R_goto (tgt := 40) dX9_isRedundant_36 (by decide) ?_
          exact R_retz dX9_isRedundant_40 rfl rfl rfl rfl ⟨by unfold rdn; rw [decide_eq_true ⟨h1, by omega, hz⟩]; rfl, rfl⟩
      · rw [if_neg h29]
        refine N_if_eq (tgt := 39) dX9_isRedundant_24 (by decide) (by omega) (fun _ => ?_) (fun hc => absurd hc (by decide))
        refine R_iconst (v := (nI 0)) dX9_isRedundant_39 (by decide) ?_
        exact R_retz dX9_isRedundant_40 rfl rfl rfl rfl ⟨by unfold rdn; rw [decide_eq_false (fun q => by have := q.2.1; omega)]; rfl, rfl⟩
  · rw [decide_eq_false h1]
    show PZ _ _ _ _ _ _ [.int (nI 0)] _ _ _
    refine N_if_eq (tgt := 39) dX9_isRedundant_11 (by decide) (by omega) (fun _ => ?_) (fun hc => absurd hc (by decide))
    refine R_iconst (v := (nI 0)) dX9_isRedundant_39 (by decide) ?_
    exact R_retz dX9_isRedundant_40 rfl rfl rfl rfl ⟨by unfold rdn; rw [decide_eq_false (fun q => h1 q.1)]; rfl, rfl⟩
set_option maxRecDepth 100000 in
set_option maxHeartbeats 4000000 in
theorem t_drL {hp0 : HPt} {B : Nat} {Rs : List Nat} (hB : B ≤ 96) : ∀ (d : Nat) (hp : HPt) (cs : List Nat) (i st : Nat), st + d = B → i ≤ st → cs.length ≤ B → TpAt hp h a (cs, sc, un, wd) → Fr [h, a] hp0 hp → Rs = cmpN un sc d cs i → PZ l X (MZi X mX9_dropRedundant (fun r hp' => r = nI (B - Rs.length) ∧ TpAt hp' h a (Rs, sc, un, wd) ∧ Fr [h, a] hp0 hp')) mX9_dropRedundant 9 [some (.ref h), some (.int (nI B)), some (.int (nI i)), some (.int (nI st))] [] hp 0 0 := by
  intro d
  induction d with
  | zero =>
    intro hp cs i st hst hi hcB hT hF hR
    have hT0 := hT
    obtain ⟨f, Hh, Ha, hf, hL, hC, hs, hu, hw1, hw2⟩ := hT
    refine R_iload_n dX9_dropRedundant_9 rfl rfl ?_
    refine R_iload_n dX9_dropRedundant_10 rfl rfl ?_
    refine N_icmp_ge (tgt := 40) dX9_dropRedundant_11 (by decide) (by omega) (by omega) (fun _ => ?_) (fun hc => absurd hc (by omega))
    refine R_iload_n dX9_dropRedundant_40 rfl rfl ?_
    refine R_aload_n dX9_dropRedundant_41 rfl rfl ?_
    refine R_getf dX9_dropRedundant_42 gX9_15 Hh rfl ?_
    refine N_isub dX9_dropRedundant_45 (by omega) ?_
    exact R_reti dX9_dropRedundant_46 rfl rfl rfl ⟨by rw [hR]; rfl, by rw [hR]; exact hT0, hF⟩
  | succ d ih =>
    intro hp cs i st hst hi hcB hT hF hR
    have hT0 := hT
    obtain ⟨f, Hh, Ha, hf, hL, hC, hs, hu, hw1, hw2⟩ := hT
    refine R_iload_n dX9_dropRedundant_9 rfl rfl ?_
    refine R_iload_n dX9_dropRedundant_10 rfl rfl ?_
    refine N_icmp_ge (tgt := 40) dX9_dropRedundant_11 (by decide) (by omega) (by omega) (fun hc => absurd hc (by omega)) (fun _ => ?_)
    refine R_aload_n dX9_dropRedundant_14 rfl rfl ?_
    refine R_iload_n dX9_dropRedundant_15 rfl rfl ?_
    refine R_calli (As := [.int (nI i)]) (st := []) kX9_isRedundant lX9_64 (t_isRedundant (j := i) (by omega) hT0) rfl Hh dX9_dropRedundant_16 rfl rfl (Nat.le_of_ble_eq_true rfl) ⟨by decide, by decide⟩ zX9_isRedundant ⟨Nat.le_refl _, Nat.le_refl _⟩ (fun wr3 wp2 wq1 => ?_)
    obtain ⟨rfl, rfl⟩ : wr3 = _ ∧ hp = wp2 := ⟨wq1.1, wq1.2.symm⟩
    simp only [cmpN] at hR
    by_cases hr : rdn un sc cs i = true
    · rw [if_pos hr] at hR
      rw [hr]
      show PZ _ _ _ _ _ _ [.int (nI 1)] _ _ _
      have h1 : i < cs.length := by unfold rdn at hr; rw [decide_eq_true_eq] at hr; exact hr.1
      refine N_if_eq (tgt := 31) dX9_dropRedundant_19 (by decide) (by omega) (fun hc => absurd hc (by decide)) (fun _ => ?_)
      refine R_aload_n dX9_dropRedundant_22 rfl rfl ?_
      refine R_iload_n dX9_dropRedundant_23 rfl rfl ?_
      refine R_calli (As := [.int (nI i)]) (st := []) kX9_takeOut lX9_67 (t_takeOut h1 hT0) rfl Hh dX9_dropRedundant_24 rfl rfl (Nat.le_of_ble_eq_true rfl) ⟨by decide, by decide⟩ zX9_takeOut ⟨Nat.le_refl _, Nat.le_refl _⟩ (fun wr6 wp5 wq4 => ?_)
      obtain ⟨rfl, hT1, hF1⟩ := wq4
      refine R_pop dX9_dropRedundant_27 rfl ?_
      refine R_goto (tgt := 34) dX9_dropRedundant_28 (by decide) ?_
      refine N_iinc (d := 1) (lv' := [some (.ref h), some (.int (nI B)), some (.int (nI i)), some (.int (nI (st + 1)))]) dX9_dropRedundant_34 rfl rfl ?_
      refine R_goto (tgt := 9) dX9_dropRedundant_37 (by decide) ?_
      refine ih _ _ _ _ (by omega) (by omega) ?_ hT1 (hF.trans hF1) hR
      have := List.length_eraseIdx_le cs i; omega
    · rw [if_neg hr] at hR
      rw [Bool.eq_false_iff.mpr hr]
      show PZ _ _ _ _ _ _ [.int (nI 0)] _ _ _
      refine N_if_eq (tgt := 31) dX9_dropRedundant_19 (by decide) (by omega) (fun _ => ?_) (fun hc => absurd hc (by decide))
      refine N_iinc (d := 1) (lv' := [some (.ref h), some (.int (nI B)), some (.int (nI (i + 1))), some (.int (nI st))]) dX9_dropRedundant_31 rfl rfl ?_
      refine N_iinc (d := 1) (lv' := [some (.ref h), some (.int (nI B)), some (.int (nI (i + 1))), some (.int (nI (st + 1)))]) dX9_dropRedundant_34 rfl rfl ?_
      refine R_goto (tgt := 9) dX9_dropRedundant_37 (by decide) ?_
      exact ih _ _ _ _ (by omega) (by omega) hcB hT0 hF hR
set_option maxRecDepth 100000 in
set_option maxHeartbeats 4000000 in
theorem t_dropRedundant (hT : TpAt hp h a (cs, sc, un, wd)) : SpI l X mX9_dropRedundant [.ref h] hp (fun r hp' => r = nI (cs.length - (cmpN un sc cs.length cs 0).length) ∧ TpAt hp' h a (cmpN un sc cs.length cs 0, sc, un, wd) ∧ Fr [h, a] hp hp') := by
  have hT0 := hT
  obtain ⟨f, Hh, Ha, hf, hL, hC, hs, hu, hw1, hw2⟩ := hT
  refine SpI.of pnX9 (Nat.le_of_ble_eq_true rfl) rfl ?_
  refine R_aload_n dX9_dropRedundant_0 rfl rfl ?_
  refine R_getf dX9_dropRedundant_1 gX9_15 Hh rfl ?_
  refine R_istore_n (lv' := [some (.ref h), some (.int (nI (cs.length))), none, none]) dX9_dropRedundant_4 rfl (by decide) rfl ?_
  refine R_iconst (v := (nI 0)) dX9_dropRedundant_5 (by decide) ?_
  refine R_istore_n (lv' := [some (.ref h), some (.int (nI (cs.length))), some (.int (nI 0)), none]) dX9_dropRedundant_6 rfl (by decide) rfl ?_
  refine R_iconst (v := (nI 0)) dX9_dropRedundant_7 (by decide) ?_
  refine R_istore_n (lv' := [some (.ref h), some (.int (nI (cs.length))), some (.int (nI 0)), some (.int (nI 0))]) dX9_dropRedundant_8 rfl (by decide) rfl ?_
  exact t_drL hL cs.length hp cs 0 0 (by omega) (by omega) (Nat.le_refl _) hT0 Fr.rf rfl
theorem noi_ok : ∀ (cs : List Nat) (j b : Nat), (∀ c ∈ cs, c < 32) → b < 5 → ∀ c ∈ cs.set j (cs.getD j 0 ^^^ 2 ^ b), c < 32 := by
  intro cs j b hC hb c hc
  rcases List.mem_or_eq_of_mem_set hc with q | q
  · exact hC c q
  · rw [q]
    refine xor_lt ?_ hb
    rw [List.getD_eq_getElem?_getD]
    by_cases hj : j < cs.length
    · rw [List.getElem?_eq_getElem hj]; exact hC _ (List.getElem_mem hj)
    · rw [List.getElem?_eq_none (by omega)]; decide
set_option maxRecDepth 100000 in
set_option maxHeartbeats 4000000 in
theorem t_diL {hp0 : HPt} {m : Nat} {x0 : Int64} {Rs : List Nat} (hm : m < 2 ^ 31) : ∀ (d : Nat) (hp : HPt) (cs : List Nat) (x : Int64) (st : Nat) (lo : Option Value), st + d = m → 0 < cs.length → TpAt hp h a (cs, sc, un, wd) → Fr [h, a] hp0 hp → Rs = noi d x cs → PZ l X (MZv X mX9_disturb (fun hp' => TpAt hp' h a (Rs, sc, un, wd) ∧ Fr [h, a] hp0 hp')) mX9_disturb 6 [some (.ref h), some (.long x0), none, some (.int (nI m)), some (.long x), none, some (.int (nI st)), lo] [] hp 0 0 := by
  intro d
  induction d with
  | zero =>
    intro hp cs x st lo hst hpos hT hF hR
    have hT0 := hT
    obtain ⟨f, Hh, Ha, hf, hL, hC, hs, hu, hw1, hw2⟩ := hT
    refine R_iload dX9_disturb_6 rfl ?_
    refine R_iload_n dX9_disturb_8 rfl rfl ?_
    refine N_icmp_ge (tgt := 63) dX9_disturb_9 (by decide) (by omega) (by omega) (fun _ => ?_) (fun hc => absurd hc (by omega))
    exact R_retv dX9_disturb_63 rfl rfl rfl ⟨by rw [hR]; exact hT0, hF⟩
  | succ d ih =>
    intro hp cs x st lo hst hpos hT hF hR
    have hT0 := hT
    obtain ⟨f, Hh, Ha, hf, hL, hC, hs, hu, hw1, hw2⟩ := hT
    refine R_iload dX9_disturb_6 rfl ?_
    refine R_iload_n dX9_disturb_8 rfl rfl ?_
    refine N_icmp_ge (tgt := 63) dX9_disturb_9 (by decide) (by omega) (by omega) (fun hc => absurd hc (by omega)) (fun _ => ?_)
    refine R_aload_n dX9_disturb_12 rfl rfl ?_
    refine R_getf dX9_disturb_13 gX9_15 Hh rfl ?_
    refine R_if_le (tgt := 63) dX9_disturb_16 (by decide) (fun hc => absurd hc (nI_nle hpos (by omega))) (fun _ => ?_)
    refine R_lload dX9_disturb_19 rfl ?_
    refine R_ldc2 dX9_disturb_21 nX9_76 ?_
    refine R_lmul dX9_disturb_24 ?_
    refine R_ldc2 dX9_disturb_25 nX9_78 ?_
    refine R_ladd dX9_disturb_28 ?_
    refine R_lstore (lv' := [some (.ref h), some (.long (x0)), none, some (.int (nI m)), some (.long (((x) * (6364136223846793005)) + (1442695040888963407))), none, some (.int (nI st)), lo]) dX9_disturb_29 (by decide) rfl ?_
    refine R_lload dX9_disturb_31 rfl ?_
    refine R_bipush (v := (nI 33)) dX9_disturb_33 (by decide) ?_
    refine R_lushr dX9_disturb_35 rfl ?_
    refine R_l2i dX9_disturb_36 ?_
    have ew := nzW_I (nzA x)
    rw [show (x * 6364136223846793005 + 1442695040888963407) = nzA x from rfl, ew]
    refine R_istore (lv' := [some (.ref h), some (.long (x0)), none, some (.int (nI m)), some (.long (nzA x)), none, some (.int (nI st)), some (.int (nI (nzW (nzA x))))]) dX9_disturb_37 (by decide) rfl ?_
    refine R_aload_n dX9_disturb_39 rfl rfl ?_
    refine R_iload dX9_disturb_40 rfl ?_
    refine R_aload_n dX9_disturb_42 rfl rfl ?_
    refine R_getf dX9_disturb_43 gX9_15 Hh rfl ?_
    refine N_irem dX9_disturb_46 (nzW_lt _) hpos (by omega) ?_
    refine R_iload dX9_disturb_47 rfl ?_
    refine R_bipush (v := (nI 96)) dX9_disturb_49 (by decide) ?_
    refine N_idiv dX9_disturb_51 (nzW_lt _) (by omega) (by omega) ?_
    refine R_iconst (v := (nI 5)) dX9_disturb_52 (by decide) ?_
    refine N_irem dX9_disturb_53 (by have := nzW_lt (nzA x); omega) (by omega) (by omega) ?_
    have hj : nzW (nzA x) % cs.length < cs.length := Nat.mod_lt _ hpos
    have hg : cs.getD (nzW (nzA x) % cs.length) 0 = cs[nzW (nzA x) % cs.length] := by rw [List.getD_eq_getElem?_getD, List.getElem?_eq_getElem hj]; rfl
    refine R_callv (As := [.int (nI ((nzW (nzA x)) % (cs.length))), .int (nI (((nzW (nzA x)) / 96) % 5))]) (st := []) kX9_turnBit lX9_80 (t_turnBit (b := nzW (nzA x) / 96 % 5) hj (Nat.mod_lt _ (by omega)) hT0) rfl Hh dX9_disturb_54 rfl rfl (Nat.le_of_ble_eq_true rfl) ⟨by decide, by decide⟩ zX9_turnBit ⟨Nat.le_refl _, Nat.le_refl _⟩ (fun wp2 wq1 => ?_)
    obtain ⟨hT1, hF1⟩ := wq1
    refine N_iinc (d := 1) (lv' := [some (.ref h), some (.long (x0)), none, some (.int (nI m)), some (.long (nzA x)), none, some (.int (nI (st + 1))), some (.int (nI (nzW (nzA x))))]) dX9_disturb_57 rfl rfl ?_
    refine R_goto (tgt := 6) dX9_disturb_60 (by decide) ?_
    refine ih _ _ _ _ _ (by omega) (by rw [List.length_set]; exact hpos) hT1 (hF.trans hF1) ?_
    rw [hR]; simp only [noi]; rw [hg]
set_option maxRecDepth 100000 in
set_option maxHeartbeats 4000000 in
theorem t_disturb {m : Nat} {x0 : Int64} (hm : m < 2 ^ 31) (hT : TpAt hp h a (cs, sc, un, wd)) : SpV l X mX9_disturb [.ref h, .long x0, .int (nI m)] hp (fun hp' => TpAt hp' h a (if cs.length = 0 then cs else noi m x0 cs, sc, un, wd) ∧ Fr [h, a] hp hp') := by
  have hT0 := hT
  obtain ⟨f, Hh, Ha, hf, hL, hC, hs, hu, hw1, hw2⟩ := hT
  refine SpV.of pnX9 (Nat.le_of_ble_eq_true rfl) rfl ?_
  refine R_lload_n dX9_disturb_0 rfl rfl ?_
  refine R_lstore (lv' := [some (.ref h), some (.long (x0)), none, some (.int (nI m)), some (.long (x0)), none, none, none]) dX9_disturb_1 (by decide) rfl ?_
  refine R_iconst (v := (nI 0)) dX9_disturb_3 (by decide) ?_
  refine R_istore (lv' := [some (.ref h), some (.long (x0)), none, some (.int (nI m)), some (.long (x0)), none, some (.int (nI 0)), none]) dX9_disturb_4 (by decide) rfl ?_
  by_cases hz : cs.length = 0
  · rw [if_pos hz]
    refine R_iload dX9_disturb_6 rfl ?_
    refine R_iload_n dX9_disturb_8 rfl rfl ?_
    refine N_icmp_ge (tgt := 63) dX9_disturb_9 (by decide) (by omega) (by omega) (fun hm0 => ?_) (fun hm0 => ?_)
    · exact R_retv dX9_disturb_63 rfl rfl rfl ⟨hT0, Fr.rf⟩
    · refine R_aload_n dX9_disturb_12 rfl rfl ?_
      refine R_getf dX9_disturb_13 gX9_15 Hh rfl ?_
      refine R_if_le (tgt := 63) dX9_disturb_16 (by decide) (fun _ => ?_) (fun hc => absurd (show nI cs.length ≤ 0 by rw [hz]; decide) hc)
      exact R_retv dX9_disturb_63 rfl rfl rfl ⟨hT0, Fr.rf⟩
  · rw [if_neg hz]
    exact t_diL hm m hp cs x0 0 none (by omega) (by omega) hT0 Fr.rf rfl
end T17
