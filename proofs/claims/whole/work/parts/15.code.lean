/-! The class Code -/
theorem sL0_at : ∀ c, c < 26 → (sL 0).getD c 0 = 65 + c := by decide +kernel
theorem sL1_at : ∀ c, c < 26 → (sL 1).getD c 0 = fig c := by decide +kernel
theorem ix0_at : ∀ x, x < 256 → ixo (sL 0) x = (if 65 ≤ x ∧ x ≤ 90 then nI (x - 65) else -1) := by decide +kernel
theorem ix1_at (x : Nat) : ixo (sL 1) x = (if x ∈ figL then nI (figL.idxOf x) else -1) := rfl
theorem fig_idx {x : Nat} (h : x ∈ figL) : figL.idxOf x < 26 := List.idxOf_lt_length_of_mem h
theorem fig_rng : ∀ x, x < 256 → x ∈ figL → x ≠ 32 ∧ x ≠ 10 ∧ x ≠ 13 ∧ ¬ (65 ≤ x ∧ x ≤ 90) := by decide +kernel
/-- what Code.of answers -/
def cofI (x : Nat) : Int32 := if cof x = 255 then -1 else nI (cof x)
section C15
variable {l : Launch} {X : EX} {hp : HPt}
set_option maxRecDepth 100000 in
set_option maxHeartbeats 4000000 in
theorem c_dep {c : Nat} (hb : c < 2 ^ 31) : SpI l X mX0_dependsOnCase [.int (nI c)] hp (fun r hp' => r = (if c < 26 then nI 1 else nI 0) ∧ hp' = hp) := by
  refine SpI.of pnX0 (Nat.le_of_ble_eq_true rfl) rfl ?_
  refine R_iload_n dX0_dependsOnCase_0 rfl rfl ?_
  refine R_if_lt (tgt := 14) dX0_dependsOnCase_1 (by decide) (fun hc => absurd hc (nI_pos (by omega))) (fun _ => ?_)
  refine R_iload_n dX0_dependsOnCase_4 rfl rfl ?_
  refine R_bipush (v := (nI 26)) dX0_dependsOnCase_5 (by decide) ?_
  refine N_icmp_ge (tgt := 14) dX0_dependsOnCase_7 (by decide) (by omega) (by omega) (fun hc => ?_) (fun hc => ?_)
  · refine R_iconst (v := (nI 0)) dX0_dependsOnCase_14 (by decide) ?_
    exact R_retz dX0_dependsOnCase_15 rfl rfl rfl rfl ⟨by rw [if_neg (by omega)], rfl⟩
  · refine R_iconst (v := (nI 1)) dX0_dependsOnCase_10 (by decide) ?_
    refine R_goto (tgt := 15) dX0_dependsOnCase_11 (by decide) ?_
    exact R_retz dX0_dependsOnCase_15 rfl rfl rfl rfl ⟨by rw [if_pos hc], rfl⟩
set_option maxRecDepth 100000 in
set_option maxHeartbeats 4000000 in
theorem c_isShift {c : Nat} (hb : c < 2 ^ 31) : SpI l X mX0_isShift [.int (nI c)] hp (fun r hp' => r = (if c = 29 ∨ c = 30 then nI 1 else nI 0) ∧ hp' = hp) := by
  refine SpI.of pnX0 (Nat.le_of_ble_eq_true rfl) rfl ?_
  refine R_iload_n dX0_isShift_0 rfl rfl ?_
  refine R_bipush (v := (nI 29)) dX0_isShift_1 (by decide) ?_
  refine N_icmp_eq (tgt := 12) dX0_isShift_3 (by decide) (by omega) (by omega) (fun hc => ?_) (fun hc => ?_)
  · refine R_iconst (v := (nI 1)) dX0_isShift_12 (by decide) ?_
    refine R_goto (tgt := 17) dX0_isShift_13 (by decide) ?_
    exact R_retz dX0_isShift_17 rfl rfl rfl rfl ⟨by rw [if_pos (Or.inl hc)], rfl⟩
  · refine R_iload_n dX0_isShift_6 rfl rfl ?_
    refine R_bipush (v := (nI 30)) dX0_isShift_7 (by decide) ?_
    refine N_icmp_ne (tgt := 16) dX0_isShift_9 (by decide) (by omega) (by omega) (fun hc2 => ?_) (fun hc2 => ?_)
    · refine R_iconst (v := (nI 0)) dX0_isShift_16 (by decide) ?_
      exact R_retz dX0_isShift_17 rfl rfl rfl rfl ⟨by rw [if_neg (by omega)], rfl⟩
    · refine R_iconst (v := (nI 1)) dX0_isShift_12 (by decide) ?_
      refine R_goto (tgt := 17) dX0_isShift_13 (by decide) ?_
      exact R_retz dX0_isShift_17 rfl rfl rfl rfl ⟨by rw [if_pos (Or.inr hc2)], rfl⟩
set_option maxRecDepth 100000 in
set_option maxHeartbeats 4000000 in
theorem c_shiftTo {w : Nat} (hb : w < 2 ^ 31) : SpI l X mX0_shiftTo [.int (nI w)] hp (fun r hp' => r = nI (if w = 1 then 29 else 30) ∧ hp' = hp) := by
  refine SpI.of pnX0 (Nat.le_of_ble_eq_true rfl) rfl ?_
  refine R_iload_n dX0_shiftTo_0 rfl rfl ?_
  refine R_iconst (v := (nI 1)) dX0_shiftTo_1 (by decide) ?_
  refine N_icmp_ne (tgt := 10) dX0_shiftTo_2 (by decide) (by omega) (by omega) (fun hc => ?_) (fun hc => ?_)
  · refine R_bipush (v := (nI 30)) dX0_shiftTo_10 (by decide) ?_
    exact R_reti dX0_shiftTo_12 rfl rfl rfl ⟨by rw [if_neg hc], rfl⟩
  · refine R_bipush (v := (nI 29)) dX0_shiftTo_5 (by decide) ?_
    refine R_goto (tgt := 12) dX0_shiftTo_7 (by decide) ?_
    exact R_reti dX0_shiftTo_12 rfl rfl rfl ⟨by rw [if_pos hc], rfl⟩
set_option maxRecDepth 100000 in
set_option maxHeartbeats 4000000 in
theorem c_caseAfter {c p un : Nat} (hc : c < 32) (hp1 : p ≤ 1) (hu : un ≤ 1) : SpI l X mX0_caseAfter [.int (nI c), .int (nI p), .int (nI un)] hp (fun r hp' => r = nI (cAft un c p) ∧ hp' = hp) := by
  refine SpI.of pnX0 (Nat.le_of_ble_eq_true rfl) rfl ?_
  have hcs : c < 26 ∨ c = 26 ∨ c = 27 ∨ c = 28 ∨ c = 29 ∨ c = 30 ∨ c = 31 := by omega
  rcases hcs with h | h | h | h | h | h | h
  · refine R_iload_n dX0_caseAfter_0 rfl rfl ?_
    refine R_tableOut (tgt := 51) dX0_caseAfter_1 (Or.inl (by rw [nI_toInt (by omega)]; omega)) (by decide) ?_
    refine R_iload_n dX0_caseAfter_51 rfl rfl ?_
    exact R_reti dX0_caseAfter_52 rfl rfl rfl ⟨by unfold cAft; rw [if_neg (by omega), if_neg (by omega), if_neg (by omega)], rfl⟩
  · subst h
    refine R_iload_n dX0_caseAfter_0 rfl rfl ?_
    refine R_tableIn (off := 39) (tgt := 40) dX0_caseAfter_1 (by decide) (by decide) (by decide) (by decide) ?_
    refine R_iload_n dX0_caseAfter_40 rfl rfl ?_
    refine R_iconst (v := (nI 1)) dX0_caseAfter_41 (by decide) ?_
    refine N_icmp_ne (tgt := 49) dX0_caseAfter_42 (by decide) (by omega) (by omega) (fun hq => ?_) (fun hq => ?_)
    · refine R_iload_n dX0_caseAfter_49 rfl rfl ?_
      exact R_reti dX0_caseAfter_50 rfl rfl rfl ⟨by unfold cAft; rw [if_neg (by omega), if_neg (by omega), if_neg (by omega)], rfl⟩
    · refine R_iconst (v := (nI 0)) dX0_caseAfter_45 (by decide) ?_
      refine R_goto (tgt := 50) dX0_caseAfter_46 (by decide) ?_
      exact R_reti dX0_caseAfter_50 rfl rfl rfl ⟨by unfold cAft; rw [if_neg (by omega), if_neg (by omega), if_pos ⟨rfl, hq⟩], rfl⟩
  · subst h
    refine R_iload_n dX0_caseAfter_0 rfl rfl ?_
    refine R_tableIn (off := 50) (tgt := 51) dX0_caseAfter_1 (by decide) (by decide) (by decide) (by decide) ?_
    refine R_iload_n dX0_caseAfter_51 rfl rfl ?_
    exact R_reti dX0_caseAfter_52 rfl rfl rfl ⟨by simp [cAft], rfl⟩
  · subst h
    refine R_iload_n dX0_caseAfter_0 rfl rfl ?_
    refine R_tableIn (off := 50) (tgt := 51) dX0_caseAfter_1 (by decide) (by decide) (by decide) (by decide) ?_
    refine R_iload_n dX0_caseAfter_51 rfl rfl ?_
    exact R_reti dX0_caseAfter_52 rfl rfl rfl ⟨by simp [cAft], rfl⟩
  · subst h
    refine R_iload_n dX0_caseAfter_0 rfl rfl ?_
    refine R_tableIn (off := 35) (tgt := 36) dX0_caseAfter_1 (by decide) (by decide) (by decide) (by decide) ?_
    refine R_iconst (v := (nI 1)) dX0_caseAfter_36 (by decide) ?_
    exact R_reti dX0_caseAfter_37 rfl rfl rfl ⟨by simp [cAft], rfl⟩
  · subst h
    refine R_iload_n dX0_caseAfter_0 rfl rfl ?_
    refine R_tableIn (off := 37) (tgt := 38) dX0_caseAfter_1 (by decide) (by decide) (by decide) (by decide) ?_
    refine R_iconst (v := (nI 0)) dX0_caseAfter_38 (by decide) ?_
    exact R_reti dX0_caseAfter_39 rfl rfl rfl ⟨by simp [cAft], rfl⟩
  · subst h
    refine R_iload_n dX0_caseAfter_0 rfl rfl ?_
    refine R_tableOut (tgt := 51) dX0_caseAfter_1 (by decide) (by decide) ?_
    refine R_iload_n dX0_caseAfter_51 rfl rfl ?_
    exact R_reti dX0_caseAfter_52 rfl rfl rfl ⟨by simp [cAft], rfl⟩
set_option maxRecDepth 100000 in
set_option maxHeartbeats 4000000 in
theorem c_printed {c p : Nat} (hc : c < 32) (hp1 : p ≤ 1) : SpI l X mX0_printed [.int (nI c), .int (nI p)] hp (fun r hp' => r = prt c p ∧ hp' = hp) := by
  refine SpI.of pnX0 (Nat.le_of_ble_eq_true rfl) rfl ?_
  have hcs : c < 26 ∨ c = 26 ∨ c = 27 ∨ c = 28 ∨ c = 29 ∨ c = 30 ∨ c = 31 := by omega
  rcases hcs with h | h | h | h | h | h | h
  · refine R_iload_n dX0_printed_0 rfl rfl ?_
    refine R_stati (As := [.int (nI c)]) (st := []) kX0_dependsOnCase lX0_11 (c_dep (c := c) (by omega)) dX0_printed_1 rfl rfl (Nat.le_of_ble_eq_true rfl) ⟨by decide, by decide⟩ zX0_dependsOnCase ⟨Nat.le_refl _, Nat.le_refl _⟩ (fun wr3 wp2 wq1 => ?_)
    obtain ⟨rfl, rfl⟩ : wr3 = _ ∧ hp = wp2 := ⟨wq1.1, wq1.2.symm⟩
    rw [if_pos h]
    refine N_if_eq (tgt := 28) dX0_printed_4 (by decide) (by omega) (fun hc => absurd hc (by decide)) (fun _ => ?_)
    refine R_iload_n dX0_printed_7 rfl rfl ?_
    refine R_iconst (v := (nI 1)) dX0_printed_8 (by decide) ?_
    refine N_icmp_ne (tgt := 21) dX0_printed_9 (by decide) (by omega) (by omega) (fun hq => ?_) (fun hq => ?_)
    · refine R_ldcL dX0_printed_21 rfl ?_
      refine R_iload_n dX0_printed_23 rfl rfl ?_
      refine R_callKi (i := 0) (As := [.int (nI c)]) (st := []) kJ0_charAt_5068e rfl (by decide) lX0_17 (j_charAt (i := 0) (by decide) h) dX0_printed_24 rfl rfl (Nat.le_of_ble_eq_true rfl) ⟨by decide, by decide⟩ zJ0_charAt_5068e ⟨Nat.le_refl _, Nat.le_refl _⟩ (fun wr6 wp4 wq5 => ?_)
      obtain ⟨rfl, rfl⟩ : wr6 = _ ∧ hp = wp4 := ⟨wq5.1, wq5.2.symm⟩
      exact R_reti dX0_printed_27 rfl rfl rfl ⟨by rw [prt_in (by omega)]; unfold ch; rw [if_pos h, if_neg hq]; exact congrArg nI (sL0_at c h), rfl⟩
    · refine R_ldcF dX0_printed_12 rfl ?_
      refine R_iload_n dX0_printed_14 rfl rfl ?_
      refine R_callKi (i := 1) (As := [.int (nI c)]) (st := []) kJ0_charAt_5068e rfl (by decide) lX0_17 (j_charAt (i := 1) (by decide) h) dX0_printed_15 rfl rfl (Nat.le_of_ble_eq_true rfl) ⟨by decide, by decide⟩ zJ0_charAt_5068e ⟨Nat.le_refl _, Nat.le_refl _⟩ (fun wr9 wp7 wq8 => ?_)
      obtain ⟨rfl, rfl⟩ : wr9 = _ ∧ hp = wp7 := ⟨wq8.1, wq8.2.symm⟩
      refine R_goto (tgt := 27) dX0_printed_18 (by decide) ?_
      exact R_reti dX0_printed_27 rfl rfl rfl ⟨by rw [prt_in (by omega)]; unfold ch; rw [if_pos h, if_pos hq]; exact congrArg nI (sL1_at c h), rfl⟩
  · subst h
    refine R_iload_n dX0_printed_0 rfl rfl ?_
    refine R_stati (As := [.int (nI 26)]) (st := []) kX0_dependsOnCase lX0_11 (c_dep (c := 26) (by omega)) dX0_printed_1 rfl rfl (Nat.le_of_ble_eq_true rfl) ⟨by decide, by decide⟩ zX0_dependsOnCase ⟨Nat.le_refl _, Nat.le_refl _⟩ (fun wr12 wp11 wq10 => ?_)
    obtain ⟨rfl, rfl⟩ : wr12 = _ ∧ hp = wp11 := ⟨wq10.1, wq10.2.symm⟩
    rw [if_neg (by omega)]
    refine N_if_eq (tgt := 28) dX0_printed_4 (by decide) (by omega) (fun _ => ?_) (fun hc => absurd hc (by decide))
    refine R_iload_n dX0_printed_28 rfl rfl ?_
    refine R_tableIn (off := 27) (tgt := 56) dX0_printed_29 (by decide) (by decide) (by decide) (by decide) ?_
    refine R_bipush (v := (nI 32)) dX0_printed_56 (by decide) ?_
    exact R_reti dX0_printed_58 rfl rfl rfl ⟨by simp [prt, ch], rfl⟩
  · subst h
    refine R_iload_n dX0_printed_0 rfl rfl ?_
    refine R_stati (As := [.int (nI 27)]) (st := []) kX0_dependsOnCase lX0_11 (c_dep (c := 27) (by omega)) dX0_printed_1 rfl rfl (Nat.le_of_ble_eq_true rfl) ⟨by decide, by decide⟩ zX0_dependsOnCase ⟨Nat.le_refl _, Nat.le_refl _⟩ (fun wr15 wp14 wq13 => ?_)
    obtain ⟨rfl, rfl⟩ : wr15 = _ ∧ hp = wp14 := ⟨wq13.1, wq13.2.symm⟩
    rw [if_neg (by omega)]
    refine N_if_eq (tgt := 28) dX0_printed_4 (by decide) (by omega) (fun _ => ?_) (fun hc => absurd hc (by decide))
    refine R_iload_n dX0_printed_28 rfl rfl ?_
    refine R_tableIn (off := 30) (tgt := 59) dX0_printed_29 (by decide) (by decide) (by decide) (by decide) ?_
    refine R_bipush (v := (nI 10)) dX0_printed_59 (by decide) ?_
    exact R_reti dX0_printed_61 rfl rfl rfl ⟨by simp [prt, ch], rfl⟩
  · subst h
    refine R_iload_n dX0_printed_0 rfl rfl ?_
    refine R_stati (As := [.int (nI 28)]) (st := []) kX0_dependsOnCase lX0_11 (c_dep (c := 28) (by omega)) dX0_printed_1 rfl rfl (Nat.le_of_ble_eq_true rfl) ⟨by decide, by decide⟩ zX0_dependsOnCase ⟨Nat.le_refl _, Nat.le_refl _⟩ (fun wr18 wp17 wq16 => ?_)
    obtain ⟨rfl, rfl⟩ : wr18 = _ ∧ hp = wp17 := ⟨wq16.1, wq16.2.symm⟩
    rw [if_neg (by omega)]
    refine N_if_eq (tgt := 28) dX0_printed_4 (by decide) (by omega) (fun _ => ?_) (fun hc => absurd hc (by decide))
    refine R_iload_n dX0_printed_28 rfl rfl ?_
    refine R_tableIn (off := 33) (tgt := 62) dX0_printed_29 (by decide) (by decide) (by decide) (by decide) ?_
    refine R_bipush (v := (nI 13)) dX0_printed_62 (by decide) ?_
    exact R_reti dX0_printed_64 rfl rfl rfl ⟨by simp [prt, ch], rfl⟩
  · subst h
    refine R_iload_n dX0_printed_0 rfl rfl ?_
    refine R_stati (As := [.int (nI 29)]) (st := []) kX0_dependsOnCase lX0_11 (c_dep (c := 29) (by omega)) dX0_printed_1 rfl rfl (Nat.le_of_ble_eq_true rfl) ⟨by decide, by decide⟩ zX0_dependsOnCase ⟨Nat.le_refl _, Nat.le_refl _⟩ (fun wr21 wp20 wq19 => ?_)
    obtain ⟨rfl, rfl⟩ : wr21 = _ ∧ hp = wp20 := ⟨wq19.1, wq19.2.symm⟩
    rw [if_neg (by omega)]
    refine N_if_eq (tgt := 28) dX0_printed_4 (by decide) (by omega) (fun _ => ?_) (fun hc => absurd hc (by decide))
    refine R_iload_n dX0_printed_28 rfl rfl ?_
    refine R_tableOut (tgt := 65) dX0_printed_29 (by decide) (by decide) ?_
    refine R_iconst (v := (-1)) dX0_printed_65 (by decide) ?_
    exact R_reti dX0_printed_66 rfl rfl rfl ⟨by simp [prt, ch], rfl⟩
  · subst h
    refine R_iload_n dX0_printed_0 rfl rfl ?_
    refine R_stati (As := [.int (nI 30)]) (st := []) kX0_dependsOnCase lX0_11 (c_dep (c := 30) (by omega)) dX0_printed_1 rfl rfl (Nat.le_of_ble_eq_true rfl) ⟨by decide, by decide⟩ zX0_dependsOnCase ⟨Nat.le_refl _, Nat.le_refl _⟩ (fun wr24 wp23 wq22 => ?_)
    obtain ⟨rfl, rfl⟩ : wr24 = _ ∧ hp = wp23 := ⟨wq22.1, wq22.2.symm⟩
    rw [if_neg (by omega)]
    refine N_if_eq (tgt := 28) dX0_printed_4 (by decide) (by omega) (fun _ => ?_) (fun hc => absurd hc (by decide))
    refine R_iload_n dX0_printed_28 rfl rfl ?_
    refine R_tableOut (tgt := 65) dX0_printed_29 (by decide) (by decide) ?_
    refine R_iconst (v := (-1)) dX0_printed_65 (by decide) ?_
    exact R_reti dX0_printed_66 rfl rfl rfl ⟨by simp [prt, ch], rfl⟩
  · subst h
    refine R_iload_n dX0_printed_0 rfl rfl ?_
    refine R_stati (As := [.int (nI 31)]) (st := []) kX0_dependsOnCase lX0_11 (c_dep (c := 31) (by omega)) dX0_printed_1 rfl rfl (Nat.le_of_ble_eq_true rfl) ⟨by decide, by decide⟩ zX0_dependsOnCase ⟨Nat.le_refl _, Nat.le_refl _⟩ (fun wr27 wp26 wq25 => ?_)
    obtain ⟨rfl, rfl⟩ : wr27 = _ ∧ hp = wp26 := ⟨wq25.1, wq25.2.symm⟩
    rw [if_neg (by omega)]
    refine N_if_eq (tgt := 28) dX0_printed_4 (by decide) (by omega) (fun _ => ?_) (fun hc => absurd hc (by decide))
    refine R_iload_n dX0_printed_28 rfl rfl ?_
    refine R_tableOut (tgt := 65) dX0_printed_29 (by decide) (by decide) ?_
    refine R_iconst (v := (-1)) dX0_printed_65 (by decide) ?_
    exact R_reti dX0_printed_66 rfl rfl rfl ⟨by simp [prt, ch], rfl⟩
set_option maxRecDepth 100000 in
set_option maxHeartbeats 4000000 in
theorem c_of {x : Nat} (hx : x < 256) : SpI l X mX0_of [.int (nI x)] hp (fun r hp' => r = cofI x ∧ hp' = hp) := by
  refine SpI.of pnX0 (Nat.le_of_ble_eq_true rfl) rfl ?_
  by_cases h1 : x = 32
  · subst h1
    refine R_iload_n dX0_of_0 rfl rfl ?_
    refine R_lookup (off := 35) (tgt := 36) dX0_of_1 (by decide) (by decide) (by decide) ?_
    refine R_bipush (v := (nI 26)) dX0_of_36 (by decide) ?_
    exact R_reti dX0_of_38 rfl rfl rfl ⟨by decide, rfl⟩
  · by_cases h2 : x = 10
    · subst h2
      refine R_iload_n dX0_of_0 rfl rfl ?_
      refine R_lookup (off := 38) (tgt := 39) dX0_of_1 (by decide) (by decide) (by decide) ?_
      refine R_bipush (v := (nI 27)) dX0_of_39 (by decide) ?_
      exact R_reti dX0_of_41 rfl rfl rfl ⟨by decide, rfl⟩
    · by_cases h3 : x = 13
      · subst h3
        refine R_iload_n dX0_of_0 rfl rfl ?_
        refine R_lookup (off := 41) (tgt := 42) dX0_of_1 (by decide) (by decide) (by decide) ?_
        refine R_bipush (v := (nI 28)) dX0_of_42 (by decide) ?_
        exact R_reti dX0_of_44 rfl rfl rfl ⟨by decide, rfl⟩
      · refine R_iload_n dX0_of_0 rfl rfl ?_
        refine R_lookup (off := 44) (tgt := 45) dX0_of_1 (by decide) (by rw [nI_toInt (by omega)]; show Op.lookupswitch.offset [(10, 38), (13, 41), (32, 35)] 44 (x : Int) = 44; rw [Op.lookupswitch.offset_cons, if_neg (by omega), Op.lookupswitch.offset_cons, if_neg (by omega), Op.lookupswitch.offset_cons, if_neg (by omega), Op.lookupswitch.offset_nil]) (by decide) ?_
        refine R_ldcL dX0_of_45 rfl ?_
        refine R_iload_n dX0_of_47 rfl rfl ?_
        refine R_i2c (v := nI x) dX0_of_48 (c_char x hx) ?_
        refine R_callKi (i := 0) (As := [.int (nI x)]) (st := []) kJ0_indexOf_0f7a4 rfl (by decide) lX0_25 (j_ix (i := 0) (by decide) hx) dX0_of_49 rfl rfl (Nat.le_of_ble_eq_true rfl) ⟨by decide, by decide⟩ zJ0_indexOf_0f7a4 ⟨Nat.le_refl _, Nat.le_refl _⟩ (fun wr3 wp1 wq2 => ?_)
        obtain ⟨rfl, rfl⟩ : wr3 = _ ∧ hp = wp1 := ⟨wq2.1, wq2.2.symm⟩
        rw [ix0_at x hx]
        by_cases h4 : 65 ≤ x ∧ x ≤ 90
        · rw [if_pos h4]
          refine R_istore_n (lv' := [some (.int (nI x)), some (.int (nI (x - 65)))]) dX0_of_52 rfl (by decide) rfl ?_
          refine R_iload_n dX0_of_53 rfl rfl ?_
          refine R_if_lt (tgt := 61) dX0_of_54 (by decide) (fun hc => absurd hc (nI_pos (by omega))) (fun _ => ?_)
          refine R_iload_n dX0_of_57 rfl rfl ?_
          refine R_goto (tgt := 68) dX0_of_58 (by decide) ?_
          exact R_reti dX0_of_68 rfl rfl rfl ⟨by unfold cofI cof; rw [if_neg h1, if_neg h2, if_neg h3, if_pos h4, if_neg (by omega)], rfl⟩
        · rw [if_neg h4]
          refine R_istore_n (lv' := [some (.int (nI x)), some (.int (-1))]) dX0_of_52 rfl (by decide) rfl ?_
          refine R_iload_n dX0_of_53 rfl rfl ?_
          refine R_if_lt (tgt := 61) dX0_of_54 (by decide) (fun _ => ?_) (fun hc => absurd (show (-1 : Int32) < 0 by decide) hc)
          refine R_ldcF dX0_of_61 rfl ?_
          refine R_iload_n dX0_of_63 rfl rfl ?_
          refine R_i2c (v := nI x) dX0_of_64 (c_char x hx) ?_
          refine R_callKi (i := 1) (As := [.int (nI x)]) (st := []) kJ0_indexOf_0f7a4 rfl (by decide) lX0_25 (j_ix (i := 1) (by decide) hx) dX0_of_65 rfl rfl (Nat.le_of_ble_eq_true rfl) ⟨by decide, by decide⟩ zJ0_indexOf_0f7a4 ⟨Nat.le_refl _, Nat.le_refl _⟩ (fun wr6 wp4 wq5 => ?_)
          obtain ⟨rfl, rfl⟩ : wr6 = _ ∧ hp = wp4 := ⟨wq5.1, wq5.2.symm⟩
          refine R_reti dX0_of_68 rfl rfl rfl ⟨?_, rfl⟩
          rw [ix1_at]; unfold cofI cof; rw [if_neg h1, if_neg h2, if_neg h3, if_neg h4]
          by_cases h5 : x ∈ figL
          · have := fig_idx h5
            rw [if_pos h5, if_pos h5, if_neg (by omega)]
          · rw [if_neg h5, if_neg h5, if_pos rfl]
set_option maxRecDepth 100000 in
set_option maxHeartbeats 4000000 in
theorem c_caseFor {x : Nat} (hx : x < 256) : SpI l X mX0_caseFor [.int (nI x)] hp (fun r hp' => r = nI (cfor x) ∧ hp' = hp) := by
  refine SpI.of pnX0 (Nat.le_of_ble_eq_true rfl) rfl ?_
  refine R_ldcL dX0_caseFor_0 rfl ?_
  refine R_iload_n dX0_caseFor_2 rfl rfl ?_
  refine R_i2c (v := nI x) dX0_caseFor_3 (c_char x hx) ?_
  refine R_callKi (i := 0) (As := [.int (nI x)]) (st := []) kJ0_indexOf_0f7a4 rfl (by decide) lX0_25 (j_ix (i := 0) (by decide) hx) dX0_caseFor_4 rfl rfl (Nat.le_of_ble_eq_true rfl) ⟨by decide, by decide⟩ zJ0_indexOf_0f7a4 ⟨Nat.le_refl _, Nat.le_refl _⟩ (fun wr3 wp1 wq2 => ?_)
  obtain ⟨rfl, rfl⟩ : wr3 = _ ∧ hp = wp1 := ⟨wq2.1, wq2.2.symm⟩
  rw [ix0_at x hx]
  by_cases h4 : 65 ≤ x ∧ x ≤ 90
  · rw [if_pos h4]
    refine R_if_lt (tgt := 12) dX0_caseFor_7 (by decide) (fun hc => absurd hc (nI_pos (by omega))) (fun _ => ?_)
    refine R_iconst (v := (nI 0)) dX0_caseFor_10 (by decide) ?_
    exact R_reti dX0_caseFor_11 rfl rfl rfl ⟨by unfold cfor; rw [if_pos h4], rfl⟩
  · rw [if_neg h4]
    refine R_if_lt (tgt := 12) dX0_caseFor_7 (by decide) (fun _ => ?_) (fun hc => absurd (show (-1 : Int32) < 0 by decide) hc)
    refine R_ldcF dX0_caseFor_12 rfl ?_
    refine R_iload_n dX0_caseFor_14 rfl rfl ?_
    refine R_i2c (v := nI x) dX0_caseFor_15 (c_char x hx) ?_
    refine R_callKi (i := 1) (As := [.int (nI x)]) (st := []) kJ0_indexOf_0f7a4 rfl (by decide) lX0_25 (j_ix (i := 1) (by decide) hx) dX0_caseFor_16 rfl rfl (Nat.le_of_ble_eq_true rfl) ⟨by decide, by decide⟩ zJ0_indexOf_0f7a4 ⟨Nat.le_refl _, Nat.le_refl _⟩ (fun wr6 wp4 wq5 => ?_)
    obtain ⟨rfl, rfl⟩ : wr6 = _ ∧ hp = wp4 := ⟨wq5.1, wq5.2.symm⟩
    rw [ix1_at]
    by_cases h5 : x ∈ figL
    · have := fig_idx h5
      rw [if_pos h5]
      refine R_if_lt (tgt := 26) dX0_caseFor_19 (by decide) (fun hc => absurd hc (nI_pos (by omega))) (fun _ => ?_)
      refine R_iconst (v := (nI 1)) dX0_caseFor_22 (by decide) ?_
      refine R_goto (tgt := 27) dX0_caseFor_23 (by decide) ?_
      exact R_reti dX0_caseFor_27 rfl rfl rfl ⟨by unfold cfor; rw [if_neg h4, if_pos h5], rfl⟩
    · rw [if_neg h5]
      refine R_if_lt (tgt := 26) dX0_caseFor_19 (by decide) (fun _ => ?_) (fun hc => absurd (show (-1 : Int32) < 0 by decide) hc)
      refine R_iconst (v := (nI 2)) dX0_caseFor_26 (by decide) ?_
      exact R_reti dX0_caseFor_27 rfl rfl rfl ⟨by unfold cfor; rw [if_neg h4, if_neg h5], rfl⟩
end C15
