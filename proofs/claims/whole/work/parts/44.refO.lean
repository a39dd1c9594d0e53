/-! The reference: what confidence is made of -/
def shB (c : Nat) : Bool := decide (c = 29 ∨ c = 30)
def nsh : List Nat → Nat
  | [] => 0
  | c :: t => (if shB c = true then 1 else 0) + nsh t
theorem nsh_app : ∀ (a b : List Nat), nsh (a ++ b) = nsh a + nsh b
  | [], b => by simp [nsh]
  | c :: t, b => by simp only [List.cons_append, nsh]; rw [nsh_app t b]; omega
theorem nsh_s {cs : List Nat} {j : Nat} (h : j < cs.length) : nsh (cs.take (j + 1)) = nsh (cs.take j) + (if shB cs[j] = true then 1 else 0) := by rw [take_s h, nsh_app]; rfl
section R44
variable {l : Launch} {X : EX} {hp : HPt}
set_option maxRecDepth 100000 in
set_option maxHeartbeats 4000000 in
theorem r_pwL {a n : Nat} (hn : n < 100) : ∀ (d j : Nat), j + d = n → PZ l X (MZi X mX12_power (fun r hp' => r = nI (a ^ n) ∧ hp' = hp)) mX12_power 4 [some (.int (nI a)), some (.int (nI n)), some (.int (nI (a ^ j))), some (.int (nI j))] [] hp 0 0 := by
  intro d
  induction d with
  | zero =>
    intro j hj
    have hje : j = n := by omega
    subst hje
    refine R_iload_n dX12_power_4 rfl rfl ?_
    refine R_iload_n dX12_power_5 rfl rfl ?_
    refine N_icmp_ge (tgt := 19) dX12_power_6 (by decide) (by omega) (by omega) (fun _ => ?_) (fun hc => absurd hc (by omega))
    refine R_iload_n dX12_power_19 rfl rfl ?_
    exact R_reti dX12_power_20 rfl rfl rfl ⟨rfl, rfl⟩
  | succ d ih =>
    intro j hj
    refine R_iload_n dX12_power_4 rfl rfl ?_
    refine R_iload_n dX12_power_5 rfl rfl ?_
    refine N_icmp_ge (tgt := 19) dX12_power_6 (by decide) (by omega) (by omega) (fun hc => absurd hc (by omega)) (fun _ => ?_)
    refine R_iload_n dX12_power_9 rfl rfl ?_
    refine R_iload_n dX12_power_10 rfl rfl ?_
    refine N_imul dX12_power_11 ?_
    refine R_istore_n (lv' := [some (.int (nI a)), some (.int (nI n)), some (.int (nI ((a ^ j) * a))), some (.int (nI j))]) dX12_power_12 rfl (by decide) rfl ?_
    refine N_iinc (d := 1) (lv' := [some (.int (nI a)), some (.int (nI n)), some (.int (nI ((a ^ j) * a))), some (.int (nI (j + 1)))]) dX12_power_13 rfl rfl ?_
    refine R_goto (tgt := 4) dX12_power_16 (by decide) ?_
    exact ih (j + 1) (by omega)
set_option maxRecDepth 100000 in
set_option maxHeartbeats 4000000 in
theorem r_pow {a n : Nat} (hn : n < 100) : SpI l X mX12_power [.int (nI a), .int (nI n)] hp (fun r hp' => r = nI (a ^ n) ∧ hp' = hp) := by
  refine SpI.of pnX12 (Nat.le_of_ble_eq_true rfl) rfl ?_
  refine R_iconst (v := (nI 1)) dX12_power_0 (by decide) ?_
  refine R_istore_n (lv' := [some (.int (nI a)), some (.int (nI n)), some (.int (nI 1)), none]) dX12_power_1 rfl (by decide) rfl ?_
  refine R_iconst (v := (nI 0)) dX12_power_2 (by decide) ?_
  refine R_istore_n (lv' := [some (.int (nI a)), some (.int (nI n)), some (.int (nI 1)), some (.int (nI 0))]) dX12_power_3 rfl (by decide) rfl ?_
  exact r_pwL hn n 0 (by omega)
set_option maxRecDepth 100000 in
set_option maxHeartbeats 4000000 in
theorem r_ish {c : Nat} (hc : c < 32) : SpI l X mX12_isShift [.int (nI c)] hp (fun r hp' => r = bz (shB c) ∧ hp' = hp) := by
  refine SpI.of pnX12 (Nat.le_of_ble_eq_true rfl) rfl ?_
  refine R_iload_n dX12_isShift_0 rfl rfl ?_
  refine R_bipush (v := (nI 29)) dX12_isShift_1 (by decide) ?_
  refine N_icmp_eq (tgt := 12) dX12_isShift_3 (by decide) (by omega) (by omega) (fun h1 => ?_) (fun h1 => ?_)
  · refine R_iconst (v := (nI 1)) dX12_isShift_12 (by decide) ?_
    refine R_goto (tgt := 17) dX12_isShift_13 (by decide) ?_
    exact R_retz dX12_isShift_17 rfl rfl rfl rfl ⟨bz_c1 (.inl h1), rfl⟩
  · refine R_iload_n dX12_isShift_6 rfl rfl ?_
    refine R_bipush (v := (nI 30)) dX12_isShift_7 (by decide) ?_
    refine N_icmp_ne (tgt := 16) dX12_isShift_9 (by decide) (by omega) (by omega) (fun h2 => ?_) (fun h2 => ?_)
    · refine R_iconst (v := (nI 0)) dX12_isShift_16 (by decide) ?_
      exact R_retz dX12_isShift_17 rfl rfl rfl rfl ⟨bz_c0 (by omega), rfl⟩
    · refine R_iconst (v := (nI 1)) dX12_isShift_12 (by decide) ?_
      refine R_goto (tgt := 17) dX12_isShift_13 (by decide) ?_
      exact R_retz dX12_isShift_17 rfl rfl rfl rfl ⟨bz_c1 (.inr h2), rfl⟩
set_option maxRecDepth 100000 in
set_option maxHeartbeats 4000000 in
theorem r_sbL {cs : List Nat} {sc un wd i : Nat} {ln ac nxx sn sx tl sl st : Int32} (hi : i ≤ cs.length) (H0 : hp[61]? = some (ob 11 [.ref 62, .int (ln), .ref 63, .ref 64, .ref 65, .int (ac), .int (nxx), .ref 66, .ref 67, .ref 68, .ref 69, .int (sn), .int (sx), .ref 70, .ref 71, .ref 72, .ref 73, .ref 74, .int (tl), .ref 75, .int (sl), .ref 76, .int (st), .ref 77])) (H : RwAt hp 63 (cs, sc, un, wd)) : ∀ (d j : Nat), j + d = i → PZ l X (MZi X mX12_shiftsBelow (fun r hp' => r = nI (nsh (cs.take i)) ∧ hp' = hp)) mX12_shiftsBelow 4 [some (.ref 61), some (.int (nI i)), some (.int (nI (nsh (cs.take j)))), some (.int (nI j))] [] hp 0 0 := by
  obtain ⟨hL, hC3, -⟩ := H.ok
  obtain ⟨f, Ha, hR⟩ := H
  obtain ⟨h0, h1, h2, h3, hf, -⟩ := hR.to
  intro d
  induction d with
  | zero =>
    intro j hj
    have hje : j = i := by omega
    subst hje
    refine R_iload_n dX12_shiftsBelow_4 rfl rfl ?_
    refine R_iload_n dX12_shiftsBelow_5 rfl rfl ?_
    refine N_icmp_ge (tgt := 37) dX12_shiftsBelow_6 (by decide) (by omega) (by omega) (fun _ => ?_) (fun hc => absurd hc (by omega))
    refine R_iload_n dX12_shiftsBelow_37 rfl rfl ?_
    exact R_reti dX12_shiftsBelow_38 rfl rfl rfl ⟨rfl, rfl⟩
  | succ d ih =>
    intro j hj
    have hc := hC3 cs[j] (List.getElem_mem (by omega))
    have hs := nsh_s (cs := cs) (j := j) (by omega)
    refine R_iload_n dX12_shiftsBelow_4 rfl rfl ?_
    refine R_iload_n dX12_shiftsBelow_5 rfl rfl ?_
    refine N_icmp_ge (tgt := 37) dX12_shiftsBelow_6 (by decide) (by omega) (by omega) (fun hc => absurd hc (by omega)) (fun _ => ?_)
    refine R_iload_n dX12_shiftsBelow_9 rfl rfl ?_
    refine R_aload_n dX12_shiftsBelow_10 rfl rfl ?_
    refine R_getf dX12_shiftsBelow_11 gX12_13 H0 rfl ?_
    refine R_iconst (v := (nI 4)) dX12_shiftsBelow_14 (by decide) ?_
    refine R_iload_n dX12_shiftsBelow_15 rfl rfl ?_
    refine N_iadd dX12_shiftsBelow_16 ?_
    refine N_iald (y := (nI (cs[j]))) dX12_shiftsBelow_17 Ha (by omega) (by decide) (hf j (by omega)) ?_
    refine R_stati (As := [.int (nI (cs[j]))]) (st := [.int (nI (nsh (cs.take j)))]) kX12_isShift lX12_174 (r_ish hc) dX12_shiftsBelow_18 rfl rfl (Nat.le_of_ble_eq_true rfl) ⟨by decide, by decide⟩ zX12_isShift ⟨Nat.le_refl _, Nat.le_refl _⟩ (fun wr3 wp2 wq1 => ?_)
    obtain ⟨rfl, rfl⟩ : wr3 = _ ∧ hp = wp2 := ⟨wq1.1, wq1.2.symm⟩
    cases hsh : shB cs[j] with
    | false =>
      show PZ _ _ _ _ _ _ (.int (nI 0) :: _) _ _ _
      rw [hsh] at hs
      refine N_if_eq (tgt := 28) dX12_shiftsBelow_21 (by decide) (by decide) (fun _ => ?_) (fun hc => absurd hc (by decide))
      refine R_iconst (v := (nI 0)) dX12_shiftsBelow_28 (by decide) ?_
      refine N_iadd dX12_shiftsBelow_29 ?_
      refine R_istore_n (lv' := [some (.ref 61), some (.int (nI i)), some (.int (nI ((nsh (cs.take j)) + 0))), some (.int (nI j))]) dX12_shiftsBelow_30 rfl (by decide) rfl ?_
      refine N_iinc (d := 1) (lv' := [some (.ref 61), some (.int (nI i)), some (.int (nI ((nsh (cs.take j)) + 0))), some (.int (nI (j + 1)))]) dX12_shiftsBelow_31 rfl rfl ?_
      refine R_goto (tgt := 4) dX12_shiftsBelow_34 (by decide) ?_
      have h9 := ih (j + 1) (by omega)
      rw [hs] at h9
      exact h9
    | true =>
      show PZ _ _ _ _ _ _ (.int (nI 1) :: _) _ _ _
      rw [hsh] at hs
      refine N_if_eq (tgt := 28) dX12_shiftsBelow_21 (by decide) (by decide) (fun hc => absurd hc (by decide)) (fun _ => ?_)
      refine R_iconst (v := (nI 1)) dX12_shiftsBelow_24 (by decide) ?_
      refine R_goto (tgt := 29) dX12_shiftsBelow_25 (by decide) ?_
      refine N_iadd dX12_shiftsBelow_29 ?_
      refine R_istore_n (lv' := [some (.ref 61), some (.int (nI i)), some (.int (nI ((nsh (cs.take j)) + 1))), some (.int (nI j))]) dX12_shiftsBelow_30 rfl (by decide) rfl ?_
      refine N_iinc (d := 1) (lv' := [some (.ref 61), some (.int (nI i)), some (.int (nI ((nsh (cs.take j)) + 1))), some (.int (nI (j + 1)))]) dX12_shiftsBelow_31 rfl rfl ?_
      refine R_goto (tgt := 4) dX12_shiftsBelow_34 (by decide) ?_
      have h9 := ih (j + 1) (by omega)
      rw [hs] at h9
      exact h9
set_option maxRecDepth 100000 in
set_option maxHeartbeats 4000000 in
theorem r_sb {cs : List Nat} {sc un wd i : Nat} {ln ac nxx sn sx tl sl st : Int32} (hi : i ≤ cs.length) (H0 : hp[61]? = some (ob 11 [.ref 62, .int (ln), .ref 63, .ref 64, .ref 65, .int (ac), .int (nxx), .ref 66, .ref 67, .ref 68, .ref 69, .int (sn), .int (sx), .ref 70, .ref 71, .ref 72, .ref 73, .ref 74, .int (tl), .ref 75, .int (sl), .ref 76, .int (st), .ref 77])) (H : RwAt hp 63 (cs, sc, un, wd)) : SpI l X mX12_shiftsBelow [.ref 61, .int (nI i)] hp (fun r hp' => r = nI (nsh (cs.take i)) ∧ hp' = hp) := by
  refine SpI.of pnX12 (Nat.le_of_ble_eq_true rfl) rfl ?_
  refine R_iconst (v := (nI 0)) dX12_shiftsBelow_0 (by decide) ?_
  refine R_istore_n (lv' := [some (.ref 61), some (.int (nI i)), some (.int (nI 0)), none]) dX12_shiftsBelow_1 rfl (by decide) rfl ?_
  refine R_iconst (v := (nI 0)) dX12_shiftsBelow_2 (by decide) ?_
  refine R_istore_n (lv' := [some (.ref 61), some (.int (nI i)), some (.int (nI 0)), some (.int (nI 0))]) dX12_shiftsBelow_3 rfl (by decide) rfl ?_
  exact r_sbL hi H0 H i 0 (by omega)
end R44
