/-! The class Tape: a state of the document -/
def TpAt (hp : HPt) (h a : Nat) (T : TP) : Prop := match T with
  | (cs, sc, un, wd) => ∃ f : Nat → Int32, hp[h]? = some (ob 8 [.ref a, .int (nI cs.length), .int (nI sc), .int (nI un), .int (nI wd)]) ∧ hp[a]? = some (ia 96 f) ∧ (∀ (i : Nat) (hi : i < cs.length), f i = nI cs[i]) ∧ cs.length ≤ 96 ∧ (∀ c ∈ cs, c < 32) ∧ sc ≤ 1 ∧ un ≤ 1 ∧ 5 ≤ wd ∧ wd ≤ 40
theorem TpAt.fr {hp hp' : HPt} {h a : Nat} {T : TP} {L : List Nat} (H : TpAt hp h a T) (F : Fr L hp hp') (h1 : h ∉ L) (h2 : a ∉ L) : TpAt hp' h a T := by
  obtain ⟨cs, sc, un, wd⟩ := T
  obtain ⟨f, Hh, Ha, r⟩ := H
  exact ⟨f, F.at h1 Hh, F.at h2 Ha, r⟩
def bz : Bool → Int32
  | true => nI 1
  | false => nI 0
theorem bz_n (b : Bool) : narrow .boolean (.int (bz b)) = .int (bz b) := by cases b <;> rfl
theorem bz_f (b : Bool) : fits .boolean (.int (bz b)) = true := by cases b <;> rfl
theorem bz_0 {b : Bool} : bz b = 0 ↔ b = false := by cases b <;> decide
def inB (i : Int32) (n : Nat) : Bool := decide (0 ≤ i.toInt) && decide (i.toInt < n)
theorem inB_t {i : Int32} {n : Nat} (hn : n < 2 ^ 31) (h : inB i n = true) : ∃ j : Nat, j < n ∧ i = nI j := by
  unfold inB at h
  rw [Bool.and_eq_true, decide_eq_true_eq, decide_eq_true_eq] at h
  exact vp_in_of (vp_in_iff.mpr h) hn
theorem inB_n {j n : Nat} (hj : j < 2 ^ 31) : inB (nI j) n = decide (j < n) := by
  unfold inB
  rw [nI_toInt hj]
  by_cases h : j < n
  · simp [h]
  · simp [h]
theorem inB_lt {i : Int32} {n : Nat} (h : i < 0) : inB i n = false := by
  unfold inB
  have := Int32.lt_iff_toInt_lt.mp h
  have z : (0 : Int32).toInt = 0 := by decide
  rw [z] at this
  simp only [Bool.and_eq_false_iff, decide_eq_false_iff_not]
  omega
theorem inB_ge {i : Int32} {n : Nat} (hn : n < 2 ^ 31) (h : nI n ≤ i) : inB i n = false := by
  unfold inB
  have := Int32.le_iff_toInt_le.mp h
  rw [nI_toInt hn] at this
  simp only [Bool.and_eq_false_iff, decide_eq_false_iff_not]
  omega
theorem inB_in {i : Int32} {n : Nat} (hn : n < 2 ^ 31) (h0 : ¬ i < 0) (h : ¬ nI n ≤ i) : inB i n = true := by
  obtain ⟨j, hj, rfl⟩ := nI_of h0
  rw [inB_n hj]
  have : ¬ n ≤ j := fun z => h ((nI_leI hn hj).mpr z)
  simp; omega
theorem upd_s {f : Nat → Int32} {k : Nat} {x : Int32} : upd f k x k = x := pk_us
theorem upd_n {f : Nat → Int32} {k j : Nat} {x : Int32} (h : j ≠ k) : upd f k x j = f j := pk_un h
theorem xor_lt {c b : Nat} (hc : c < 32) (hb : b < 5) : c ^^^ (2 ^ b) < 32 := by
  have h2 : 2 ^ b < 32 := by
    have : 2 ^ b ≤ 2 ^ 4 := Nat.pow_le_pow_right (by omega) (by omega)
    omega
  exact Nat.xor_lt_two_pow (n := 5) hc h2
theorem xor_I : ∀ c, c < 32 → ∀ b, b < 5 → nI c ^^^ (nI 1 <<< (nI b &&& 31)) = nI (c ^^^ (2 ^ b)) := by decide +kernel
/-- the codes behind that are decoded otherwise, from the cases w and p on -/
def lossC (un : Nat) : Nat → Nat → List Nat → Nat
  | _, _, [] => 0
  | w, p, c :: t => (if c < 26 ∧ w ≠ p then 1 else 0) + lossC un (cAft un c w) (cAft un c p) t
theorem lossC_eq (un : Nat) : ∀ (cs : List Nat) (p : Nat), lossC un p p cs = 0
  | [], _ => rfl
  | c :: t, p => by simp [lossC, lossC_eq un t]
theorem lossC_le (un : Nat) : ∀ (cs : List Nat) (w p : Nat), lossC un w p cs ≤ cs.length
  | [], _, _ => Nat.le_refl _
  | c :: t, w, p => by
    have := lossC_le un t (cAft un c w) (cAft un c p)
    simp only [lossC, List.length_cons]
    split <;> omega
def lossD (un sc : Nat) (cs : List Nat) (j : Nat) : Nat := lossC un (cAft un (cs.getD j 31) (cAt un sc cs j)) (cAt un sc cs j) (cs.drop (j + 1))
/-- how many indexes print otherwise -/
def diffC (un : Nat) : Nat → Nat → List Nat → List Nat → Nat
  | p, q, c :: t, d :: u => (if prt c p = prt d q then 0 else 1) + diffC un (cAft un c p) (cAft un d q) t u
  | _, _, _, _ => 0
theorem diffC_le (un : Nat) : ∀ (cs ds : List Nat) (p q : Nat), diffC un p q cs ds ≤ cs.length
  | [], _, _, _ => by simp [diffC]
  | c :: t, [], _, _ => by simp [diffC]
  | c :: t, d :: u, p, q => by
    have := diffC_le un t u (cAft un c p) (cAft un d q)
    simp only [diffC, List.length_cons]
    split <;> omega
theorem drop_c {α : Type} {cs : List α} {j : Nat} (h : j < cs.length) : cs.drop j = cs[j] :: cs.drop (j + 1) := List.drop_eq_getElem_cons h
section T16
variable {l : Launch} {X : EX} {hp : HPt} {h a : Nat} {cs : List Nat} {sc un wd : Nat}
set_option maxRecDepth 100000 in
set_option maxHeartbeats 4000000 in
theorem t_has {i : Int32} (hT : TpAt hp h a (cs, sc, un, wd)) : SpI l X mX9_has [.ref h, .int i] hp (fun r hp' => r = bz (inB i cs.length) ∧ hp' = hp) := by
  obtain ⟨f, Hh, Ha, hf, hL, hC, hs, hu, hw1, hw2⟩ := hT
  refine SpI.of pnX9 (Nat.le_of_ble_eq_true rfl) rfl ?_
  refine R_iload_n dX9_has_0 rfl rfl ?_
  refine R_if_lt (tgt := 16) dX9_has_1 (by decide) (fun h0 => ?_) (fun h0 => ?_)
  · refine R_iconst (v := (nI 0)) dX9_has_16 (by decide) ?_
    exact R_retz dX9_has_17 rfl rfl rfl rfl ⟨by rw [inB_lt h0]; rfl, rfl⟩
  · refine R_iload_n dX9_has_4 rfl rfl ?_
    refine R_aload_n dX9_has_5 rfl rfl ?_
    refine R_getf dX9_has_6 gX9_15 Hh rfl ?_
    refine R_icmp_ge (tgt := 16) dX9_has_9 (by decide) (fun h1 => ?_) (fun h1 => ?_)
    · refine R_iconst (v := (nI 0)) dX9_has_16 (by decide) ?_
      exact R_retz dX9_has_17 rfl rfl rfl rfl ⟨by rw [inB_ge (by omega) h1]; rfl, rfl⟩
    · refine R_iconst (v := (nI 1)) dX9_has_12 (by decide) ?_
      refine R_goto (tgt := 17) dX9_has_13 (by decide) ?_
      exact R_retz dX9_has_17 rfl rfl rfl rfl ⟨by rw [inB_in (by omega) h0 h1]; rfl, rfl⟩
set_option maxRecDepth 100000 in
set_option maxHeartbeats 4000000 in
theorem t_isFull (hT : TpAt hp h a (cs, sc, un, wd)) : SpI l X mX9_isFull [.ref h] hp (fun r hp' => r = bz (decide (96 ≤ cs.length)) ∧ hp' = hp) := by
  obtain ⟨f, Hh, Ha, hf, hL, hC, hs, hu, hw1, hw2⟩ := hT
  refine SpI.of pnX9 (Nat.le_of_ble_eq_true rfl) rfl ?_
  refine R_aload_n dX9_isFull_0 rfl rfl ?_
  refine R_getf dX9_isFull_1 gX9_15 Hh rfl ?_
  refine R_bipush (v := (nI 96)) dX9_isFull_4 (by decide) ?_
  refine N_icmp_lt (tgt := 13) dX9_isFull_6 (by decide) (by omega) (by omega) (fun hc => ?_) (fun hc => ?_)
  · refine R_iconst (v := (nI 0)) dX9_isFull_13 (by decide) ?_
    exact R_retz dX9_isFull_14 rfl rfl rfl rfl ⟨by rw [decide_eq_false (by omega)]; rfl, rfl⟩
  · refine R_iconst (v := (nI 1)) dX9_isFull_9 (by decide) ?_
    refine R_goto (tgt := 14) dX9_isFull_10 (by decide) ?_
    exact R_retz dX9_isFull_14 rfl rfl rfl rfl ⟨by rw [decide_eq_true hc]; rfl, rfl⟩
set_option maxRecDepth 100000 in
set_option maxHeartbeats 4000000 in
theorem t_at {j : Nat} (hj : j < 2 ^ 31) (hT : TpAt hp h a (cs, sc, un, wd)) : SpI l X mX9_at [.ref h, .int (nI j)] hp (fun r hp' => r = nI (cs.getD j 31) ∧ hp' = hp) := by
  have hT0 := hT
  obtain ⟨f, Hh, Ha, hf, hL, hC, hs, hu, hw1, hw2⟩ := hT
  refine SpI.of pnX9 (Nat.le_of_ble_eq_true rfl) rfl ?_
  refine R_aload_n dX9_at_0 rfl rfl ?_
  refine R_iload_n dX9_at_1 rfl rfl ?_
  refine R_calli (As := [.int (nI j)]) (st := []) kX9_has lX9_38 (t_has hT0) rfl Hh dX9_at_2 rfl rfl (Nat.le_of_ble_eq_true rfl) ⟨by decide, by decide⟩ zX9_has ⟨Nat.le_refl _, Nat.le_refl _⟩ (fun wr3 wp2 wq1 => ?_)
  obtain ⟨rfl, rfl⟩ : wr3 = _ ∧ hp = wp2 := ⟨wq1.1, wq1.2.symm⟩
  rw [inB_n hj]
  by_cases h1 : j < cs.length
  · rw [decide_eq_true h1]
    show PZ _ _ _ _ _ _ [.int (nI 1)] _ _ _
    refine N_if_eq (tgt := 17) dX9_at_5 (by decide) (by omega) (fun hc => absurd hc (by decide)) (fun _ => ?_)
    refine R_aload_n dX9_at_8 rfl rfl ?_
    refine R_getf dX9_at_9 gX9_9 Hh rfl ?_
    refine R_iload_n dX9_at_12 rfl rfl ?_
    refine N_iald (y := (nI (cs[j]))) dX9_at_13 Ha (by omega) (by decide) (hf j h1) ?_
    refine R_goto (tgt := 19) dX9_at_14 (by decide) ?_
    exact R_reti dX9_at_19 rfl rfl rfl ⟨by rw [List.getD_eq_getElem?_getD, List.getElem?_eq_getElem h1]; rfl, rfl⟩
  · rw [decide_eq_false h1]
    show PZ _ _ _ _ _ _ [.int (nI 0)] _ _ _
    refine N_if_eq (tgt := 17) dX9_at_5 (by decide) (by omega) (fun _ => ?_) (fun hc => absurd hc (by decide))
    refine R_bipush (v := (nI 31)) dX9_at_17 (by decide) ?_
    exact R_reti dX9_at_19 rfl rfl rfl ⟨by rw [List.getD_eq_getElem?_getD, List.getElem?_eq_none (by omega)]; rfl, rfl⟩
set_option maxRecDepth 100000 in
set_option maxHeartbeats 4000000 in
theorem t_caseAfter {c p : Nat} (hc : c < 32) (hp1 : p ≤ 1) (hT : TpAt hp h a (cs, sc, un, wd)) : SpI l X mX9_caseAfter [.ref h, .int (nI c), .int (nI p)] hp (fun r hp' => r = nI (cAft un c p) ∧ hp' = hp) := by
  obtain ⟨f, Hh, Ha, hf, hL, hC, hs, hu, hw1, hw2⟩ := hT
  refine SpI.of pnX9 (Nat.le_of_ble_eq_true rfl) rfl ?_
  refine R_iload_n dX9_caseAfter_0 rfl rfl ?_
  refine R_iload_n dX9_caseAfter_1 rfl rfl ?_
  refine R_aload_n dX9_caseAfter_2 rfl rfl ?_
  refine R_getf dX9_caseAfter_3 gX9_22 Hh rfl ?_
  refine R_stati (As := [.int (nI c), .int (nI p), .int (nI un)]) (st := []) kX0_caseAfter lX9_44 (c_caseAfter hc hp1 hu) dX9_caseAfter_6 rfl rfl (Nat.le_of_ble_eq_true rfl) ⟨by decide, by decide⟩ zX0_caseAfter ⟨Nat.le_refl _, Nat.le_refl _⟩ (fun wr3 wp2 wq1 => ?_)
  obtain ⟨rfl, rfl⟩ : wr3 = _ ∧ hp = wp2 := ⟨wq1.1, wq1.2.symm⟩
  exact R_reti dX9_caseAfter_9 rfl rfl rfl ⟨rfl, rfl⟩
set_option maxRecDepth 100000 in
set_option maxHeartbeats 4000000 in
theorem t_cbL {i : Nat} (hi : i < 2 ^ 31) (hT : TpAt hp h a (cs, sc, un, wd)) : ∀ (d j : Nat), j + d = cs.length → j ≤ i → PZ l X (MZi X mX9_caseBefore (fun r hp' => r = nI (cAt un sc cs i) ∧ hp' = hp)) mX9_caseBefore 7 [some (.ref h), some (.int (nI i)), some (.int (nI (cAt un sc cs j))), some (.int (nI j))] [] hp 0 0 := by
  have hT0 := hT
  obtain ⟨f, Hh, Ha, hf, hL, hC, hs, hu, hw1, hw2⟩ := hT
  intro d
  induction d with
  | zero =>
    intro j hj hji
    refine R_iload_n dX9_caseBefore_7 rfl rfl ?_
    refine R_iload_n dX9_caseBefore_8 rfl rfl ?_
    refine N_icmp_ge (tgt := 38) dX9_caseBefore_9 (by decide) (by omega) (by omega) (fun hc => ?_) (fun hc => ?_)
    · refine R_iload_n dX9_caseBefore_38 rfl rfl ?_
      exact R_reti dX9_caseBefore_39 rfl rfl rfl ⟨by rw [show j = i by omega], rfl⟩
    · refine R_iload_n dX9_caseBefore_12 rfl rfl ?_
      refine R_aload_n dX9_caseBefore_13 rfl rfl ?_
      refine R_getf dX9_caseBefore_14 gX9_15 Hh rfl ?_
      refine N_icmp_ge (tgt := 38) dX9_caseBefore_17 (by decide) (by omega) (by omega) (fun _ => ?_) (fun hc => absurd hc (by omega))
      refine R_iload_n dX9_caseBefore_38 rfl rfl ?_
      exact R_reti dX9_caseBefore_39 rfl rfl rfl ⟨by rw [cAt_n (i := j) (by omega), cAt_n (i := i) (by omega)], rfl⟩
  | succ d ih =>
    intro j hj hji
    have h1 : j < cs.length := by omega
    refine R_iload_n dX9_caseBefore_7 rfl rfl ?_
    refine R_iload_n dX9_caseBefore_8 rfl rfl ?_
    refine N_icmp_ge (tgt := 38) dX9_caseBefore_9 (by decide) (by omega) (by omega) (fun hc => ?_) (fun hc => ?_)
    · refine R_iload_n dX9_caseBefore_38 rfl rfl ?_
      exact R_reti dX9_caseBefore_39 rfl rfl rfl ⟨by rw [show j = i by omega], rfl⟩
    · refine R_iload_n dX9_caseBefore_12 rfl rfl ?_
      refine R_aload_n dX9_caseBefore_13 rfl rfl ?_
      refine R_getf dX9_caseBefore_14 gX9_15 Hh rfl ?_
      refine N_icmp_ge (tgt := 38) dX9_caseBefore_17 (by decide) (by omega) (by omega) (fun hc => absurd hc (by omega)) (fun _ => ?_)
      refine R_aload_n dX9_caseBefore_20 rfl rfl ?_
      refine R_aload_n dX9_caseBefore_21 rfl rfl ?_
      refine R_getf dX9_caseBefore_22 gX9_9 Hh rfl ?_
      refine R_iload_n dX9_caseBefore_25 rfl rfl ?_
      refine N_iald (y := (nI (cs[j]))) dX9_caseBefore_26 Ha (by omega) (by decide) (hf j h1) ?_
      refine R_iload_n dX9_caseBefore_27 rfl rfl ?_
      refine R_calli (As := [.int (nI (cs[j])), .int (nI (cAt un sc cs j))]) (st := []) kX9_caseAfter lX9_48 (t_caseAfter (hC _ (List.getElem_mem h1)) (cAt_le hs) hT0) rfl Hh dX9_caseBefore_28 rfl rfl (Nat.le_of_ble_eq_true rfl) ⟨by decide, by decide⟩ zX9_caseAfter ⟨Nat.le_refl _, Nat.le_refl _⟩ (fun wr3 wp2 wq1 => ?_)
      obtain ⟨rfl, rfl⟩ : wr3 = _ ∧ hp = wp2 := ⟨wq1.1, wq1.2.symm⟩
      refine R_istore_n (lv' := [some (.ref h), some (.int (nI i)), some (.int (nI (cAft un cs[j] (cAt un sc cs j)))), some (.int (nI j))]) dX9_caseBefore_31 rfl (by decide) rfl ?_
      refine N_iinc (d := 1) (lv' := [some (.ref h), some (.int (nI i)), some (.int (nI (cAft un cs[j] (cAt un sc cs j)))), some (.int (nI (j + 1)))]) dX9_caseBefore_32 rfl rfl ?_
      refine R_goto (tgt := 7) dX9_caseBefore_35 (by decide) ?_
      rw [← cAt_s h1]
      exact ih (j + 1) (by omega) (by omega)
set_option maxRecDepth 100000 in
set_option maxHeartbeats 4000000 in
theorem t_caseBefore {i : Nat} (hi : i < 2 ^ 31) (hT : TpAt hp h a (cs, sc, un, wd)) : SpI l X mX9_caseBefore [.ref h, .int (nI i)] hp (fun r hp' => r = nI (cAt un sc cs i) ∧ hp' = hp) := by
  have hT0 := hT
  obtain ⟨f, Hh, Ha, hf, hL, hC, hs, hu, hw1, hw2⟩ := hT
  refine SpI.of pnX9 (Nat.le_of_ble_eq_true rfl) rfl ?_
  refine R_aload_n dX9_caseBefore_0 rfl rfl ?_
  refine R_getf dX9_caseBefore_1 gX9_19 Hh rfl ?_
  refine R_istore_n (lv' := [some (.ref h), some (.int (nI i)), some (.int (nI sc)), none]) dX9_caseBefore_4 rfl (by decide) rfl ?_
  refine R_iconst (v := (nI 0)) dX9_caseBefore_5 (by decide) ?_
  refine R_istore_n (lv' := [some (.ref h), some (.int (nI i)), some (.int (nI sc)), some (.int (nI 0))]) dX9_caseBefore_6 rfl (by decide) rfl ?_
  have h9 := t_cbL (l := l) (X := X) hi hT0 cs.length 0 (by omega) (by omega)
  rw [cAt_0] at h9
  exact h9
end T16
