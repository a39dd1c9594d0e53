/-! Observations, History, Slots: at their places in the heap -/
def ObsAt (hp : HPt) (os : List (Nat × Nat)) (nx : Nat) : Prop := ∃ f g : Nat → Int32, hp[55]? = some (ob 3 [.ref 56, .ref 57, .int (nI nx), .int (nI os.length)]) ∧ hp[56]? = some (ia 6 f) ∧ hp[57]? = some (ia 6 g) ∧ (∀ (i : Nat) (hi : i < os.length), f i = nI os[i].1 ∧ g i = nI os[i].2) ∧ os.length ≤ 6 ∧ nx < 6 ∧ (os.length < 6 → nx = os.length) ∧ ∀ q ∈ os, q.1 < 96 ∧ q.2 < 256
theorem ObsAt.fr {hp hp' : HPt} {os : List (Nat × Nat)} {nx : Nat} {L : List Nat} (H : ObsAt hp os nx) (F : Fr L hp hp') (h1 : 55 ∉ L) (h2 : 56 ∉ L) (h3 : 57 ∉ L) : ObsAt hp' os nx := by
  obtain ⟨f, g, H1, H2, H3, r⟩ := H
  exact ⟨f, g, F.at h1 H1, F.at h2 H2, F.at h3 H3, r⟩
def obsP (os : List (Nat × Nat)) (nx : Nat) (q : Nat × Nat) : List (Nat × Nat) := if os.length < 6 then os ++ [q] else os.set nx q
def obsH (ts : List Nat) (os : List (Nat × Nat)) : Bool := os.all (fun q => decide (q.1 < ts.length ∧ ts.getD q.1 0 = q.2))
theorem min_n {a b : Nat} (ha : a < 2 ^ 31) (hb : b < 2 ^ 31) : (if nI b < nI a then nI b else nI a) = nI (min a b) := by
  by_cases h : b < a
  · rw [if_pos ((nI_ltI hb ha).mpr h), Nat.min_eq_right (by omega)]
  · rw [if_neg (fun z => h ((nI_ltI hb ha).mp z)), Nat.min_eq_left (by omega)]
section O19
variable {l : Launch} {X : EX} {hp : HPt}
set_option maxRecDepth 100000 in
set_option maxHeartbeats 4000000 in
theorem o_keep {os : List (Nat × Nat)} {nx i c : Nat} (hi : i < 96) (hc : c < 256) (hO : ObsAt hp os nx) : SpV l X mX4_keep [.ref 55, .int (nI i), .int (nI c)] hp (fun hp' => ObsAt hp' (obsP os nx (i, c)) ((nx + 1) % 6) ∧ Fr [55, 56, 57] hp hp') := by
  obtain ⟨f, g, H1, H2, H3, hf, hL, hnx, hnl, hC⟩ := hO
  refine SpV.of pnX4 (Nat.le_of_ble_eq_true rfl) rfl ?_
  refine R_aload_n dX4_keep_0 rfl rfl ?_
  refine R_getf dX4_keep_1 gX4_18 H1 rfl ?_
  refine R_if_lt (tgt := 16) dX4_keep_4 (by decide) (fun hc => absurd hc (nI_pos (by omega))) (fun _ => ?_)
  refine R_aload_n dX4_keep_7 rfl rfl ?_
  refine R_getf dX4_keep_8 gX4_18 H1 rfl ?_
  refine R_bipush (v := (nI 6)) dX4_keep_11 (by decide) ?_
  refine N_icmp_lt (tgt := 17) dX4_keep_13 (by decide) (by omega) (by omega) (fun _ => ?_) (fun hc => absurd hc (by omega))
  refine R_aload_n dX4_keep_17 rfl rfl ?_
  refine R_getf dX4_keep_18 gX4_9 H1 rfl ?_
  refine R_aload_n dX4_keep_21 rfl rfl ?_
  refine R_getf dX4_keep_22 gX4_18 H1 rfl ?_
  refine R_iload_n dX4_keep_25 rfl rfl ?_
  obtain ⟨wf1, ewf1⟩ : ∃ y, y = upd f nx (nI i) := ⟨_, rfl⟩
  refine W_iast (f' := wf1) dX4_keep_26 H2 (by omega) (by decide) ewf1 (fun wp2 wH3 wE4 => ?_)
  have wH5 := (wE4 55 (by decide)).trans H1
  have wH6 := (wE4 57 (by decide)).trans H3
  have wF7 : Fr [55, 56, 57] hp wp2 := Fr.one wE4 (by simp)
  refine R_aload_n dX4_keep_27 rfl rfl ?_
  refine R_getf dX4_keep_28 gX4_15 wH5 rfl ?_
  refine R_aload_n dX4_keep_31 rfl rfl ?_
  refine R_getf dX4_keep_32 gX4_18 wH5 rfl ?_
  refine R_iload_n dX4_keep_35 rfl rfl ?_
  obtain ⟨wf8, ewf8⟩ : ∃ y, y = upd g nx (nI c) := ⟨_, rfl⟩
  refine W_iast (f' := wf8) dX4_keep_36 wH6 (by omega) (by decide) ewf8 (fun wp9 wH10 wE11 => ?_)
  have wH12 := (wE11 55 (by decide)).trans wH5
  have wH13 := (wE11 56 (by decide)).trans wH3
  have wF14 : Fr [55, 56, 57] hp wp9 := wF7.trans (Fr.one wE11 (by simp))
  refine R_aload_n dX4_keep_37 rfl rfl ?_
  refine R_aload_n dX4_keep_38 rfl rfl ?_
  refine R_getf dX4_keep_39 gX4_18 wH12 rfl ?_
  refine R_iconst (v := (nI 1)) dX4_keep_42 (by decide) ?_
  refine N_iadd dX4_keep_43 ?_
  refine R_bipush (v := (nI 6)) dX4_keep_44 (by decide) ?_
  refine N_irem dX4_keep_46 (by omega) (by omega) (by omega) ?_
  refine W_puti (fs' := [.ref 56, .ref 57, .int (nI ((nx + 1) % 6)), .int (nI (os.length))]) dX4_keep_47 pX4_18 wH12 (Nat.le_of_ble_eq_true rfl) rfl (fun wp15 wH16 wE17 => ?_)
  have wH18 := (wE17 56 (by decide)).trans wH13
  have wH19 := (wE17 57 (by decide)).trans wH10
  have wF20 : Fr [55, 56, 57] hp wp15 := wF14.trans (Fr.one wE17 (by simp))
  refine R_aload_n dX4_keep_50 rfl rfl ?_
  refine R_aload_n dX4_keep_51 rfl rfl ?_
  refine R_getf dX4_keep_52 gX4_22 wH16 rfl ?_
  refine R_iconst (v := (nI 1)) dX4_keep_55 (by decide) ?_
  refine N_iadd dX4_keep_56 ?_
  refine R_bipush (v := (nI 6)) dX4_keep_57 (by decide) ?_
  refine R_min dX4_keep_59 lmX4_25 (by decide) (Nat.le_of_ble_eq_true rfl) ⟨Nat.le_refl _, Nat.le_refl _⟩ ?_
  rw [min_n (by omega) (by omega)]
  refine W_puti (fs' := [.ref 56, .ref 57, .int (nI ((nx + 1) % 6)), .int (nI (min (os.length + 1) 6))]) dX4_keep_62 pX4_22 wH16 (Nat.le_of_ble_eq_true rfl) rfl (fun wp21 wH22 wE23 => ?_)
  have wH24 := (wE23 56 (by decide)).trans wH18
  have wH25 := (wE23 57 (by decide)).trans wH19
  have wF26 : Fr [55, 56, 57] hp wp21 := wF20.trans (Fr.one wE23 (by simp))
  refine R_retv dX4_keep_65 rfl rfl rfl ⟨⟨wf1, wf8, ?_, wH24, wH25, fun j hj => ?_, ?_, Nat.mod_lt _ (by omega), ?_, ?_⟩, wF26⟩
  · have hn : (obsP os nx (i, c)).length = min (os.length + 1) 6 := by unfold obsP; split <;> simp <;> omega
    rw [hn]; exact wH22
  · rw [ewf1, ewf8]
    have hjj := hj
    unfold obsP at hjj ⊢
    by_cases h6 : os.length < 6
    · rw [if_pos h6, List.length_append] at hjj; simp only [if_pos h6]; simp at hjj
      have hx := hnl h6; subst hx
      by_cases hjl : j = os.length
      · subst hjl; rw [upd_s, upd_s]; simp
      · rw [upd_n hjl, upd_n hjl, List.getElem_append_left (by omega)]; exact hf j (by omega)
    · rw [if_neg h6, List.length_set] at hjj; simp only [if_neg h6]
      rw [List.getElem_set]
      by_cases hjn : nx = j
      · subst hjn; rw [upd_s, upd_s, if_pos rfl]; exact ⟨rfl, rfl⟩
      · rw [upd_n (Ne.symm hjn), upd_n (Ne.symm hjn), if_neg hjn]; exact hf j hjj
  · unfold obsP; split <;> simp <;> omega
  · unfold obsP; split <;> simp <;> omega
  · intro q hq; unfold obsP at hq; split at hq
    · rcases List.mem_append.mp hq with z | z
      · exact hC q z
      · simp at z; subst z; exact ⟨hi, hc⟩
    · rcases List.mem_or_eq_of_mem_set hq with z | z
      · exact hC q z
      · subst z; exact ⟨hi, hc⟩
set_option maxRecDepth 100000 in
set_option maxHeartbeats 4000000 in
theorem o_hfL {h a b : Nat} {ts : List Nat} {os : List (Nat × Nat)} {nx : Nat} {R : Bool} (hO : ObsAt hp os nx) (hX : TxAt hp h a b ts) : ∀ (d j : Nat), j + d = os.length → R = obsH ts (os.drop j) → PZ l X (MZi X mX4_holdFor (fun r hp' => r = bz R ∧ hp' = hp)) mX4_holdFor 2 [some (.ref 55), some (.ref h), some (.int (nI j))] [] hp 0 0 := by
  have hX0 := hX
  obtain ⟨f, g, H1, H2, H3, hf, hL, hnx, hnl, hC⟩ := hO
  obtain ⟨fx, gx, Hh, -, -, -, hxL, hxC⟩ := hX
  intro d
  induction d with
  | zero =>
    intro j hj hR
    refine R_iload_n dX4_holdFor_2 rfl rfl ?_
    refine R_aload_n dX4_holdFor_3 rfl rfl ?_
    refine R_getf dX4_holdFor_4 gX4_22 H1 rfl ?_
    refine N_icmp_ge (tgt := 50) dX4_holdFor_7 (by decide) (by omega) (by omega) (fun _ => ?_) (fun hc => absurd hc (by omega))
    refine R_iconst (v := (nI 1)) dX4_holdFor_50 (by decide) ?_
    exact R_retz dX4_holdFor_51 rfl rfl rfl rfl ⟨by rw [hR, List.drop_eq_nil_of_le (by omega)]; rfl, rfl⟩
  | succ d ih =>
    intro j hj hR
    have h1 : j < os.length := by omega
    have hq := hC _ (List.getElem_mem h1)
    rw [drop_c h1] at hR
    have hR2 : R = (decide (os[j].1 < ts.length ∧ ts.getD os[j].1 0 = os[j].2) && obsH ts (os.drop (j + 1))) := hR
    refine R_iload_n dX4_holdFor_2 rfl rfl ?_
    refine R_aload_n dX4_holdFor_3 rfl rfl ?_
    refine R_getf dX4_holdFor_4 gX4_22 H1 rfl ?_
    refine N_icmp_ge (tgt := 50) dX4_holdFor_7 (by decide) (by omega) (by omega) (fun hc => absurd hc (by omega)) (fun _ => ?_)
    refine R_aload_n dX4_holdFor_10 rfl rfl ?_
    refine R_aload_n dX4_holdFor_11 rfl rfl ?_
    refine R_getf dX4_holdFor_12 gX4_9 H1 rfl ?_
    refine R_iload_n dX4_holdFor_15 rfl rfl ?_
    refine N_iald (y := (nI (os[j].1))) dX4_holdFor_16 H2 (by omega) (by decide) (hf j h1).1 ?_
    refine R_calli (As := [.int (nI (os[j].1))]) (st := []) kX10_has lX4_31 (x_has hX0) rfl Hh dX4_holdFor_17 rfl rfl (Nat.le_of_ble_eq_true rfl) ⟨by decide, by decide⟩ zX10_has ⟨Nat.le_refl _, Nat.le_refl _⟩ (fun wr3 wp2 wq1 => ?_)
    obtain ⟨rfl, rfl⟩ : wr3 = _ ∧ hp = wp2 := ⟨wq1.1, wq1.2.symm⟩
    rw [inB_n (by omega)]
    by_cases h2 : os[j].1 < ts.length
    · rw [decide_eq_true h2]
      show PZ _ _ _ _ _ _ [.int (nI 1)] _ _ _
      have hx9 := hxC _ (List.getElem_mem h2)
      refine N_if_eq (tgt := 42) dX4_holdFor_20 (by decide) (by omega) (fun hc => absurd hc (by decide)) (fun _ => ?_)
      refine R_aload_n dX4_holdFor_23 rfl rfl ?_
      refine R_aload_n dX4_holdFor_24 rfl rfl ?_
      refine R_getf dX4_holdFor_25 gX4_9 H1 rfl ?_
      refine R_iload_n dX4_holdFor_28 rfl rfl ?_
      refine N_iald (y := (nI (os[j].1))) dX4_holdFor_29 H2 (by omega) (by decide) (hf j h1).1 ?_
      refine R_calli (As := [.int (nI (os[j].1))]) (st := []) kX10_at lX4_37 (x_at h2 hX0) rfl Hh dX4_holdFor_30 rfl rfl (Nat.le_of_ble_eq_true rfl) ⟨by decide, by decide⟩ zX10_at ⟨Nat.le_refl _, Nat.le_refl _⟩ (fun wr6 wp5 wq4 => ?_)
      obtain ⟨rfl, rfl⟩ : wr6 = _ ∧ hp = wp5 := ⟨wq4.1, wq4.2.symm⟩
      refine R_aload_n dX4_holdFor_33 rfl rfl ?_
      refine R_getf dX4_holdFor_34 gX4_15 H1 rfl ?_
      refine R_iload_n dX4_holdFor_37 rfl rfl ?_
      refine N_iald (y := (nI (os[j].2))) dX4_holdFor_38 H3 (by omega) (by decide) (hf j h1).2 ?_
      refine N_icmp_eq (tgt := 44) dX4_holdFor_39 (by decide) (by omega) (by omega) (fun he => ?_) (fun he => ?_)
      · refine N_iinc (d := 1) (lv' := [some (.ref 55), some (.ref h), some (.int (nI (j + 1)))]) dX4_holdFor_44 rfl rfl ?_
        refine R_goto (tgt := 2) dX4_holdFor_47 (by decide) ?_
        rw [decide_eq_true ⟨h2, by rw [gD h2]; exact he⟩, Bool.true_and] at hR2
        exact ih (j + 1) (by omega) hR2
      · refine R_iconst (v := (nI 0)) dX4_holdFor_42 (by decide) ?_
        exact R_retz dX4_holdFor_43 rfl rfl rfl rfl ⟨by rw [hR2, decide_eq_false (fun z => he (by rw [← gD h2]; exact z.2))]; rfl, rfl⟩
    · rw [decide_eq_false h2]
      show PZ _ _ _ _ _ _ [.int (nI 0)] _ _ _
      refine N_if_eq (tgt := 42) dX4_holdFor_20 (by decide) (by omega) (fun _ => ?_) (fun hc => absurd hc (by decide))
      refine R_iconst (v := (nI 0)) dX4_holdFor_42 (by decide) ?_
      exact R_retz dX4_holdFor_43 rfl rfl rfl rfl ⟨by rw [hR2, decide_eq_false (fun z => h2 z.1)]; rfl, rfl⟩
set_option maxRecDepth 100000 in
set_option maxHeartbeats 4000000 in
theorem o_hold {h a b : Nat} {ts : List Nat} {os : List (Nat × Nat)} {nx : Nat} (hO : ObsAt hp os nx) (hX : TxAt hp h a b ts) : SpI l X mX4_holdFor [.ref 55, .ref h] hp (fun r hp' => r = bz (obsH ts os) ∧ hp' = hp) := by
  refine SpI.of pnX4 (Nat.le_of_ble_eq_true rfl) rfl ?_
  refine R_iconst (v := (nI 0)) dX4_holdFor_0 (by decide) ?_
  refine R_istore_n (lv' := [some (.ref 55), some (.ref h), some (.int (nI 0))]) dX4_holdFor_1 rfl (by decide) rfl ?_
  exact o_hfL hO hX os.length 0 (by omega) rfl
/-- the ring's row that holds the state before the last action but j -/
def rw14 (nx j : Nat) : Nat := (nx + 13 - j) % 14
def HisAt (hp : HPt) (hs : List TP) (nx : Nat) : Prop := ∃ q : Nat → Option Nat, hp[10]? = some (ob 1 [.ref 11, .int (nI nx), .int (nI hs.length)]) ∧ hp[11]? = some (qa 14 q) ∧ (∀ i, i < 14 → q i = some (12 + 2 * i)) ∧ nx < 14 ∧ hs.length ≤ 14 ∧ (∀ i, i < 14 → ∃ T, TpAt hp (12 + 2 * i) (13 + 2 * i) T) ∧ ∀ (j : Nat) (hj : j < hs.length), TpAt hp (12 + 2 * rw14 nx j) (13 + 2 * rw14 nx j) hs[j]
def LHis : List Nat := [10, 12, 13, 14, 15, 16, 17, 18, 19, 20, 21, 22, 23, 24, 25, 26, 27, 28, 29, 30, 31, 32, 33, 34, 35, 36, 37, 38, 39]
theorem LHis_in : ∀ i, i < 14 → 12 + 2 * i ∈ LHis ∧ 13 + 2 * i ∈ LHis := by decide
theorem HisAt.fr {hp hp' : HPt} {hs : List TP} {nx : Nat} {L : List Nat} (H : HisAt hp hs nx) (F : Fr L hp hp') (h0 : 11 ∉ L) (h1 : ∀ i ∈ LHis, i ∉ L) : HisAt hp' hs nx := by
  obtain ⟨q, H1, H2, H3, H4, H5, H6, H7⟩ := H
  refine ⟨q, F.at (h1 10 (by decide)) H1, F.at h0 H2, H3, H4, H5, fun i hi => ?_, fun j hj => ?_⟩
  · obtain ⟨T, hT⟩ := H6 i hi
    exact ⟨T, hT.fr F (h1 _ (LHis_in i hi).1) (h1 _ (LHis_in i hi).2)⟩
  · have hr : rw14 nx j < 14 := Nat.mod_lt _ (by omega)
    exact (H7 j hj).fr F (h1 _ (LHis_in _ hr).1) (h1 _ (LHis_in _ hr).2)
set_option maxRecDepth 100000 in
set_option maxHeartbeats 4000000 in
theorem h_state {hs : List TP} {nx i : Nat} (hi : i < 14) (hH : HisAt hp hs nx) : SpR l X mX2_stateAt [.ref 10, .int (nI i)] hp (fun r hp' => r = 12 + 2 * i ∧ hp' = hp) := by
  obtain ⟨q, H1, H2, H3, hnx, hL, H6, H7⟩ := hH
  refine SpR.of pnX2 (Nat.le_of_ble_eq_true rfl) rfl ?_
  refine R_iload_n dX2_stateAt_0 rfl rfl ?_
  refine R_if_lt (tgt := 22) dX2_stateAt_1 (by decide) (fun hc => absurd hc (nI_pos (by omega))) (fun _ => ?_)
  refine R_iload_n dX2_stateAt_4 rfl rfl ?_
  refine R_aload_n dX2_stateAt_5 rfl rfl ?_
  refine R_getf dX2_stateAt_6 gX2_11 H1 rfl ?_
  refine R_alen (N := 0) (x := (nI 14)) dX2_stateAt_9 H2 (by decide) rfl ?_
  refine N_icmp_ge (tgt := 22) dX2_stateAt_10 (by decide) (by omega) (by omega) (fun hc => absurd hc (by omega)) (fun _ => ?_)
  refine R_aload_n dX2_stateAt_13 rfl rfl ?_
  refine R_getf dX2_stateAt_14 gX2_11 H1 rfl ?_
  refine R_iload_n dX2_stateAt_17 rfl rfl ?_
  refine N_aald (q := (12 + 2 * i)) dX2_stateAt_18 H2 hi (by decide) (H3 i hi) ?_
  refine R_goto (tgt := 23) dX2_stateAt_19 (by decide) ?_
  exact R_retr dX2_stateAt_23 rfl rfl rfl ⟨rfl, rfl⟩
set_option maxRecDepth 100000 in
set_option maxHeartbeats 4000000 in
theorem h_remember {hs : List TP} {nx : Nat} {T : TP} (hT : TpAt hp 1 2 T) (hH : HisAt hp hs nx) : SpV l X mX2_remember [.ref 10, .ref 1] hp (fun hp' => HisAt hp' (T :: hs.take 13) ((nx + 1) % 14) ∧ Fr LHis hp hp') := by
  have hH0 := hH
  obtain ⟨q, H1, H2, H3, hnx, hL, H6, H7⟩ := hH
  obtain ⟨T0, hT0⟩ := H6 nx hnx
  obtain ⟨cs, sc, un, wd⟩ := T
  obtain ⟨cs0, sc0, un0, wd0⟩ := T0
  have hT0' := hT0
  obtain ⟨f0, G1, -⟩ := hT0'
  refine SpV.of pnX2 (Nat.le_of_ble_eq_true rfl) rfl ?_
  refine R_aload_n dX2_remember_0 rfl rfl ?_
  refine R_aload_n dX2_remember_1 rfl rfl ?_
  refine R_getf dX2_remember_2 gX2_17 H1 rfl ?_
  refine R_callr (As := [.int (nI nx)]) (st := []) kX2_stateAt lX2_25 (h_state hnx hH0) rfl H1 dX2_remember_5 rfl rfl (Nat.le_of_ble_eq_true rfl) ⟨by decide, by decide⟩ zX2_stateAt ⟨Nat.le_refl _, Nat.le_refl _⟩ (fun wr3 wp2 wq1 => ?_)
  obtain ⟨rfl, rfl⟩ : wr3 = _ ∧ hp = wp2 := ⟨wq1.1, wq1.2.symm⟩
  refine R_astore_n (lv' := [some (.ref 10), some (.ref 1), some (.ref ((12 + 2 * nx)))]) dX2_remember_8 rfl (by decide) rfl ?_
  refine R_aload_n dX2_remember_9 rfl rfl ?_
  refine R_ifnonnull (tgt := 14) dX2_remember_10 (by decide) ?_
  refine R_aload_n dX2_remember_14 rfl rfl ?_
  refine R_aload_n dX2_remember_15 rfl rfl ?_
  refine R_callv (As := [.ref 1]) (st := []) kX9_become lX2_29 (t_become hT0 hT (by omega) (by omega)) rfl G1 dX2_remember_16 rfl rfl (Nat.le_of_ble_eq_true rfl) ⟨by decide, by decide⟩ zX9_become ⟨Nat.le_refl _, Nat.le_refl _⟩ (fun wp5 wq4 => ?_)
  obtain ⟨hq1, hq2⟩ := wq4
  have F1 : Fr LHis hp wp5 := hq2.mono (fun j hj => by simp only [List.mem_cons, List.not_mem_nil, or_false] at hj; rcases hj with rfl | rfl; exact (LHis_in nx hnx).1; exact (LHis_in nx hnx).2)
  have K1 := hq2.at (j := 10) (by simp; omega) H1
  have K2 := hq2.at (j := 11) (by simp; omega) H2
  refine R_aload_n dX2_remember_19 rfl rfl ?_
  refine R_aload_n dX2_remember_20 rfl rfl ?_
  refine R_getf dX2_remember_21 gX2_17 K1 rfl ?_
  refine R_iconst (v := (nI 1)) dX2_remember_24 (by decide) ?_
  refine N_iadd dX2_remember_25 ?_
  refine R_bipush (v := (nI 14)) dX2_remember_26 (by decide) ?_
  refine N_irem dX2_remember_28 (by omega) (by omega) (by omega) ?_
  refine W_puti (fs' := [.ref 11, .int (nI ((nx + 1) % 14)), .int (nI (hs.length))]) dX2_remember_29 pX2_17 K1 (Nat.le_of_ble_eq_true rfl) rfl (fun wp7 wH8 wE9 => ?_)
  have wH10 := (wE9 11 (by decide)).trans K2
  refine R_aload_n dX2_remember_32 rfl rfl ?_
  refine R_aload_n dX2_remember_33 rfl rfl ?_
  refine R_getf dX2_remember_34 gX2_21 wH8 rfl ?_
  refine R_iconst (v := (nI 1)) dX2_remember_37 (by decide) ?_
  refine N_iadd dX2_remember_38 ?_
  refine R_bipush (v := (nI 14)) dX2_remember_39 (by decide) ?_
  refine R_min dX2_remember_41 lmX2_33 (by decide) (Nat.le_of_ble_eq_true rfl) ⟨Nat.le_refl _, Nat.le_refl _⟩ ?_
  rw [min_n (by omega) (by omega)]
  refine W_puti (fs' := [.ref 11, .int (nI ((nx + 1) % 14)), .int (nI (min (hs.length + 1) 14))]) dX2_remember_44 pX2_21 wH8 (Nat.le_of_ble_eq_true rfl) rfl (fun wp11 wH12 wE13 => ?_)
  have wH14 := (wE13 11 (by decide)).trans wH10
  have F2 : Fr [10] wp5 wp11 := (Fr.one wE9 (by simp)).trans (Fr.one wE13 (by simp))
  refine R_retv dX2_remember_47 rfl rfl rfl ⟨⟨q, ?_, wH14, H3, Nat.mod_lt _ (by omega), ?_, fun i hi => ?_, fun j hj => ?_⟩, F1.trans (F2.mono (fun j hj => by simp at hj; subst hj; decide))⟩
  · have hn : ((cs, sc, un, wd) :: hs.take 13).length = min (hs.length + 1) 14 := by rw [List.length_cons, List.length_take]; omega
    rw [hn]; exact wH12
  · rw [List.length_cons, List.length_take]; omega
  · by_cases hin : i = nx
    · subst hin; exact ⟨_, hq1.fr F2 (by simp; omega) (by simp; omega)⟩
    · obtain ⟨T9, h9⟩ := H6 i hi
      exact ⟨T9, (h9.fr hq2 (by simp; omega) (by simp; omega)).fr F2 (by simp; omega) (by simp; omega)⟩
  · match j, hj with
    | 0, _ =>
      have e : rw14 ((nx + 1) % 14) 0 = nx := by unfold rw14; omega
      rw [e]; exact hq1.fr F2 (by simp; omega) (by simp; omega)
    | j + 1, hj =>
      rw [List.length_cons, List.length_take] at hj
      have hj2 : j < hs.length := by omega
      have e : rw14 ((nx + 1) % 14) (j + 1) = rw14 nx j := by unfold rw14; omega
      have e3 : rw14 nx j ≠ nx := by unfold rw14; omega
      have h9 := H7 j hj2
      rw [e]; simp only [List.getElem_cons_succ, List.getElem_take]
      exact (h9.fr hq2 (by simp; omega) (by simp; omega)).fr F2 (by simp; omega) (by simp; omega)
set_option maxRecDepth 100000 in
set_option maxHeartbeats 4000000 in
theorem h_back0 {nx : Nat} (hH : HisAt hp [] nx) : SpI l X mX2_bringBack [.ref 10, .ref 1] hp (fun r hp' => r = nI 0 ∧ hp' = hp) := by
  have hH0 := hH
  obtain ⟨q, H1, H2, H3, hnx, hL, H6, H7⟩ := hH
  refine SpI.of pnX2 (Nat.le_of_ble_eq_true rfl) rfl ?_
  refine R_aload_n dX2_bringBack_0 rfl rfl ?_
  refine R_getf dX2_bringBack_1 gX2_17 H1 rfl ?_
  refine R_bipush (v := (nI 14)) dX2_bringBack_4 (by decide) ?_
  refine N_iadd dX2_bringBack_6 ?_
  refine R_iconst (v := (nI 1)) dX2_bringBack_7 (by decide) ?_
  refine N_isub dX2_bringBack_8 (by omega) ?_
  refine R_bipush (v := (nI 14)) dX2_bringBack_9 (by decide) ?_
  refine N_irem dX2_bringBack_11 (by omega) (by omega) (by omega) ?_
  refine R_istore_n (lv' := [some (.ref 10), some (.ref 1), some (.int (nI (((nx + 14) - 1) % 14))), none]) dX2_bringBack_12 rfl (by decide) rfl ?_
  refine R_aload_n dX2_bringBack_13 rfl rfl ?_
  refine R_iload_n dX2_bringBack_14 rfl rfl ?_
  refine R_callr (As := [.int (nI (((nx + 14) - 1) % 14))]) (st := []) kX2_stateAt lX2_25 (h_state (Nat.mod_lt _ (by omega)) hH0) rfl H1 dX2_bringBack_15 rfl rfl (Nat.le_of_ble_eq_true rfl) ⟨by decide, by decide⟩ zX2_stateAt ⟨Nat.le_refl _, Nat.le_refl _⟩ (fun wr3 wp2 wq1 => ?_)
  obtain ⟨rfl, rfl⟩ : wr3 = _ ∧ hp = wp2 := ⟨wq1.1, wq1.2.symm⟩
  refine R_astore_n (lv' := [some (.ref 10), some (.ref 1), some (.int (nI (((nx + 14) - 1) % 14))), some (.ref ((12 + 2 * ((nx + 14 - 1) % 14))))]) dX2_bringBack_18 rfl (by decide) rfl ?_
  refine R_aload_n dX2_bringBack_19 rfl rfl ?_
  refine R_getf dX2_bringBack_20 gX2_21 H1 rfl ?_
  refine N_if_eq (tgt := 30) dX2_bringBack_23 (by decide) (by decide) (fun _ => ?_) (fun hc => absurd hc (by decide))
  refine R_iconst (v := (nI 0)) dX2_bringBack_30 (by decide) ?_
  exact R_retz dX2_bringBack_31 rfl rfl rfl rfl ⟨rfl, rfl⟩
set_option maxRecDepth 100000 in
set_option maxHeartbeats 4000000 in
theorem h_back {hs : List TP} {nx : Nat} {T : TP} {T1 : TP} (hT : TpAt hp 1 2 T1) (hH : HisAt hp (T :: hs) nx) : SpI l X mX2_bringBack [.ref 10, .ref 1] hp (fun r hp' => r = nI 1 ∧ TpAt hp' 1 2 T ∧ HisAt hp' hs ((nx + 13) % 14) ∧ Fr (1 :: 2 :: LHis) hp hp') := by
  have hH0 := hH
  obtain ⟨q, H1, H2, H3, hnx, hL, H6, H7⟩ := hH
  rw [List.length_cons] at hL
  rw [List.length_cons] at H1
  have h0 := H7 0 (by simp)
  have e0 : rw14 nx 0 = (nx + 14 - 1) % 14 := by unfold rw14; omega
  rw [e0] at h0
  simp only [List.getElem_cons_zero] at h0
  have hr : (nx + 14 - 1) % 14 < 14 := Nat.mod_lt _ (by omega)
  obtain ⟨cs, sc, un, wd⟩ := T
  obtain ⟨cs1, sc1, un1, wd1⟩ := T1
  refine SpI.of pnX2 (Nat.le_of_ble_eq_true rfl) rfl ?_
  refine R_aload_n dX2_bringBack_0 rfl rfl ?_
  refine R_getf dX2_bringBack_1 gX2_17 H1 rfl ?_
  refine R_bipush (v := (nI 14)) dX2_bringBack_4 (by decide) ?_
  refine N_iadd dX2_bringBack_6 ?_
  refine R_iconst (v := (nI 1)) dX2_bringBack_7 (by decide) ?_
  refine N_isub dX2_bringBack_8 (by omega) ?_
  refine R_bipush (v := (nI 14)) dX2_bringBack_9 (by decide) ?_
  refine N_irem dX2_bringBack_11 (by omega) (by omega) (by omega) ?_
  refine R_istore_n (lv' := [some (.ref 10), some (.ref 1), some (.int (nI (((nx + 14) - 1) % 14))), none]) dX2_bringBack_12 rfl (by decide) rfl ?_
  refine R_aload_n dX2_bringBack_13 rfl rfl ?_
  refine R_iload_n dX2_bringBack_14 rfl rfl ?_
  refine R_callr (As := [.int (nI (((nx + 14) - 1) % 14))]) (st := []) kX2_stateAt lX2_25 (h_state (Nat.mod_lt _ (by omega)) hH0) rfl H1 dX2_bringBack_15 rfl rfl (Nat.le_of_ble_eq_true rfl) ⟨by decide, by decide⟩ zX2_stateAt ⟨Nat.le_refl _, Nat.le_refl _⟩ (fun wr3 wp2 wq1 => ?_)
  obtain ⟨rfl, rfl⟩ : wr3 = _ ∧ hp = wp2 := ⟨wq1.1, wq1.2.symm⟩
  refine R_astore_n (lv' := [some (.ref 10), some (.ref 1), some (.int (nI (((nx + 14) - 1) % 14))), some (.ref ((12 + 2 * ((nx + 14 - 1) % 14))))]) dX2_bringBack_18 rfl (by decide) rfl ?_
  refine R_aload_n dX2_bringBack_19 rfl rfl ?_
  refine R_getf dX2_bringBack_20 gX2_21 H1 rfl ?_
  refine N_if_eq (tgt := 30) dX2_bringBack_23 (by decide) (by omega) (fun hc => absurd hc (by omega)) (fun _ => ?_)
  refine R_aload_n dX2_bringBack_26 rfl rfl ?_
  refine R_ifnonnull (tgt := 32) dX2_bringBack_27 (by decide) ?_
  refine R_aload_n dX2_bringBack_32 rfl rfl ?_
  refine R_iload_n dX2_bringBack_33 rfl rfl ?_
  refine W_puti (fs' := [.ref 11, .int (nI (((nx + 14) - 1) % 14)), .int (nI (hs.length + 1))]) dX2_bringBack_34 pX2_17 H1 (Nat.le_of_ble_eq_true rfl) rfl (fun wp4 wH5 wE6 => ?_)
  have wH7 := (wE6 11 (by decide)).trans H2
  have wF8 : Fr [10] hp wp4 := Fr.one wE6 (by simp)
  refine R_aload_n dX2_bringBack_37 rfl rfl ?_
  refine R_dup dX2_bringBack_38 rfl ?_
  refine R_getf dX2_bringBack_39 gX2_21 wH5 rfl ?_
  refine R_iconst (v := (nI 1)) dX2_bringBack_42 (by decide) ?_
  refine N_isub dX2_bringBack_43 (by omega) ?_
  refine W_puti (fs' := [.ref 11, .int (nI (((nx + 14) - 1) % 14)), .int (nI ((hs.length + 1) - 1))]) dX2_bringBack_44 pX2_21 wH5 (Nat.le_of_ble_eq_true rfl) rfl (fun wp9 wH10 wE11 => ?_)
  have wH12 := (wE11 11 (by decide)).trans wH7
  have wF13 : Fr [10] hp wp9 := wF8.trans (Fr.one wE11 (by simp))
  refine R_aload_n dX2_bringBack_47 rfl rfl ?_
  refine R_aload_n dX2_bringBack_48 rfl rfl ?_
  have h0b := h0.fr wF13 (by simp; omega) (by simp; omega)
  have hTb := hT.fr wF13 (by simp) (by simp)
  have hTc := hTb
  obtain ⟨f9, G1, -⟩ : TpAt wp9 1 2 (cs1, sc1, un1, wd1) := hTc
  refine R_callv (As := [.ref ((12 + 2 * ((nx + 14 - 1) % 14)))]) (st := []) kX9_become lX2_29 (t_become hTb h0b (by omega) (by omega)) rfl G1 dX2_bringBack_49 rfl rfl (Nat.le_of_ble_eq_true rfl) ⟨by decide, by decide⟩ zX9_become ⟨Nat.le_refl _, Nat.le_refl _⟩ (fun wp15 wq14 => ?_)
  obtain ⟨hq1, hq2⟩ := wq14
  refine R_iconst (v := (nI 1)) dX2_bringBack_52 (by decide) ?_
  have FF : Fr (1 :: 2 :: LHis) hp wp15 := (wF13.mono (fun j hj => by simp at hj; subst hj; decide)).trans (hq2.mono (fun j hj => by simp at hj; rcases hj with rfl | rfl <;> decide))
  refine R_retz dX2_bringBack_53 rfl rfl rfl rfl ⟨rfl, hq1, ⟨q, ?_, hq2.at (by decide) wH12, H3, Nat.mod_lt _ (by omega), by omega, fun i hi => ?_, fun j hj => ?_⟩, FF⟩
  · rw [show (nx + 13) % 14 = (nx + 14 - 1) % 14 by omega]; exact hq2.at (by decide) wH10
  · obtain ⟨T9, h9⟩ := H6 i hi
    exact ⟨T9, (h9.fr wF13 (by simp; omega) (by simp; omega)).fr hq2 (by simp; omega) (by simp; omega)⟩
  · have h9 := H7 (j + 1) (by rw [List.length_cons]; omega)
    have e : rw14 nx (j + 1) = rw14 ((nx + 13) % 14) j := by unfold rw14; omega
    rw [e] at h9; simp only [List.getElem_cons_succ] at h9
    exact (h9.fr wF13 (by simp; omega) (by simp; omega)).fr hq2 (by simp; omega) (by simp; omega)
set_option maxRecDepth 100000 in
set_option maxHeartbeats 4000000 in
theorem h_forget {hs : List TP} {nx : Nat} (hH : HisAt hp hs nx) : SpV l X mX2_forgetAll [.ref 10] hp (fun hp' => HisAt hp' [] nx ∧ Fr LHis hp hp') := by
  obtain ⟨q, H1, H2, H3, hnx, hL, H6, H7⟩ := hH
  refine SpV.of pnX2 (Nat.le_of_ble_eq_true rfl) rfl ?_
  refine R_aload_n dX2_forgetAll_0 rfl rfl ?_
  refine R_iconst (v := (nI 0)) dX2_forgetAll_1 (by decide) ?_
  refine W_puti (fs' := [.ref 11, .int (nI nx), .int (nI 0)]) dX2_forgetAll_2 pX2_21 H1 (Nat.le_of_ble_eq_true rfl) rfl (fun wp1 wH2 wE3 => ?_)
  have wH4 := (wE3 11 (by decide)).trans H2
  have wF5 : Fr [10] hp wp1 := Fr.one wE3 (by simp)
  refine R_retv dX2_forgetAll_5 rfl rfl rfl ⟨⟨q, wH2, wH4, H3, hnx, Nat.zero_le _, fun i hi => ?_, fun j hj => absurd hj (by simp)⟩, wF5.mono (fun j hj => by simp at hj; subst hj; decide)⟩
  obtain ⟨T9, h9⟩ := H6 i hi
  exact ⟨T9, h9.fr wF5 (by simp; omega) (by simp; omega)⟩
def SlAt (hp : HPt) (s0 s1 : Option TP) : Prop := ∃ (q : Nat → Option Nat) (u : Nat → Int32) (T0 T1 : TP), hp[40]? = some (ob 7 [.ref 41, .ref 42]) ∧ hp[41]? = some (qa 2 q) ∧ hp[42]? = some (za 2 u) ∧ q 0 = some 43 ∧ q 1 = some 45 ∧ u 0 = bz s0.isSome ∧ u 1 = bz s1.isSome ∧ TpAt hp 43 44 T0 ∧ TpAt hp 45 46 T1 ∧ (∀ T, s0 = some T → T0 = T) ∧ (∀ T, s1 = some T → T1 = T)
theorem SlAt.fr {hp hp' : HPt} {s0 s1 : Option TP} {L : List Nat} (H : SlAt hp s0 s1) (F : Fr L hp hp') (h1 : ∀ i ∈ [40, 41, 42, 43, 44, 45, 46], i ∉ L) : SlAt hp' s0 s1 := by
  obtain ⟨q, u, T0, T1, A1, A2, A3, A4, A5, A6, A7, A8, A9, r⟩ := H
  exact ⟨q, u, T0, T1, F.at (h1 _ (by decide)) A1, F.at (h1 _ (by decide)) A2, F.at (h1 _ (by decide)) A3, A4, A5, A6, A7, A8.fr F (h1 _ (by decide)) (h1 _ (by decide)), A9.fr F (h1 _ (by decide)) (h1 _ (by decide)), r⟩
def slG (s0 s1 : Option TP) (j : Nat) : Option TP := if j = 0 then s0 else s1
theorem bz_in (b : Bool) : vp_nar .boolean (bz b) = bz b := by cases b <;> rfl
set_option maxRecDepth 100000 in
set_option maxHeartbeats 4000000 in
theorem s_has {i : Int32} : SpI l X mX8_has [.ref 40, .int i] hp (fun r hp' => r = bz (inB i 2) ∧ hp' = hp) := by
  refine SpI.of pnX8 (Nat.le_of_ble_eq_true rfl) rfl ?_
  refine R_iload_n dX8_has_0 rfl rfl ?_
  refine R_if_lt (tgt := 13) dX8_has_1 (by decide) (fun h0 => ?_) (fun h0 => ?_)
  · refine R_iconst (v := (nI 0)) dX8_has_13 (by decide) ?_
    exact R_retz dX8_has_14 rfl rfl rfl rfl ⟨by rw [inB_lt h0]; rfl, rfl⟩
  · refine R_iload_n dX8_has_4 rfl rfl ?_
    refine R_iconst (v := (nI 2)) dX8_has_5 (by decide) ?_
    refine R_icmp_ge (tgt := 13) dX8_has_6 (by decide) (fun h1 => ?_) (fun h1 => ?_)
    · refine R_iconst (v := (nI 0)) dX8_has_13 (by decide) ?_
      exact R_retz dX8_has_14 rfl rfl rfl rfl ⟨by rw [inB_ge (by omega) h1]; rfl, rfl⟩
    · refine R_iconst (v := (nI 1)) dX8_has_9 (by decide) ?_
      refine R_goto (tgt := 14) dX8_has_10 (by decide) ?_
      exact R_retz dX8_has_14 rfl rfl rfl rfl ⟨by rw [inB_in (by omega) h0 h1]; rfl, rfl⟩
set_option maxRecDepth 100000 in
set_option maxHeartbeats 4000000 in
theorem s_keep0 {s0 s1 : Option TP} {T : TP} (hT : TpAt hp 1 2 T) (hS : SlAt hp s0 s1) : SpV l X mX8_keep [.ref 40, .int (nI 0), .ref 1] hp (fun hp' => SlAt hp' (some T) s1 ∧ Fr [42, 43, 44, 45, 46] hp hp') := by
  obtain ⟨q, u, T0, T1, A1, A2, A3, A4, A5, A6, A7, A8, A9, A10, A11⟩ := hS
  obtain ⟨cs, sc, un, wd⟩ := T
  obtain ⟨cs0, sc0, un0, wd0⟩ := T0
  have hZ := A8
  obtain ⟨f9, G1, -⟩ := hZ
  refine SpV.of pnX8 (Nat.le_of_ble_eq_true rfl) rfl ?_
  refine R_aload_n dX8_keep_0 rfl rfl ?_
  refine R_iload_n dX8_keep_1 rfl rfl ?_
  refine R_calli (As := [.int (nI 0)]) (st := []) kX8_has lX8_22 (s_has) rfl A1 dX8_keep_2 rfl rfl (Nat.le_of_ble_eq_true rfl) ⟨by decide, by decide⟩ zX8_has ⟨Nat.le_refl _, Nat.le_refl _⟩ (fun wr3 wp2 wq1 => ?_)
  obtain ⟨rfl, rfl⟩ : wr3 = _ ∧ hp = wp2 := ⟨wq1.1, wq1.2.symm⟩
  rw [inB_n (by decide)]
  show PZ _ _ _ _ _ _ [.int (nI 1)] _ _ _
  refine N_if_eq (tgt := 34) dX8_keep_5 (by decide) (by decide) (fun hc => absurd hc (by decide)) (fun _ => ?_)
  refine R_aload_n dX8_keep_8 rfl rfl ?_
  refine R_getf dX8_keep_9 gX8_11 A1 rfl ?_
  refine R_iload_n dX8_keep_12 rfl rfl ?_
  refine N_aald (q := 43) dX8_keep_13 A2 (by decide) (by decide) A4 ?_
  refine R_ifnull dX8_keep_14 ?_
  refine R_aload_n dX8_keep_17 rfl rfl ?_
  refine R_getf dX8_keep_18 gX8_11 A1 rfl ?_
  refine R_iload_n dX8_keep_21 rfl rfl ?_
  refine N_aald (q := 43) dX8_keep_22 A2 (by decide) (by decide) A4 ?_
  refine R_aload_n dX8_keep_23 rfl rfl ?_
  refine R_callv (As := [.ref 1]) (st := []) kX9_become lX8_26 (t_become A8 hT (by decide) (by decide)) rfl G1 dX8_keep_24 rfl rfl (Nat.le_of_ble_eq_true rfl) ⟨by decide, by decide⟩ zX9_become ⟨Nat.le_refl _, Nat.le_refl _⟩ (fun wp5 wq4 => ?_)
  obtain ⟨hq1, hq2⟩ := wq4
  have K1 := hq2.at (j := 40) (by decide) A1
  have K2 := hq2.at (j := 41) (by decide) A2
  have K3 := hq2.at (j := 42) (by decide) A3
  refine R_aload_n dX8_keep_27 rfl rfl ?_
  refine R_getf dX8_keep_28 gX8_17 K1 rfl ?_
  refine R_iload_n dX8_keep_31 rfl rfl ?_
  refine R_iconst (v := (nI 1)) dX8_keep_32 (by decide) ?_
  obtain ⟨u2, eu2⟩ : ∃ y, y = upd u 0 (nI 1) := ⟨_, rfl⟩
  refine W_bast (f' := u2) dX8_keep_33 K3 (by decide) (by decide) rfl eu2 (fun wp7 wH8 wE9 => ?_)
  have wH10 := (wE9 40 (by decide)).trans K1
  have wH11 := (wE9 41 (by decide)).trans K2
  have wF12 : Fr [42] wp5 wp7 := Fr.one wE9 (by simp)
  exact R_retv dX8_keep_34 rfl rfl rfl ⟨⟨q, u2, _, _, wH10, wH11, wH8, A4, A5, by rw [eu2]; exact upd_s, by rw [eu2, upd_n (by decide)]; exact A7, hq1.fr wF12 (by decide) (by decide), (A9.fr hq2 (by decide) (by decide)).fr wF12 (by decide) (by decide), fun T h => Option.some.inj h, A11⟩, (hq2.mono (by decide)).trans (wF12.mono (by decide))⟩
set_option maxRecDepth 100000 in
set_option maxHeartbeats 4000000 in
theorem s_keep1 {s0 s1 : Option TP} {T : TP} (hT : TpAt hp 1 2 T) (hS : SlAt hp s0 s1) : SpV l X mX8_keep [.ref 40, .int (nI 1), .ref 1] hp (fun hp' => SlAt hp' s0 (some T) ∧ Fr [42, 43, 44, 45, 46] hp hp') := by
  obtain ⟨q, u, T0, T1, A1, A2, A3, A4, A5, A6, A7, A8, A9, A10, A11⟩ := hS
  obtain ⟨cs, sc, un, wd⟩ := T
  obtain ⟨cs0, sc0, un0, wd0⟩ := T1
  have hZ := A9
  obtain ⟨f9, G1, -⟩ := hZ
  refine SpV.of pnX8 (Nat.le_of_ble_eq_true rfl) rfl ?_
  refine R_aload_n dX8_keep_0 rfl rfl ?_
  refine R_iload_n dX8_keep_1 rfl rfl ?_
  refine R_calli (As := [.int (nI 1)]) (st := []) kX8_has lX8_22 (s_has) rfl A1 dX8_keep_2 rfl rfl (Nat.le_of_ble_eq_true rfl) ⟨by decide, by decide⟩ zX8_has ⟨Nat.le_refl _, Nat.le_refl _⟩ (fun wr3 wp2 wq1 => ?_)
  obtain ⟨rfl, rfl⟩ : wr3 = _ ∧ hp = wp2 := ⟨wq1.1, wq1.2.symm⟩
  rw [inB_n (by decide)]
  show PZ _ _ _ _ _ _ [.int (nI 1)] _ _ _
  refine N_if_eq (tgt := 34) dX8_keep_5 (by decide) (by decide) (fun hc => absurd hc (by decide)) (fun _ => ?_)
  refine R_aload_n dX8_keep_8 rfl rfl ?_
  refine R_getf dX8_keep_9 gX8_11 A1 rfl ?_
  refine R_iload_n dX8_keep_12 rfl rfl ?_
  refine N_aald (q := 45) dX8_keep_13 A2 (by decide) (by decide) A5 ?_
  refine R_ifnull dX8_keep_14 ?_
  refine R_aload_n dX8_keep_17 rfl rfl ?_
  refine R_getf dX8_keep_18 gX8_11 A1 rfl ?_
  refine R_iload_n dX8_keep_21 rfl rfl ?_
  refine N_aald (q := 45) dX8_keep_22 A2 (by decide) (by decide) A5 ?_
  refine R_aload_n dX8_keep_23 rfl rfl ?_
  refine R_callv (As := [.ref 1]) (st := []) kX9_become lX8_26 (t_become A9 hT (by decide) (by decide)) rfl G1 dX8_keep_24 rfl rfl (Nat.le_of_ble_eq_true rfl) ⟨by decide, by decide⟩ zX9_become ⟨Nat.le_refl _, Nat.le_refl _⟩ (fun wp5 wq4 => ?_)
  obtain ⟨hq1, hq2⟩ := wq4
  have K1 := hq2.at (j := 40) (by decide) A1
  have K2 := hq2.at (j := 41) (by decide) A2
  have K3 := hq2.at (j := 42) (by decide) A3
  refine R_aload_n dX8_keep_27 rfl rfl ?_
  refine R_getf dX8_keep_28 gX8_17 K1 rfl ?_
  refine R_iload_n dX8_keep_31 rfl rfl ?_
  refine R_iconst (v := (nI 1)) dX8_keep_32 (by decide) ?_
  obtain ⟨u2, eu2⟩ : ∃ y, y = upd u 1 (nI 1) := ⟨_, rfl⟩
  refine W_bast (f' := u2) dX8_keep_33 K3 (by decide) (by decide) rfl eu2 (fun wp7 wH8 wE9 => ?_)
  have wH10 := (wE9 40 (by decide)).trans K1
  have wH11 := (wE9 41 (by decide)).trans K2
  have wF12 : Fr [42] wp5 wp7 := Fr.one wE9 (by simp)
  exact R_retv dX8_keep_34 rfl rfl rfl ⟨⟨q, u2, _, _, wH10, wH11, wH8, A4, A5, by rw [eu2, upd_n (by decide)]; exact A6, by rw [eu2]; exact upd_s, (A8.fr hq2 (by decide) (by decide)).fr wF12 (by decide) (by decide), hq1.fr wF12 (by decide) (by decide), A10, fun T h => Option.some.inj h⟩, (hq2.mono (by decide)).trans (wF12.mono (by decide))⟩
set_option maxRecDepth 100000 in
set_option maxHeartbeats 4000000 in
theorem s_backN0 {s1 : Option TP} {g : Nat} (hS : SlAt hp none s1) : SpI l X mX8_bringBack [.ref 40, .int (nI 0), .ref g] hp (fun r hp' => r = nI 0 ∧ hp' = hp) := by
  obtain ⟨q, u, T0, T1, A1, A2, A3, A4, A5, A6, A7, A8, A9, A10, A11⟩ := hS
  refine SpI.of pnX8 (Nat.le_of_ble_eq_true rfl) rfl ?_
  refine R_aload_n dX8_bringBack_0 rfl rfl ?_
  refine R_iload_n dX8_bringBack_1 rfl rfl ?_
  refine R_calli (As := [.int (nI 0)]) (st := []) kX8_has lX8_22 (s_has) rfl A1 dX8_bringBack_2 rfl rfl (Nat.le_of_ble_eq_true rfl) ⟨by decide, by decide⟩ zX8_has ⟨Nat.le_refl _, Nat.le_refl _⟩ (fun wr3 wp2 wq1 => ?_)
  obtain ⟨rfl, rfl⟩ : wr3 = _ ∧ hp = wp2 := ⟨wq1.1, wq1.2.symm⟩
  rw [inB_n (by decide)]
  show PZ _ _ _ _ _ _ [.int (nI 1)] _ _ _
  refine N_if_eq (tgt := 26) dX8_bringBack_5 (by decide) (by decide) (fun hc => absurd hc (by decide)) (fun _ => ?_)
  refine R_aload_n dX8_bringBack_8 rfl rfl ?_
  refine R_getf dX8_bringBack_9 gX8_17 A1 rfl ?_
  refine R_iload_n dX8_bringBack_12 rfl rfl ?_
  refine N_bald (y := (nI 0)) dX8_bringBack_13 A3 (by decide) (by decide) A6 ?_
  refine N_if_eq (tgt := 26) dX8_bringBack_14 (by decide) (by decide) (fun _ => ?_) (fun hc => absurd hc (by decide))
  refine R_iconst (v := (nI 0)) dX8_bringBack_26 (by decide) ?_
  exact R_retz dX8_bringBack_27 rfl rfl rfl rfl ⟨rfl, rfl⟩
set_option maxRecDepth 100000 in
set_option maxHeartbeats 4000000 in
theorem s_back0 {s1 : Option TP} {T : TP} {g b : Nat} {T9 : TP} (hG : TpAt hp g b T9) (hg1 : 43 ≠ g) (hg2 : 44 ≠ b) (hS : SlAt hp (some T) s1) : SpI l X mX8_bringBack [.ref 40, .int (nI 0), .ref g] hp (fun r hp' => r = nI 1 ∧ TpAt hp' g b T ∧ Fr [g, b] hp hp') := by
  obtain ⟨q, u, T0, T1, A1, A2, A3, A4, A5, A6, A7, A8, A9, A10, A11⟩ := hS
  have eT := A10 T rfl
  subst eT
  obtain ⟨cs, sc, un, wd⟩ := T0
  obtain ⟨cs0, sc0, un0, wd0⟩ := T9
  have hZ := hG
  obtain ⟨f9, G1, -⟩ := hZ
  refine SpI.of pnX8 (Nat.le_of_ble_eq_true rfl) rfl ?_
  refine R_aload_n dX8_bringBack_0 rfl rfl ?_
  refine R_iload_n dX8_bringBack_1 rfl rfl ?_
  refine R_calli (As := [.int (nI 0)]) (st := []) kX8_has lX8_22 (s_has) rfl A1 dX8_bringBack_2 rfl rfl (Nat.le_of_ble_eq_true rfl) ⟨by decide, by decide⟩ zX8_has ⟨Nat.le_refl _, Nat.le_refl _⟩ (fun wr3 wp2 wq1 => ?_)
  obtain ⟨rfl, rfl⟩ : wr3 = _ ∧ hp = wp2 := ⟨wq1.1, wq1.2.symm⟩
  rw [inB_n (by decide)]
  show PZ _ _ _ _ _ _ [.int (nI 1)] _ _ _
  refine N_if_eq (tgt := 26) dX8_bringBack_5 (by decide) (by decide) (fun hc => absurd hc (by decide)) (fun _ => ?_)
  refine R_aload_n dX8_bringBack_8 rfl rfl ?_
  refine R_getf dX8_bringBack_9 gX8_17 A1 rfl ?_
  refine R_iload_n dX8_bringBack_12 rfl rfl ?_
  refine N_bald (y := (nI 1)) dX8_bringBack_13 A3 (by decide) (by decide) A6 ?_
  refine N_if_eq (tgt := 26) dX8_bringBack_14 (by decide) (by decide) (fun hc => absurd hc (by decide)) (fun _ => ?_)
  refine R_aload_n dX8_bringBack_17 rfl rfl ?_
  refine R_getf dX8_bringBack_18 gX8_11 A1 rfl ?_
  refine R_iload_n dX8_bringBack_21 rfl rfl ?_
  refine N_aald (q := 43) dX8_bringBack_22 A2 (by decide) (by decide) A4 ?_
  refine R_ifnonnull (tgt := 28) dX8_bringBack_23 (by decide) ?_
  refine R_aload_n dX8_bringBack_28 rfl rfl ?_
  refine R_aload_n dX8_bringBack_29 rfl rfl ?_
  refine R_getf dX8_bringBack_30 gX8_11 A1 rfl ?_
  refine R_iload_n dX8_bringBack_33 rfl rfl ?_
  refine N_aald (q := 43) dX8_bringBack_34 A2 (by decide) (by decide) A4 ?_
  refine R_callv (As := [.ref 43]) (st := []) kX9_become lX8_26 (t_become hG A8 hg1 hg2) rfl G1 dX8_bringBack_35 rfl rfl (Nat.le_of_ble_eq_true rfl) ⟨by decide, by decide⟩ zX9_become ⟨Nat.le_refl _, Nat.le_refl _⟩ (fun wp5 wq4 => ?_)
  obtain ⟨hq1, hq2⟩ := wq4
  refine R_iconst (v := (nI 1)) dX8_bringBack_38 (by decide) ?_
  exact R_retz dX8_bringBack_39 rfl rfl rfl rfl ⟨rfl, hq1, hq2⟩
set_option maxRecDepth 100000 in
set_option maxHeartbeats 4000000 in
theorem s_backN1 {s0 : Option TP} {g : Nat} (hS : SlAt hp s0 none) : SpI l X mX8_bringBack [.ref 40, .int (nI 1), .ref g] hp (fun r hp' => r = nI 0 ∧ hp' = hp) := by
  obtain ⟨q, u, T0, T1, A1, A2, A3, A4, A5, A6, A7, A8, A9, A10, A11⟩ := hS
  refine SpI.of pnX8 (Nat.le_of_ble_eq_true rfl) rfl ?_
  refine R_aload_n dX8_bringBack_0 rfl rfl ?_
  refine R_iload_n dX8_bringBack_1 rfl rfl ?_
  refine R_calli (As := [.int (nI 1)]) (st := []) kX8_has lX8_22 (s_has) rfl A1 dX8_bringBack_2 rfl rfl (Nat.le_of_ble_eq_true rfl) ⟨by decide, by decide⟩ zX8_has ⟨Nat.le_refl _, Nat.le_refl _⟩ (fun wr3 wp2 wq1 => ?_)
  obtain ⟨rfl, rfl⟩ : wr3 = _ ∧ hp = wp2 := ⟨wq1.1, wq1.2.symm⟩
  rw [inB_n (by decide)]
  show PZ _ _ _ _ _ _ [.int (nI 1)] _ _ _
  refine N_if_eq (tgt := 26) dX8_bringBack_5 (by decide) (by decide) (fun hc => absurd hc (by decide)) (fun _ => ?_)
  refine R_aload_n dX8_bringBack_8 rfl rfl ?_
  refine R_getf dX8_bringBack_9 gX8_17 A1 rfl ?_
  refine R_iload_n dX8_bringBack_12 rfl rfl ?_
  refine N_bald (y := (nI 0)) dX8_bringBack_13 A3 (by decide) (by decide) A7 ?_
  refine N_if_eq (tgt := 26) dX8_bringBack_14 (by decide) (by decide) (fun _ => ?_) (fun hc => absurd hc (by decide))
  refine R_iconst (v := (nI 0)) dX8_bringBack_26 (by decide) ?_
  exact R_retz dX8_bringBack_27 rfl rfl rfl rfl ⟨rfl, rfl⟩
set_option maxRecDepth 100000 in
set_option maxHeartbeats 4000000 in
theorem s_back1 {s0 : Option TP} {T : TP} {g b : Nat} {T9 : TP} (hG : TpAt hp g b T9) (hg1 : 45 ≠ g) (hg2 : 46 ≠ b) (hS : SlAt hp s0 (some T)) : SpI l X mX8_bringBack [.ref 40, .int (nI 1), .ref g] hp (fun r hp' => r = nI 1 ∧ TpAt hp' g b T ∧ Fr [g, b] hp hp') := by
  obtain ⟨q, u, T0, T1, A1, A2, A3, A4, A5, A6, A7, A8, A9, A10, A11⟩ := hS
  have eT := A11 T rfl
  subst eT
  obtain ⟨cs, sc, un, wd⟩ := T1
  obtain ⟨cs0, sc0, un0, wd0⟩ := T9
  have hZ := hG
  obtain ⟨f9, G1, -⟩ := hZ
  refine SpI.of pnX8 (Nat.le_of_ble_eq_true rfl) rfl ?_
  refine R_aload_n dX8_bringBack_0 rfl rfl ?_
  refine R_iload_n dX8_bringBack_1 rfl rfl ?_
  refine R_calli (As := [.int (nI 1)]) (st := []) kX8_has lX8_22 (s_has) rfl A1 dX8_bringBack_2 rfl rfl (Nat.le_of_ble_eq_true rfl) ⟨by decide, by decide⟩ zX8_has ⟨Nat.le_refl _, Nat.le_refl _⟩ (fun wr3 wp2 wq1 => ?_)
  obtain ⟨rfl, rfl⟩ : wr3 = _ ∧ hp = wp2 := ⟨wq1.1, wq1.2.symm⟩
  rw [inB_n (by decide)]
  show PZ _ _ _ _ _ _ [.int (nI 1)] _ _ _
  refine N_if_eq (tgt := 26) dX8_bringBack_5 (by decide) (by decide) (fun hc => absurd hc (by decide)) (fun _ => ?_)
  refine R_aload_n dX8_bringBack_8 rfl rfl ?_
  refine R_getf dX8_bringBack_9 gX8_17 A1 rfl ?_
  refine R_iload_n dX8_bringBack_12 rfl rfl ?_
  refine N_bald (y := (nI 1)) dX8_bringBack_13 A3 (by decide) (by decide) A7 ?_
  refine N_if_eq (tgt := 26) dX8_bringBack_14 (by decide) (by decide) (fun hc => absurd hc (by decide)) (fun _ => ?_)
  refine R_aload_n dX8_bringBack_17 rfl rfl ?_
  refine R_getf dX8_bringBack_18 gX8_11 A1 rfl ?_
  refine R_iload_n dX8_bringBack_21 rfl rfl ?_
  refine N_aald (q := 45) dX8_bringBack_22 A2 (by decide) (by decide) A5 ?_
  refine R_ifnonnull (tgt := 28) dX8_bringBack_23 (by decide) ?_
  refine R_aload_n dX8_bringBack_28 rfl rfl ?_
  refine R_aload_n dX8_bringBack_29 rfl rfl ?_
  refine R_getf dX8_bringBack_30 gX8_11 A1 rfl ?_
  refine R_iload_n dX8_bringBack_33 rfl rfl ?_
  refine N_aald (q := 45) dX8_bringBack_34 A2 (by decide) (by decide) A5 ?_
  refine R_callv (As := [.ref 45]) (st := []) kX9_become lX8_26 (t_become hG A9 hg1 hg2) rfl G1 dX8_bringBack_35 rfl rfl (Nat.le_of_ble_eq_true rfl) ⟨by decide, by decide⟩ zX9_become ⟨Nat.le_refl _, Nat.le_refl _⟩ (fun wp5 wq4 => ?_)
  obtain ⟨hq1, hq2⟩ := wq4
  refine R_iconst (v := (nI 1)) dX8_bringBack_38 (by decide) ?_
  exact R_retz dX8_bringBack_39 rfl rfl rfl rfl ⟨rfl, hq1, hq2⟩
end O19
