/-! The two texts: charAt, indexOf; the class Code -/
def sL (i : Nat) : List Nat := if i = 0 then [65, 66, 67, 68, 69, 70, 71, 72, 73, 74, 75, 76, 77, 78, 79, 80, 81, 82, 83, 84, 85, 86, 87, 88, 89, 90] else figL
theorem sL_by : ∀ i, i < 2 → ∀ j, j < 26 → (sbyt.getD i []).getD j 0 = nI ((sL i).getD j 0) ∧ (sL i).getD j 0 < 128 := by decide +kernel
theorem sL_len : ∀ i, i < 2 → slen.getD i 0 = 26 ∧ (sL i).length = 26 := by decide +kernel
theorem b_lo : ∀ x, x < 128 → (nI x).toInt8.toInt32 = nI x := by decide +kernel
theorem b_hi : ∀ x, x < 128 → (nI (128 + x)).toInt8.toInt32 < 0 := by decide +kernel
theorem b_eq {x y : Nat} (hx : x < 256) (hy : y < 128) : nI y = (nI x).toInt8.toInt32 ↔ y = x := by
  rcases Nat.lt_or_ge x 128 with h | h
  · rw [b_lo x h]; exact nI_eq (by omega) (by omega)
  · have h1 := b_hi (x - 128) (by omega)
    rw [show 128 + (x - 128) = x by omega] at h1
    constructor
    · intro e; rw [← e] at h1; exact absurd h1 (nI_pos (by omega))
    · intro e; omega
theorem c_char : ∀ x, x < 256 → ((nI x).toUInt32 % 65536).toInt32 = nI x := by decide +kernel
def ixo (L : List Nat) (x : Nat) : Int32 := if x ∈ L then nI (L.idxOf x) else -1
theorem idx_at {x : Nat} : ∀ (L : List Nat) (j : Nat), x ∉ L.take j → L[j]? = some x → L.idxOf x = j
  | [], j, _, h => by simp at h
  | a :: t, 0, _, h => by simp at h; simp [h]
  | a :: t, j + 1, h1, h => by
    simp only [List.take_succ_cons, List.mem_cons, not_or] at h1
    rw [List.getElem?_cons_succ] at h
    have := idx_at t j h1.2 h
    rw [List.idxOf_cons, this]
    have hne : (a == x) = false := by simp; exact fun e => h1.1 e.symm
    rw [hne]; rfl

theorem lmJ1_92 : Cond.methodLink RJ1 92 yJ9_max_7cf53 ∈ lw_tg := tg_in 351 (by decide +kernel) (by decide +kernel)
theorem lmJ1_38 : Cond.methodLink RJ1 38 yJ9_min_7cf53 ∈ lw_tg := tg_in 354 (by decide +kernel) (by decide +kernel)
theorem lmX2_33 : Cond.methodLink RX2 33 yJ9_min_7cf53 ∈ lw_tg := tg_in 519 (by decide +kernel) (by decide +kernel)
theorem lmX5_51 : Cond.methodLink RX5 51 yJ9_min_7cf53 ∈ lw_tg := tg_in 711 (by decide +kernel) (by decide +kernel)
theorem lmX4_25 : Cond.methodLink RX4 25 yJ9_min_7cf53 ∈ lw_tg := tg_in 801 (by decide +kernel) (by decide +kernel)
theorem lmX10_49 : Cond.methodLink RX10 49 yJ9_min_7cf53 ∈ lw_tg := tg_in 861 (by decide +kernel) (by decide +kernel)
section J14
variable {l : Launch} {X : EX} {hp : HPt}
set_option maxRecDepth 100000 in
set_option maxHeartbeats 4000000 in
theorem j_isLatin1 {i : Nat} (hi : i < 2) : SpI l X mJ0_isLatin1_aae02 [.retAddr (1 + i)] hp (fun r hp' => r = nI 1 ∧ hp' = hp) := by
  refine SpI.of pnJ0 (Nat.le_of_ble_eq_true rfl) rfl ?_
  refine R_getsC dJ0_isLatin1_aae02_0 gJ0_38 ?_
  refine R_if_eq (tgt := 17) dJ0_isLatin1_aae02_3 (by decide) (fun hc => absurd hc (by decide)) (fun _ => ?_)
  refine R_xload_n dJ0_isLatin1_aae02_6 rfl rfl ?_
  refine R_coder dJ0_isLatin1_aae02_7 gJ0_15 hi ?_
  refine R_if_ne (tgt := 17) dJ0_isLatin1_aae02_10 (by decide) (fun hc => absurd (show (0:Int32) = 0 from rfl) hc) (fun _ => ?_)
  refine R_iconst (v := (nI 1)) dJ0_isLatin1_aae02_13 (by decide) ?_
  refine R_goto (tgt := 18) dJ0_isLatin1_aae02_14 (by decide) ?_
  exact R_retz dJ0_isLatin1_aae02_18 rfl rfl rfl rfl ⟨rfl, rfl⟩
set_option maxRecDepth 100000 in
set_option maxHeartbeats 4000000 in
theorem j_coder {i : Nat} (hi : i < 2) : SpI l X mJ0_coder_7d493 [.retAddr (1 + i)] hp (fun r hp' => r = nI 0 ∧ hp' = hp) := by
  refine SpI.of pnJ0 (Nat.le_of_ble_eq_true rfl) rfl ?_
  refine R_getsC dJ0_coder_7d493_0 gJ0_38 ?_
  refine R_if_eq (tgt := 13) dJ0_coder_7d493_3 (by decide) (fun hc => absurd hc (by decide)) (fun _ => ?_)
  refine R_xload_n dJ0_coder_7d493_6 rfl rfl ?_
  refine R_coder dJ0_coder_7d493_7 gJ0_15 hi ?_
  refine R_goto (tgt := 14) dJ0_coder_7d493_10 (by decide) ?_
  exact R_retz dJ0_coder_7d493_14 rfl rfl rfl rfl ⟨rfl, rfl⟩
set_option maxRecDepth 100000 in
set_option maxHeartbeats 4000000 in
theorem j_chk0 {a b : Nat} (hab : a < b) (hb : b < 2 ^ 31) : SpI l X mJ3_checkIndex_8e157 [.int (nI a), .int (nI b), .null] hp (fun r hp' => r = nI a ∧ hp' = hp) := by
  refine SpI.of pnJ3 (Nat.le_of_ble_eq_true rfl) rfl ?_
  refine R_iload_n dJ3_checkIndex_8e157_0 rfl rfl ?_
  refine R_if_lt (tgt := 9) dJ3_checkIndex_8e157_1 (by decide) (fun hc => absurd hc (nI_pos (by omega))) (fun _ => ?_)
  refine R_iload_n dJ3_checkIndex_8e157_4 rfl rfl ?_
  refine R_iload_n dJ3_checkIndex_8e157_5 rfl rfl ?_
  refine N_icmp_lt (tgt := 16) dJ3_checkIndex_8e157_6 (by decide) (by omega) (by omega) (fun _ => ?_) (fun hc => absurd hc (by omega))
  refine R_iload_n dJ3_checkIndex_8e157_16 rfl rfl ?_
  exact R_reti dJ3_checkIndex_8e157_17 rfl rfl rfl ⟨rfl, rfl⟩
set_option maxRecDepth 100000 in
set_option maxHeartbeats 4000000 in
theorem j_chk5 {a b : Nat} (hab : a < b) (hb : b < 2 ^ 31) : SpI l X mJ3_checkIndex_8e157 [.int (nI a), .int (nI b), .retAddr 5] hp (fun r hp' => r = nI a ∧ hp' = hp) := by
  refine SpI.of pnJ3 (Nat.le_of_ble_eq_true rfl) rfl ?_
  refine R_iload_n dJ3_checkIndex_8e157_0 rfl rfl ?_
  refine R_if_lt (tgt := 9) dJ3_checkIndex_8e157_1 (by decide) (fun hc => absurd hc (nI_pos (by omega))) (fun _ => ?_)
  refine R_iload_n dJ3_checkIndex_8e157_4 rfl rfl ?_
  refine R_iload_n dJ3_checkIndex_8e157_5 rfl rfl ?_
  refine N_icmp_lt (tgt := 16) dJ3_checkIndex_8e157_6 (by decide) (by omega) (by omega) (fun _ => ?_) (fun hc => absurd hc (by omega))
  refine R_iload_n dJ3_checkIndex_8e157_16 rfl rfl ?_
  exact R_reti dJ3_checkIndex_8e157_17 rfl rfl rfl ⟨rfl, rfl⟩
set_option maxRecDepth 100000 in
set_option maxHeartbeats 4000000 in
theorem j_check {a b : Nat} (hab : a < b) (hb : b < 2 ^ 31) : SpV l X mJ0_checkIndex_df160 [.int (nI a), .int (nI b)] hp (fun hp' => hp' = hp) := by
  refine SpV.of pnJ0 (Nat.le_of_ble_eq_true rfl) rfl ?_
  refine R_iload_n dJ0_checkIndex_df160_0 rfl rfl ?_
  refine R_iload_n dJ0_checkIndex_df160_1 rfl rfl ?_
  refine R_getsQ dJ0_checkIndex_df160_2 gJ0_1053 ?_ ?_
  · refine R_stati (As := [.int (nI a), .int (nI b), .null]) (st := []) kJ3_checkIndex_8e157 lJ0_1059 (j_chk0 hab hb) dJ0_checkIndex_df160_5 rfl rfl (Nat.le_of_ble_eq_true rfl) ⟨by decide, by decide⟩ zJ3_checkIndex_8e157 ⟨Nat.le_refl _, Nat.le_refl _⟩ (fun wr3 wp2 wq1 => ?_)
    obtain ⟨rfl, rfl⟩ := wq1
    refine R_pop dJ0_checkIndex_df160_8 rfl ?_
    exact R_retv dJ0_checkIndex_df160_9 rfl rfl rfl rfl
  · refine R_stati (As := [.int (nI a), .int (nI b), .retAddr 5]) (st := []) kJ3_checkIndex_8e157 lJ0_1059 (j_chk5 hab hb) dJ0_checkIndex_df160_5 rfl rfl (Nat.le_of_ble_eq_true rfl) ⟨by decide, by decide⟩ zJ3_checkIndex_8e157 ⟨Nat.le_refl _, Nat.le_refl _⟩ (fun wr6 wp5 wq4 => ?_)
    obtain ⟨rfl, rfl⟩ := wq4
    refine R_pop dJ0_checkIndex_df160_8 rfl ?_
    exact R_retv dJ0_checkIndex_df160_9 rfl rfl rfl rfl
set_option maxRecDepth 100000 in
set_option maxHeartbeats 4000000 in
theorem j_charAtB {i j : Nat} (hi : i < 2) (hj : j < 26) : SpI l X mJ1_charAt_3b067 [.retAddr (3 + i), .int (nI j)] hp (fun r hp' => r = nI ((sL i).getD j 0) ∧ hp' = hp) := by
  refine SpI.of pnJ1 (Nat.le_of_ble_eq_true rfl) rfl ?_
  have hv := (sL_by i hi j hj).2
  refine R_iload_n dJ1_charAt_3b067_0 rfl rfl ?_
  refine R_xload_n dJ1_charAt_3b067_1 rfl rfl ?_
  refine R_blen (x := nI 26) dJ1_charAt_3b067_2 hi (by rw [(sL_len i hi).1]; rfl) ?_
  refine R_statv (As := [.int (nI j), .int (nI 26)]) (st := []) kJ0_checkIndex_df160 lJ1_9 (j_check (a := j) (b := 26) hj (by omega)) dJ1_charAt_3b067_3 rfl rfl (Nat.le_of_ble_eq_true rfl) ⟨by decide, by decide⟩ zJ0_checkIndex_df160 ⟨Nat.le_refl _, Nat.le_refl _⟩ (fun wp2 wq1 => ?_)
  obtain rfl := wq1
  refine R_xload_n dJ1_charAt_3b067_6 rfl rfl ?_
  refine R_iload_n dJ1_charAt_3b067_7 rfl rfl ?_
  refine R_bld (y := nI ((sL i).getD j 0)) dJ1_charAt_3b067_8 hi (by rw [(sL_len i hi).1]; exact vp_in_nI hj (by omega)) (by rw [nI_clamp (by omega)]; exact (sL_by i hi j hj).1) ?_
  refine R_sipush (v := (nI 255)) dJ1_charAt_3b067_9 (by decide) ?_
  refine R_iand dJ1_charAt_3b067_12 ?_
  have ea : nI ((sL i).getD j 0) &&& nI 255 = nI ((sL i).getD j 0) := by
    rw [pk_andN (n := (sL i).getD j 0) (by omega) (m := nI 255) 8 (by decide), Nat.mod_eq_of_lt (by omega)]
  rw [ea]
  refine R_i2c (v := nI ((sL i).getD j 0)) dJ1_charAt_3b067_13 (c_char _ (by omega)) ?_
  exact R_retz dJ1_charAt_3b067_14 rfl (pk_charN (by omega)).1 rfl rfl ⟨rfl, rfl⟩
set_option maxRecDepth 100000 in
set_option maxHeartbeats 4000000 in
theorem j_charAt {i j : Nat} (hi : i < 2) (hj : j < 26) : SpI l X mJ0_charAt_5068e [.retAddr (1 + i), .int (nI j)] hp (fun r hp' => r = nI ((sL i).getD j 0) ∧ hp' = hp) := by
  refine SpI.of pnJ0 (Nat.le_of_ble_eq_true rfl) rfl ?_
  have hv := (sL_by i hi j hj).2
  refine R_xload_n dJ0_charAt_5068e_0 rfl rfl ?_
  refine R_callKi (i := i) (As := []) (st := []) kJ0_isLatin1_aae02 rfl hi lJ0_492 (j_isLatin1 hi) dJ0_charAt_5068e_1 rfl rfl (Nat.le_of_ble_eq_true rfl) ⟨by decide, by decide⟩ zJ0_isLatin1_aae02 ⟨Nat.le_refl _, Nat.le_refl _⟩ (fun r3 hp1 hq2 => ?_)
  obtain ⟨rfl, rfl⟩ := hq2
  refine N_if_eq (tgt := 16) dJ0_charAt_5068e_4 (by decide) (by omega) (fun hc => absurd hc (by decide)) (fun _ => ?_)
  refine R_xload_n dJ0_charAt_5068e_7 rfl rfl ?_
  refine R_value dJ0_charAt_5068e_8 gJ0_9 hi ?_
  refine R_iload_n dJ0_charAt_5068e_11 rfl rfl ?_
  refine R_stati (As := [.retAddr (3 + i), .int (nI j)]) (st := []) kJ1_charAt_3b067 lJ0_495 (j_charAtB hi hj) dJ0_charAt_5068e_12 rfl rfl (Nat.le_of_ble_eq_true rfl) ⟨by decide, by decide⟩ zJ1_charAt_3b067 ⟨Nat.le_refl _, Nat.le_refl _⟩ (fun wr6 wp5 wq4 => ?_)
  obtain ⟨rfl, rfl⟩ := wq4
  exact R_retz dJ0_charAt_5068e_15 rfl (pk_charN (by omega)).1 rfl rfl ⟨rfl, rfl⟩
set_option maxRecDepth 100000 in
set_option maxHeartbeats 4000000 in
theorem j_length {i : Nat} (hi : i < 2) : SpI l X mJ0_length_8abf5 [.retAddr (1 + i)] hp (fun r hp' => r = nI 26 ∧ hp' = hp) := by
  refine SpI.of pnJ0 (Nat.le_of_ble_eq_true rfl) rfl ?_
  refine R_xload_n dJ0_length_8abf5_0 rfl rfl ?_
  refine R_value dJ0_length_8abf5_1 gJ0_9 hi ?_
  refine R_blen (x := nI 26) dJ0_length_8abf5_4 hi (by rw [(sL_len i hi).1]; rfl) ?_
  refine R_xload_n dJ0_length_8abf5_5 rfl rfl ?_
  refine R_callKi (i := i) (As := []) (st := [.int (nI 26)]) kJ0_coder_7d493 rfl hi lJ0_335 (j_coder hi) dJ0_length_8abf5_6 rfl rfl (Nat.le_of_ble_eq_true rfl) ⟨by decide, by decide⟩ zJ0_coder_7d493 ⟨Nat.le_refl _, Nat.le_refl _⟩ (fun r3 hp1 hq2 => ?_)
  obtain ⟨rfl, rfl⟩ := hq2
  refine R_ishr dJ0_length_8abf5_9 ?_
  exact R_reti dJ0_length_8abf5_10 rfl rfl rfl ⟨by decide, rfl⟩
set_option maxRecDepth 100000 in
set_option maxHeartbeats 4000000 in
theorem j_canEncode {x : Nat} (hx : x < 256) : SpI l X mJ1_canEncode_9a6ad [.int (nI x)] hp (fun r hp' => r = nI 1 ∧ hp' = hp) := by
  refine SpI.of pnJ1 (Nat.le_of_ble_eq_true rfl) rfl ?_
  refine R_iload_n dJ1_canEncode_9a6ad_0 rfl rfl ?_
  refine R_if_lt (tgt := 15) dJ1_canEncode_9a6ad_1 (by decide) (fun hc => absurd hc (nI_pos (by omega))) (fun _ => ?_)
  refine R_iload_n dJ1_canEncode_9a6ad_4 rfl rfl ?_
  refine R_sipush (v := (nI 255)) dJ1_canEncode_9a6ad_5 (by decide) ?_
  refine N_icmp_gt (tgt := 15) dJ1_canEncode_9a6ad_8 (by decide) (by omega) (by omega) (fun hc => absurd hc (by omega)) (fun _ => ?_)
  refine R_iconst (v := (nI 1)) dJ1_canEncode_9a6ad_11 (by decide) ?_
  refine R_goto (tgt := 16) dJ1_canEncode_9a6ad_12 (by decide) ?_
  exact R_retz dJ1_canEncode_9a6ad_16 rfl rfl rfl rfl ⟨rfl, rfl⟩
set_option maxRecDepth 100000 in
set_option maxHeartbeats 4000000 in
theorem j_ixcL {i x : Nat} (hi : i < 2) (hx : x < 256) : ∀ (d j : Nat), j + d = 26 → x ∉ (sL i).take j → PZ l X (MZi X mJ1_indexOfChar_4cfef (fun r hp' => r = ixo (sL i) x ∧ hp' = hp)) mJ1_indexOfChar_4cfef 7 [some (.retAddr (3 + i)), some (.int (nI x)), some (.int (nI 0)), some (.int (nI 26)), some (.int ((nI x).toInt8.toInt32)), some (.int (nI j))] [] hp 0 0 := by
  have hL := (sL_len i hi).2
  intro d
  induction d with
  | zero =>
    intro j hj hn
    refine R_iload dJ1_indexOfChar_4cfef_7 rfl ?_
    refine R_iload_n dJ1_indexOfChar_4cfef_9 rfl rfl ?_
    refine N_icmp_ge (tgt := 31) dJ1_indexOfChar_4cfef_10 (by decide) (by omega) (by omega) (fun _ => ?_) (fun hc => absurd hc (by omega))
    refine R_iconst (v := (-1)) dJ1_indexOfChar_4cfef_31 (by decide) ?_
    have hm : x ∉ sL i := by rw [List.take_of_length_le (by omega)] at hn; exact hn
    refine R_reti dJ1_indexOfChar_4cfef_32 rfl rfl rfl ⟨?_, rfl⟩
    unfold ixo; rw [if_neg hm]
  | succ d ih =>
    intro j hj hn
    refine R_iload dJ1_indexOfChar_4cfef_7 rfl ?_
    refine R_iload_n dJ1_indexOfChar_4cfef_9 rfl rfl ?_
    refine N_icmp_ge (tgt := 31) dJ1_indexOfChar_4cfef_10 (by decide) (by omega) (by omega) (fun hc => absurd hc (by omega)) (fun _ => ?_)
    refine R_xload_n dJ1_indexOfChar_4cfef_13 rfl rfl ?_
    refine R_iload dJ1_indexOfChar_4cfef_14 rfl ?_
    refine R_bld (y := nI ((sL i).getD j 0)) dJ1_indexOfChar_4cfef_16 hi (by rw [(sL_len i hi).1]; exact vp_in_nI (by omega) (by omega)) (by rw [nI_clamp (by omega)]; exact (sL_by i hi j (by omega)).1) ?_
    refine R_iload dJ1_indexOfChar_4cfef_17 rfl ?_
    have hv := (sL_by i hi j (by omega)).2
    have hg : (sL i)[j]? = some ((sL i).getD j 0) := by rw [List.getD_eq_getElem?_getD, List.getElem?_eq_getElem (by omega)]; rfl
    refine R_icmp_ne (tgt := 25) dJ1_indexOfChar_4cfef_19 (by decide) (fun hc => ?_) (fun hc => ?_)
    · have hne : (sL i).getD j 0 ≠ x := fun e => hc ((b_eq hx hv).mpr e)
      refine N_iinc (d := 1) (lv' := [some (.retAddr (3 + i)), some (.int (nI x)), some (.int (nI 0)), some (.int (nI 26)), some (.int ((nI x).toInt8.toInt32)), some (.int (nI (j + 1)))]) dJ1_indexOfChar_4cfef_25 rfl rfl ?_
      refine R_goto (tgt := 7) dJ1_indexOfChar_4cfef_28 (by decide) ?_
      refine ih (j + 1) (by omega) ?_
      rw [List.take_succ, hg]
      intro hm; rcases List.mem_append.mp hm with h | h
      · exact hn h
      · simp at h; exact hne h.symm
    · have he : (sL i).getD j 0 = x := (b_eq hx hv).mp hc
      refine R_iload dJ1_indexOfChar_4cfef_22 rfl ?_
      refine R_reti dJ1_indexOfChar_4cfef_24 rfl rfl rfl ⟨?_, rfl⟩
      rw [he] at hg
      unfold ixo; rw [if_pos (List.mem_of_getElem? hg), idx_at _ j hn hg]
set_option maxRecDepth 100000 in
set_option maxHeartbeats 4000000 in
theorem j_ixc {i x : Nat} (hi : i < 2) (hx : x < 256) : SpI l X mJ1_indexOfChar_4cfef [.retAddr (3 + i), .int (nI x), .int (nI 0), .int (nI 26)] hp (fun r hp' => r = ixo (sL i) x ∧ hp' = hp) := by
  refine SpI.of pnJ1 (Nat.le_of_ble_eq_true rfl) rfl ?_
  refine R_iload_n dJ1_indexOfChar_4cfef_0 rfl rfl ?_
  refine R_i2b (v := (nI x).toInt8.toInt32) dJ1_indexOfChar_4cfef_1 rfl ?_
  refine R_istore (lv' := [some (.retAddr (3 + i)), some (.int (nI x)), some (.int (nI 0)), some (.int (nI 26)), some (.int ((nI x).toInt8.toInt32)), none]) dJ1_indexOfChar_4cfef_2 (by decide) rfl ?_
  refine R_iload_n dJ1_indexOfChar_4cfef_4 rfl rfl ?_
  refine R_istore (lv' := [some (.retAddr (3 + i)), some (.int (nI x)), some (.int (nI 0)), some (.int (nI 26)), some (.int ((nI x).toInt8.toInt32)), some (.int (nI 0))]) dJ1_indexOfChar_4cfef_5 (by decide) rfl ?_
  exact j_ixcL hi hx 26 0 rfl (by simp)
set_option maxRecDepth 100000 in
set_option maxHeartbeats 4000000 in
theorem j_ixB {i x : Nat} (hi : i < 2) (hx : x < 256) : SpI l X mJ1_indexOf_4cfef [.retAddr (3 + i), .int (nI x), .int (nI 0), .int (nI 26)] hp (fun r hp' => r = ixo (sL i) x ∧ hp' = hp) := by
  refine SpI.of pnJ1 (Nat.le_of_ble_eq_true rfl) rfl ?_
  refine R_iload_n dJ1_indexOf_4cfef_0 rfl rfl ?_
  refine R_stati (As := [.int (nI x)]) (st := []) kJ1_canEncode_9a6ad lJ1_88 (j_canEncode hx) dJ1_indexOf_4cfef_1 rfl rfl (Nat.le_of_ble_eq_true rfl) ⟨by decide, by decide⟩ zJ1_canEncode_9a6ad ⟨Nat.le_refl _, Nat.le_refl _⟩ (fun wr3 wp2 wq1 => ?_)
  obtain ⟨rfl, rfl⟩ := wq1
  refine N_if_ne (tgt := 9) dJ1_indexOf_4cfef_4 (by decide) (by omega) (fun _ => ?_) (fun hc => absurd hc (by decide))
  refine R_iload_n dJ1_indexOf_4cfef_9 rfl rfl ?_
  refine R_iconst (v := (nI 0)) dJ1_indexOf_4cfef_10 (by decide) ?_
  refine R_max dJ1_indexOf_4cfef_11 lmJ1_92 (by decide) (by decide) ⟨Nat.le_refl _, Nat.le_refl _⟩ ?_
  rw [show (if nI 0 < nI 0 then nI 0 else nI 0 : Int32) = (nI 0) from by decide]
  refine R_istore_n (lv' := [some (.retAddr (3 + i)), some (.int (nI x)), some (.int (nI 0)), some (.int (nI 26))]) dJ1_indexOf_4cfef_14 rfl (by decide) rfl ?_
  refine R_iload_n dJ1_indexOf_4cfef_15 rfl rfl ?_
  refine R_xload_n dJ1_indexOf_4cfef_16 rfl rfl ?_
  refine R_blen (x := nI 26) dJ1_indexOf_4cfef_17 hi (by rw [(sL_len i hi).1]; rfl) ?_
  refine R_min dJ1_indexOf_4cfef_18 lmJ1_38 (by decide) (by decide) ⟨Nat.le_refl _, Nat.le_refl _⟩ ?_
  rw [show (if nI 26 < nI 26 then nI 26 else nI 26 : Int32) = (nI 26) from by decide]
  refine R_istore_n (lv' := [some (.retAddr (3 + i)), some (.int (nI x)), some (.int (nI 0)), some (.int (nI 26))]) dJ1_indexOf_4cfef_21 rfl (by decide) rfl ?_
  refine R_iload_n dJ1_indexOf_4cfef_22 rfl rfl ?_
  refine R_iload_n dJ1_indexOf_4cfef_23 rfl rfl ?_
  refine N_icmp_lt (tgt := 29) dJ1_indexOf_4cfef_24 (by decide) (by omega) (by omega) (fun _ => ?_) (fun hc => absurd hc (by decide))
  refine R_xload_n dJ1_indexOf_4cfef_29 rfl rfl ?_
  refine R_iload_n dJ1_indexOf_4cfef_30 rfl rfl ?_
  refine R_iload_n dJ1_indexOf_4cfef_31 rfl rfl ?_
  refine R_iload_n dJ1_indexOf_4cfef_32 rfl rfl ?_
  refine R_stati (As := [.retAddr (3 + i), .int (nI x), .int (nI 0), .int (nI 26)]) (st := []) kJ1_indexOfChar_4cfef lJ1_95 (j_ixc hi hx) dJ1_indexOf_4cfef_33 rfl rfl (Nat.le_of_ble_eq_true rfl) ⟨by decide, by decide⟩ zJ1_indexOfChar_4cfef ⟨Nat.le_refl _, Nat.le_refl _⟩ (fun wr6 wp5 wq4 => ?_)
  obtain ⟨rfl, rfl⟩ := wq4
  exact R_reti dJ1_indexOf_4cfef_36 rfl rfl rfl ⟨rfl, rfl⟩
set_option maxRecDepth 100000 in
set_option maxHeartbeats 4000000 in
theorem j_ix2 {i x : Nat} (hi : i < 2) (hx : x < 256) : SpI l X mJ0_indexOf_7cf53 [.retAddr (1 + i), .int (nI x), .int (nI 0)] hp (fun r hp' => r = ixo (sL i) x ∧ hp' = hp) := by
  refine SpI.of pnJ0 (Nat.le_of_ble_eq_true rfl) rfl ?_
  refine R_xload_n dJ0_indexOf_7cf53_0 rfl rfl ?_
  refine R_callKi (i := i) (As := []) (st := []) kJ0_isLatin1_aae02 rfl hi lJ0_492 (j_isLatin1 hi) dJ0_indexOf_7cf53_1 rfl rfl (Nat.le_of_ble_eq_true rfl) ⟨by decide, by decide⟩ zJ0_isLatin1_aae02 ⟨Nat.le_refl _, Nat.le_refl _⟩ (fun r3 hp1 hq2 => ?_)
  obtain ⟨rfl, rfl⟩ := hq2
  refine N_if_eq (tgt := 23) dJ0_indexOf_7cf53_4 (by decide) (by omega) (fun hc => absurd hc (by decide)) (fun _ => ?_)
  refine R_xload_n dJ0_indexOf_7cf53_7 rfl rfl ?_
  refine R_value dJ0_indexOf_7cf53_8 gJ0_9 hi ?_
  refine R_iload_n dJ0_indexOf_7cf53_11 rfl rfl ?_
  refine R_iload_n dJ0_indexOf_7cf53_12 rfl rfl ?_
  refine R_xload_n dJ0_indexOf_7cf53_13 rfl rfl ?_
  refine R_callKi (i := i) (As := []) (st := [.int (nI 0), .int (nI x), .retAddr (3 + i)]) kJ0_length_8abf5 rfl hi lJ0_505 (j_length hi) dJ0_indexOf_7cf53_14 rfl rfl (Nat.le_of_ble_eq_true rfl) ⟨by decide, by decide⟩ zJ0_length_8abf5 ⟨Nat.le_refl _, Nat.le_refl _⟩ (fun r6 hp4 hq5 => ?_)
  obtain ⟨rfl, rfl⟩ := hq5
  refine R_stati (As := [.retAddr (3 + i), .int (nI x), .int (nI 0), .int (nI 26)]) (st := []) kJ1_indexOf_4cfef lJ0_637 (j_ixB hi hx) dJ0_indexOf_7cf53_17 rfl rfl (Nat.le_of_ble_eq_true rfl) ⟨by decide, by decide⟩ zJ1_indexOf_4cfef ⟨Nat.le_refl _, Nat.le_refl _⟩ (fun wr9 wp8 wq7 => ?_)
  obtain ⟨rfl, rfl⟩ := wq7
  refine R_goto (tgt := 36) dJ0_indexOf_7cf53_20 (by decide) ?_
  exact R_reti dJ0_indexOf_7cf53_36 rfl rfl rfl ⟨rfl, rfl⟩
set_option maxRecDepth 100000 in
set_option maxHeartbeats 4000000 in
theorem j_ix {i x : Nat} (hi : i < 2) (hx : x < 256) : SpI l X mJ0_indexOf_0f7a4 [.retAddr (1 + i), .int (nI x)] hp (fun r hp' => r = ixo (sL i) x ∧ hp' = hp) := by
  refine SpI.of pnJ0 (Nat.le_of_ble_eq_true rfl) rfl ?_
  refine R_xload_n dJ0_indexOf_0f7a4_0 rfl rfl ?_
  refine R_iload_n dJ0_indexOf_0f7a4_1 rfl rfl ?_
  refine R_iconst (v := (nI 0)) dJ0_indexOf_0f7a4_2 (by decide) ?_
  refine R_callKi (i := i) (As := [.int (nI x), .int (nI 0)]) (st := []) kJ0_indexOf_7cf53 rfl hi lJ0_633 (j_ix2 hi hx) dJ0_indexOf_0f7a4_3 rfl rfl (Nat.le_of_ble_eq_true rfl) ⟨by decide, by decide⟩ zJ0_indexOf_7cf53 ⟨Nat.le_refl _, Nat.le_refl _⟩ (fun r3 hp1 hq2 => ?_)
  obtain ⟨rfl, rfl⟩ := hq2
  exact R_reti dJ0_indexOf_0f7a4_6 rfl rfl rfl ⟨rfl, rfl⟩
end J14
