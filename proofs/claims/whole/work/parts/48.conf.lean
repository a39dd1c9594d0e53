/-! The class: Confidence -/
theorem lN_m10 (a : Nat) : lN a * 10 = lN (a * 10) := lN_mul a 10
theorem lN_r2 {a : Nat} (h : a < 2 ^ 63) : lN a - lN a / 2 * 2 = lN (a % 2) := pk_lRem (b := 2) h (by decide) (by decide)
theorem lN_r5 {a : Nat} (h : a < 2 ^ 63) : lN a - lN a / 5 * 5 = lN (a % 5) := pk_lRem (b := 5) h (by decide) (by decide)
theorem lN_d2 {a : Nat} (h : a < 2 ^ 63) : lN a / 2 = lN (a / 2) := pk_lDiv (b := 2) h (by decide) (by decide)
theorem lN_d5 {a : Nat} (h : a < 2 ^ 63) : lN a / 5 = lN (a / 5) := pk_lDiv (b := 5) h (by decide) (by decide)
theorem lN_z {a : Nat} (h : a < 2 ^ 63) : lg_cmp (lN a) 0 = 0 ↔ a = 0 := by
  rw [lcmp0_eq, show (0 : Int64) = lN 0 from rfl, pk_lEQ h (by decide)]
section X48
variable {l : Launch} {X : EX} {hp : HPt}
set_option maxRecDepth 100000 in
set_option maxHeartbeats 4000000 in
theorem c_ps29 {w0 w1 dn x : Nat} {a : Int64} (hx : x ≤ 10) (H : hp[58]? = some (ob 0 [.long (a), .long (lN dn), .long (lN w0), .long (lN w1)])) : SpV l X mX1_passShift [.ref 58, .int (nI 29), .int (nI x)] hp (fun hp' => hp'[58]? = some (ob 0 [.long (a), .long (lN (dn * 10)), .long (lN (w0 * x)), .long (lN (w1 * 10 + w0 * (10 - x)))]) ∧ Fr [58] hp hp') := by
  refine SpV.of pnX1 (Nat.le_of_ble_eq_true rfl) rfl ?_
  refine R_aload_n dX1_passShift_0 rfl rfl ?_
  refine R_dup dX1_passShift_1 rfl ?_
  refine R_getf dX1_passShift_2 gX1_15 H rfl ?_
  refine R_ldc2 dX1_passShift_5 nX1_54 ?_
  refine R_lmul dX1_passShift_8 ?_
  rw [lN_m10]
  refine W_putl (fs' := [.long (a), .long (lN (dn * 10)), .long (lN w0), .long (lN w1)]) dX1_passShift_9 pX1_15 H (Nat.le_of_ble_eq_true rfl) rfl (fun wp1 wH2 wE3 => ?_)
  have wF4 : Fr [58] hp wp1 := Fr.one wE3 (by simp)
  refine R_iload_n dX1_passShift_12 rfl rfl ?_
  refine R_bipush (v := (nI 29)) dX1_passShift_13 (by decide) ?_
  refine N_icmp_ne (tgt := 55) dX1_passShift_15 (by decide) (by decide) (by decide) (fun hc => absurd hc (by decide)) (fun _ => ?_)
  refine R_aload_n dX1_passShift_18 rfl rfl ?_
  refine R_aload_n dX1_passShift_19 rfl rfl ?_
  refine R_getf dX1_passShift_20 gX1_21 wH2 rfl ?_
  refine R_ldc2 dX1_passShift_23 nX1_54 ?_
  refine R_lmul dX1_passShift_26 ?_
  rw [lN_m10]
  refine R_aload_n dX1_passShift_27 rfl rfl ?_
  refine R_getf dX1_passShift_28 gX1_18 wH2 rfl ?_
  refine R_bipush (v := (nI 10)) dX1_passShift_31 (by decide) ?_
  refine R_iload_n dX1_passShift_33 rfl rfl ?_
  refine N_isub dX1_passShift_34 (by omega) ?_
  refine R_i2l dX1_passShift_35 ?_
  rw [nI_l (n := 10 - x) (by omega)]
  refine R_lmul dX1_passShift_36 ?_
  rw [lN_mul]
  refine R_ladd dX1_passShift_37 ?_
  rw [lN_add]
  refine W_putl (fs' := [.long (a), .long (lN (dn * 10)), .long (lN w0), .long (lN (w1 * 10 + w0 * (10 - x)))]) dX1_passShift_38 pX1_21 wH2 (Nat.le_of_ble_eq_true rfl) rfl (fun wp5 wH6 wE7 => ?_)
  have wF8 : Fr [58] hp wp5 := wF4.trans (Fr.one wE7 (by simp))
  refine R_aload_n dX1_passShift_41 rfl rfl ?_
  refine R_dup dX1_passShift_42 rfl ?_
  refine R_getf dX1_passShift_43 gX1_18 wH6 rfl ?_
  refine R_iload_n dX1_passShift_46 rfl rfl ?_
  refine R_i2l dX1_passShift_47 ?_
  rw [nI_l (n := x) (by omega)]
  refine R_lmul dX1_passShift_48 ?_
  rw [lN_mul]
  refine W_putl (fs' := [.long (a), .long (lN (dn * 10)), .long (lN (w0 * x)), .long (lN (w1 * 10 + w0 * (10 - x)))]) dX1_passShift_49 pX1_18 wH6 (Nat.le_of_ble_eq_true rfl) rfl (fun wp9 wH10 wE11 => ?_)
  have wF12 : Fr [58] hp wp9 := wF8.trans (Fr.one wE11 (by simp))
  refine R_goto (tgt := 89) dX1_passShift_52 (by decide) ?_
  exact R_retv dX1_passShift_89 rfl rfl rfl ⟨wH10, wF12⟩
set_option maxRecDepth 100000 in
set_option maxHeartbeats 4000000 in
theorem c_ps30 {w0 w1 dn x : Nat} {a : Int64} (hx : x ≤ 10) (H : hp[58]? = some (ob 0 [.long (a), .long (lN dn), .long (lN w0), .long (lN w1)])) : SpV l X mX1_passShift [.ref 58, .int (nI 30), .int (nI x)] hp (fun hp' => hp'[58]? = some (ob 0 [.long (a), .long (lN (dn * 10)), .long (lN (w0 * 10 + w1 * (10 - x))), .long (lN (w1 * x))]) ∧ Fr [58] hp hp') := by
  refine SpV.of pnX1 (Nat.le_of_ble_eq_true rfl) rfl ?_
  refine R_aload_n dX1_passShift_0 rfl rfl ?_
  refine R_dup dX1_passShift_1 rfl ?_
  refine R_getf dX1_passShift_2 gX1_15 H rfl ?_
  refine R_ldc2 dX1_passShift_5 nX1_54 ?_
  refine R_lmul dX1_passShift_8 ?_
  rw [lN_m10]
  refine W_putl (fs' := [.long (a), .long (lN (dn * 10)), .long (lN w0), .long (lN w1)]) dX1_passShift_9 pX1_15 H (Nat.le_of_ble_eq_true rfl) rfl (fun wp1 wH2 wE3 => ?_)
  have wF4 : Fr [58] hp wp1 := Fr.one wE3 (by simp)
  refine R_iload_n dX1_passShift_12 rfl rfl ?_
  refine R_bipush (v := (nI 29)) dX1_passShift_13 (by decide) ?_
  refine N_icmp_ne (tgt := 55) dX1_passShift_15 (by decide) (by decide) (by decide) (fun _ => ?_) (fun hc => absurd hc (by decide))
  refine R_aload_n dX1_passShift_55 rfl rfl ?_
  refine R_aload_n dX1_passShift_56 rfl rfl ?_
  refine R_getf dX1_passShift_57 gX1_18 wH2 rfl ?_
  refine R_ldc2 dX1_passShift_60 nX1_54 ?_
  refine R_lmul dX1_passShift_63 ?_
  rw [lN_m10]
  refine R_aload_n dX1_passShift_64 rfl rfl ?_
  refine R_getf dX1_passShift_65 gX1_21 wH2 rfl ?_
  refine R_bipush (v := (nI 10)) dX1_passShift_68 (by decide) ?_
  refine R_iload_n dX1_passShift_70 rfl rfl ?_
  refine N_isub dX1_passShift_71 (by omega) ?_
  refine R_i2l dX1_passShift_72 ?_
  rw [nI_l (n := 10 - x) (by omega)]
  refine R_lmul dX1_passShift_73 ?_
  rw [lN_mul]
  refine R_ladd dX1_passShift_74 ?_
  rw [lN_add]
  refine W_putl (fs' := [.long (a), .long (lN (dn * 10)), .long (lN (w0 * 10 + w1 * (10 - x))), .long (lN w1)]) dX1_passShift_75 pX1_18 wH2 (Nat.le_of_ble_eq_true rfl) rfl (fun wp5 wH6 wE7 => ?_)
  have wF8 : Fr [58] hp wp5 := wF4.trans (Fr.one wE7 (by simp))
  refine R_aload_n dX1_passShift_78 rfl rfl ?_
  refine R_dup dX1_passShift_79 rfl ?_
  refine R_getf dX1_passShift_80 gX1_21 wH6 rfl ?_
  refine R_iload_n dX1_passShift_83 rfl rfl ?_
  refine R_i2l dX1_passShift_84 ?_
  rw [nI_l (n := x) (by omega)]
  refine R_lmul dX1_passShift_85 ?_
  rw [lN_mul]
  refine W_putl (fs' := [.long (a), .long (lN (dn * 10)), .long (lN (w0 * 10 + w1 * (10 - x))), .long (lN (w1 * x))]) dX1_passShift_86 pX1_21 wH6 (Nat.le_of_ble_eq_true rfl) rfl (fun wp9 wH10 wE11 => ?_)
  have wF12 : Fr [58] hp wp9 := wF8.trans (Fr.one wE11 (by simp))
  exact R_retv dX1_passShift_89 rfl rfl rfl ⟨wH10, wF12⟩
set_option maxRecDepth 100000 in
set_option maxHeartbeats 4000000 in
theorem c_h2 {Z : ZT} {a b k : Nat} {c d : Int64} (ha : a < 2 ^ 63) (hb : b < 2 ^ 63) (H : hp[58]? = some (ob 0 [.long (lN a), .long (lN b), .long (c), .long (d)])) (K : ∀ hp' : HPt, hp'[58]? = some (ob 0 [.long (lN (rdP 2 (a, b)).1), .long (lN (rdP 2 (a, b)).2), .long (c), .long (d)]) → Fr [58] hp hp' → PZ l X Z mX1_reduce 58 [some (.ref 58), some (.int (nI k))] [] hp' 0 0) : PZ l X Z mX1_reduce 8 [some (.ref 58), some (.int (nI k))] [] hp 0 0 := by
  have hma : a % 2 < 2 ^ 63 := Nat.lt_of_le_of_lt (Nat.mod_le _ _) ha
  have hmb : b % 2 < 2 ^ 63 := Nat.lt_of_le_of_lt (Nat.mod_le _ _) hb
  refine R_aload_n dX1_reduce_8 rfl rfl ?_
  refine R_getf dX1_reduce_9 gX1_9 H rfl ?_
  refine R_ldc2 dX1_reduce_12 nX1_56 ?_
  refine R_lrem dX1_reduce_15 (by decide) ?_
  rw [lN_r2 ha]
  refine R_lconst (v := 0) dX1_reduce_16 (by decide) ?_
  refine R_lcmp dX1_reduce_17 ?_
  refine R_if_ne (tgt := 58) dX1_reduce_18 (by decide) (fun h1 => ?_) (fun h1 => ?_)
  · have e : rdP 2 (a, b) = (a, b) := if_neg (fun q => h1 ((lN_z hma).mpr q.1))
    rw [e] at K
    exact K hp H Fr.rf
  · refine R_aload_n dX1_reduce_21 rfl rfl ?_
    refine R_getf dX1_reduce_22 gX1_15 H rfl ?_
    refine R_ldc2 dX1_reduce_25 nX1_56 ?_
    refine R_lrem dX1_reduce_28 (by decide) ?_
    rw [lN_r2 hb]
    refine R_lconst (v := 0) dX1_reduce_29 (by decide) ?_
    refine R_lcmp dX1_reduce_30 ?_
    refine R_if_ne (tgt := 58) dX1_reduce_31 (by decide) (fun h2 => ?_) (fun h2 => ?_)
    · have e : rdP 2 (a, b) = (a, b) := if_neg (fun q => h2 ((lN_z hmb).mpr q.2))
      rw [e] at K
      exact K hp H Fr.rf
    · have e : rdP 2 (a, b) = (a / 2, b / 2) := if_pos ⟨(lN_z hma).mp h1, (lN_z hmb).mp h2⟩
      rw [e] at K
      refine R_aload_n dX1_reduce_34 rfl rfl ?_
      refine R_dup dX1_reduce_35 rfl ?_
      refine R_getf dX1_reduce_36 gX1_9 H rfl ?_
      refine R_ldc2 dX1_reduce_39 nX1_56 ?_
      refine R_ldiv dX1_reduce_42 (by decide) ?_
      rw [lN_d2 ha]
      refine W_putl (fs' := [.long (lN (a / 2)), .long (lN b), .long (c), .long (d)]) dX1_reduce_43 pX1_9 H (Nat.le_of_ble_eq_true rfl) rfl (fun wp1 wH2 wE3 => ?_)
      have wF4 : Fr [58] hp wp1 := Fr.one wE3 (by simp)
      refine R_aload_n dX1_reduce_46 rfl rfl ?_
      refine R_dup dX1_reduce_47 rfl ?_
      refine R_getf dX1_reduce_48 gX1_15 wH2 rfl ?_
      refine R_ldc2 dX1_reduce_51 nX1_56 ?_
      refine R_ldiv dX1_reduce_54 (by decide) ?_
      rw [lN_d2 hb]
      refine W_putl (fs' := [.long (lN (a / 2)), .long (lN (b / 2)), .long (c), .long (d)]) dX1_reduce_55 pX1_15 wH2 (Nat.le_of_ble_eq_true rfl) rfl (fun wp5 wH6 wE7 => ?_)
      have wF8 : Fr [58] hp wp5 := wF4.trans (Fr.one wE7 (by simp))
      exact K wp5 wH6 wF8
set_option maxRecDepth 100000 in
set_option maxHeartbeats 4000000 in
theorem c_h5 {Z : ZT} {a b k : Nat} {c d : Int64} (ha : a < 2 ^ 63) (hb : b < 2 ^ 63) (H : hp[58]? = some (ob 0 [.long (lN a), .long (lN b), .long (c), .long (d)])) (K : ∀ hp' : HPt, hp'[58]? = some (ob 0 [.long (lN (rdP 5 (a, b)).1), .long (lN (rdP 5 (a, b)).2), .long (c), .long (d)]) → Fr [58] hp hp' → PZ l X Z mX1_reduce 108 [some (.ref 58), some (.int (nI k))] [] hp' 0 0) : PZ l X Z mX1_reduce 58 [some (.ref 58), some (.int (nI k))] [] hp 0 0 := by
  have hma : a % 5 < 2 ^ 63 := Nat.lt_of_le_of_lt (Nat.mod_le _ _) ha
  have hmb : b % 5 < 2 ^ 63 := Nat.lt_of_le_of_lt (Nat.mod_le _ _) hb
  refine R_aload_n dX1_reduce_58 rfl rfl ?_
  refine R_getf dX1_reduce_59 gX1_9 H rfl ?_
  refine R_ldc2 dX1_reduce_62 nX1_58 ?_
  refine R_lrem dX1_reduce_65 (by decide) ?_
  rw [lN_r5 ha]
  refine R_lconst (v := 0) dX1_reduce_66 (by decide) ?_
  refine R_lcmp dX1_reduce_67 ?_
  refine R_if_ne (tgt := 108) dX1_reduce_68 (by decide) (fun h1 => ?_) (fun h1 => ?_)
  · have e : rdP 5 (a, b) = (a, b) := if_neg (fun q => h1 ((lN_z hma).mpr q.1))
    rw [e] at K
    exact K hp H Fr.rf
  · refine R_aload_n dX1_reduce_71 rfl rfl ?_
    refine R_getf dX1_reduce_72 gX1_15 H rfl ?_
    refine R_ldc2 dX1_reduce_75 nX1_58 ?_
    refine R_lrem dX1_reduce_78 (by decide) ?_
    rw [lN_r5 hb]
    refine R_lconst (v := 0) dX1_reduce_79 (by decide) ?_
    refine R_lcmp dX1_reduce_80 ?_
    refine R_if_ne (tgt := 108) dX1_reduce_81 (by decide) (fun h2 => ?_) (fun h2 => ?_)
    · have e : rdP 5 (a, b) = (a, b) := if_neg (fun q => h2 ((lN_z hmb).mpr q.2))
      rw [e] at K
      exact K hp H Fr.rf
    · have e : rdP 5 (a, b) = (a / 5, b / 5) := if_pos ⟨(lN_z hma).mp h1, (lN_z hmb).mp h2⟩
      rw [e] at K
      refine R_aload_n dX1_reduce_84 rfl rfl ?_
      refine R_dup dX1_reduce_85 rfl ?_
      refine R_getf dX1_reduce_86 gX1_9 H rfl ?_
      refine R_ldc2 dX1_reduce_89 nX1_58 ?_
      refine R_ldiv dX1_reduce_92 (by decide) ?_
      rw [lN_d5 ha]
      refine W_putl (fs' := [.long (lN (a / 5)), .long (lN b), .long (c), .long (d)]) dX1_reduce_93 pX1_9 H (Nat.le_of_ble_eq_true rfl) rfl (fun wp1 wH2 wE3 => ?_)
      have wF4 : Fr [58] hp wp1 := Fr.one wE3 (by simp)
      refine R_aload_n dX1_reduce_96 rfl rfl ?_
      refine R_dup dX1_reduce_97 rfl ?_
      refine R_getf dX1_reduce_98 gX1_15 wH2 rfl ?_
      refine R_ldc2 dX1_reduce_101 nX1_58 ?_
      refine R_ldiv dX1_reduce_104 (by decide) ?_
      rw [lN_d5 hb]
      refine W_putl (fs' := [.long (lN (a / 5)), .long (lN (b / 5)), .long (c), .long (d)]) dX1_reduce_105 pX1_15 wH2 (Nat.le_of_ble_eq_true rfl) rfl (fun wp5 wH6 wE7 => ?_)
      have wF8 : Fr [58] hp wp5 := wF4.trans (Fr.one wE7 (by simp))
      exact K wp5 wH6 wF8
set_option maxRecDepth 100000 in
set_option maxHeartbeats 4000000 in
theorem c_rdL {hp0 : HPt} {R : Nat × Nat} {c d : Int64} : ∀ (m k a b : Nat) (hp : HPt), k + m = 9 → a < 2 ^ 63 → b < 2 ^ 63 → hp[58]? = some (ob 0 [.long (lN a), .long (lN b), .long (c), .long (d)]) → Fr [58] hp0 hp → redN m (a, b) = R → PZ l X (MZv X mX1_reduce (fun hp' => hp'[58]? = some (ob 0 [.long (lN R.1), .long (lN R.2), .long (c), .long (d)]) ∧ Fr [58] hp0 hp')) mX1_reduce 2 [some (.ref 58), some (.int (nI k))] [] hp 0 0 := by
  intro m
  induction m with
  | zero =>
    intro k a b hp hk ha hb H F hR
    have hR2 : (a, b) = R := hR
    subst hR2
    refine R_iload_n dX1_reduce_2 rfl rfl ?_
    refine R_bipush (v := (nI 9)) dX1_reduce_3 (by decide) ?_
    refine N_icmp_ge (tgt := 114) dX1_reduce_5 (by decide) (by omega) (by omega) (fun _ => ?_) (fun hc => absurd hc (by omega))
    exact R_retv dX1_reduce_114 rfl rfl rfl ⟨H, F⟩
  | succ m ih =>
    intro k a b hp hk ha hb H F hR
    refine R_iload_n dX1_reduce_2 rfl rfl ?_
    refine R_bipush (v := (nI 9)) dX1_reduce_3 (by decide) ?_
    refine N_icmp_ge (tgt := 114) dX1_reduce_5 (by decide) (by omega) (by omega) (fun hc => absurd hc (by omega)) (fun _ => ?_)
    refine c_h2 ha hb H (fun hp1 H1 F1 => ?_)
    have l2 := rdP_le (p := 2) (a := a) (b := b)
    have l5 := rdP_le (p := 5) (a := (rdP 2 (a, b)).1) (b := (rdP 2 (a, b)).2)
    refine c_h5 (by omega) (by omega) H1 (fun hp2 H2 F2 => ?_)
    refine N_iinc (d := 1) (lv' := [some (.ref 58), some (.int (nI (k + 1)))]) dX1_reduce_108 rfl rfl ?_
    refine R_goto (tgt := 2) dX1_reduce_111 (by decide) ?_
    exact ih (k + 1) _ _ hp2 (by omega) (by omega) (by omega) H2 ((F.trans F1).trans F2) hR
set_option maxRecDepth 100000 in
set_option maxHeartbeats 4000000 in
theorem c_red {a b : Nat} {c d : Int64} (ha : a < 2 ^ 63) (hb : b < 2 ^ 63) (H : hp[58]? = some (ob 0 [.long (lN a), .long (lN b), .long (c), .long (d)])) : SpV l X mX1_reduce [.ref 58] hp (fun hp' => hp'[58]? = some (ob 0 [.long (lN (redN 9 (a, b)).1), .long (lN (redN 9 (a, b)).2), .long (c), .long (d)]) ∧ Fr [58] hp hp') := by
  refine SpV.of pnX1 (Nat.le_of_ble_eq_true rfl) rfl ?_
  refine R_iconst (v := (nI 0)) dX1_reduce_0 (by decide) ?_
  refine R_istore_n (lv' := [some (.ref 58), some (.int (nI 0))]) dX1_reduce_1 rfl (by decide) rfl ?_
  exact c_rdL 9 0 a b hp rfl ha hb H Fr.rf rfl
set_option maxRecDepth 100000 in
set_option maxHeartbeats 4000000 in
theorem c_rkL {hp0 : HPt} {cs : List Nat} {sc un wd i x : Nat} {a : Int64} (hi : i ≤ cs.length) (hx : x ≤ 10) (hT0 : TpAt hp0 1 2 (cs, sc, un, wd)) : ∀ (d j : Nat) (hp : HPt) (lo : Option Value), j + d = i → nsh (cs.take j) ≤ 9 → hp[58]? = some (ob 0 [.long (a), .long (lN (10 ^ nsh (cs.take j))), .long (lN (wts un x sc (cs.take j)).1), .long (lN (wts un x sc (cs.take j)).2)]) → Fr [58] hp0 hp → PZ l X (MZi X mX1_reckon (fun r hp' => r = bz (decide (nsh (cs.take i) ≤ 9)) ∧ CfX hp' ∧ (nsh (cs.take i) ≤ 9 → ∃ c d : Int64, hp'[58]? = some (ob 0 [.long (lN (cfR un sc x cs i).1), .long (lN (cfR un sc x cs i).2), .long (c), .long (d)])) ∧ Fr [58] hp0 hp')) mX1_reckon 37 [some (.ref 58), some (.ref 1), some (.int (nI i)), some (.int (nI x)), some (.int (nI (nsh (cs.take j)))), some (.int (nI j)), lo] [] hp 0 0 := by
  intro d
  induction d with
  | zero =>
    intro j hp lo hj hn H F
    have hje : j = i := by omega
    subst hje
    have hT := hT0.fr F (by decide) (by decide)
    obtain ⟨ft, KT, KT2, hft, hL, hC3, hs1, hu1, hw1, hw2⟩ := id hT
    have hten := p10_le hn
    have hcl := cfN_le (un := un) (sc := sc) (cs := cs) (i := j) hx hi
    have hcase := cAt_le (un := un) (cs := cs) (i := j) hs1
    have hred := redN_10 (a := cfN un sc x cs j) hn
    refine R_iload dX1_reckon_37 rfl ?_
    refine R_iload_n dX1_reckon_39 rfl rfl ?_
    refine N_icmp_ge (tgt := 115) dX1_reckon_40 (by decide) (by omega) (by omega) (fun _ => ?_) (fun hc => absurd hc (by omega))
    refine R_aload_n dX1_reckon_115 rfl rfl ?_
    refine R_aload_n dX1_reckon_116 rfl rfl ?_
    refine R_iload_n dX1_reckon_117 rfl rfl ?_
    refine R_calli (As := [.int (nI j)]) (st := [.ref 58]) kX9_caseBefore lX1_48 (t_caseBefore (i := j) (by omega) hT) rfl KT dX1_reckon_118 rfl rfl (Nat.le_of_ble_eq_true rfl) ⟨by decide, by decide⟩ zX9_caseBefore ⟨Nat.le_refl _, Nat.le_refl _⟩ (fun wr3 wp2 wq1 => ?_)
    obtain ⟨rfl, rfl⟩ : wr3 = _ ∧ hp = wp2 := ⟨wq1.1, wq1.2.symm⟩
    refine R_iconst (v := (nI 1)) dX1_reckon_121 (by decide) ?_
    refine N_icmp_ne (tgt := 132) dX1_reckon_122 (by decide) (by omega) (by omega) (fun h1 => ?_) (fun h1 => ?_)
    · have ew : cfN un sc x cs j = (wts un x sc (cs.take j)).1 := if_neg h1
      rw [ew] at hcl hred
      refine R_aload_n dX1_reckon_132 rfl rfl ?_
      refine R_getf dX1_reckon_133 gX1_18 H rfl ?_
      refine W_putl (fs' := [.long (lN (wts un x sc (cs.take j)).1), .long (lN (10 ^ nsh (cs.take j))), .long (lN (wts un x sc (cs.take j)).1), .long (lN (wts un x sc (cs.take j)).2)]) dX1_reckon_136 pX1_9 H (Nat.le_of_ble_eq_true rfl) rfl (fun wp4 wH5 wE6 => ?_)
      have wH7 := (wE6 1 (by decide)).trans KT
      have wF8 : Fr [58] hp wp4 := Fr.one wE6 (by simp)
      refine R_aload_n dX1_reckon_139 rfl rfl ?_
      refine R_callv (As := []) (st := []) kX1_reduce lX1_51 (c_red (by omega) (by omega) wH5) rfl wH5 dX1_reckon_140 rfl rfl (Nat.le_of_ble_eq_true rfl) ⟨by decide, by decide⟩ zX1_reduce ⟨Nat.le_refl _, Nat.le_refl _⟩ (fun wp10 wq9 => ?_)
      obtain ⟨hr1, hr2⟩ := wq9
      rw [hred] at hr1
      have hr3 : ∃ c d : Int64, wp10[58]? = some (ob 0 [.long (lN (cfR un sc x cs j).1), .long (lN (cfR un sc x cs j).2), .long (c), .long (d)]) := by unfold cfR; rw [ew]; exact ⟨_, _, hr1⟩
      refine R_iconst (v := (nI 1)) dX1_reckon_143 (by decide) ?_
      exact R_retz dX1_reckon_144 rfl rfl rfl rfl ⟨bz_c1 hn, ⟨_, _, _, _, hr1⟩, fun _ => hr3, (F.trans wF8).trans hr2⟩
    · have ew : cfN un sc x cs j = (wts un x sc (cs.take j)).2 := if_pos h1
      rw [ew] at hcl hred
      refine R_aload_n dX1_reckon_125 rfl rfl ?_
      refine R_getf dX1_reckon_126 gX1_21 H rfl ?_
      refine R_goto (tgt := 136) dX1_reckon_129 (by decide) ?_
      refine W_putl (fs' := [.long (lN (wts un x sc (cs.take j)).2), .long (lN (10 ^ nsh (cs.take j))), .long (lN (wts un x sc (cs.take j)).1), .long (lN (wts un x sc (cs.take j)).2)]) dX1_reckon_136 pX1_9 H (Nat.le_of_ble_eq_true rfl) rfl (fun wp12 wH13 wE14 => ?_)
      have wH15 := (wE14 1 (by decide)).trans KT
      have wF16 : Fr [58] hp wp12 := Fr.one wE14 (by simp)
      refine R_aload_n dX1_reckon_139 rfl rfl ?_
      refine R_callv (As := []) (st := []) kX1_reduce lX1_51 (c_red (by omega) (by omega) wH13) rfl wH13 dX1_reckon_140 rfl rfl (Nat.le_of_ble_eq_true rfl) ⟨by decide, by decide⟩ zX1_reduce ⟨Nat.le_refl _, Nat.le_refl _⟩ (fun wp18 wq17 => ?_)
      obtain ⟨hr1, hr2⟩ := wq17
      rw [hred] at hr1
      have hr3 : ∃ c d : Int64, wp18[58]? = some (ob 0 [.long (lN (cfR un sc x cs j).1), .long (lN (cfR un sc x cs j).2), .long (c), .long (d)]) := by unfold cfR; rw [ew]; exact ⟨_, _, hr1⟩
      refine R_iconst (v := (nI 1)) dX1_reckon_143 (by decide) ?_
      exact R_retz dX1_reckon_144 rfl rfl rfl rfl ⟨bz_c1 hn, ⟨_, _, _, _, hr1⟩, fun _ => hr3, (F.trans wF16).trans hr2⟩
  | succ d ih =>
    intro j hp lo hj hn H F
    have hT := hT0.fr F (by decide) (by decide)
    obtain ⟨ft, KT, KT2, hft, hL, hC3, hs1, hu1, hw1, hw2⟩ := id hT
    have hjl : j < cs.length := by omega
    have hc := hC3 cs[j] (List.getElem_mem hjl)
    have hgd : cs.getD j 31 = cs[j] := gD hjl
    have hns := nsh_s hjl
    have hws := wts_s (un := un) (x := x) (sc := sc) hjl
    have hmo := nsh_mono (cs := cs) (j := j + 1) (i := i) (by omega)
    refine R_iload dX1_reckon_37 rfl ?_
    refine R_iload_n dX1_reckon_39 rfl rfl ?_
    refine N_icmp_ge (tgt := 115) dX1_reckon_40 (by decide) (by omega) (by omega) (fun hc => absurd hc (by omega)) (fun _ => ?_)
    refine R_aload_n dX1_reckon_43 rfl rfl ?_
    refine R_iload dX1_reckon_44 rfl ?_
    refine R_calli (As := [.int (nI j)]) (st := []) kX9_at lX1_30 (t_at (j := j) (by omega) hT) rfl KT dX1_reckon_46 rfl rfl (Nat.le_of_ble_eq_true rfl) ⟨by decide, by decide⟩ zX9_at ⟨Nat.le_refl _, Nat.le_refl _⟩ (fun wr22 wp21 wq20 => ?_)
    obtain ⟨rfl, rfl⟩ : wr22 = _ ∧ hp = wp21 := ⟨wq20.1, wq20.2.symm⟩
    rw [hgd]
    refine R_istore (lv' := [some (.ref 58), some (.ref 1), some (.int (nI i)), some (.int (nI x)), some (.int (nI (nsh (cs.take j)))), some (.int (nI j)), some (.int (nI (cs[j])))]) dX1_reckon_49 (by decide) rfl ?_
    refine R_iload dX1_reckon_51 rfl ?_
    refine R_stati (As := [.int (nI (cs[j]))]) (st := []) kX0_isShift lX1_34 (c_isShift (by omega)) dX1_reckon_53 rfl rfl (Nat.le_of_ble_eq_true rfl) ⟨by decide, by decide⟩ zX0_isShift ⟨Nat.le_refl _, Nat.le_refl _⟩ (fun wr25 wp24 wq23 => ?_)
    obtain ⟨rfl, rfl⟩ : wr25 = _ ∧ hp = wp24 := ⟨wq23.1, wq23.2.symm⟩
    by_cases hsh : cs[j] = 29 ∨ cs[j] = 30
    · rw [if_pos hsh]
      have hb : shB cs[j] = true := decide_eq_true hsh
      rw [if_pos hb] at hns
      refine N_if_eq (tgt := 81) dX1_reckon_56 (by decide) (by decide) (fun hc => absurd hc (by decide)) (fun _ => ?_)
      refine N_iinc (d := 1) (lv' := [some (.ref 58), some (.ref 1), some (.int (nI i)), some (.int (nI x)), some (.int (nI (nsh (cs.take j) + 1))), some (.int (nI j)), some (.int (nI (cs[j])))]) dX1_reckon_59 rfl rfl ?_
      refine R_iload dX1_reckon_62 rfl ?_
      refine R_bipush (v := (nI 9)) dX1_reckon_64 (by decide) ?_
      refine N_icmp_le (tgt := 71) dX1_reckon_66 (by decide) (by omega) (by omega) (fun h9 => ?_) (fun h9 => ?_)
      · refine R_aload_n dX1_reckon_71 rfl rfl ?_
        refine R_iload dX1_reckon_72 rfl ?_
        refine R_iload_n dX1_reckon_74 rfl rfl ?_
        have e10 : 10 ^ nsh (cs.take (j + 1)) = 10 ^ nsh (cs.take j) * 10 := by rw [hns, Nat.pow_succ]
        rcases hsh with e | e
        · rw [e]
          refine R_callv (As := [.int (nI 29), .int (nI x)]) (st := []) kX1_passShift lX1_40 (c_ps29 hx H) rfl H dX1_reckon_75 rfl rfl (Nat.le_of_ble_eq_true rfl) ⟨by decide, by decide⟩ zX1_passShift ⟨Nat.le_refl _, Nat.le_refl _⟩ (fun wp27 wq26 => ?_)
          obtain ⟨hq1, hq2⟩ := wq26
          have hw2 : wts un x sc (cs.take (j + 1)) = ((wts un x sc (cs.take j)).1 * x, (wts un x sc (cs.take j)).2 * 10 + (wts un x sc (cs.take j)).1 * (10 - x)) := by rw [hws, e]; rfl
          refine R_goto (tgt := 109) dX1_reckon_78 (by decide) ?_
          refine N_iinc (d := 1) (lv' := [some (.ref 58), some (.ref 1), some (.int (nI i)), some (.int (nI x)), some (.int (nI (nsh (cs.take j) + 1))), some (.int (nI (j + 1))), some (.int (nI 29))]) dX1_reckon_109 rfl rfl ?_
          refine R_goto (tgt := 37) dX1_reckon_112 (by decide) ?_
          have h8 := ih (j + 1) wp27 (some (.int (nI 29))) (by omega) (by omega) (by rw [e10, hw2]; exact hq1) (F.trans hq2)
          rw [hns] at h8
          exact h8
        · rw [e]
          refine R_callv (As := [.int (nI 30), .int (nI x)]) (st := []) kX1_passShift lX1_40 (c_ps30 hx H) rfl H dX1_reckon_75 rfl rfl (Nat.le_of_ble_eq_true rfl) ⟨by decide, by decide⟩ zX1_passShift ⟨Nat.le_refl _, Nat.le_refl _⟩ (fun wp30 wq29 => ?_)
          obtain ⟨hq1, hq2⟩ := wq29
          have hw2 : wts un x sc (cs.take (j + 1)) = ((wts un x sc (cs.take j)).1 * 10 + (wts un x sc (cs.take j)).2 * (10 - x), (wts un x sc (cs.take j)).2 * x) := by rw [hws, e]; rfl
          refine R_goto (tgt := 109) dX1_reckon_78 (by decide) ?_
          refine N_iinc (d := 1) (lv' := [some (.ref 58), some (.ref 1), some (.int (nI i)), some (.int (nI x)), some (.int (nI (nsh (cs.take j) + 1))), some (.int (nI (j + 1))), some (.int (nI 30))]) dX1_reckon_109 rfl rfl ?_
          refine R_goto (tgt := 37) dX1_reckon_112 (by decide) ?_
          have h8 := ih (j + 1) wp30 (some (.int (nI 30))) (by omega) (by omega) (by rw [e10, hw2]; exact hq1) (F.trans hq2)
          rw [hns] at h8
          exact h8
      · refine R_iconst (v := (nI 0)) dX1_reckon_69 (by decide) ?_
        exact R_retz dX1_reckon_70 rfl rfl rfl rfl ⟨bz_c0 (by omega), ⟨_, _, _, _, H⟩, fun z => absurd z (by omega), F⟩
    · rw [if_neg hsh]
      have hb : ¬ shB cs[j] = true := fun z => hsh (decide_eq_true_eq.mp z)
      rw [if_neg hb] at hns
      replace hns : nsh (cs.take (j + 1)) = nsh (cs.take j) := hns
      unfold wSt at hws
      rw [if_neg (fun z => hsh (.inl z)), if_neg (fun z => hsh (.inr z))] at hws
      refine N_if_eq (tgt := 81) dX1_reckon_56 (by decide) (by decide) (fun _ => ?_) (fun hc => absurd hc (by decide))
      refine R_aload_n dX1_reckon_81 rfl rfl ?_
      refine R_iload dX1_reckon_82 rfl ?_
      refine R_iconst (v := (nI 1)) dX1_reckon_84 (by decide) ?_
      refine R_calli (As := [.int (nI (cs[j])), .int (nI 1)]) (st := []) kX9_caseAfter lX1_44 (t_caseAfter hc (by decide) hT) rfl KT dX1_reckon_85 rfl rfl (Nat.le_of_ble_eq_true rfl) ⟨by decide, by decide⟩ zX9_caseAfter ⟨Nat.le_refl _, Nat.le_refl _⟩ (fun wr34 wp33 wq32 => ?_)
      obtain ⟨rfl, rfl⟩ : wr34 = _ ∧ hp = wp33 := ⟨wq32.1, wq32.2.symm⟩
      have hc1 := cAft_le (un := un) (c := cs[j]) (p := 1) (by decide)
      refine N_if_ne (tgt := 109) dX1_reckon_88 (by decide) (by omega) (fun h1 => ?_) (fun h1 => ?_)
      · have hu : ¬ (cs[j] = 26 ∧ un = 1) := fun z => h1 (by unfold cAft; rw [if_neg (fun y => hsh (.inl y)), if_neg (fun y => hsh (.inr y)), if_pos z])
        rw [if_neg hu] at hws
        refine N_iinc (d := 1) (lv' := [some (.ref 58), some (.ref 1), some (.int (nI i)), some (.int (nI x)), some (.int (nI (nsh (cs.take j)))), some (.int (nI (j + 1))), some (.int (nI (cs[j])))]) dX1_reckon_109 rfl rfl ?_
        refine R_goto (tgt := 37) dX1_reckon_112 (by decide) ?_
        have h8 := ih (j + 1) hp (some (.int (nI cs[j]))) (by omega) (by omega) (by rw [hns, hws]; exact H) F
        rw [hns] at h8
        exact h8
      · have hu : cs[j] = 26 ∧ un = 1 := Classical.byContradiction (fun z => by
          unfold cAft at h1
          rw [if_neg (fun y => hsh (.inl y)), if_neg (fun y => hsh (.inr y)), if_neg z] at h1
          exact absurd h1 (by decide))
        rw [if_pos hu] at hws
        refine R_aload_n dX1_reckon_91 rfl rfl ?_
        refine R_dup dX1_reckon_92 rfl ?_
        refine R_getf dX1_reckon_93 gX1_18 H rfl ?_
        refine R_aload_n dX1_reckon_96 rfl rfl ?_
        refine R_getf dX1_reckon_97 gX1_21 H rfl ?_
        refine R_ladd dX1_reckon_100 ?_
        rw [lN_add]
        refine W_putl (fs' := [.long (a), .long (lN (10 ^ nsh (cs.take j))), .long (lN ((wts un x sc (cs.take j)).1 + (wts un x sc (cs.take j)).2)), .long (lN (wts un x sc (cs.take j)).2)]) dX1_reckon_101 pX1_18 H (Nat.le_of_ble_eq_true rfl) rfl (fun wp35 wH36 wE37 => ?_)
        have wH38 := (wE37 1 (by decide)).trans KT
        have wF39 : Fr [58] hp wp35 := Fr.one wE37 (by simp)
        refine R_aload_n dX1_reckon_104 rfl rfl ?_
        refine R_lconst (v := 0) dX1_reckon_105 (by decide) ?_
        refine W_putl (fs' := [.long (a), .long (lN (10 ^ nsh (cs.take j))), .long (lN ((wts un x sc (cs.take j)).1 + (wts un x sc (cs.take j)).2)), .long (0)]) dX1_reckon_106 pX1_21 wH36 (Nat.le_of_ble_eq_true rfl) rfl (fun wp40 wH41 wE42 => ?_)
        have wH43 := (wE42 1 (by decide)).trans wH38
        have wF44 : Fr [58] hp wp40 := wF39.trans (Fr.one wE42 (by simp))
        refine N_iinc (d := 1) (lv' := [some (.ref 58), some (.ref 1), some (.int (nI i)), some (.int (nI x)), some (.int (nI (nsh (cs.take j)))), some (.int (nI (j + 1))), some (.int (nI (cs[j])))]) dX1_reckon_109 rfl rfl ?_
        refine R_goto (tgt := 37) dX1_reckon_112 (by decide) ?_
        have h8 := ih (j + 1) wp40 (some (.int (nI cs[j]))) (by omega) (by omega) (by rw [hns, hws]; exact wH41) (F.trans wF44)
        rw [hns] at h8
        exact h8
set_option maxRecDepth 100000 in
set_option maxHeartbeats 4000000 in
theorem c_reck {cs : List Nat} {sc un wd i x : Nat} (hi : i ≤ cs.length) (hx : x ≤ 10) (hT : TpAt hp 1 2 (cs, sc, un, wd)) (hF : CfX hp) : SpI l X mX1_reckon [.ref 58, .ref 1, .int (nI i), .int (nI x)] hp (fun r hp' => r = bz (decide (nsh (cs.take i) ≤ 9)) ∧ CfX hp' ∧ (nsh (cs.take i) ≤ 9 → ∃ c d : Int64, hp'[58]? = some (ob 0 [.long (lN (cfR un sc x cs i).1), .long (lN (cfR un sc x cs i).2), .long (c), .long (d)])) ∧ Fr [58] hp hp') := by
  obtain ⟨v1, v2, v3, v4, H⟩ := hF
  obtain ⟨ft, KT, KT2, hft, hL, hC3, hs1, hu1, hw1, hw2⟩ := id hT
  refine SpI.of pnX1 (Nat.le_of_ble_eq_true rfl) rfl ?_
  refine R_iconst (v := (nI 0)) dX1_reckon_0 (by decide) ?_
  refine R_istore (lv' := [some (.ref 58), some (.ref 1), some (.int (nI i)), some (.int (nI x)), some (.int (nI 0)), none, none]) dX1_reckon_1 (by decide) rfl ?_
  refine R_aload_n dX1_reckon_3 rfl rfl ?_
  refine R_aload_n dX1_reckon_4 rfl rfl ?_
  refine R_getf dX1_reckon_5 gX1_24 KT rfl ?_
  refine N_if_ne (tgt := 15) dX1_reckon_8 (by decide) (by omega) (fun h0 => ?_) (fun h0 => ?_)
  · refine R_lconst (v := 0) dX1_reckon_15 (by decide) ?_
    refine W_putl (fs' := [.long (v1), .long (v2), .long (0), .long (v4)]) dX1_reckon_16 pX1_18 H (Nat.le_of_ble_eq_true rfl) rfl (fun wp1 wH2 wE3 => ?_)
    have wH4 := (wE3 1 (by decide)).trans KT
    have wF5 : Fr [58] hp wp1 := Fr.one wE3 (by simp)
    refine R_aload_n dX1_reckon_19 rfl rfl ?_
    refine R_lconst (v := 1) dX1_reckon_20 (by decide) ?_
    refine R_aload_n dX1_reckon_21 rfl rfl ?_
    refine R_getf dX1_reckon_22 gX1_18 wH2 rfl ?_
    refine R_lsub dX1_reckon_25 ?_
    rw [show (1 : Int64) - 0 = lN 1 from rfl]
    refine W_putl (fs' := [.long (v1), .long (v2), .long (0), .long (lN 1)]) dX1_reckon_26 pX1_21 wH2 (Nat.le_of_ble_eq_true rfl) rfl (fun wp6 wH7 wE8 => ?_)
    have wH9 := (wE8 1 (by decide)).trans wH4
    have wF10 : Fr [58] hp wp6 := wF5.trans (Fr.one wE8 (by simp))
    refine R_aload_n dX1_reckon_29 rfl rfl ?_
    refine R_lconst (v := 1) dX1_reckon_30 (by decide) ?_
    refine W_putl (fs' := [.long (v1), .long (1), .long (0), .long (lN 1)]) dX1_reckon_31 pX1_15 wH7 (Nat.le_of_ble_eq_true rfl) rfl (fun wp11 wH12 wE13 => ?_)
    have wH14 := (wE13 1 (by decide)).trans wH9
    have wF15 : Fr [58] hp wp11 := wF10.trans (Fr.one wE13 (by simp))
    refine R_iconst (v := (nI 0)) dX1_reckon_34 (by decide) ?_
    refine R_istore (lv' := [some (.ref 58), some (.ref 1), some (.int (nI i)), some (.int (nI x)), some (.int (nI 0)), some (.int (nI 0)), none]) dX1_reckon_35 (by decide) rfl ?_
    have hw : wts un x sc (cs.take 0) = (0, 1) := if_neg h0
    exact c_rkL (a := v1) hi hx hT i 0 wp11 none (by omega) (Nat.zero_le _) (by rw [hw]; exact wH12) wF15
  · refine R_lconst (v := 1) dX1_reckon_11 (by decide) ?_
    refine R_goto (tgt := 16) dX1_reckon_12 (by decide) ?_
    refine W_putl (fs' := [.long (v1), .long (v2), .long (1), .long (v4)]) dX1_reckon_16 pX1_18 H (Nat.le_of_ble_eq_true rfl) rfl (fun wp16 wH17 wE18 => ?_)
    have wH19 := (wE18 1 (by decide)).trans KT
    have wF20 : Fr [58] hp wp16 := Fr.one wE18 (by simp)
    refine R_aload_n dX1_reckon_19 rfl rfl ?_
    refine R_lconst (v := 1) dX1_reckon_20 (by decide) ?_
    refine R_aload_n dX1_reckon_21 rfl rfl ?_
    refine R_getf dX1_reckon_22 gX1_18 wH17 rfl ?_
    refine R_lsub dX1_reckon_25 ?_
    rw [show (1 : Int64) - 1 = lN 0 from rfl]
    refine W_putl (fs' := [.long (v1), .long (v2), .long (1), .long (lN 0)]) dX1_reckon_26 pX1_21 wH17 (Nat.le_of_ble_eq_true rfl) rfl (fun wp21 wH22 wE23 => ?_)
    have wH24 := (wE23 1 (by decide)).trans wH19
    have wF25 : Fr [58] hp wp21 := wF20.trans (Fr.one wE23 (by simp))
    refine R_aload_n dX1_reckon_29 rfl rfl ?_
    refine R_lconst (v := 1) dX1_reckon_30 (by decide) ?_
    refine W_putl (fs' := [.long (v1), .long (1), .long (1), .long (lN 0)]) dX1_reckon_31 pX1_15 wH22 (Nat.le_of_ble_eq_true rfl) rfl (fun wp26 wH27 wE28 => ?_)
    have wH29 := (wE28 1 (by decide)).trans wH24
    have wF30 : Fr [58] hp wp26 := wF25.trans (Fr.one wE28 (by simp))
    refine R_iconst (v := (nI 0)) dX1_reckon_34 (by decide) ?_
    refine R_istore (lv' := [some (.ref 58), some (.ref 1), some (.int (nI i)), some (.int (nI x)), some (.int (nI 0)), some (.int (nI 0)), none]) dX1_reckon_35 (by decide) rfl ?_
    have hw : wts un x sc (cs.take 0) = (1, 0) := if_pos h0
    exact c_rkL (a := v1) hi hx hT i 0 wp26 none (by omega) (Nat.zero_le _) (by rw [hw]; exact wH27) wF30
set_option maxRecDepth 100000 in
set_option maxHeartbeats 4000000 in
theorem x_rc {ms : List Nat} {cs : List Nat} {sc un wd : Nat} {hs : List TP} {s0 s1 : Option TP} {os : List (Nat × Nat)} {ox : Nat} {i x : Int32} (hC : CI hp (ms, (cs, sc, un, wd), hs, s0, s1, os, ox)) : SpI l X mX11_reckonConfidence [.ref 0, .int (i), .int (x)] hp (fun r hp' => CI hp' (ms, (cs, sc, un, wd), hs, s0, s1, os, ox) ∧ Fr LC hp hp' ∧ ((r = nI 0 ∧ ∃ c d : Int64, hp'[58]? = some (ob 0 [.long (lN (cfR un sc (vN x) cs (vN i)).1), .long (lN (cfR un sc (vN x) cs (vN i)).2), .long (c), .long (d)]) ∧ ∀ z, (cfA z (ms, (cs, sc, un, wd), hs, s0, s1, os, ox) i x).1 = nI (if z = 1 then (cfR un sc (vN x) cs (vN i)).1 else (cfR un sc (vN x) cs (vN i)).2)) ∨ (r < 0 ∧ ∀ z, (cfA z (ms, (cs, sc, un, wd), hs, s0, s1, os, ox) i x).1 = r))) := by
  obtain ⟨nx, C0, CT, ⟨⟨cs3, sc3, un3, wd3⟩, C3⟩, CP, CM, CH, CS, ⟨tx, CX⟩, ⟨ty, CY⟩, CG, CO, CF, CR⟩ := hC
  obtain ⟨ft, KT, KT2, hft, hL, hC3, hs1, hu1, hw1, hw2⟩ := id CT
  refine SpI.of pnX11 (Nat.le_of_ble_eq_true rfl) rfl ?_
  refine R_aload_n dX11_reckonConfidence_0 rfl rfl ?_
  refine R_getf dX11_reckonConfidence_1 gX11_10 C0 rfl ?_
  refine R_iload_n dX11_reckonConfidence_4 rfl rfl ?_
  obtain ⟨y2, K1, -⟩ := id CT
  refine R_calli (As := [.int (i)]) (st := []) kX9_has lX11_102 (t_has (i := i) CT) rfl K1 dX11_reckonConfidence_5 rfl rfl (Nat.le_of_ble_eq_true rfl) ⟨by decide, by decide⟩ zX9_has ⟨Nat.le_refl _, Nat.le_refl _⟩ (fun wr5 wp4 wq3 => ?_)
  obtain ⟨rfl, rfl⟩ : wr5 = _ ∧ hp = wp4 := ⟨wq3.1, wq3.2.symm⟩
  cases hb6 : inB i cs.length with
  | false =>
    show PZ _ _ _ _ _ _ (.int (nI 0) :: _) _ _ _
    refine N_if_ne (tgt := 13) dX11_reckonConfidence_8 (by decide) (by decide) (fun hc => absurd hc (by decide)) (fun _ => ?_)
    refine R_iconst (v := (-1)) dX11_reckonConfidence_11 (by decide) ?_
    exact R_reti dX11_reckonConfidence_12 rfl rfl rfl ⟨⟨nx, C0, CT, ⟨_, C3⟩, CP, CM, CH, CS, ⟨_, CX⟩, ⟨_, CY⟩, CG, CO, CF, CR⟩, (Fr.rf (L := LC) (hp := hp)), .inr ⟨by decide, fun z => by unfold cfA; dsimp only; rw [hb6]; rfl⟩⟩
  | true =>
    show PZ _ _ _ _ _ _ (.int (nI 1) :: _) _ _ _
    obtain ⟨j, hj, rfl⟩ := inB_t (by omega) hb6
    refine N_if_ne (tgt := 13) dX11_reckonConfidence_8 (by decide) (by decide) (fun _ => ?_) (fun hc => absurd hc (by decide))
    refine R_iload_n dX11_reckonConfidence_13 rfl rfl ?_
    refine R_iconst (v := (nI 0)) dX11_reckonConfidence_14 (by decide) ?_
    refine R_bipush (v := (nI 10)) dX11_reckonConfidence_15 (by decide) ?_
    refine R_stati (As := [.int (x), .int (nI 0), .int (nI 10)]) (st := []) kX11_isWithin lX11_85 (x_within (by decide) (by decide)) dX11_reckonConfidence_17 rfl rfl (Nat.le_of_ble_eq_true rfl) ⟨by decide, by decide⟩ zX11_isWithin ⟨Nat.le_refl _, Nat.le_refl _⟩ (fun wr9 wp8 wq7 => ?_)
    obtain ⟨rfl, rfl⟩ : wr9 = _ ∧ hp = wp8 := ⟨wq7.1, wq7.2.symm⟩
    cases hw10 : inW x 0 10 with
    | false =>
      show PZ _ _ _ _ _ _ (.int (nI 0) :: _) _ _ _
      refine N_if_ne (tgt := 26) dX11_reckonConfidence_20 (by decide) (by decide) (fun hc => absurd hc (by decide)) (fun _ => ?_)
      refine R_bipush (v := (-2)) dX11_reckonConfidence_23 (by decide) ?_
      exact R_reti dX11_reckonConfidence_25 rfl rfl rfl ⟨⟨nx, C0, CT, ⟨_, C3⟩, CP, CM, CH, CS, ⟨_, CX⟩, ⟨_, CY⟩, CG, CO, CF, CR⟩, (Fr.rf (L := LC) (hp := hp)), .inr ⟨by decide, fun z => by unfold cfA; dsimp only; rw [hb6, hw10]; rfl⟩⟩
    | true =>
      show PZ _ _ _ _ _ _ (.int (nI 1) :: _) _ _ _
      obtain ⟨q, -, hq, rfl⟩ := inW_t (by decide) hw10
      refine N_if_ne (tgt := 26) dX11_reckonConfidence_20 (by decide) (by decide) (fun _ => ?_) (fun hc => absurd hc (by decide))
      refine R_aload_n dX11_reckonConfidence_26 rfl rfl ?_
      refine R_getf dX11_reckonConfidence_27 gX11_74 C0 rfl ?_
      refine R_aload_n dX11_reckonConfidence_30 rfl rfl ?_
      refine R_getf dX11_reckonConfidence_31 gX11_10 C0 rfl ?_
      refine R_iload_n dX11_reckonConfidence_34 rfl rfl ?_
      refine R_iload_n dX11_reckonConfidence_35 rfl rfl ?_
      obtain ⟨y12a, y12b, y12c, y12d, K11⟩ := id CF
      refine R_calli (As := [.ref 1, .int (nI j), .int (nI q)]) (st := []) kX1_reckon lX11_258 (c_reck (i := j) (by omega) hq CT CF) rfl K11 dX11_reckonConfidence_36 rfl rfl (Nat.le_of_ble_eq_true rfl) ⟨by decide, by decide⟩ zX1_reckon ⟨Nat.le_refl _, Nat.le_refl _⟩ (fun wr15 wp14 wq13 => ?_)
      obtain ⟨rfl, hr1, hr2, hr3⟩ := wq13
      have c16 := hr3.at (by decide) C0
      have c17 := CT.fr hr3 (by decide) (by decide)
      have c18 := C3.fr hr3 (by decide) (by decide)
      have c19 := CP.fr hr3 (by decide) (by decide) (by decide)
      have c20 := CM.fr hr3 (by decide) (by decide)
      have c21 := CH.fr hr3 (by decide) (by decide)
      have c22 := CS.fr hr3 (by decide)
      have c23 := CX.fr hr3 (by decide) (by decide) (by decide)
      have c24 := CY.fr hr3 (by decide) (by decide) (by decide)
      have c25 := CG.fr hr3 (by decide) (by decide)
      have c26 := CO.fr hr3 (by decide) (by decide) (by decide)
      have c27 := CR.fr hr3 (by decide) (by decide)
      have FF28 : Fr LC hp wp14 := (Fr.rf (L := LC) (hp := hp)).trans (hr3.mono (by decide))
      by_cases h9 : nsh (cs.take j) ≤ 9
      · rw [decide_eq_true h9]
        show PZ _ _ _ _ _ _ (.int (nI 1) :: _) _ _ _
        refine N_if_eq (tgt := 46) dX11_reckonConfidence_39 (by decide) (by decide) (fun hc => absurd hc (by decide)) (fun _ => ?_)
        refine R_iconst (v := (nI 0)) dX11_reckonConfidence_42 (by decide) ?_
        refine R_goto (tgt := 48) dX11_reckonConfidence_43 (by decide) ?_
        obtain ⟨c8, d8, hr4⟩ := hr2 h9
        exact R_reti dX11_reckonConfidence_48 rfl rfl rfl ⟨⟨nx, c16, c17, ⟨_, c18⟩, c19, c20, c21, c22, ⟨_, c23⟩, ⟨_, c24⟩, c25, c26, hr1, c27⟩, FF28, .inl ⟨rfl, c8, d8, by rw [vN_n (by omega), vN_n (by omega)]; exact hr4, fun z => by unfold cfA; dsimp only; rw [hb6, hw10, if_pos rfl, if_pos rfl, vN_n (by omega), vN_n (by omega), if_pos h9]⟩⟩
      · rw [decide_eq_false h9]
        show PZ _ _ _ _ _ _ (.int (nI 0) :: _) _ _ _
        refine N_if_eq (tgt := 46) dX11_reckonConfidence_39 (by decide) (by decide) (fun _ => ?_) (fun hc => absurd hc (by decide))
        refine R_bipush (v := (-3)) dX11_reckonConfidence_46 (by decide) ?_
        exact R_reti dX11_reckonConfidence_48 rfl rfl rfl ⟨⟨nx, c16, c17, ⟨_, c18⟩, c19, c20, c21, c22, ⟨_, c23⟩, ⟨_, c24⟩, c25, c26, hr1, c27⟩, FF28, .inr ⟨by decide, fun z => by unfold cfA; dsimp only; rw [hb6, hw10, if_pos rfl, if_pos rfl, vN_n (by omega), if_neg h9]⟩⟩
set_option maxRecDepth 100000 in
set_option maxHeartbeats 4000000 in
theorem x_cnum {ms : List Nat} {cs : List Nat} {sc un wd : Nat} {hs : List TP} {s0 s1 : Option TP} {os : List (Nat × Nat)} {ox : Nat} {i x : Int32} (hC : CI hp (ms, (cs, sc, un, wd), hs, s0, s1, os, ox)) : SpI l X mX11_confidenceNumerator [.ref 0, .int (i), .int (x)] hp (fun r hp' => r = (cfA 1 (ms, (cs, sc, un, wd), hs, s0, s1, os, ox) i x).1 ∧ CI hp' (cfA 1 (ms, (cs, sc, un, wd), hs, s0, s1, os, ox) i x).2 ∧ Fr LC hp hp') := by
  obtain ⟨nx, C0, CT, ⟨⟨cs3, sc3, un3, wd3⟩, C3⟩, CP, CM, CH, CS, ⟨tx, CX⟩, ⟨ty, CY⟩, CG, CO, CF, CR⟩ := id hC
  obtain ⟨ft, KT, KT2, hft, hL, hC3, hs1, hu1, hw1, hw2⟩ := id CT
  refine SpI.of pnX11 (Nat.le_of_ble_eq_true rfl) rfl ?_
  refine R_aload_n dX11_confidenceNumerator_0 rfl rfl ?_
  refine R_iload_n dX11_confidenceNumerator_1 rfl rfl ?_
  refine R_iload_n dX11_confidenceNumerator_2 rfl rfl ?_
  refine R_calli (As := [.int (i), .int (x)]) (st := []) kX11_reckonConfidence lX11_203 (x_rc hC) rfl C0 dX11_confidenceNumerator_3 rfl rfl (Nat.le_of_ble_eq_true rfl) ⟨by decide, by decide⟩ zX11_reckonConfidence ⟨Nat.le_refl _, Nat.le_refl _⟩ (fun wr3 wp2 wq1 => ?_)
  obtain ⟨hr1, hr2, hr3⟩ := wq1
  obtain ⟨r9, er9⟩ : ∃ y, y = wr3 := ⟨_, rfl⟩
  rw [← er9] at hr3 ⊢
  obtain ⟨-, C9, -⟩ := id hr1
  refine R_istore_n (lv' := [some (.ref 0), some (.int (i)), some (.int (x)), some (.int (r9))]) dX11_confidenceNumerator_6 rfl (by decide) rfl ?_
  refine R_iload_n dX11_confidenceNumerator_7 rfl rfl ?_
  refine R_if_ge (tgt := 15) dX11_confidenceNumerator_8 (by decide) (fun hneg => ?_) (fun hneg => ?_)
  · rcases hr3 with ⟨e0, c8, d8, hq1, hq2⟩ | ⟨e0, -⟩
    · refine R_aload_n dX11_confidenceNumerator_15 rfl rfl ?_
      refine R_getf dX11_confidenceNumerator_16 gX11_74 C9 rfl ?_
      refine R_getf dX11_confidenceNumerator_19 gX11_206 hq1 rfl ?_
      refine R_l2i dX11_confidenceNumerator_22 ?_
      rw [lN_i]
      exact R_reti dX11_confidenceNumerator_23 rfl rfl rfl ⟨(hq2 1).symm, hr1, hr2⟩
    · exact absurd hneg (Int32.not_le.mpr e0)
  · rcases hr3 with ⟨e0, -⟩ | ⟨e0, hq2⟩
    · exact absurd (by rw [e0]; decide) hneg
    · refine R_iload_n dX11_confidenceNumerator_11 rfl rfl ?_
      refine R_goto (tgt := 23) dX11_confidenceNumerator_12 (by decide) ?_
      exact R_reti dX11_confidenceNumerator_23 rfl rfl rfl ⟨(hq2 1).symm, hr1, hr2⟩
set_option maxRecDepth 100000 in
set_option maxHeartbeats 4000000 in
theorem x_cden {ms : List Nat} {cs : List Nat} {sc un wd : Nat} {hs : List TP} {s0 s1 : Option TP} {os : List (Nat × Nat)} {ox : Nat} {i x : Int32} (hC : CI hp (ms, (cs, sc, un, wd), hs, s0, s1, os, ox)) : SpI l X mX11_confidenceDenominator [.ref 0, .int (i), .int (x)] hp (fun r hp' => r = (cfA 0 (ms, (cs, sc, un, wd), hs, s0, s1, os, ox) i x).1 ∧ CI hp' (cfA 0 (ms, (cs, sc, un, wd), hs, s0, s1, os, ox) i x).2 ∧ Fr LC hp hp') := by
  obtain ⟨nx, C0, CT, ⟨⟨cs3, sc3, un3, wd3⟩, C3⟩, CP, CM, CH, CS, ⟨tx, CX⟩, ⟨ty, CY⟩, CG, CO, CF, CR⟩ := id hC
  obtain ⟨ft, KT, KT2, hft, hL, hC3, hs1, hu1, hw1, hw2⟩ := id CT
  refine SpI.of pnX11 (Nat.le_of_ble_eq_true rfl) rfl ?_
  refine R_aload_n dX11_confidenceDenominator_0 rfl rfl ?_
  refine R_iload_n dX11_confidenceDenominator_1 rfl rfl ?_
  refine R_iload_n dX11_confidenceDenominator_2 rfl rfl ?_
  refine R_calli (As := [.int (i), .int (x)]) (st := []) kX11_reckonConfidence lX11_203 (x_rc hC) rfl C0 dX11_confidenceDenominator_3 rfl rfl (Nat.le_of_ble_eq_true rfl) ⟨by decide, by decide⟩ zX11_reckonConfidence ⟨Nat.le_refl _, Nat.le_refl _⟩ (fun wr3 wp2 wq1 => ?_)
  obtain ⟨hr1, hr2, hr3⟩ := wq1
  obtain ⟨r9, er9⟩ : ∃ y, y = wr3 := ⟨_, rfl⟩
  rw [← er9] at hr3 ⊢
  obtain ⟨-, C9, -⟩ := id hr1
  refine R_istore_n (lv' := [some (.ref 0), some (.int (i)), some (.int (x)), some (.int (r9))]) dX11_confidenceDenominator_6 rfl (by decide) rfl ?_
  refine R_iload_n dX11_confidenceDenominator_7 rfl rfl ?_
  refine R_if_ge (tgt := 15) dX11_confidenceDenominator_8 (by decide) (fun hneg => ?_) (fun hneg => ?_)
  · rcases hr3 with ⟨e0, c8, d8, hq1, hq2⟩ | ⟨e0, -⟩
    · refine R_aload_n dX11_confidenceDenominator_15 rfl rfl ?_
      refine R_getf dX11_confidenceDenominator_16 gX11_74 C9 rfl ?_
      refine R_getf dX11_confidenceDenominator_19 gX11_210 hq1 rfl ?_
      refine R_l2i dX11_confidenceDenominator_22 ?_
      rw [lN_i]
      exact R_reti dX11_confidenceDenominator_23 rfl rfl rfl ⟨(hq2 0).symm, hr1, hr2⟩
    · exact absurd hneg (Int32.not_le.mpr e0)
  · rcases hr3 with ⟨e0, -⟩ | ⟨e0, hq2⟩
    · exact absurd (by rw [e0]; decide) hneg
    · refine R_iload_n dX11_confidenceDenominator_11 rfl rfl ?_
      refine R_goto (tgt := 23) dX11_confidenceDenominator_12 (by decide) ?_
      exact R_reti dX11_confidenceDenominator_23 rfl rfl rfl ⟨(hq2 0).symm, hr1, hr2⟩
end X48
