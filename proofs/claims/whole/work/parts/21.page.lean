/-! The page; Arrays.fill -/
abbrev PG : Type := (Nat → Nat) × Nat × Nat × Nat
def pgS (wd : Nat) (s : PG) (c : Nat) : PG := match s with
  | (p, r, co, k) => if c = 13 then (p, r, 0, k) else if c = 10 then (if r < 7 then (p, r + 1, co, k) else ((fun q => if q < 280 then p (q + 40) else 0), r, co, k)) else
    ((fun q => if q = r * 40 + co then c else p q), r, min (co + 1) (wd - 1), if c ≠ 32 ∧ p (r * 40 + co) ≠ 32 ∧ p (r * 40 + co) ≠ 0 then k + 1 else k)
def pgL (wd : Nat) (ts : List Nat) : PG := ts.foldl (pgS wd) ((fun _ => 0), 0, 0, 0)
def PgAt (hp : HPt) (wd : Nat) (s : PG) : Prop := match s with
  | (p, r, co, k) => ∃ f : Nat → Int32, hp[53]? = some (ob 4 [.ref 54, .int (nI r), .int (nI co), .int (nI k)]) ∧ hp[54]? = some (ia 320 f) ∧ (∀ q, q < 320 → f q = nI (p q) ∧ p q < 128) ∧ r < 8 ∧ co ≤ wd - 1 ∧ 5 ≤ wd ∧ wd ≤ 40
section G21
variable {l : Launch} {X : EX} {hp : HPt}
set_option maxRecDepth 100000 in
set_option maxHeartbeats 4000000 in
theorem j_fiL {h N : Nat} {x : Int32} {hp0 : HPt} (hN : N < 2 ^ 31) : ∀ (d : Nat) (hp : HPt) (f : Nat → Int32) (j : Nat), j + d = N → hp[h]? = some (ia N f) → (∀ q, q < j → f q = x) → Fr [h] hp0 hp → PZ l X (MZv X mJ7_fill_53178 (fun hp' => (∃ f', hp'[h]? = some (ia N f') ∧ ∀ q, q < N → f' q = x) ∧ Fr [h] hp0 hp')) mJ7_fill_53178 5 [some (.ref h), some (.int (x)), some (.int (nI j)), some (.int (nI N))] [] hp 0 0 := by
  intro d
  induction d with
  | zero =>
    intro hp f j hj Hh hf hF
    refine R_iload_n dJ7_fill_53178_5 rfl rfl ?_
    refine R_iload_n dJ7_fill_53178_6 rfl rfl ?_
    refine N_icmp_ge (tgt := 20) dJ7_fill_53178_7 (by decide) (by omega) (by omega) (fun _ => ?_) (fun hc => absurd hc (by omega))
    exact R_retv dJ7_fill_53178_20 rfl rfl rfl ⟨⟨f, Hh, fun q hq => hf q (by omega)⟩, hF⟩
  | succ d ih =>
    intro hp f j hj Hh hf hF
    refine R_iload_n dJ7_fill_53178_5 rfl rfl ?_
    refine R_iload_n dJ7_fill_53178_6 rfl rfl ?_
    refine N_icmp_ge (tgt := 20) dJ7_fill_53178_7 (by decide) (by omega) (by omega) (fun hc => absurd hc (by omega)) (fun _ => ?_)
    refine R_aload_n dJ7_fill_53178_10 rfl rfl ?_
    refine R_iload_n dJ7_fill_53178_11 rfl rfl ?_
    refine R_iload_n dJ7_fill_53178_12 rfl rfl ?_
    obtain ⟨f1, ef1⟩ : ∃ y, y = upd f j x := ⟨_, rfl⟩
    refine W_iast (f' := f1) dJ7_fill_53178_13 Hh (by omega) hN ef1 (fun wp1 wH2 wE3 => ?_)
    have wF4 : Fr [h] hp0 wp1 := hF.trans (Fr.one wE3 (by simp))
    refine N_iinc (d := 1) (lv' := [some (.ref h), some (.int (x)), some (.int (nI (j + 1))), some (.int (nI N))]) dJ7_fill_53178_14 rfl rfl ?_
    refine R_goto (tgt := 5) dJ7_fill_53178_17 (by decide) ?_
    exact ih _ f1 (j + 1) (by omega) wH2 (fun q hq => by
      rw [ef1]
      by_cases hqj : q = j
      · subst hqj; exact upd_s
      · rw [upd_n hqj]; exact hf q (by omega)) wF4
set_option maxRecDepth 100000 in
set_option maxHeartbeats 4000000 in
theorem j_fill {h N : Nat} {x : Int32} {f : Nat → Int32} (hN : N < 2 ^ 31) (Hh : hp[h]? = some (ia N f)) : SpV l X mJ7_fill_53178 [.ref h, .int x] hp (fun hp' => (∃ f', hp'[h]? = some (ia N f') ∧ ∀ q, q < N → f' q = x) ∧ Fr [h] hp hp') := by
  refine SpV.of pnJ7 (Nat.le_of_ble_eq_true rfl) rfl ?_
  refine R_iconst (v := (nI 0)) dJ7_fill_53178_0 (by decide) ?_
  refine R_istore_n (lv' := [some (.ref h), some (.int (x)), some (.int (nI 0)), none]) dJ7_fill_53178_1 rfl (by decide) rfl ?_
  refine R_aload_n dJ7_fill_53178_2 rfl rfl ?_
  refine R_alen (N := 0) (x := (nI N)) dJ7_fill_53178_3 Hh (by decide) rfl ?_
  refine R_istore_n (lv' := [some (.ref h), some (.int (x)), some (.int (nI 0)), some (.int (nI N))]) dJ7_fill_53178_4 rfl (by decide) rfl ?_
  exact j_fiL hN N hp f 0 (by omega) Hh (fun q hq => absurd hq (by omega)) Fr.rf
set_option maxRecDepth 100000 in
set_option maxHeartbeats 4000000 in
theorem g_at {wd r co k : Nat} {p : Nat → Nat} {i j : Nat} (hi : i < 8) (hj : j < 40) (hG : PgAt hp wd (p, r, co, k)) : SpI l X mX5_at [.ref 53, .int (nI i), .int (nI j)] hp (fun r hp' => r = nI (p (i * 40 + j)) ∧ hp' = hp) := by
  obtain ⟨f, H1, H2, hf, hr, hco, hw1, hw2⟩ := hG
  refine SpI.of pnX5 (Nat.le_of_ble_eq_true rfl) rfl ?_
  refine R_iload_n dX5_at_0 rfl rfl ?_
  refine R_bipush (v := (nI 40)) dX5_at_1 (by decide) ?_
  refine N_imul dX5_at_3 ?_
  refine R_iload_n dX5_at_4 rfl rfl ?_
  refine N_iadd dX5_at_5 ?_
  refine R_istore_n (lv' := [some (.ref 53), some (.int (nI i)), some (.int (nI j)), some (.int (nI ((i * 40) + j)))]) dX5_at_6 rfl (by decide) rfl ?_
  refine R_iload_n dX5_at_7 rfl rfl ?_
  refine R_if_lt (tgt := 29) dX5_at_8 (by decide) (fun hc => absurd hc (nI_pos (by omega))) (fun _ => ?_)
  refine R_iload_n dX5_at_11 rfl rfl ?_
  refine R_aload_n dX5_at_12 rfl rfl ?_
  refine R_getf dX5_at_13 gX5_11 H1 rfl ?_
  refine R_alen (N := 0) (x := (nI 320)) dX5_at_16 H2 (by decide) rfl ?_
  refine N_icmp_ge (tgt := 29) dX5_at_17 (by decide) (by omega) (by omega) (fun hc => absurd hc (by omega)) (fun _ => ?_)
  refine R_aload_n dX5_at_20 rfl rfl ?_
  refine R_getf dX5_at_21 gX5_11 H1 rfl ?_
  refine R_iload_n dX5_at_24 rfl rfl ?_
  refine N_iald (y := (nI (p (i * 40 + j)))) dX5_at_25 H2 (by omega) (by decide) (hf _ (by omega)).1 ?_
  refine R_goto (tgt := 30) dX5_at_26 (by decide) ?_
  exact R_reti dX5_at_30 rfl rfl rfl ⟨rfl, rfl⟩
set_option maxRecDepth 100000 in
set_option maxHeartbeats 4000000 in
theorem g_strike {wd r co k : Nat} {p : Nat → Nat} {c : Nat} (hc : c < 128) (hG : PgAt hp wd (p, r, co, k)) : SpV l X mX5_strike [.ref 53, .int (nI c)] hp (fun hp' => PgAt hp' wd ((fun q => if q = r * 40 + co then c else p q), r, co, if c ≠ 32 ∧ p (r * 40 + co) ≠ 32 ∧ p (r * 40 + co) ≠ 0 then k + 1 else k) ∧ Fr [53, 54] hp hp') := by
  obtain ⟨f, H1, H2, hf, hr, hco, hw1, hw2⟩ := hG
  have hv := hf (r * 40 + co) (by omega)
  refine SpV.of pnX5 (Nat.le_of_ble_eq_true rfl) rfl ?_
  refine R_aload_n dX5_strike_0 rfl rfl ?_
  refine R_getf dX5_strike_1 gX5_15 H1 rfl ?_
  refine R_bipush (v := (nI 40)) dX5_strike_4 (by decide) ?_
  refine N_imul dX5_strike_6 ?_
  refine R_aload_n dX5_strike_7 rfl rfl ?_
  refine R_getf dX5_strike_8 gX5_19 H1 rfl ?_
  refine N_iadd dX5_strike_11 ?_
  refine R_istore_n (lv' := [some (.ref 53), some (.int (nI c)), some (.int (nI ((r * 40) + co)))]) dX5_strike_12 rfl (by decide) rfl ?_
  refine R_iload_n dX5_strike_13 rfl rfl ?_
  refine R_if_lt (tgt := 26) dX5_strike_14 (by decide) (fun hc => absurd hc (nI_pos (by omega))) (fun _ => ?_)
  refine R_iload_n dX5_strike_17 rfl rfl ?_
  refine R_aload_n dX5_strike_18 rfl rfl ?_
  refine R_getf dX5_strike_19 gX5_11 H1 rfl ?_
  refine R_alen (N := 0) (x := (nI 320)) dX5_strike_22 H2 (by decide) rfl ?_
  refine N_icmp_lt (tgt := 27) dX5_strike_23 (by decide) (by omega) (by omega) (fun _ => ?_) (fun hc => absurd hc (by omega))
  refine R_iload_n dX5_strike_27 rfl rfl ?_
  refine R_bipush (v := (nI 32)) dX5_strike_28 (by decide) ?_
  refine N_icmp_eq (tgt := 63) dX5_strike_30 (by decide) (by omega) (by omega) (fun h1 => ?_) (fun h1 => ?_)
  · refine R_aload_n dX5_strike_63 rfl rfl ?_
    refine R_getf dX5_strike_64 gX5_11 H1 rfl ?_
    refine R_iload_n dX5_strike_67 rfl rfl ?_
    refine R_iload_n dX5_strike_68 rfl rfl ?_
    obtain ⟨wf1, ewf1⟩ : ∃ y, y = upd f ((r * 40) + co) (nI c) := ⟨_, rfl⟩
    refine W_iast (f' := wf1) dX5_strike_69 H2 (by omega) (by decide) ewf1 (fun wp2 wH3 wE4 => ?_)
    have wH5 := (wE4 53 (by decide)).trans H1
    have wF6 : Fr [53, 54] hp wp2 := Fr.one wE4 (by simp)
    rw [if_neg (fun z => z.1 h1)]
    refine R_retv dX5_strike_70 rfl rfl rfl ⟨⟨wf1, wH5, wH3, fun q hq => ?_, hr, hco, hw1, hw2⟩, wF6⟩
    rw [ewf1]
    by_cases hqe : q = r * 40 + co
    · subst hqe; rw [upd_s]; simp only [if_true]; exact ⟨trivial, hc⟩
    · rw [upd_n hqe]; simp only [if_neg hqe]; exact hf q hq
  · refine R_aload_n dX5_strike_33 rfl rfl ?_
    refine R_getf dX5_strike_34 gX5_11 H1 rfl ?_
    refine R_iload_n dX5_strike_37 rfl rfl ?_
    refine N_iald (y := (nI (p (r * 40 + co)))) dX5_strike_38 H2 (by omega) (by decide) hv.1 ?_
    refine R_bipush (v := (nI 32)) dX5_strike_39 (by decide) ?_
    refine N_icmp_eq (tgt := 63) dX5_strike_41 (by decide) (by omega) (by omega) (fun h2 => ?_) (fun h2 => ?_)
    · refine R_aload_n dX5_strike_63 rfl rfl ?_
      refine R_getf dX5_strike_64 gX5_11 H1 rfl ?_
      refine R_iload_n dX5_strike_67 rfl rfl ?_
      refine R_iload_n dX5_strike_68 rfl rfl ?_
      obtain ⟨wf7, ewf7⟩ : ∃ y, y = upd f ((r * 40) + co) (nI c) := ⟨_, rfl⟩
      refine W_iast (f' := wf7) dX5_strike_69 H2 (by omega) (by decide) ewf7 (fun wp8 wH9 wE10 => ?_)
      have wH11 := (wE10 53 (by decide)).trans H1
      have wF12 : Fr [53, 54] hp wp8 := Fr.one wE10 (by simp)
      rw [if_neg (fun z => z.2.1 h2)]
      refine R_retv dX5_strike_70 rfl rfl rfl ⟨⟨wf7, wH11, wH9, fun q hq => ?_, hr, hco, hw1, hw2⟩, wF12⟩
      rw [ewf7]
      by_cases hqe : q = r * 40 + co
      · subst hqe; rw [upd_s]; simp only [if_true]; exact ⟨trivial, hc⟩
      · rw [upd_n hqe]; simp only [if_neg hqe]; exact hf q hq
    · refine R_aload_n dX5_strike_44 rfl rfl ?_
      refine R_getf dX5_strike_45 gX5_11 H1 rfl ?_
      refine R_iload_n dX5_strike_48 rfl rfl ?_
      refine N_iald (y := (nI (p (r * 40 + co)))) dX5_strike_49 H2 (by omega) (by decide) hv.1 ?_
      refine N_if_eq (tgt := 63) dX5_strike_50 (by decide) (by omega) (fun h3 => ?_) (fun h3 => ?_)
      · refine R_aload_n dX5_strike_63 rfl rfl ?_
        refine R_getf dX5_strike_64 gX5_11 H1 rfl ?_
        refine R_iload_n dX5_strike_67 rfl rfl ?_
        refine R_iload_n dX5_strike_68 rfl rfl ?_
        obtain ⟨wf13, ewf13⟩ : ∃ y, y = upd f ((r * 40) + co) (nI c) := ⟨_, rfl⟩
        refine W_iast (f' := wf13) dX5_strike_69 H2 (by omega) (by decide) ewf13 (fun wp14 wH15 wE16 => ?_)
        have wH17 := (wE16 53 (by decide)).trans H1
        have wF18 : Fr [53, 54] hp wp14 := Fr.one wE16 (by simp)
        rw [if_neg (fun z => z.2.2 h3)]
        refine R_retv dX5_strike_70 rfl rfl rfl ⟨⟨wf13, wH17, wH15, fun q hq => ?_, hr, hco, hw1, hw2⟩, wF18⟩
        rw [ewf13]
        by_cases hqe : q = r * 40 + co
        · subst hqe; rw [upd_s]; simp only [if_true]; exact ⟨trivial, hc⟩
        · rw [upd_n hqe]; simp only [if_neg hqe]; exact hf q hq
      · refine R_aload_n dX5_strike_53 rfl rfl ?_
        refine R_dup dX5_strike_54 rfl ?_
        refine R_getf dX5_strike_55 gX5_22 H1 rfl ?_
        refine R_iconst (v := (nI 1)) dX5_strike_58 (by decide) ?_
        refine N_iadd dX5_strike_59 ?_
        refine W_puti (fs' := [.ref 54, .int (nI r), .int (nI co), .int (nI (k + 1))]) dX5_strike_60 pX5_22 H1 (Nat.le_of_ble_eq_true rfl) rfl (fun wp19 wH20 wE21 => ?_)
        have wH22 := (wE21 54 (by decide)).trans H2
        have wF23 : Fr [53, 54] hp wp19 := Fr.one wE21 (by simp)
        refine R_aload_n dX5_strike_63 rfl rfl ?_
        refine R_getf dX5_strike_64 gX5_11 wH20 rfl ?_
        refine R_iload_n dX5_strike_67 rfl rfl ?_
        refine R_iload_n dX5_strike_68 rfl rfl ?_
        obtain ⟨wf24, ewf24⟩ : ∃ y, y = upd f ((r * 40) + co) (nI c) := ⟨_, rfl⟩
        refine W_iast (f' := wf24) dX5_strike_69 wH22 (by omega) (by decide) ewf24 (fun wp25 wH26 wE27 => ?_)
        have wH28 := (wE27 53 (by decide)).trans wH20
        have wF29 : Fr [53, 54] hp wp25 := wF23.trans (Fr.one wE27 (by simp))
        rw [if_pos ⟨h1, h2, h3⟩]
        refine R_retv dX5_strike_70 rfl rfl rfl ⟨⟨wf24, wH28, wH26, fun q hq => ?_, hr, hco, hw1, hw2⟩, wF29⟩
        rw [ewf24]
        by_cases hqe : q = r * 40 + co
        · subst hqe; rw [upd_s]; simp only [if_true]; exact ⟨trivial, hc⟩
        · rw [upd_n hqe]; simp only [if_neg hqe]; exact hf q hq
set_option maxRecDepth 100000 in
set_option maxHeartbeats 4000000 in
theorem g_feed1 {wd r co k : Nat} {p : Nat → Nat} (hr7 : r < 7) (hG : PgAt hp wd (p, r, co, k)) : SpV l X mX5_feedLine [.ref 53] hp (fun hp' => PgAt hp' wd (p, r + 1, co, k) ∧ Fr [53, 54] hp hp') := by
  obtain ⟨f, H1, H2, hf, hr, hco, hw1, hw2⟩ := hG
  refine SpV.of pnX5 (Nat.le_of_ble_eq_true rfl) rfl ?_
  refine R_aload_n dX5_feedLine_0 rfl rfl ?_
  refine R_getf dX5_feedLine_1 gX5_15 H1 rfl ?_
  refine R_bipush (v := (nI 7)) dX5_feedLine_4 (by decide) ?_
  refine N_icmp_ge (tgt := 20) dX5_feedLine_6 (by decide) (by omega) (by omega) (fun hc => absurd hc (by omega)) (fun _ => ?_)
  refine R_aload_n dX5_feedLine_9 rfl rfl ?_
  refine R_dup dX5_feedLine_10 rfl ?_
  refine R_getf dX5_feedLine_11 gX5_15 H1 rfl ?_
  refine R_iconst (v := (nI 1)) dX5_feedLine_14 (by decide) ?_
  refine N_iadd dX5_feedLine_15 ?_
  refine W_puti (fs' := [.ref 54, .int (nI (r + 1)), .int (nI co), .int (nI k)]) dX5_feedLine_16 pX5_15 H1 (Nat.le_of_ble_eq_true rfl) rfl (fun wp1 wH2 wE3 => ?_)
  have wH4 := (wE3 54 (by decide)).trans H2
  have wF5 : Fr [53, 54] hp wp1 := Fr.one wE3 (by simp)
  exact R_retv dX5_feedLine_19 rfl rfl rfl ⟨⟨f, wH2, wH4, hf, by omega, hco, hw1, hw2⟩, wF5⟩
set_option maxRecDepth 100000 in
set_option maxHeartbeats 4000000 in
theorem g_fdL {wd r co k : Nat} {p : Nat → Nat} {hp0 : HPt} {g : Nat → Int32} (hr : r < 8) (hco : co ≤ wd - 1) (hw1 : 5 ≤ wd) (hw2 : wd ≤ 40) (hg : ∀ q, q < 280 → g q = nI (p (q + 40)) ∧ p (q + 40) < 128) : ∀ (d : Nat) (hp : HPt) (f : Nat → Int32) (j : Nat), j + d = 320 → 280 ≤ j → hp[53]? = some (ob 4 [.ref 54, .int (nI r), .int (nI co), .int (nI k)]) → hp[54]? = some (ia 320 f) → (∀ q, q < 280 → f q = g q) → (∀ q, 280 ≤ q → q < j → f q = nI 0) → Fr [53, 54] hp0 hp → PZ l X (MZv X mX5_feedLine (fun hp' => PgAt hp' wd ((fun q => if q < 280 then p (q + 40) else 0), r, co, k) ∧ Fr [53, 54] hp0 hp')) mX5_feedLine 46 [some (.ref 53), some (.int (nI 280)), some (.int (nI j))] [] hp 0 0 := by
  intro d
  induction d with
  | zero =>
    intro hp f j hj h280 H1 H2 hf hz hF
    refine R_iload_n dX5_feedLine_46 rfl rfl ?_
    refine R_aload_n dX5_feedLine_47 rfl rfl ?_
    refine R_getf dX5_feedLine_48 gX5_11 H1 rfl ?_
    refine R_alen (N := 0) (x := (nI 320)) dX5_feedLine_51 H2 (by decide) rfl ?_
    refine N_icmp_ge (tgt := 68) dX5_feedLine_52 (by decide) (by omega) (by omega) (fun _ => ?_) (fun hc => absurd hc (by omega))
    refine R_retv dX5_feedLine_68 rfl rfl rfl ⟨⟨f, H1, H2, fun q hq => ?_, hr, hco, hw1, hw2⟩, hF⟩
    by_cases h9 : q < 280
    · simp only [if_pos h9]; rw [hf q h9]; exact hg q h9
    · simp only [if_neg h9]; exact ⟨hz q (by omega) (by omega), by omega⟩
  | succ d ih =>
    intro hp f j hj h280 H1 H2 hf hz hF
    refine R_iload_n dX5_feedLine_46 rfl rfl ?_
    refine R_aload_n dX5_feedLine_47 rfl rfl ?_
    refine R_getf dX5_feedLine_48 gX5_11 H1 rfl ?_
    refine R_alen (N := 0) (x := (nI 320)) dX5_feedLine_51 H2 (by decide) rfl ?_
    refine N_icmp_ge (tgt := 68) dX5_feedLine_52 (by decide) (by omega) (by omega) (fun hc => absurd hc (by omega)) (fun _ => ?_)
    refine R_aload_n dX5_feedLine_55 rfl rfl ?_
    refine R_getf dX5_feedLine_56 gX5_11 H1 rfl ?_
    refine R_iload_n dX5_feedLine_59 rfl rfl ?_
    refine R_iconst (v := (nI 0)) dX5_feedLine_60 (by decide) ?_
    obtain ⟨wf1, ewf1⟩ : ∃ y, y = upd f j (nI 0) := ⟨_, rfl⟩
    refine W_iast (f' := wf1) dX5_feedLine_61 H2 (by omega) (by decide) ewf1 (fun wp2 wH3 wE4 => ?_)
    have wH5 := (wE4 53 (by decide)).trans H1
    have wF6 : Fr [53, 54] hp0 wp2 := hF.trans (Fr.one wE4 (by simp))
    refine N_iinc (d := 1) (lv' := [some (.ref 53), some (.int (nI 280)), some (.int (nI (j + 1)))]) dX5_feedLine_62 rfl rfl ?_
    refine R_goto (tgt := 46) dX5_feedLine_65 (by decide) ?_
    refine ih _ wf1 (j + 1) (by omega) (by omega) wH5 wH3 (fun q hq => ?_) (fun q h1 h2 => ?_) wF6
    · rw [ewf1, upd_n (by omega)]; exact hf q hq
    · rw [ewf1]
      by_cases hqj : q = j
      · subst hqj; exact upd_s
      · rw [upd_n hqj]; exact hz q h1 (by omega)
set_option maxRecDepth 100000 in
set_option maxHeartbeats 4000000 in
theorem g_feed2 {wd r co k : Nat} {p : Nat → Nat} (hr7 : 7 ≤ r) (hG : PgAt hp wd (p, r, co, k)) : SpV l X mX5_feedLine [.ref 53] hp (fun hp' => PgAt hp' wd ((fun q => if q < 280 then p (q + 40) else 0), r, co, k) ∧ Fr [53, 54] hp hp') := by
  obtain ⟨f, H1, H2, hf, hr, hco, hw1, hw2⟩ := hG
  refine SpV.of pnX5 (Nat.le_of_ble_eq_true rfl) rfl ?_
  refine R_aload_n dX5_feedLine_0 rfl rfl ?_
  refine R_getf dX5_feedLine_1 gX5_15 H1 rfl ?_
  refine R_bipush (v := (nI 7)) dX5_feedLine_4 (by decide) ?_
  refine N_icmp_ge (tgt := 20) dX5_feedLine_6 (by decide) (by omega) (by omega) (fun _ => ?_) (fun hc => absurd hc (by omega))
  refine R_aload_n dX5_feedLine_20 rfl rfl ?_
  refine R_getf dX5_feedLine_21 gX5_11 H1 rfl ?_
  refine R_alen (N := 0) (x := (nI 320)) dX5_feedLine_24 H2 (by decide) rfl ?_
  refine R_bipush (v := (nI 40)) dX5_feedLine_25 (by decide) ?_
  refine N_isub dX5_feedLine_27 (by omega) ?_
  refine R_istore_n (lv' := [some (.ref 53), some (.int (nI (320 - 40))), none]) dX5_feedLine_28 rfl (by decide) rfl ?_
  refine R_aload_n dX5_feedLine_29 rfl rfl ?_
  refine R_getf dX5_feedLine_30 gX5_11 H1 rfl ?_
  refine R_bipush (v := (nI 40)) dX5_feedLine_33 (by decide) ?_
  refine R_aload_n dX5_feedLine_35 rfl rfl ?_
  refine R_getf dX5_feedLine_36 gX5_11 H1 rfl ?_
  refine R_iconst (v := (nI 0)) dX5_feedLine_39 (by decide) ?_
  refine R_iload_n dX5_feedLine_40 rfl rfl ?_
  obtain ⟨g9, eg9⟩ : ∃ y, y = va_cpy f f 40 0 (320 - 40) := ⟨_, rfl⟩
  refine W_copy dX5_feedLine_41 lX5_57 H2 H2 (by decide) (by decide) (by omega) (by omega) (by decide) (by decide) eg9 (fun wp1 wH2 wE3 => ?_)
  have wH4 := (wE3 53 (by decide)).trans H1
  have wF5 : Fr [53, 54] hp wp1 := Fr.one wE3 (by simp)
  refine R_iload_n dX5_feedLine_44 rfl rfl ?_
  refine R_istore_n (lv' := [some (.ref 53), some (.int (nI (320 - 40))), some (.int (nI (320 - 40)))]) dX5_feedLine_45 rfl (by decide) rfl ?_
  refine g_fdL (g := g9) hr hco hw1 hw2 (fun q hq => ?_) 40 _ g9 280 (by omega) (by omega) wH4 wH2 (fun q hq => rfl) (fun q h1 h2 => by omega) wF5
  rw [eg9, pk_cpy_in (by omega) (by omega), show 40 + (q - 0) = q + 40 by omega]; exact hf _ (by omega)
set_option maxRecDepth 100000 in
set_option maxHeartbeats 4000000 in
theorem g_char {wd r co k : Nat} {p : Nat → Nat} {c : Nat} (hc : c < 128) (hG : PgAt hp wd (p, r, co, k)) : SpV l X mX5_printCharacter [.ref 53, .int (nI c), .int (nI wd)] hp (fun hp' => PgAt hp' wd (pgS wd (p, r, co, k) c) ∧ Fr [53, 54] hp hp') := by
  have hG0 := hG
  obtain ⟨f, H1, H2, hf, hr, hco, hw1, hw2⟩ := hG
  unfold pgS
  dsimp only
  refine SpV.of pnX5 (Nat.le_of_ble_eq_true rfl) rfl ?_
  refine R_iload_n dX5_printCharacter_0 rfl rfl ?_
  refine R_bipush (v := (nI 13)) dX5_printCharacter_1 (by decide) ?_
  refine N_icmp_ne (tgt := 14) dX5_printCharacter_3 (by decide) (by omega) (by omega) (fun h13 => ?_) (fun h13 => ?_)
  · rw [if_neg h13]
    refine R_iload_n dX5_printCharacter_14 rfl rfl ?_
    refine R_bipush (v := (nI 10)) dX5_printCharacter_15 (by decide) ?_
    refine N_icmp_ne (tgt := 27) dX5_printCharacter_17 (by decide) (by omega) (by omega) (fun h10 => ?_) (fun h10 => ?_)
    · rw [if_neg h10]
      refine R_aload_n dX5_printCharacter_27 rfl rfl ?_
      refine R_iload_n dX5_printCharacter_28 rfl rfl ?_
      refine R_callv (As := [.int (nI c)]) (st := []) kX5_strike lX5_47 (g_strike hc hG0) rfl H1 dX5_printCharacter_29 rfl rfl (Nat.le_of_ble_eq_true rfl) ⟨by decide, by decide⟩ zX5_strike ⟨Nat.le_refl _, Nat.le_refl _⟩ (fun wp2 wq1 => ?_)
      obtain ⟨hq1, hq2⟩ := wq1
      obtain ⟨f5, K1, K2, hf5, -⟩ := hq1
      refine R_aload_n dX5_printCharacter_32 rfl rfl ?_
      refine R_aload_n dX5_printCharacter_33 rfl rfl ?_
      refine R_getf dX5_printCharacter_34 gX5_19 K1 rfl ?_
      refine R_iconst (v := (nI 1)) dX5_printCharacter_37 (by decide) ?_
      refine N_iadd dX5_printCharacter_38 ?_
      refine R_iload_n dX5_printCharacter_39 rfl rfl ?_
      refine R_iconst (v := (nI 1)) dX5_printCharacter_40 (by decide) ?_
      refine N_isub dX5_printCharacter_41 (by omega) ?_
      refine R_min dX5_printCharacter_42 lmX5_51 (by decide) (Nat.le_of_ble_eq_true rfl) ⟨Nat.le_refl _, Nat.le_refl _⟩ ?_
      rw [min_n (by omega) (by omega)]
      refine W_puti (fs' := [.ref 54, .int (nI r), .int (nI (min (co + 1) (wd - 1))), .int (nI (if c ≠ 32 ∧ p (r * 40 + co) ≠ 32 ∧ p (r * 40 + co) ≠ 0 then k + 1 else k))]) dX5_printCharacter_45 pX5_19 K1 (Nat.le_of_ble_eq_true rfl) rfl (fun wp4 wH5 wE6 => ?_)
      have wH7 := (wE6 54 (by decide)).trans K2
      have wF8 : Fr [53, 54] hp wp4 := hq2.trans (Fr.one wE6 (by simp))
      exact R_retv dX5_printCharacter_48 rfl rfl rfl ⟨⟨f5, wH5, wH7, hf5, hr, by omega, hw1, hw2⟩, wF8⟩
    · rw [if_pos h10]
      by_cases h7 : r < 7
      · rw [if_pos h7]
        refine R_aload_n dX5_printCharacter_20 rfl rfl ?_
        refine R_callv (As := []) (st := []) kX5_feedLine lX5_44 (g_feed1 h7 hG0) rfl H1 dX5_printCharacter_21 rfl rfl (Nat.le_of_ble_eq_true rfl) ⟨by decide, by decide⟩ zX5_feedLine ⟨Nat.le_refl _, Nat.le_refl _⟩ (fun wp10 wq9 => ?_)
        obtain ⟨hq1, hq2⟩ := wq9
        refine R_goto (tgt := 48) dX5_printCharacter_24 (by decide) ?_
        exact R_retv dX5_printCharacter_48 rfl rfl rfl ⟨hq1, hq2⟩
      · rw [if_neg h7]
        refine R_aload_n dX5_printCharacter_20 rfl rfl ?_
        refine R_callv (As := []) (st := []) kX5_feedLine lX5_44 (g_feed2 (by omega) hG0) rfl H1 dX5_printCharacter_21 rfl rfl (Nat.le_of_ble_eq_true rfl) ⟨by decide, by decide⟩ zX5_feedLine ⟨Nat.le_refl _, Nat.le_refl _⟩ (fun wp13 wq12 => ?_)
        obtain ⟨hq1, hq2⟩ := wq12
        refine R_goto (tgt := 48) dX5_printCharacter_24 (by decide) ?_
        exact R_retv dX5_printCharacter_48 rfl rfl rfl ⟨hq1, hq2⟩
  · rw [if_pos h13]
    refine R_aload_n dX5_printCharacter_6 rfl rfl ?_
    refine R_iconst (v := (nI 0)) dX5_printCharacter_7 (by decide) ?_
    refine W_puti (fs' := [.ref 54, .int (nI r), .int (nI 0), .int (nI k)]) dX5_printCharacter_8 pX5_19 H1 (Nat.le_of_ble_eq_true rfl) rfl (fun wp15 wH16 wE17 => ?_)
    have wH18 := (wE17 54 (by decide)).trans H2
    have wF19 : Fr [53, 54] hp wp15 := Fr.one wE17 (by simp)
    refine R_goto (tgt := 48) dX5_printCharacter_11 (by decide) ?_
    exact R_retv dX5_printCharacter_48 rfl rfl rfl ⟨⟨f, wH16, wH18, hf, hr, Nat.zero_le _, hw1, hw2⟩, wF19⟩
set_option maxRecDepth 100000 in
set_option maxHeartbeats 4000000 in
theorem g_prL {wd : Nat} {ts : List Nat} {hp0 : HPt} {R : PG} : ∀ (d : Nat) (hp : HPt) (s : PG) (j : Nat), j + d = ts.length → PgAt hp wd s → TxAt hp 47 48 49 ts → Fr [53, 54] hp0 hp → R = (ts.drop j).foldl (pgS wd) s → PZ l X (MZv X mX5_print (fun hp' => PgAt hp' wd R ∧ Fr [53, 54] hp0 hp')) mX5_print 25 [some (.ref 53), some (.ref 47), some (.int (nI wd)), some (.int (nI j))] [] hp 0 0 := by
  intro d
  induction d with
  | zero =>
    intro hp s j hj hG hX hF hR
    obtain ⟨fx, gx, Hx, -, -, -, hxL, hxC⟩ := hX
    refine R_iload_n dX5_print_25 rfl rfl ?_
    refine R_aload_n dX5_print_26 rfl rfl ?_
    refine R_getf dX5_print_27 gX5_31 Hx rfl ?_
    refine N_icmp_ge (tgt := 49) dX5_print_30 (by decide) (by omega) (by omega) (fun _ => ?_) (fun hc => absurd hc (by omega))
    exact R_retv dX5_print_49 rfl rfl rfl ⟨by rw [hR, List.drop_eq_nil_of_le (by omega)]; exact hG, hF⟩
  | succ d ih =>
    intro hp s j hj hG hX hF hR
    have hX0 := hX
    obtain ⟨fx, gx, Hx, -, -, -, hxL, hxC⟩ := hX
    obtain ⟨p, r, co, k⟩ := s
    have hG0 := hG
    obtain ⟨f, H1, H2, hf, hr, hco, hw1, hw2⟩ := hG
    have h1 : j < ts.length := by omega
    rw [drop_c h1, List.foldl_cons] at hR
    refine R_iload_n dX5_print_25 rfl rfl ?_
    refine R_aload_n dX5_print_26 rfl rfl ?_
    refine R_getf dX5_print_27 gX5_31 Hx rfl ?_
    refine N_icmp_ge (tgt := 49) dX5_print_30 (by decide) (by omega) (by omega) (fun hc => absurd hc (by omega)) (fun _ => ?_)
    refine R_aload_n dX5_print_33 rfl rfl ?_
    refine R_aload_n dX5_print_34 rfl rfl ?_
    refine R_iload_n dX5_print_35 rfl rfl ?_
    refine R_calli (As := [.int (nI j)]) (st := [.ref 53]) kX10_at lX5_36 (x_at h1 hX0) rfl Hx dX5_print_36 rfl rfl (Nat.le_of_ble_eq_true rfl) ⟨by decide, by decide⟩ zX10_at ⟨Nat.le_refl _, Nat.le_refl _⟩ (fun wr3 wp2 wq1 => ?_)
    obtain ⟨rfl, rfl⟩ : wr3 = _ ∧ hp = wp2 := ⟨wq1.1, wq1.2.symm⟩
    refine R_iload_n dX5_print_39 rfl rfl ?_
    refine R_callv (As := [.int (nI (ts[j])), .int (nI wd)]) (st := []) kX5_printCharacter lX5_40 (g_char (hxC _ (List.getElem_mem h1)) hG0) rfl H1 dX5_print_40 rfl rfl (Nat.le_of_ble_eq_true rfl) ⟨by decide, by decide⟩ zX5_printCharacter ⟨Nat.le_refl _, Nat.le_refl _⟩ (fun wp5 wq4 => ?_)
    obtain ⟨hq1, hq2⟩ := wq4
    refine N_iinc (d := 1) (lv' := [some (.ref 53), some (.ref 47), some (.int (nI wd)), some (.int (nI (j + 1)))]) dX5_print_43 rfl rfl ?_
    refine R_goto (tgt := 25) dX5_print_46 (by decide) ?_
    exact ih _ _ (j + 1) (by omega) hq1 (hX0.fr hq2 (by decide) (by decide) (by decide)) (hF.trans hq2) hR
def PgX (hp : HPt) : Prop := ∃ (f : Nat → Int32) (a b c : Int32), hp[53]? = some (ob 4 [.ref 54, .int a, .int b, .int c]) ∧ hp[54]? = some (ia 320 f)
set_option maxRecDepth 100000 in
set_option maxHeartbeats 4000000 in
theorem g_print {wd : Nat} {ts : List Nat} (hw1 : 5 ≤ wd) (hw2 : wd ≤ 40) (hG : PgX hp) (hX : TxAt hp 47 48 49 ts) : SpV l X mX5_print [.ref 53, .ref 47, .int (nI wd)] hp (fun hp' => PgAt hp' wd (pgL wd ts) ∧ Fr [53, 54] hp hp') := by
  obtain ⟨f, a, b, c, H1, H2⟩ := hG
  refine SpV.of pnX5 (Nat.le_of_ble_eq_true rfl) rfl ?_
  refine R_aload_n dX5_print_0 rfl rfl ?_
  refine R_getf dX5_print_1 gX5_11 H1 rfl ?_
  refine R_iconst (v := (nI 0)) dX5_print_4 (by decide) ?_
  refine R_statv (As := [.ref 54, .int (nI 0)]) (st := []) kJ7_fill_53178 lX5_25 (j_fill (by decide) H2) dX5_print_5 rfl rfl (Nat.le_of_ble_eq_true rfl) ⟨by decide, by decide⟩ zJ7_fill_53178 ⟨Nat.le_refl _, Nat.le_refl _⟩ (fun wp2 wq1 => ?_)
  obtain ⟨⟨f5, K2, hf5⟩, hq2⟩ := wq1
  have K1 := hq2.at (j := 53) (by decide) H1
  refine R_aload_n dX5_print_8 rfl rfl ?_
  refine R_iconst (v := (nI 0)) dX5_print_9 (by decide) ?_
  refine W_puti (fs' := [.ref 54, .int (nI 0), .int (b), .int (c)]) dX5_print_10 pX5_15 K1 (Nat.le_of_ble_eq_true rfl) rfl (fun wp4 wH5 wE6 => ?_)
  have wH7 := (wE6 54 (by decide)).trans K2
  have wF8 : Fr [53, 54] hp wp4 := (hq2.mono (L' := [53, 54]) (by decide)).trans (Fr.one wE6 (by simp))
  refine R_aload_n dX5_print_13 rfl rfl ?_
  refine R_iconst (v := (nI 0)) dX5_print_14 (by decide) ?_
  refine W_puti (fs' := [.ref 54, .int (nI 0), .int (nI 0), .int (c)]) dX5_print_15 pX5_19 wH5 (Nat.le_of_ble_eq_true rfl) rfl (fun wp9 wH10 wE11 => ?_)
  have wH12 := (wE11 54 (by decide)).trans wH7
  have wF13 : Fr [53, 54] hp wp9 := wF8.trans (Fr.one wE11 (by simp))
  refine R_aload_n dX5_print_18 rfl rfl ?_
  refine R_iconst (v := (nI 0)) dX5_print_19 (by decide) ?_
  refine W_puti (fs' := [.ref 54, .int (nI 0), .int (nI 0), .int (nI 0)]) dX5_print_20 pX5_22 wH10 (Nat.le_of_ble_eq_true rfl) rfl (fun wp14 wH15 wE16 => ?_)
  have wH17 := (wE16 54 (by decide)).trans wH12
  have wF18 : Fr [53, 54] hp wp14 := wF13.trans (Fr.one wE16 (by simp))
  refine R_iconst (v := (nI 0)) dX5_print_23 (by decide) ?_
  refine R_istore_n (lv' := [some (.ref 53), some (.ref 47), some (.int (nI wd)), some (.int (nI 0))]) dX5_print_24 rfl (by decide) rfl ?_
  exact g_prL ts.length _ ((fun _ => 0), 0, 0, 0) 0 (by omega) ⟨f5, wH15, wH17, fun q hq => ⟨hf5 q hq, (by decide : (0 : Nat) < 128)⟩, by omega, Nat.zero_le _, hw1, hw2⟩ (hX.fr wF18 (by decide) (by decide) (by decide)) wF18 rfl
end G21
