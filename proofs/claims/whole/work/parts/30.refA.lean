theorem fig10 : ∀ c, c < 10 → 48 + c = fig c := by decide
/-! The reference: its static methods -/
def RwF (f : Nat → Int32) (z : Nat) (T : TP) : Prop := match T with
  | (cs, sc, un, wd) => f z = nI cs.length ∧ f (z + 1) = nI sc ∧ f (z + 2) = nI un ∧ f (z + 3) = nI wd ∧ (∀ (i : Nat) (hi : i < cs.length), f (z + 4 + i) = nI cs[i]) ∧ cs.length ≤ 96 ∧ (∀ c ∈ cs, c < 32) ∧ sc ≤ 1 ∧ un ≤ 1 ∧ 5 ≤ wd ∧ wd ≤ 40
theorem RwF.cg {f g : Nat → Int32} {z w : Nat} {T : TP} (h : RwF f z T) (e : ∀ q, q < 100 → g (w + q) = f (z + q)) : RwF g w T := by
  obtain ⟨cs, sc, un, wd⟩ := T
  obtain ⟨h1, h2, h3, h4, h5, h6, r⟩ := h
  refine ⟨(e 0 (by omega)).trans h1, (e 1 (by omega)).trans h2, (e 2 (by omega)).trans h3, (e 3 (by omega)).trans h4, fun i hi => ?_, h6, r⟩
  have := e (4 + i) (by omega)
  rw [← Nat.add_assoc, ← Nat.add_assoc] at this
  exact this.trans (h5 i hi)
def RwAt (hp : HPt) (a : Nat) (T : TP) : Prop := ∃ f : Nat → Int32, hp[a]? = some (ia 100 f) ∧ RwF f 0 T
theorem RwAt.fr {hp hp' : HPt} {a : Nat} {T : TP} {L : List Nat} (H : RwAt hp a T) (F : Fr L hp hp') (h1 : a ∉ L) : RwAt hp' a T := by
  obtain ⟨f, A, B⟩ := H
  exact ⟨f, F.at h1 A, B⟩
theorem i64 (v : Int32) : v.toInt64.toInt = v.toInt := Int32.toInt_toInt64 v
theorem in32 {v : Int32} {a b : Nat} (ha : a < 2 ^ 31) (hb : b < 2 ^ 31) : (decide (lN a ≤ v.toInt64) && decide (v.toInt64 ≤ lN b)) = inW v a b := by
  unfold inW
  congr 1
  · rw [decide_eq_decide, Int64.le_iff_toInt_le, i64, pk_lT (by omega)]
  · rw [decide_eq_decide, Int64.le_iff_toInt_le, i64, pk_lT (by omega)]
theorem lcmp_lt {x y : Int64} : lg_cmp x y < 0 ↔ ¬ y ≤ x := by
  rw [← lg_cmp_ge, Int32.not_le]
theorem lcmp_gt {x y : Int64} : 0 < lg_cmp x y ↔ ¬ x ≤ y := by
  unfold lg_cmp
  by_cases h1 : x > y
  · rw [if_pos h1]; exact ⟨fun _ => Int64.not_le.mpr h1, fun _ => by decide⟩
  · rw [if_neg h1]
    constructor
    · intro h; split at h <;> exact absurd h (by decide)
    · intro h; exact absurd (Int64.not_lt.mp h1) h
section R30
variable {l : Launch} {X : EX} {hp : HPt}
set_option maxRecDepth 100000 in
set_option maxHeartbeats 4000000 in
theorem r_in {v a b : Int64} : SpI l X mX12_in [.long v, .long a, .long b] hp (fun r hp' => r = bz (decide (a ≤ v) && decide (v ≤ b)) ∧ hp' = hp) := by
  refine SpI.of pnX12 (Nat.le_of_ble_eq_true rfl) rfl ?_
  refine R_lload_n dX12_in_0 rfl rfl ?_
  refine R_lload_n dX12_in_1 rfl rfl ?_
  refine R_lcmp dX12_in_2 ?_
  refine R_if_lt (tgt := 17) dX12_in_3 (by decide) (fun h0 => ?_) (fun h0 => ?_)
  · refine R_iconst (v := (nI 0)) dX12_in_17 (by decide) ?_
    exact R_retz dX12_in_18 rfl rfl rfl rfl ⟨by rw [decide_eq_false (lcmp_lt.mp h0)]; rfl, rfl⟩
  · refine R_lload_n dX12_in_6 rfl rfl ?_
    refine R_lload dX12_in_7 rfl ?_
    refine R_lcmp dX12_in_9 ?_
    refine R_if_gt (tgt := 17) dX12_in_10 (by decide) (fun h1 => ?_) (fun h1 => ?_)
    · refine R_iconst (v := (nI 0)) dX12_in_17 (by decide) ?_
      exact R_retz dX12_in_18 rfl rfl rfl rfl ⟨by rw [decide_eq_false (lcmp_gt.mp h1), Bool.and_false]; rfl, rfl⟩
    · refine R_iconst (v := (nI 1)) dX12_in_13 (by decide) ?_
      refine R_goto (tgt := 18) dX12_in_14 (by decide) ?_
      exact R_retz dX12_in_18 rfl rfl rfl rfl ⟨by rw [decide_eq_true (Classical.byContradiction (fun z => h0 (lcmp_lt.mpr z))), decide_eq_true (Classical.byContradiction (fun z => h1 (lcmp_gt.mpr z)))]; rfl, rfl⟩
set_option maxRecDepth 100000 in
set_option maxHeartbeats 4000000 in
theorem r_inW {v : Int32} {x y : Int64} (a b : Nat) (hx : x = lN a) (hy : y = lN b) (ha : a < 2 ^ 31) (hb : b < 2 ^ 31) : SpI l X mX12_in [.long v.toInt64, .long x, .long y] hp (fun r hp' => r = bz (inW v a b) ∧ hp' = hp) := by
  subst hx; subst hy
  have h := r_in (l := l) (X := X) (hp := hp) (v := v.toInt64) (a := lN a) (b := lN b)
  rw [in32 ha hb] at h
  exact h
theorem inB_W {v : Int32} {n : Nat} (h : 0 < n) : inW v 0 (n - 1) = inB v n := by
  unfold inW inB
  congr 1
  rw [decide_eq_decide]
  omega
theorem sub_l {n : Nat} (h : 0 < n) (hn : n < 2 ^ 31) : (nI n - nI 1).toInt64 = lN (n - 1) := by rw [pk_sub (by omega), nI_l (by omega)]
set_option maxRecDepth 100000 in
set_option maxHeartbeats 4000000 in
theorem r_inB {v : Int32} {n : Nat} (hn : n < 2 ^ 31) : SpI l X mX12_in [.long v.toInt64, .long 0, .long (nI n - nI 1).toInt64] hp (fun r hp' => r = bz (inB v n) ∧ hp' = hp) := by
  by_cases h : 0 < n
  · rw [sub_l h hn, ← inB_W h]
    exact r_inW 0 (n - 1) rfl rfl (by omega) (by omega)
  · have hz : n = 0 := by omega
    subst hz
    have h9 := r_in (l := l) (X := X) (hp := hp) (v := v.toInt64) (a := 0) (b := (nI 0 - nI 1).toInt64)
    have e : (decide ((0 : Int64) ≤ v.toInt64) && decide (v.toInt64 ≤ (nI 0 - nI 1).toInt64)) = inB v 0 := by
      have e1 : (nI 0 - nI 1).toInt64.toInt = -1 := by decide
      have e0 : (0 : Int64).toInt = 0 := by decide
      unfold inB
      congr 1
      · rw [decide_eq_decide, Int64.le_iff_toInt_le, i64, e0]
      · rw [decide_eq_decide, Int64.le_iff_toInt_le, i64, e1]; omega
    rw [e] at h9
    exact h9
set_option maxRecDepth 100000 in
set_option maxHeartbeats 4000000 in
theorem r_fig {c : Nat} (hc : c < 26) : SpI l X mX12_figureOf [.int (nI c)] hp (fun r hp' => r = nI (fig c) ∧ hp' = hp) := by
  have hcs : c < 10 ∨ c = 10 ∨ c = 11 ∨ c = 12 ∨ c = 13 ∨ c = 14 ∨ c = 15 ∨ c = 16 ∨ c = 17 ∨ c = 18 ∨ c = 19 ∨ c = 20 ∨ c = 21 ∨ c = 22 ∨ c = 23 ∨ c = 24 ∨ c = 25 := by omega
  refine SpI.of pnX12 (Nat.le_of_ble_eq_true rfl) rfl ?_
  rcases hcs with h | h | h | h | h | h | h | h | h | h | h | h | h | h | h | h | h
  · refine R_iload_n dX12_figureOf_0 rfl rfl ?_
    refine R_bipush (v := (nI 10)) dX12_figureOf_1 (by decide) ?_
    refine N_icmp_ge (tgt := 11) dX12_figureOf_3 (by decide) (by omega) (by omega) (fun hc => absurd hc (by omega)) (fun _ => ?_)
    refine R_bipush (v := (nI 48)) dX12_figureOf_6 (by decide) ?_
    refine R_iload_n dX12_figureOf_8 rfl rfl ?_
    refine N_iadd dX12_figureOf_9 ?_
    exact R_reti dX12_figureOf_10 rfl rfl rfl ⟨congrArg nI (fig10 c h), rfl⟩
  · subst h
    refine R_iload_n dX12_figureOf_0 rfl rfl ?_
    refine R_bipush (v := (nI 10)) dX12_figureOf_1 (by decide) ?_
    refine N_icmp_ge (tgt := 11) dX12_figureOf_3 (by decide) (by omega) (by omega) (fun _ => ?_) (fun hc => absurd hc (by omega))
    refine R_iload_n dX12_figureOf_11 rfl rfl ?_
    refine R_tableIn (off := 76) (tgt := 88) dX12_figureOf_12 (by decide) (by decide) (by decide) (by decide) ?_
    refine R_bipush (v := (nI 45)) dX12_figureOf_88 (by decide) ?_
    exact R_reti dX12_figureOf_90 rfl rfl rfl ⟨by decide, rfl⟩
  · subst h
    refine R_iload_n dX12_figureOf_0 rfl rfl ?_
    refine R_bipush (v := (nI 10)) dX12_figureOf_1 (by decide) ?_
    refine N_icmp_ge (tgt := 11) dX12_figureOf_3 (by decide) (by omega) (by omega) (fun _ => ?_) (fun hc => absurd hc (by omega))
    refine R_iload_n dX12_figureOf_11 rfl rfl ?_
    refine R_tableIn (off := 79) (tgt := 91) dX12_figureOf_12 (by decide) (by decide) (by decide) (by decide) ?_
    refine R_bipush (v := (nI 63)) dX12_figureOf_91 (by decide) ?_
    exact R_reti dX12_figureOf_93 rfl rfl rfl ⟨by decide, rfl⟩
  · subst h
    refine R_iload_n dX12_figureOf_0 rfl rfl ?_
    refine R_bipush (v := (nI 10)) dX12_figureOf_1 (by decide) ?_
    refine N_icmp_ge (tgt := 11) dX12_figureOf_3 (by decide) (by omega) (by omega) (fun _ => ?_) (fun hc => absurd hc (by omega))
    refine R_iload_n dX12_figureOf_11 rfl rfl ?_
    refine R_tableIn (off := 82) (tgt := 94) dX12_figureOf_12 (by decide) (by decide) (by decide) (by decide) ?_
    refine R_bipush (v := (nI 58)) dX12_figureOf_94 (by decide) ?_
    exact R_reti dX12_figureOf_96 rfl rfl rfl ⟨by decide, rfl⟩
  · subst h
    refine R_iload_n dX12_figureOf_0 rfl rfl ?_
    refine R_bipush (v := (nI 10)) dX12_figureOf_1 (by decide) ?_
    refine N_icmp_ge (tgt := 11) dX12_figureOf_3 (by decide) (by omega) (by omega) (fun _ => ?_) (fun hc => absurd hc (by omega))
    refine R_iload_n dX12_figureOf_11 rfl rfl ?_
    refine R_tableIn (off := 85) (tgt := 97) dX12_figureOf_12 (by decide) (by decide) (by decide) (by decide) ?_
    refine R_bipush (v := (nI 40)) dX12_figureOf_97 (by decide) ?_
    exact R_reti dX12_figureOf_99 rfl rfl rfl ⟨by decide, rfl⟩
  · subst h
    refine R_iload_n dX12_figureOf_0 rfl rfl ?_
    refine R_bipush (v := (nI 10)) dX12_figureOf_1 (by decide) ?_
    refine N_icmp_ge (tgt := 11) dX12_figureOf_3 (by decide) (by omega) (by omega) (fun _ => ?_) (fun hc => absurd hc (by omega))
    refine R_iload_n dX12_figureOf_11 rfl rfl ?_
    refine R_tableIn (off := 88) (tgt := 100) dX12_figureOf_12 (by decide) (by decide) (by decide) (by decide) ?_
    refine R_bipush (v := (nI 41)) dX12_figureOf_100 (by decide) ?_
    exact R_reti dX12_figureOf_102 rfl rfl rfl ⟨by decide, rfl⟩
  · subst h
    refine R_iload_n dX12_figureOf_0 rfl rfl ?_
    refine R_bipush (v := (nI 10)) dX12_figureOf_1 (by decide) ?_
    refine N_icmp_ge (tgt := 11) dX12_figureOf_3 (by decide) (by omega) (by omega) (fun _ => ?_) (fun hc => absurd hc (by omega))
    refine R_iload_n dX12_figureOf_11 rfl rfl ?_
    refine R_tableIn (off := 91) (tgt := 103) dX12_figureOf_12 (by decide) (by decide) (by decide) (by decide) ?_
    refine R_bipush (v := (nI 46)) dX12_figureOf_103 (by decide) ?_
    exact R_reti dX12_figureOf_105 rfl rfl rfl ⟨by decide, rfl⟩
  · subst h
    refine R_iload_n dX12_figureOf_0 rfl rfl ?_
    refine R_bipush (v := (nI 10)) dX12_figureOf_1 (by decide) ?_
    refine N_icmp_ge (tgt := 11) dX12_figureOf_3 (by decide) (by omega) (by omega) (fun _ => ?_) (fun hc => absurd hc (by omega))
    refine R_iload_n dX12_figureOf_11 rfl rfl ?_
    refine R_tableIn (off := 94) (tgt := 106) dX12_figureOf_12 (by decide) (by decide) (by decide) (by decide) ?_
    refine R_bipush (v := (nI 44)) dX12_figureOf_106 (by decide) ?_
    exact R_reti dX12_figureOf_108 rfl rfl rfl ⟨by decide, rfl⟩
  · subst h
    refine R_iload_n dX12_figureOf_0 rfl rfl ?_
    refine R_bipush (v := (nI 10)) dX12_figureOf_1 (by decide) ?_
    refine N_icmp_ge (tgt := 11) dX12_figureOf_3 (by decide) (by omega) (by omega) (fun _ => ?_) (fun hc => absurd hc (by omega))
    refine R_iload_n dX12_figureOf_11 rfl rfl ?_
    refine R_tableIn (off := 97) (tgt := 109) dX12_figureOf_12 (by decide) (by decide) (by decide) (by decide) ?_
    refine R_bipush (v := (nI 47)) dX12_figureOf_109 (by decide) ?_
    exact R_reti dX12_figureOf_111 rfl rfl rfl ⟨by decide, rfl⟩
  · subst h
    refine R_iload_n dX12_figureOf_0 rfl rfl ?_
    refine R_bipush (v := (nI 10)) dX12_figureOf_1 (by decide) ?_
    refine N_icmp_ge (tgt := 11) dX12_figureOf_3 (by decide) (by omega) (by omega) (fun _ => ?_) (fun hc => absurd hc (by omega))
    refine R_iload_n dX12_figureOf_11 rfl rfl ?_
    refine R_tableIn (off := 100) (tgt := 112) dX12_figureOf_12 (by decide) (by decide) (by decide) (by decide) ?_
    refine R_bipush (v := (nI 61)) dX12_figureOf_112 (by decide) ?_
    exact R_reti dX12_figureOf_114 rfl rfl rfl ⟨by decide, rfl⟩
  · subst h
    refine R_iload_n dX12_figureOf_0 rfl rfl ?_
    refine R_bipush (v := (nI 10)) dX12_figureOf_1 (by decide) ?_
    refine N_icmp_ge (tgt := 11) dX12_figureOf_3 (by decide) (by omega) (by omega) (fun _ => ?_) (fun hc => absurd hc (by omega))
    refine R_iload_n dX12_figureOf_11 rfl rfl ?_
    refine R_tableIn (off := 103) (tgt := 115) dX12_figureOf_12 (by decide) (by decide) (by decide) (by decide) ?_
    refine R_bipush (v := (nI 39)) dX12_figureOf_115 (by decide) ?_
    exact R_reti dX12_figureOf_117 rfl rfl rfl ⟨by decide, rfl⟩
  · subst h
    refine R_iload_n dX12_figureOf_0 rfl rfl ?_
    refine R_bipush (v := (nI 10)) dX12_figureOf_1 (by decide) ?_
    refine N_icmp_ge (tgt := 11) dX12_figureOf_3 (by decide) (by omega) (by omega) (fun _ => ?_) (fun hc => absurd hc (by omega))
    refine R_iload_n dX12_figureOf_11 rfl rfl ?_
    refine R_tableIn (off := 106) (tgt := 118) dX12_figureOf_12 (by decide) (by decide) (by decide) (by decide) ?_
    refine R_bipush (v := (nI 43)) dX12_figureOf_118 (by decide) ?_
    exact R_reti dX12_figureOf_120 rfl rfl rfl ⟨by decide, rfl⟩
  · subst h
    refine R_iload_n dX12_figureOf_0 rfl rfl ?_
    refine R_bipush (v := (nI 10)) dX12_figureOf_1 (by decide) ?_
    refine N_icmp_ge (tgt := 11) dX12_figureOf_3 (by decide) (by omega) (by omega) (fun _ => ?_) (fun hc => absurd hc (by omega))
    refine R_iload_n dX12_figureOf_11 rfl rfl ?_
    refine R_tableIn (off := 109) (tgt := 121) dX12_figureOf_12 (by decide) (by decide) (by decide) (by decide) ?_
    refine R_bipush (v := (nI 33)) dX12_figureOf_121 (by decide) ?_
    exact R_reti dX12_figureOf_123 rfl rfl rfl ⟨by decide, rfl⟩
  · subst h
    refine R_iload_n dX12_figureOf_0 rfl rfl ?_
    refine R_bipush (v := (nI 10)) dX12_figureOf_1 (by decide) ?_
    refine N_icmp_ge (tgt := 11) dX12_figureOf_3 (by decide) (by omega) (by omega) (fun _ => ?_) (fun hc => absurd hc (by omega))
    refine R_iload_n dX12_figureOf_11 rfl rfl ?_
    refine R_tableIn (off := 112) (tgt := 124) dX12_figureOf_12 (by decide) (by decide) (by decide) (by decide) ?_
    refine R_bipush (v := (nI 38)) dX12_figureOf_124 (by decide) ?_
    exact R_reti dX12_figureOf_126 rfl rfl rfl ⟨by decide, rfl⟩
  · subst h
    refine R_iload_n dX12_figureOf_0 rfl rfl ?_
    refine R_bipush (v := (nI 10)) dX12_figureOf_1 (by decide) ?_
    refine N_icmp_ge (tgt := 11) dX12_figureOf_3 (by decide) (by omega) (by omega) (fun _ => ?_) (fun hc => absurd hc (by omega))
    refine R_iload_n dX12_figureOf_11 rfl rfl ?_
    refine R_tableIn (off := 115) (tgt := 127) dX12_figureOf_12 (by decide) (by decide) (by decide) (by decide) ?_
    refine R_bipush (v := (nI 37)) dX12_figureOf_127 (by decide) ?_
    exact R_reti dX12_figureOf_129 rfl rfl rfl ⟨by decide, rfl⟩
  · subst h
    refine R_iload_n dX12_figureOf_0 rfl rfl ?_
    refine R_bipush (v := (nI 10)) dX12_figureOf_1 (by decide) ?_
    refine N_icmp_ge (tgt := 11) dX12_figureOf_3 (by decide) (by omega) (by omega) (fun _ => ?_) (fun hc => absurd hc (by omega))
    refine R_iload_n dX12_figureOf_11 rfl rfl ?_
    refine R_tableIn (off := 118) (tgt := 130) dX12_figureOf_12 (by decide) (by decide) (by decide) (by decide) ?_
    refine R_bipush (v := (nI 59)) dX12_figureOf_130 (by decide) ?_
    exact R_reti dX12_figureOf_132 rfl rfl rfl ⟨by decide, rfl⟩
  · subst h
    refine R_iload_n dX12_figureOf_0 rfl rfl ?_
    refine R_bipush (v := (nI 10)) dX12_figureOf_1 (by decide) ?_
    refine N_icmp_ge (tgt := 11) dX12_figureOf_3 (by decide) (by omega) (by omega) (fun _ => ?_) (fun hc => absurd hc (by omega))
    refine R_iload_n dX12_figureOf_11 rfl rfl ?_
    refine R_tableOut (tgt := 133) dX12_figureOf_12 (by decide) (by decide) ?_
    refine R_bipush (v := (nI 36)) dX12_figureOf_133 (by decide) ?_
    exact R_reti dX12_figureOf_135 rfl rfl rfl ⟨by decide, rfl⟩
set_option maxRecDepth 100000 in
set_option maxHeartbeats 4000000 in
theorem r_print {c p : Nat} (hc : c < 32) (hp1 : p ≤ 1) : SpI l X mX12_printOf [.int (nI c), .int (nI p)] hp (fun r hp' => r = prt c p ∧ hp' = hp) := by
  refine SpI.of pnX12 (Nat.le_of_ble_eq_true rfl) rfl ?_
  refine R_iload_n dX12_printOf_0 rfl rfl ?_
  refine R_bipush (v := (nI 26)) dX12_printOf_1 (by decide) ?_
  refine N_icmp_ge (tgt := 22) dX12_printOf_3 (by decide) (by omega) (by omega) (fun h26 => ?_) (fun h26 => ?_)
  · refine R_iload_n dX12_printOf_22 rfl rfl ?_
    refine R_bipush (v := (nI 26)) dX12_printOf_23 (by decide) ?_
    refine N_icmp_ne (tgt := 33) dX12_printOf_25 (by decide) (by omega) (by omega) (fun h1 => ?_) (fun h1 => ?_)
    · refine R_iload_n dX12_printOf_33 rfl rfl ?_
      refine R_bipush (v := (nI 27)) dX12_printOf_34 (by decide) ?_
      refine N_icmp_ne (tgt := 44) dX12_printOf_36 (by decide) (by omega) (by omega) (fun h2 => ?_) (fun h2 => ?_)
      · refine R_iload_n dX12_printOf_44 rfl rfl ?_
        refine R_bipush (v := (nI 28)) dX12_printOf_45 (by decide) ?_
        refine N_icmp_ne (tgt := 55) dX12_printOf_47 (by decide) (by omega) (by omega) (fun h3 => ?_) (fun h3 => ?_)
        · refine R_iconst (v := (-1)) dX12_printOf_55 (by decide) ?_
          exact R_reti dX12_printOf_56 rfl rfl rfl ⟨by rw [prt_ne (by omega)], rfl⟩
        · refine R_bipush (v := (nI 13)) dX12_printOf_50 (by decide) ?_
          refine R_goto (tgt := 56) dX12_printOf_52 (by decide) ?_
          exact R_reti dX12_printOf_56 rfl rfl rfl ⟨by subst h3; simp [prt, ch], rfl⟩
      · refine R_bipush (v := (nI 10)) dX12_printOf_39 (by decide) ?_
        refine R_goto (tgt := 56) dX12_printOf_41 (by decide) ?_
        exact R_reti dX12_printOf_56 rfl rfl rfl ⟨by subst h2; simp [prt, ch], rfl⟩
    · refine R_bipush (v := (nI 32)) dX12_printOf_28 (by decide) ?_
      refine R_goto (tgt := 56) dX12_printOf_30 (by decide) ?_
      exact R_reti dX12_printOf_56 rfl rfl rfl ⟨by subst h1; simp [prt, ch], rfl⟩
  · refine R_iload_n dX12_printOf_6 rfl rfl ?_
    refine N_if_ne (tgt := 17) dX12_printOf_7 (by decide) (by omega) (fun h0 => ?_) (fun h0 => ?_)
    · refine R_iload_n dX12_printOf_17 rfl rfl ?_
      refine R_stati (As := [.int (nI c)]) (st := []) kX12_figureOf lX12_59 (r_fig h26) dX12_printOf_18 rfl rfl (Nat.le_of_ble_eq_true rfl) ⟨by decide, by decide⟩ zX12_figureOf ⟨Nat.le_refl _, Nat.le_refl _⟩ (fun wr3 wp2 wq1 => ?_)
      obtain ⟨rfl, rfl⟩ : wr3 = _ ∧ hp = wp2 := ⟨wq1.1, wq1.2.symm⟩
      exact R_reti dX12_printOf_21 rfl rfl rfl ⟨by rw [prt_in (by omega)]; unfold ch; rw [if_pos h26, if_pos (by omega)], rfl⟩
    · refine R_bipush (v := (nI 65)) dX12_printOf_10 (by decide) ?_
      refine R_iload_n dX12_printOf_12 rfl rfl ?_
      refine N_iadd dX12_printOf_13 ?_
      refine R_goto (tgt := 21) dX12_printOf_14 (by decide) ?_
      exact R_reti dX12_printOf_21 rfl rfl rfl ⟨by rw [prt_in (by omega)]; unfold ch; rw [if_pos h26, if_neg (by omega)], rfl⟩
set_option maxRecDepth 100000 in
set_option maxHeartbeats 4000000 in
theorem r_aft {c p un : Nat} (hc : c < 32) (hp1 : p ≤ 1) (hu : un ≤ 1) : SpI l X mX12_caseAfter [.int (nI c), .int (nI p), .int (nI un)] hp (fun r hp' => r = nI (cAft un c p) ∧ hp' = hp) := by
  unfold cAft
  refine SpI.of pnX12 (Nat.le_of_ble_eq_true rfl) rfl ?_
  refine R_iload_n dX12_caseAfter_0 rfl rfl ?_
  refine R_bipush (v := (nI 29)) dX12_caseAfter_1 (by decide) ?_
  refine N_icmp_ne (tgt := 8) dX12_caseAfter_3 (by decide) (by omega) (by omega) (fun h29 => ?_) (fun h29 => ?_)
  · refine R_iload_n dX12_caseAfter_8 rfl rfl ?_
    refine R_bipush (v := (nI 30)) dX12_caseAfter_9 (by decide) ?_
    refine N_icmp_eq (tgt := 25) dX12_caseAfter_11 (by decide) (by omega) (by omega) (fun h30 => ?_) (fun h30 => ?_)
    · refine R_iconst (v := (nI 0)) dX12_caseAfter_25 (by decide) ?_
      refine R_goto (tgt := 30) dX12_caseAfter_26 (by decide) ?_
      exact R_reti dX12_caseAfter_30 rfl rfl rfl ⟨by rw [if_neg h29, if_pos h30], rfl⟩
    · refine R_iload_n dX12_caseAfter_14 rfl rfl ?_
      refine R_bipush (v := (nI 26)) dX12_caseAfter_15 (by decide) ?_
      refine N_icmp_ne (tgt := 29) dX12_caseAfter_17 (by decide) (by omega) (by omega) (fun h26 => ?_) (fun h26 => ?_)
      · refine R_iload_n dX12_caseAfter_29 rfl rfl ?_
        exact R_reti dX12_caseAfter_30 rfl rfl rfl ⟨by rw [if_neg h29, if_neg h30, if_neg (fun z => h26 z.1)], rfl⟩
      · refine R_iload_n dX12_caseAfter_20 rfl rfl ?_
        refine R_iconst (v := (nI 1)) dX12_caseAfter_21 (by decide) ?_
        refine N_icmp_ne (tgt := 29) dX12_caseAfter_22 (by decide) (by omega) (by omega) (fun hu1 => ?_) (fun hu1 => ?_)
        · refine R_iload_n dX12_caseAfter_29 rfl rfl ?_
          exact R_reti dX12_caseAfter_30 rfl rfl rfl ⟨by rw [if_neg h29, if_neg h30, if_neg (fun z => hu1 z.2)], rfl⟩
        · refine R_iconst (v := (nI 0)) dX12_caseAfter_25 (by decide) ?_
          refine R_goto (tgt := 30) dX12_caseAfter_26 (by decide) ?_
          exact R_reti dX12_caseAfter_30 rfl rfl rfl ⟨by rw [if_neg h29, if_neg h30, if_pos ⟨h26, hu1⟩], rfl⟩
  · refine R_iconst (v := (nI 1)) dX12_caseAfter_6 (by decide) ?_
    exact R_reti dX12_caseAfter_7 rfl rfl rfl ⟨by rw [if_pos h29], rfl⟩
/-- what codeOf answers -/
def cofR (x : Nat) : Int32 := if cof x = 255 then -9 else nI (100 * cfor x + cof x)
def figS (x : Nat) : Nat → Int32
  | 0 => -9
  | k + 1 => if fig k = x then nI (100 + k) else figS x k
theorem figS_at0 : ∀ x, x < 256 → (x = 32 ∨ x = 10 ∨ x = 13 ∨ (65 ≤ x ∧ x ≤ 90) ∨ figS x 26 = cofR x) := by decide +kernel
theorem figS_at (x : Nat) (hx : x < 256) (h1 : x ≠ 32) (h2 : x ≠ 10) (h3 : x ≠ 13) (h4 : ¬ (65 ≤ x ∧ x ≤ 90)) : figS x 26 = cofR x := by
  rcases figS_at0 x hx with h | h | h | h | h
  · exact absurd h h1
  · exact absurd h h2
  · exact absurd h h3
  · exact absurd h h4
  · exact h
theorem cofR_sp : cofR 32 = nI 226 ∧ cofR 10 = nI 227 ∧ cofR 13 = nI 228 := by decide +kernel
theorem cofR_up : ∀ x, x < 256 → 65 ≤ x ∧ x ≤ 90 → cofR x = nI (x - 65) := by decide +kernel
set_option maxRecDepth 100000 in
set_option maxHeartbeats 4000000 in
theorem r_coL {x : Nat} (hx : x < 256) : ∀ (d j : Nat), j + d = 26 → PZ l X (MZi X mX12_codeOf (fun r hp' => r = figS x 26 ∧ hp' = hp)) mX12_codeOf 71 [some (.int (nI x)), some (.int (figS x j)), some (.int (nI j))] [] hp 0 0 := by
  intro d
  induction d with
  | zero =>
    intro j hj
    have hje : j = 26 := by omega
    subst hje
    refine R_iload_n dX12_codeOf_71 rfl rfl ?_
    refine R_bipush (v := (nI 26)) dX12_codeOf_72 (by decide) ?_
    refine N_icmp_ge (tgt := 100) dX12_codeOf_74 (by decide) (by omega) (by omega) (fun _ => ?_) (fun hc => absurd hc (by omega))
    refine R_iload_n dX12_codeOf_100 rfl rfl ?_
    exact R_reti dX12_codeOf_101 rfl rfl rfl ⟨rfl, rfl⟩
  | succ d ih =>
    intro j hj
    have hfl := fig_lt j (by omega)
    refine R_iload_n dX12_codeOf_71 rfl rfl ?_
    refine R_bipush (v := (nI 26)) dX12_codeOf_72 (by decide) ?_
    refine N_icmp_ge (tgt := 100) dX12_codeOf_74 (by decide) (by omega) (by omega) (fun hc => absurd hc (by omega)) (fun _ => ?_)
    refine R_iload_n dX12_codeOf_77 rfl rfl ?_
    refine R_stati (As := [.int (nI j)]) (st := []) kX12_figureOf lX12_59 (r_fig (c := j) (by omega)) dX12_codeOf_78 rfl rfl (Nat.le_of_ble_eq_true rfl) ⟨by decide, by decide⟩ zX12_figureOf ⟨Nat.le_refl _, Nat.le_refl _⟩ (fun wr3 wp2 wq1 => ?_)
    obtain ⟨rfl, rfl⟩ : wr3 = _ ∧ hp = wp2 := ⟨wq1.1, wq1.2.symm⟩
    refine R_iload_n dX12_codeOf_81 rfl rfl ?_
    refine N_icmp_ne (tgt := 92) dX12_codeOf_82 (by decide) (by omega) (by omega) (fun he => ?_) (fun he => ?_)
    · refine R_iload_n dX12_codeOf_92 rfl rfl ?_
      refine R_istore_n (lv' := [some (.int (nI x)), some (.int (figS x j)), some (.int (nI j))]) dX12_codeOf_93 rfl (by decide) rfl ?_
      refine N_iinc (d := 1) (lv' := [some (.int (nI x)), some (.int (figS x j)), some (.int (nI (j + 1)))]) dX12_codeOf_94 rfl rfl ?_
      refine R_goto (tgt := 71) dX12_codeOf_97 (by decide) ?_
      have h9 := ih (j + 1) (by omega)
      simp only [figS] at h9
      rw [if_neg he] at h9
      exact h9
    · refine R_bipush (v := (nI 100)) dX12_codeOf_85 (by decide) ?_
      refine R_iload_n dX12_codeOf_87 rfl rfl ?_
      refine N_iadd dX12_codeOf_88 ?_
      refine R_goto (tgt := 93) dX12_codeOf_89 (by decide) ?_
      refine R_istore_n (lv' := [some (.int (nI x)), some (.int (nI (100 + j))), some (.int (nI j))]) dX12_codeOf_93 rfl (by decide) rfl ?_
      refine N_iinc (d := 1) (lv' := [some (.int (nI x)), some (.int (nI (100 + j))), some (.int (nI (j + 1)))]) dX12_codeOf_94 rfl rfl ?_
      refine R_goto (tgt := 71) dX12_codeOf_97 (by decide) ?_
      have h9 := ih (j + 1) (by omega)
      simp only [figS] at h9
      rw [if_pos he] at h9
      exact h9
set_option maxRecDepth 100000 in
set_option maxHeartbeats 4000000 in
theorem r_codeOf {x : Nat} (hx : x < 256) : SpI l X mX12_codeOf [.int (nI x)] hp (fun r hp' => r = cofR x ∧ hp' = hp) := by
  refine SpI.of pnX12 (Nat.le_of_ble_eq_true rfl) rfl ?_
  by_cases h1 : x = 32
  · subst h1
    refine R_iload_n dX12_codeOf_0 rfl rfl ?_
    refine R_bipush (v := (nI 32)) dX12_codeOf_1 (by decide) ?_
    refine N_icmp_eq (tgt := 18) dX12_codeOf_3 (by decide) (by omega) (by omega) (fun _ => ?_) (fun hc => absurd hc (by omega))
    refine R_sipush (v := (nI 200)) dX12_codeOf_18 (by decide) ?_
    refine R_iload_n dX12_codeOf_21 rfl rfl ?_
    refine R_bipush (v := (nI 32)) dX12_codeOf_22 (by decide) ?_
    refine N_icmp_ne (tgt := 32) dX12_codeOf_24 (by decide) (by omega) (by omega) (fun hc => absurd hc (by omega)) (fun _ => ?_)
    refine R_bipush (v := (nI 26)) dX12_codeOf_27 (by decide) ?_
    refine R_goto (tgt := 45) dX12_codeOf_29 (by decide) ?_
    refine N_iadd dX12_codeOf_45 ?_
    exact R_reti dX12_codeOf_46 rfl rfl rfl ⟨by rw [cofR_sp.1], rfl⟩
  · by_cases h2 : x = 10
    · subst h2
      refine R_iload_n dX12_codeOf_0 rfl rfl ?_
      refine R_bipush (v := (nI 32)) dX12_codeOf_1 (by decide) ?_
      refine N_icmp_eq (tgt := 18) dX12_codeOf_3 (by decide) (by omega) (by omega) (fun hc => absurd hc (by omega)) (fun _ => ?_)
      refine R_iload_n dX12_codeOf_6 rfl rfl ?_
      refine R_bipush (v := (nI 10)) dX12_codeOf_7 (by decide) ?_
      refine N_icmp_eq (tgt := 18) dX12_codeOf_9 (by decide) (by omega) (by omega) (fun _ => ?_) (fun hc => absurd hc (by omega))
      refine R_sipush (v := (nI 200)) dX12_codeOf_18 (by decide) ?_
      refine R_iload_n dX12_codeOf_21 rfl rfl ?_
      refine R_bipush (v := (nI 32)) dX12_codeOf_22 (by decide) ?_
      refine N_icmp_ne (tgt := 32) dX12_codeOf_24 (by decide) (by omega) (by omega) (fun _ => ?_) (fun hc => absurd hc (by omega))
      refine R_iload_n dX12_codeOf_32 rfl rfl ?_
      refine R_bipush (v := (nI 10)) dX12_codeOf_33 (by decide) ?_
      refine N_icmp_ne (tgt := 43) dX12_codeOf_35 (by decide) (by omega) (by omega) (fun hc => absurd hc (by omega)) (fun _ => ?_)
      refine R_bipush (v := (nI 27)) dX12_codeOf_38 (by decide) ?_
      refine R_goto (tgt := 45) dX12_codeOf_40 (by decide) ?_
      refine N_iadd dX12_codeOf_45 ?_
      exact R_reti dX12_codeOf_46 rfl rfl rfl ⟨by rw [cofR_sp.2.1], rfl⟩
    · by_cases h3 : x = 13
      · subst h3
        refine R_iload_n dX12_codeOf_0 rfl rfl ?_
        refine R_bipush (v := (nI 32)) dX12_codeOf_1 (by decide) ?_
        refine N_icmp_eq (tgt := 18) dX12_codeOf_3 (by decide) (by omega) (by omega) (fun hc => absurd hc (by omega)) (fun _ => ?_)
        refine R_iload_n dX12_codeOf_6 rfl rfl ?_
        refine R_bipush (v := (nI 10)) dX12_codeOf_7 (by decide) ?_
        refine N_icmp_eq (tgt := 18) dX12_codeOf_9 (by decide) (by omega) (by omega) (fun hc => absurd hc (by omega)) (fun _ => ?_)
        refine R_iload_n dX12_codeOf_12 rfl rfl ?_
        refine R_bipush (v := (nI 13)) dX12_codeOf_13 (by decide) ?_
        refine N_icmp_ne (tgt := 47) dX12_codeOf_15 (by decide) (by omega) (by omega) (fun hc => absurd hc (by omega)) (fun _ => ?_)
        refine R_sipush (v := (nI 200)) dX12_codeOf_18 (by decide) ?_
        refine R_iload_n dX12_codeOf_21 rfl rfl ?_
        refine R_bipush (v := (nI 32)) dX12_codeOf_22 (by decide) ?_
        refine N_icmp_ne (tgt := 32) dX12_codeOf_24 (by decide) (by omega) (by omega) (fun _ => ?_) (fun hc => absurd hc (by omega))
        refine R_iload_n dX12_codeOf_32 rfl rfl ?_
        refine R_bipush (v := (nI 10)) dX12_codeOf_33 (by decide) ?_
        refine N_icmp_ne (tgt := 43) dX12_codeOf_35 (by decide) (by omega) (by omega) (fun _ => ?_) (fun hc => absurd hc (by omega))
        refine R_bipush (v := (nI 28)) dX12_codeOf_43 (by decide) ?_
        refine N_iadd dX12_codeOf_45 ?_
        exact R_reti dX12_codeOf_46 rfl rfl rfl ⟨by rw [cofR_sp.2.2], rfl⟩
      · refine R_iload_n dX12_codeOf_0 rfl rfl ?_
        refine R_bipush (v := (nI 32)) dX12_codeOf_1 (by decide) ?_
        refine N_icmp_eq (tgt := 18) dX12_codeOf_3 (by decide) (by omega) (by omega) (fun hc => absurd hc (h1)) (fun _ => ?_)
        refine R_iload_n dX12_codeOf_6 rfl rfl ?_
        refine R_bipush (v := (nI 10)) dX12_codeOf_7 (by decide) ?_
        refine N_icmp_eq (tgt := 18) dX12_codeOf_9 (by decide) (by omega) (by omega) (fun hc => absurd hc (h2)) (fun _ => ?_)
        refine R_iload_n dX12_codeOf_12 rfl rfl ?_
        refine R_bipush (v := (nI 13)) dX12_codeOf_13 (by decide) ?_
        refine N_icmp_ne (tgt := 47) dX12_codeOf_15 (by decide) (by omega) (by omega) (fun _ => ?_) (fun hc => absurd hc (h3))
        refine R_iload_n dX12_codeOf_47 rfl rfl ?_
        refine R_i2l dX12_codeOf_48 ?_
        refine R_ldc2 dX12_codeOf_49 nX12_63 ?_
        refine R_ldc2 dX12_codeOf_52 nX12_65 ?_
        refine R_stati (As := [.long ((nI x).toInt64), .long (65), .long (90)]) (st := []) kX12_in lX12_67 (r_inW 65 90 rfl rfl (by decide) (by decide)) dX12_codeOf_55 rfl rfl (Nat.le_of_ble_eq_true rfl) ⟨by decide, by decide⟩ zX12_in ⟨Nat.le_refl _, Nat.le_refl _⟩ (fun wr3 wp2 wq1 => ?_)
        obtain ⟨rfl, rfl⟩ : wr3 = _ ∧ hp = wp2 := ⟨wq1.1, wq1.2.symm⟩
        rw [inW_n (by omega)]
        by_cases h4 : 65 ≤ x ∧ x ≤ 90
        · rw [decide_eq_true h4.1, decide_eq_true h4.2]
          show PZ _ _ _ _ _ _ [.int (nI 1)] _ _ _
          refine N_if_eq (tgt := 66) dX12_codeOf_58 (by decide) (by decide) (fun hc => absurd hc (by decide)) (fun _ => ?_)
          refine R_iload_n dX12_codeOf_61 rfl rfl ?_
          refine R_bipush (v := (nI 65)) dX12_codeOf_62 (by decide) ?_
          refine N_isub dX12_codeOf_64 (by omega) ?_
          exact R_reti dX12_codeOf_65 rfl rfl rfl ⟨by rw [cofR_up x hx h4], rfl⟩
        · have h5 : (decide (65 ≤ x) && decide (x ≤ 90)) = false := by
            rw [Bool.and_eq_false_iff, decide_eq_false_iff_not, decide_eq_false_iff_not]; omega
          rw [h5]
          show PZ _ _ _ _ _ _ [.int (nI 0)] _ _ _
          refine N_if_eq (tgt := 66) dX12_codeOf_58 (by decide) (by decide) (fun _ => ?_) (fun hc => absurd hc (by decide))
          refine R_bipush (v := (-9)) dX12_codeOf_66 (by decide) ?_
          refine R_istore_n (lv' := [some (.int (nI x)), some (.int (-9)), none]) dX12_codeOf_68 rfl (by decide) rfl ?_
          refine R_iconst (v := (nI 0)) dX12_codeOf_69 (by decide) ?_
          refine R_istore_n (lv' := [some (.int (nI x)), some (.int (-9)), some (.int (nI 0))]) dX12_codeOf_70 rfl (by decide) rfl ?_
          have h9 := r_coL (l := l) (X := X) (hp := hp) hx 26 0 (by omega)
          rw [figS_at x hx h1 h2 h3 h4] at h9
          exact h9
set_option maxRecDepth 100000 in
set_option maxHeartbeats 4000000 in
theorem r_cpL {a b : Nat} {f : Nat → Int32} {hp0 : HPt} (hab : a ≠ b) : ∀ (d : Nat) (hp : HPt) (g : Nat → Int32) (j : Nat), j + d = 100 → hp[a]? = some (ia 100 f) → hp[b]? = some (ia 100 g) → (∀ q, q < j → g q = f q) → Fr [b] hp0 hp → PZ l X (MZv X mX12_copy (fun hp' => (∃ g', hp'[b]? = some (ia 100 g') ∧ ∀ q, q < 100 → g' q = f q) ∧ Fr [b] hp0 hp')) mX12_copy 2 [some (.ref a), some (.ref b), some (.int (nI j))] [] hp 0 0 := by
  intro d
  induction d with
  | zero =>
    intro hp g j hj Ha Hb hg hF
    refine R_iload_n dX12_copy_2 rfl rfl ?_
    refine R_bipush (v := (nI 100)) dX12_copy_3 (by decide) ?_
    refine N_icmp_ge (tgt := 20) dX12_copy_5 (by decide) (by omega) (by omega) (fun _ => ?_) (fun hc => absurd hc (by omega))
    exact R_retv dX12_copy_20 rfl rfl rfl ⟨⟨g, Hb, fun q hq => hg q (by omega)⟩, hF⟩
  | succ d ih =>
    intro hp g j hj Ha Hb hg hF
    refine R_iload_n dX12_copy_2 rfl rfl ?_
    refine R_bipush (v := (nI 100)) dX12_copy_3 (by decide) ?_
    refine N_icmp_ge (tgt := 20) dX12_copy_5 (by decide) (by omega) (by omega) (fun hc => absurd hc (by omega)) (fun _ => ?_)
    refine R_aload_n dX12_copy_8 rfl rfl ?_
    refine R_iload_n dX12_copy_9 rfl rfl ?_
    refine R_aload_n dX12_copy_10 rfl rfl ?_
    refine R_iload_n dX12_copy_11 rfl rfl ?_
    refine N_iald (y := (f j)) dX12_copy_12 Ha (by omega) (by decide) rfl ?_
    obtain ⟨wf1, ewf1⟩ : ∃ y, y = upd g j (f j) := ⟨_, rfl⟩
    refine W_iast (f' := wf1) dX12_copy_13 Hb (by omega) (by decide) ewf1 (fun wp2 wH3 wE4 => ?_)
    have wH5 := (wE4 a hab).trans Ha
    have wF6 : Fr [b] hp0 wp2 := hF.trans (Fr.one wE4 (by simp))
    refine N_iinc (d := 1) (lv' := [some (.ref a), some (.ref b), some (.int (nI (j + 1)))]) dX12_copy_14 rfl rfl ?_
    refine R_goto (tgt := 2) dX12_copy_17 (by decide) ?_
    refine ih _ wf1 (j + 1) (by omega) wH5 wH3 (fun q hq => ?_) wF6
    rw [ewf1]
    by_cases hqj : q = j
    · subst hqj; exact upd_s
    · rw [upd_n hqj]; exact hg q (by omega)
set_option maxRecDepth 100000 in
set_option maxHeartbeats 4000000 in
theorem r_copy {a b : Nat} {f g : Nat → Int32} (hab : a ≠ b) (Ha : hp[a]? = some (ia 100 f)) (Hb : hp[b]? = some (ia 100 g)) : SpV l X mX12_copy [.ref a, .ref b] hp (fun hp' => (∃ g', hp'[b]? = some (ia 100 g') ∧ ∀ q, q < 100 → g' q = f q) ∧ Fr [b] hp hp') := by
  refine SpV.of pnX12 (Nat.le_of_ble_eq_true rfl) rfl ?_
  refine R_iconst (v := (nI 0)) dX12_copy_0 (by decide) ?_
  refine R_istore_n (lv' := [some (.ref a), some (.ref b), some (.int (nI 0))]) dX12_copy_1 rfl (by decide) rfl ?_
  exact r_cpL hab 100 hp g 0 (by omega) Ha Hb (fun q hq => absurd hq (by omega)) Fr.rf
end R30
