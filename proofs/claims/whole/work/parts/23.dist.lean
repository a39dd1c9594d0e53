/-! Levenshtein's distance: one row of the table at a time -/
def lqS (x : Nat) : Nat → Nat → List Nat → List Nat → List Nat
  | dg, lf, t :: ts, ab :: rs => min (if x = t then dg else dg + 1) (min ab lf + 1) :: lqS x ab (min (if x = t then dg else dg + 1) (min ab lf + 1)) ts rs
  | _, _, _, _ => []
theorem lqS_len (x : Nat) : ∀ (ts rs : List Nat) (dg lf : Nat), rs.length = ts.length → (lqS x dg lf ts rs).length = ts.length
  | [], [], _, _, _ => rfl
  | [], _ :: _, _, _, h => by simp at h
  | _ :: _, [], _, _, h => by simp at h
  | t :: ts, ab :: rs, dg, lf, h => by
    simp only [lqS, List.length_cons]
    rw [lqS_len x ts rs _ _ (by simpa using h)]
def lqR (x i : Nat) (ts row : List Nat) : List Nat := (i + 1) :: lqS x (row.getD 0 0) (i + 1) ts (row.drop 1)
def lqA (ts : List Nat) : List Nat → Nat → List Nat → List Nat
  | [], _, row => row
  | x :: xs, i, row => lqA ts xs (i + 1) (lqR x i ts row)
def lev (xs ts : List Nat) : Nat := (lqA ts xs 0 (List.range (ts.length + 1))).getD ts.length 0
def rowB (row : List Nat) (b : Nat) : Prop := ∀ v ∈ row, v ≤ b
theorem lqS_B (x b : Nat) : ∀ (ts rs : List Nat) (dg lf : Nat), dg ≤ b → rowB rs b → rowB (lqS x dg lf ts rs) (b + 1)
  | [], _, _, _, _, _ => fun v hv => by simp [lqS] at hv
  | _ :: _, [], _, _, _, _ => fun v hv => by simp [lqS] at hv
  | t :: ts, ab :: rs, dg, lf, hd, hr => fun v hv => by
    simp only [lqS] at hv
    rcases List.mem_cons.mp hv with rfl | hv
    · have : (if x = t then dg else dg + 1) ≤ b + 1 := by split <;> omega
      omega
    · exact lqS_B x b ts rs _ _ (hr ab List.mem_cons_self) (fun w hw => hr w (List.mem_cons_of_mem _ hw)) v hv
theorem lqR_len {x i : Nat} {ts row : List Nat} (h : row.length = ts.length + 1) : (lqR x i ts row).length = ts.length + 1 := by
  unfold lqR; rw [List.length_cons, lqS_len]; rw [List.length_drop]; omega
theorem lqR_B {x i b : Nat} {ts row : List Nat} (h : row.length = ts.length + 1) (hb : rowB row b) (hi : i ≤ b) : rowB (lqR x i ts row) (b + 1) := by
  intro v hv
  unfold lqR at hv
  rcases List.mem_cons.mp hv with rfl | hv
  · omega
  · refine lqS_B x b _ _ _ _ ?_ (fun w hw => hb w (List.mem_of_mem_drop hw)) v hv
    rw [gD (by omega)]; exact hb _ (List.getElem_mem _)
/-- a row of ints holds a list -/
def Row (g : Nat → Int32) (row : List Nat) : Prop := ∀ (j : Nat) (hj : j < row.length), g j = nI row[j]
theorem Row.set {g : Nat → Int32} {row : List Nat} {j v : Nat} (h : Row g row) : Row (upd g j (nI v)) (row.set j v) := by
  intro q hq
  rw [List.length_set] at hq
  rw [List.getElem_set]
  by_cases hqj : j = q
  · subst hqj; rw [upd_s, if_pos rfl]
  · rw [upd_n (Ne.symm hqj), if_neg hqj]; exact h q hq
theorem Row.go {g : Nat → Int32} {N O : List Nat} {lf ab v j : Nat} (hN : N.length = j) (h : Row g (N ++ [lf] ++ (ab :: O))) : Row (upd g (j + 1) (nI v)) (N ++ [lf] ++ [v] ++ O) := by
  have e : N ++ [lf] ++ [v] ++ O = (N ++ [lf] ++ (ab :: O)).set (j + 1) v := by
    rw [List.set_append_right _ _ (by simp; omega)]
    simp [hN]
  rw [e]
  exact h.set
section D23
variable {l : Launch} {X : EX} {hp : HPt} {xs ts : List Nat}
set_option maxRecDepth 100000 in
set_option maxHeartbeats 4000000 in
theorem d_ndL {f f2 : Nat → Int32} {hp0 : HPt} {i b : Nat} {Rs : List Nat} (hi : i < xs.length) (hb : b ≤ 1000) (hf : ∀ (i : Nat) (hi : i < xs.length), f i = nI xs[i]) (hf2 : ∀ (i : Nat) (hi : i < ts.length), f2 i = nI ts[i]) (hL : xs.length ≤ 96) (gL : ts.length ≤ 96) (hC : ∀ c ∈ xs, c < 128) (gC : ∀ c ∈ ts, c < 128) : ∀ (d : Nat) (hp : HPt) (g : Nat → Int32) (j dg lf : Nat) (N O : List Nat) (lo1 lo2 : Option Value), j + d = ts.length → N.length = j → O.length = d → Row g (N ++ [lf] ++ O) → dg ≤ b → lf ≤ b + 1 → rowB O b → hp[47]? = some (ob 9 [.ref 48, .ref 49, .int (nI xs.length)]) → hp[48]? = some (ia 96 f) → hp[49]? = some (ia 97 g) → hp[50]? = some (ob 9 [.ref 51, .ref 52, .int (nI ts.length)]) → hp[51]? = some (ia 96 f2) → Fr [49] hp0 hp → Rs = N ++ [lf] ++ lqS xs[i] dg lf (ts.drop j) O → PZ l X (MZv X mX10_nextDistances (fun hp' => (∃ g', hp'[49]? = some (ia 97 g') ∧ Row g' Rs) ∧ Fr [49] hp0 hp')) mX10_nextDistances 19 [some (.ref 47), some (.int (nI i)), some (.ref 50), some (.int (nI dg)), some (.int (nI (j + 1))), lo1, lo2] [] hp 0 0 := by
  intro d
  induction d with
  | zero =>
    intro hp g j dg lf N O lo1 lo2 hj hN hO hR hdg hlf hOb H1 H2 H3 G1 G2 hF hRs
    refine R_iload dX10_nextDistances_19 rfl ?_
    refine R_aload_n dX10_nextDistances_21 rfl rfl ?_
    refine R_getf dX10_nextDistances_22 gX10_18 G1 rfl ?_
    refine N_icmp_gt (tgt := 101) dX10_nextDistances_25 (by decide) (by omega) (by omega) (fun _ => ?_) (fun hc => absurd hc (by omega))
    exact R_retv dX10_nextDistances_101 rfl rfl rfl ⟨⟨g, H3, by rw [hRs, List.drop_eq_nil_of_le (by omega), List.length_eq_zero_iff.mp hO] at *; exact hR⟩, hF⟩
  | succ d ih =>
    intro hp g j dg lf N O lo1 lo2 hj hN hO hR hdg hlf hOb H1 H2 H3 G1 G2 hF hRs
    have h1 : j < ts.length := by omega
    obtain ⟨ab, O, rfl⟩ : ∃ ab O', O = ab :: O' := by
      cases O with
      | nil => simp at hO
      | cons a t => exact ⟨a, t, rfl⟩
    have hab := hOb ab List.mem_cons_self
    have eab : g (j + 1) = nI ab := by
      rw [hR (j + 1) (by simp; omega)]; congr 1
      rw [List.getElem_append_right (by simp; omega)]; simp [hN]
    have elf : g j = nI lf := by
      rw [hR j (by simp; omega)]; congr 1
      rw [List.getElem_append_left (by simp; omega), List.getElem_append_right (by omega)]; simp [hN]
    rw [drop_c h1] at hRs; simp only [lqS] at hRs
    have hx1 := hC _ (List.getElem_mem hi)
    have ht1 := gC _ (List.getElem_mem h1)
    refine R_iload dX10_nextDistances_19 rfl ?_
    refine R_aload_n dX10_nextDistances_21 rfl rfl ?_
    refine R_getf dX10_nextDistances_22 gX10_18 G1 rfl ?_
    refine N_icmp_gt (tgt := 101) dX10_nextDistances_25 (by decide) (by omega) (by omega) (fun hc => absurd hc (by omega)) (fun _ => ?_)
    refine R_aload_n dX10_nextDistances_28 rfl rfl ?_
    refine R_getf dX10_nextDistances_29 gX10_15 H1 rfl ?_
    refine R_iload dX10_nextDistances_32 rfl ?_
    refine N_iald (y := (nI ab)) dX10_nextDistances_34 H3 (by omega) (by decide) eab ?_
    refine R_istore (lv' := [some (.ref 47), some (.int (nI i)), some (.ref 50), some (.int (nI dg)), some (.int (nI (j + 1))), some (.int (nI ab)), lo2]) dX10_nextDistances_35 (by decide) rfl ?_
    refine R_aload_n dX10_nextDistances_37 rfl rfl ?_
    refine R_getf dX10_nextDistances_38 gX10_9 H1 rfl ?_
    refine R_iload_n dX10_nextDistances_41 rfl rfl ?_
    refine N_iald (y := (nI (xs[i]))) dX10_nextDistances_42 H2 (by omega) (by decide) (hf i hi) ?_
    refine R_aload_n dX10_nextDistances_43 rfl rfl ?_
    refine R_getf dX10_nextDistances_44 gX10_9 G1 rfl ?_
    refine R_iload dX10_nextDistances_47 rfl ?_
    refine R_iconst (v := (nI 1)) dX10_nextDistances_49 (by decide) ?_
    refine N_isub dX10_nextDistances_50 (by omega) ?_
    rw [show j + 1 - 1 = j by omega]
    refine N_iald (y := (nI (ts[j]))) dX10_nextDistances_51 G2 (by omega) (by decide) (hf2 j h1) ?_
    refine N_icmp_ne (tgt := 59) dX10_nextDistances_52 (by decide) (by omega) (by omega) (fun he => ?_) (fun he => ?_)
    · refine R_iload_n dX10_nextDistances_59 rfl rfl ?_
      refine R_iconst (v := (nI 1)) dX10_nextDistances_60 (by decide) ?_
      refine N_iadd dX10_nextDistances_61 ?_
      refine R_istore (lv' := [some (.ref 47), some (.int (nI i)), some (.ref 50), some (.int (nI dg)), some (.int (nI (j + 1))), some (.int (nI ab)), some (.int (nI (dg + 1)))]) dX10_nextDistances_62 (by decide) rfl ?_
      refine R_aload_n dX10_nextDistances_64 rfl rfl ?_
      refine R_getf dX10_nextDistances_65 gX10_15 H1 rfl ?_
      refine R_iload dX10_nextDistances_68 rfl ?_
      refine R_iload dX10_nextDistances_70 rfl ?_
      refine R_iload dX10_nextDistances_72 rfl ?_
      refine R_aload_n dX10_nextDistances_74 rfl rfl ?_
      refine R_getf dX10_nextDistances_75 gX10_15 H1 rfl ?_
      refine R_iload dX10_nextDistances_78 rfl ?_
      refine R_iconst (v := (nI 1)) dX10_nextDistances_80 (by decide) ?_
      refine N_isub dX10_nextDistances_81 (by omega) ?_
      rw [show j + 1 - 1 = j by omega]
      refine N_iald (y := (nI lf)) dX10_nextDistances_82 H3 (by omega) (by decide) elf ?_
      refine R_min dX10_nextDistances_83 lmX10_49 (by decide) (Nat.le_of_ble_eq_true rfl) ⟨Nat.le_refl _, Nat.le_refl _⟩ ?_
      rw [min_n (by omega) (by omega)]
      refine R_iconst (v := (nI 1)) dX10_nextDistances_86 (by decide) ?_
      refine N_iadd dX10_nextDistances_87 ?_
      refine R_min dX10_nextDistances_88 lmX10_49 (by decide) (Nat.le_of_ble_eq_true rfl) ⟨Nat.le_refl _, Nat.le_refl _⟩ ?_
      rw [min_n (by omega) (by omega)]
      obtain ⟨wf1, ewf1⟩ : ∃ y, y = upd g (j + 1) (nI (min (dg + 1) (min ab lf + 1))) := ⟨_, rfl⟩
      refine W_iast (f' := wf1) dX10_nextDistances_91 H3 (by omega) (by decide) ewf1 (fun wp2 wH3 wE4 => ?_)
      have wH5 := (wE4 47 (by decide)).trans H1
      have wH6 := (wE4 48 (by decide)).trans H2
      have wH7 := (wE4 50 (by decide)).trans G1
      have wH8 := (wE4 51 (by decide)).trans G2
      have wF9 : Fr [49] hp0 wp2 := hF.trans (Fr.one wE4 (by simp))
      refine R_iload dX10_nextDistances_92 rfl ?_
      refine R_istore_n (lv' := [some (.ref 47), some (.int (nI i)), some (.ref 50), some (.int (nI ab)), some (.int (nI (j + 1))), some (.int (nI ab)), some (.int (nI (dg + 1)))]) dX10_nextDistances_94 rfl (by decide) rfl ?_
      refine N_iinc (d := 1) (lv' := [some (.ref 47), some (.int (nI i)), some (.ref 50), some (.int (nI ab)), some (.int (nI (j + 1 + 1))), some (.int (nI ab)), some (.int (nI (dg + 1)))]) dX10_nextDistances_95 rfl rfl ?_
      refine R_goto (tgt := 19) dX10_nextDistances_98 (by decide) ?_
      rw [if_neg he] at hRs
      exact ih _ wf1 (j + 1) ab (min (dg + 1) (min ab lf + 1)) (N ++ [lf]) O _ _ (by omega) (by simp; omega) (by simpa using hO) (by rw [ewf1]; exact Row.go hN hR) hab (by omega) (fun w hw => hOb w (List.mem_cons_of_mem _ hw)) wH5 wH6 wH3 wH7 wH8 wF9 (by rw [hRs]; simp)
    · refine R_iload_n dX10_nextDistances_55 rfl rfl ?_
      refine R_goto (tgt := 62) dX10_nextDistances_56 (by decide) ?_
      refine R_istore (lv' := [some (.ref 47), some (.int (nI i)), some (.ref 50), some (.int (nI dg)), some (.int (nI (j + 1))), some (.int (nI ab)), some (.int (nI dg))]) dX10_nextDistances_62 (by decide) rfl ?_
      refine R_aload_n dX10_nextDistances_64 rfl rfl ?_
      refine R_getf dX10_nextDistances_65 gX10_15 H1 rfl ?_
      refine R_iload dX10_nextDistances_68 rfl ?_
      refine R_iload dX10_nextDistances_70 rfl ?_
      refine R_iload dX10_nextDistances_72 rfl ?_
      refine R_aload_n dX10_nextDistances_74 rfl rfl ?_
      refine R_getf dX10_nextDistances_75 gX10_15 H1 rfl ?_
      refine R_iload dX10_nextDistances_78 rfl ?_
      refine R_iconst (v := (nI 1)) dX10_nextDistances_80 (by decide) ?_
      refine N_isub dX10_nextDistances_81 (by omega) ?_
      rw [show j + 1 - 1 = j by omega]
      refine N_iald (y := (nI lf)) dX10_nextDistances_82 H3 (by omega) (by decide) elf ?_
      refine R_min dX10_nextDistances_83 lmX10_49 (by decide) (Nat.le_of_ble_eq_true rfl) ⟨Nat.le_refl _, Nat.le_refl _⟩ ?_
      rw [min_n (by omega) (by omega)]
      refine R_iconst (v := (nI 1)) dX10_nextDistances_86 (by decide) ?_
      refine N_iadd dX10_nextDistances_87 ?_
      refine R_min dX10_nextDistances_88 lmX10_49 (by decide) (Nat.le_of_ble_eq_true rfl) ⟨Nat.le_refl _, Nat.le_refl _⟩ ?_
      rw [min_n (by omega) (by omega)]
      obtain ⟨wf10, ewf10⟩ : ∃ y, y = upd g (j + 1) (nI (min (dg) (min ab lf + 1))) := ⟨_, rfl⟩
      refine W_iast (f' := wf10) dX10_nextDistances_91 H3 (by omega) (by decide) ewf10 (fun wp11 wH12 wE13 => ?_)
      have wH14 := (wE13 47 (by decide)).trans H1
      have wH15 := (wE13 48 (by decide)).trans H2
      have wH16 := (wE13 50 (by decide)).trans G1
      have wH17 := (wE13 51 (by decide)).trans G2
      have wF18 : Fr [49] hp0 wp11 := hF.trans (Fr.one wE13 (by simp))
      refine R_iload dX10_nextDistances_92 rfl ?_
      refine R_istore_n (lv' := [some (.ref 47), some (.int (nI i)), some (.ref 50), some (.int (nI ab)), some (.int (nI (j + 1))), some (.int (nI ab)), some (.int (nI dg))]) dX10_nextDistances_94 rfl (by decide) rfl ?_
      refine N_iinc (d := 1) (lv' := [some (.ref 47), some (.int (nI i)), some (.ref 50), some (.int (nI ab)), some (.int (nI (j + 1 + 1))), some (.int (nI ab)), some (.int (nI dg))]) dX10_nextDistances_95 rfl rfl ?_
      refine R_goto (tgt := 19) dX10_nextDistances_98 (by decide) ?_
      rw [if_pos he] at hRs
      exact ih _ wf10 (j + 1) ab (min (dg) (min ab lf + 1)) (N ++ [lf]) O _ _ (by omega) (by simp; omega) (by simpa using hO) (by rw [ewf10]; exact Row.go hN hR) hab (by omega) (fun w hw => hOb w (List.mem_cons_of_mem _ hw)) wH14 wH15 wH12 wH16 wH17 wF18 (by rw [hRs]; simp)
set_option maxRecDepth 100000 in
set_option maxHeartbeats 4000000 in
theorem d_next {f g f2 : Nat → Int32} {i b : Nat} {row : List Nat} (hi : i < xs.length) (hb : b ≤ 900) (hib : i ≤ b) (hrl : row.length = ts.length + 1) (hrow : Row g row) (hrb : rowB row b) (H1 : hp[47]? = some (ob 9 [.ref 48, .ref 49, .int (nI xs.length)])) (H2 : hp[48]? = some (ia 96 f)) (H3 : hp[49]? = some (ia 97 g)) (G1 : hp[50]? = some (ob 9 [.ref 51, .ref 52, .int (nI ts.length)])) (G2 : hp[51]? = some (ia 96 f2)) (hf : ∀ (i : Nat) (hi : i < xs.length), f i = nI xs[i]) (hf2 : ∀ (i : Nat) (hi : i < ts.length), f2 i = nI ts[i]) (hL : xs.length ≤ 96) (gL : ts.length ≤ 96) (hC : ∀ c ∈ xs, c < 128) (gC : ∀ c ∈ ts, c < 128) : SpV l X mX10_nextDistances [.ref 47, .int (nI i), .ref 50] hp (fun hp' => (∃ g', hp'[49]? = some (ia 97 g') ∧ Row g' (lqR xs[i] i ts row)) ∧ Fr [49] hp hp') := by
  refine SpV.of pnX10 (Nat.le_of_ble_eq_true rfl) rfl ?_
  refine R_aload_n dX10_nextDistances_0 rfl rfl ?_
  refine R_getf dX10_nextDistances_1 gX10_15 H1 rfl ?_
  refine R_iconst (v := (nI 0)) dX10_nextDistances_4 (by decide) ?_
  refine N_iald (y := (nI (row.getD 0 0))) dX10_nextDistances_5 H3 (by omega) (by decide) (by rw [gD (by omega)]; exact hrow 0 (by omega)) ?_
  refine R_istore_n (lv' := [some (.ref 47), some (.int (nI i)), some (.ref 50), some (.int (nI (row.getD 0 0))), none, none, none]) dX10_nextDistances_6 rfl (by decide) rfl ?_
  refine R_aload_n dX10_nextDistances_7 rfl rfl ?_
  refine R_getf dX10_nextDistances_8 gX10_15 H1 rfl ?_
  refine R_iconst (v := (nI 0)) dX10_nextDistances_11 (by decide) ?_
  refine R_iload_n dX10_nextDistances_12 rfl rfl ?_
  refine R_iconst (v := (nI 1)) dX10_nextDistances_13 (by decide) ?_
  refine N_iadd dX10_nextDistances_14 ?_
  obtain ⟨wf1, ewf1⟩ : ∃ y, y = upd g 0 (nI (i + 1)) := ⟨_, rfl⟩
  refine W_iast (f' := wf1) dX10_nextDistances_15 H3 (by omega) (by decide) ewf1 (fun wp2 wH3 wE4 => ?_)
  have wH5 := (wE4 47 (by decide)).trans H1
  have wH6 := (wE4 48 (by decide)).trans H2
  have wH7 := (wE4 50 (by decide)).trans G1
  have wH8 := (wE4 51 (by decide)).trans G2
  have wF9 : Fr [49] hp wp2 := Fr.one wE4 (by simp)
  refine R_iconst (v := (nI 1)) dX10_nextDistances_16 (by decide) ?_
  refine R_istore (lv' := [some (.ref 47), some (.int (nI i)), some (.ref 50), some (.int (nI (row.getD 0 0))), some (.int (nI 1)), none, none]) dX10_nextDistances_17 (by decide) rfl ?_
  have hdr : row = row.getD 0 0 :: row.drop 1 := by
    cases row with
    | nil => simp at hrl
    | cons a t => simp
  have hd0 : row.getD 0 0 ≤ b := by rw [gD (by omega)]; exact hrb _ (List.getElem_mem _)
  refine d_ndL hi (b := b) (by omega) hf hf2 hL gL hC gC ts.length _ wf1 0 _ (i + 1) [] (row.drop 1) _ _ (by omega) rfl (by rw [List.length_drop]; omega) (fun q hq => ?_) hd0 (by omega) (fun w hw => hrb w (List.mem_of_mem_drop hw)) wH5 wH6 wH3 wH7 wH8 wF9 (by unfold lqR; simp)
  rw [ewf1]
  match q, hq with
  | 0, _ => rw [upd_s]; simp
  | q + 1, hq =>
    have hq2 : q < (row.drop 1).length := by simpa using hq
    rw [upd_n (by omega), hrow (q + 1) (by rw [List.length_drop] at hq2; omega)]; congr 1
    simp
theorem range_get {n j : Nat} (h : j < (List.range n).length) : (List.range n)[j] = j := by simp
set_option maxRecDepth 100000 in
set_option maxHeartbeats 4000000 in
theorem d_inL {f f2 : Nat → Int32} {hp0 : HPt} (hL : xs.length ≤ 96) (gL : ts.length ≤ 96) {Z : ZT} (kk : ∀ (hp : HPt) (g : Nat → Int32), Row g (List.range (ts.length + 1)) → hp[47]? = some (ob 9 [.ref 48, .ref 49, .int (nI xs.length)]) → hp[48]? = some (ia 96 f) → hp[49]? = some (ia 97 g) → hp[50]? = some (ob 9 [.ref 51, .ref 52, .int (nI ts.length)]) → hp[51]? = some (ia 96 f2) → Fr [49] hp0 hp → PZ l X Z mX10_distanceTo 23 [some (.ref 47), some (.ref 50), some (.int (nI (ts.length + 1)))] [] hp 0 0) : ∀ (d : Nat) (hp : HPt) (g : Nat → Int32) (j : Nat), j + d = ts.length + 1 → (∀ q, q < j → g q = nI q) → hp[47]? = some (ob 9 [.ref 48, .ref 49, .int (nI xs.length)]) → hp[48]? = some (ia 96 f) → hp[49]? = some (ia 97 g) → hp[50]? = some (ob 9 [.ref 51, .ref 52, .int (nI ts.length)]) → hp[51]? = some (ia 96 f2) → Fr [49] hp0 hp → PZ l X Z mX10_distanceTo 2 [some (.ref 47), some (.ref 50), some (.int (nI j))] [] hp 0 0 := by
  intro d
  induction d with
  | zero =>
    intro hp g j hj hg H1 H2 H3 G1 G2 hF
    refine R_iload_n dX10_distanceTo_2 rfl rfl ?_
    refine R_aload_n dX10_distanceTo_3 rfl rfl ?_
    refine R_getf dX10_distanceTo_4 gX10_18 G1 rfl ?_
    refine N_icmp_gt (tgt := 23) dX10_distanceTo_7 (by decide) (by omega) (by omega) (fun _ => ?_) (fun hc => absurd hc (by omega))
    have hje : j = ts.length + 1 := by omega
    subst hje
    exact kk hp g (fun q hq => by rw [range_get hq]; exact hg q (by simpa using hq)) H1 H2 H3 G1 G2 hF
  | succ d ih =>
    intro hp g j hj hg H1 H2 H3 G1 G2 hF
    refine R_iload_n dX10_distanceTo_2 rfl rfl ?_
    refine R_aload_n dX10_distanceTo_3 rfl rfl ?_
    refine R_getf dX10_distanceTo_4 gX10_18 G1 rfl ?_
    refine N_icmp_gt (tgt := 23) dX10_distanceTo_7 (by decide) (by omega) (by omega) (fun hc => absurd hc (by omega)) (fun _ => ?_)
    refine R_aload_n dX10_distanceTo_10 rfl rfl ?_
    refine R_getf dX10_distanceTo_11 gX10_15 H1 rfl ?_
    refine R_iload_n dX10_distanceTo_14 rfl rfl ?_
    refine R_iload_n dX10_distanceTo_15 rfl rfl ?_
    obtain ⟨wf1, ewf1⟩ : ∃ y, y = upd g j (nI j) := ⟨_, rfl⟩
    refine W_iast (f' := wf1) dX10_distanceTo_16 H3 (by omega) (by decide) ewf1 (fun wp2 wH3 wE4 => ?_)
    have wH5 := (wE4 47 (by decide)).trans H1
    have wH6 := (wE4 48 (by decide)).trans H2
    have wH7 := (wE4 50 (by decide)).trans G1
    have wH8 := (wE4 51 (by decide)).trans G2
    have wF9 : Fr [49] hp0 wp2 := hF.trans (Fr.one wE4 (by simp))
    refine N_iinc (d := 1) (lv' := [some (.ref 47), some (.ref 50), some (.int (nI (j + 1)))]) dX10_distanceTo_17 rfl rfl ?_
    refine R_goto (tgt := 2) dX10_distanceTo_20 (by decide) ?_
    refine ih _ wf1 (j + 1) (by omega) (fun q hq => ?_) wH5 wH6 wH3 wH7 wH8 wF9
    rw [ewf1]
    by_cases hqj : q = j
    · subst hqj; exact upd_s
    · rw [upd_n hqj]; exact hg q (by omega)
set_option maxRecDepth 100000 in
set_option maxHeartbeats 4000000 in
theorem d_dtL {f f2 : Nat → Int32} {hp0 : HPt} {R : Nat} (hL : xs.length ≤ 96) (gL : ts.length ≤ 96) (hf : ∀ (i : Nat) (hi : i < xs.length), f i = nI xs[i]) (hf2 : ∀ (i : Nat) (hi : i < ts.length), f2 i = nI ts[i]) (hC : ∀ c ∈ xs, c < 128) (gC : ∀ c ∈ ts, c < 128) : ∀ (d : Nat) (hp : HPt) (g : Nat → Int32) (i : Nat) (row : List Nat), i + d = xs.length → row.length = ts.length + 1 → Row g row → rowB row (ts.length + i) → hp[47]? = some (ob 9 [.ref 48, .ref 49, .int (nI xs.length)]) → hp[48]? = some (ia 96 f) → hp[49]? = some (ia 97 g) → hp[50]? = some (ob 9 [.ref 51, .ref 52, .int (nI ts.length)]) → hp[51]? = some (ia 96 f2) → Fr [49] hp0 hp → R = (lqA ts (xs.drop i) i row).getD ts.length 0 → PZ l X (MZi X mX10_distanceTo (fun r hp' => r = nI R ∧ (∃ g', hp'[49]? = some (ia 97 g')) ∧ Fr [49] hp0 hp')) mX10_distanceTo 25 [some (.ref 47), some (.ref 50), some (.int (nI i))] [] hp 0 0 := by
  intro d
  induction d with
  | zero =>
    intro hp g i row hi hrl hrow hrb H1 H2 H3 G1 G2 hF hR
    refine R_iload_n dX10_distanceTo_25 rfl rfl ?_
    refine R_aload_n dX10_distanceTo_26 rfl rfl ?_
    refine R_getf dX10_distanceTo_27 gX10_18 H1 rfl ?_
    refine N_icmp_ge (tgt := 45) dX10_distanceTo_30 (by decide) (by omega) (by omega) (fun _ => ?_) (fun hc => absurd hc (by omega))
    refine R_aload_n dX10_distanceTo_45 rfl rfl ?_
    refine R_getf dX10_distanceTo_46 gX10_15 H1 rfl ?_
    refine R_aload_n dX10_distanceTo_49 rfl rfl ?_
    refine R_getf dX10_distanceTo_50 gX10_18 G1 rfl ?_
    refine N_iald (y := (nI R)) dX10_distanceTo_53 H3 (by omega) (by decide) (by rw [hR, List.drop_eq_nil_of_le (by omega)]; simp only [lqA]; rw [gD (by omega)]; exact hrow _ (by omega)) ?_
    exact R_reti dX10_distanceTo_54 rfl rfl rfl ⟨rfl, ⟨g, H3⟩, hF⟩
  | succ d ih =>
    intro hp g i row hi hrl hrow hrb H1 H2 H3 G1 G2 hF hR
    have h1 : i < xs.length := by omega
    rw [drop_c h1] at hR; simp only [lqA] at hR
    refine R_iload_n dX10_distanceTo_25 rfl rfl ?_
    refine R_aload_n dX10_distanceTo_26 rfl rfl ?_
    refine R_getf dX10_distanceTo_27 gX10_18 H1 rfl ?_
    refine N_icmp_ge (tgt := 45) dX10_distanceTo_30 (by decide) (by omega) (by omega) (fun hc => absurd hc (by omega)) (fun _ => ?_)
    refine R_aload_n dX10_distanceTo_33 rfl rfl ?_
    refine R_iload_n dX10_distanceTo_34 rfl rfl ?_
    refine R_aload_n dX10_distanceTo_35 rfl rfl ?_
    refine R_callv (As := [.int (nI i), .ref 50]) (st := []) kX10_nextDistances lX10_45 (d_next (b := ts.length + i) h1 (by omega) (by omega) hrl hrow hrb H1 H2 H3 G1 G2 hf hf2 hL gL hC gC) rfl H1 dX10_distanceTo_36 rfl rfl (Nat.le_of_ble_eq_true rfl) ⟨by decide, by decide⟩ zX10_nextDistances ⟨Nat.le_refl _, Nat.le_refl _⟩ (fun wp2 wq1 => ?_)
    obtain ⟨⟨g', K3, hrow'⟩, hq⟩ := wq1
    refine N_iinc (d := 1) (lv' := [some (.ref 47), some (.ref 50), some (.int (nI (i + 1)))]) dX10_distanceTo_39 rfl rfl ?_
    refine R_goto (tgt := 25) dX10_distanceTo_42 (by decide) ?_
    exact ih _ g' (i + 1) _ (by omega) (lqR_len hrl) hrow' (lqR_B (b := ts.length + i) hrl hrb (by omega)) (hq.at (by decide) H1) (hq.at (by decide) H2) K3 (hq.at (by decide) G1) (hq.at (by decide) G2) (hF.trans hq) hR
set_option maxRecDepth 100000 in
set_option maxHeartbeats 4000000 in
theorem d_dist (hX : TxAt hp 47 48 49 xs) (hY : TxAt hp 50 51 52 ts) : SpI l X mX10_distanceTo [.ref 47, .ref 50] hp (fun r hp' => r = nI (lev xs ts) ∧ (∃ g', hp'[49]? = some (ia 97 g')) ∧ Fr [49] hp hp') := by
  obtain ⟨f, g, H1, H2, H3, hf, hL, hC⟩ := hX
  obtain ⟨f2, g2, G1, G2, G3, hf2, gL, gC⟩ := hY
  refine SpI.of pnX10 (Nat.le_of_ble_eq_true rfl) rfl ?_
  refine R_iconst (v := (nI 0)) dX10_distanceTo_0 (by decide) ?_
  refine R_istore_n (lv' := [some (.ref 47), some (.ref 50), some (.int (nI 0))]) dX10_distanceTo_1 rfl (by decide) rfl ?_
  refine d_inL (f := f) (f2 := f2) (hp0 := hp) hL gL (fun hp g hrow H1 H2 H3 G1 G2 hF => ?_) (ts.length + 1) hp g 0 (by omega) (fun q hq => absurd hq (by omega)) H1 H2 H3 G1 G2 Fr.rf
  refine R_iconst (v := (nI 0)) dX10_distanceTo_23 (by decide) ?_
  refine R_istore_n (lv' := [some (.ref 47), some (.ref 50), some (.int (nI 0))]) dX10_distanceTo_24 rfl (by decide) rfl ?_
  exact d_dtL hL gL hf hf2 hC gC xs.length _ g 0 _ (by omega) (by simp) hrow (fun v hv => by rw [List.mem_range] at hv; omega) H1 H2 H3 G1 G2 hF rfl
end D23
