/-! THE DOCUMENT'S WORDS, as functions of numbers and lists -/
def cAft (un c p : Nat) : Nat := if c = 29 then 1 else if c = 30 then 0 else if c = 26 ∧ un = 1 then 0 else p
def cAll (un p : Nat) (cs : List Nat) : Nat := cs.foldl (fun q c => cAft un c q) p
/-- the case just before the code at index i -/
def cAt (un sc : Nat) (cs : List Nat) (i : Nat) : Nat := cAll un sc (cs.take i)
def figL : List Nat := [48, 49, 50, 51, 52, 53, 54, 55, 56, 57, 45, 63, 58, 40, 41, 46, 44, 47, 61, 39, 43, 33, 38, 37, 59, 36]
def fig (c : Nat) : Nat := figL.getD c 36
/-- the character that a code below 29 prints -/
def ch (c p : Nat) : Nat := if c < 26 then (if p = 1 then fig c else 65 + c) else if c = 26 then 32 else if c = 27 then 10 else 13
/-- what a code prints, -1 for nothing -/
def prt (c p : Nat) : Int32 := if c < 29 then nI (ch c p) else -1
theorem cAft_le {un c p : Nat} (h : p ≤ 1) : cAft un c p ≤ 1 := by unfold cAft; split <;> (try split) <;> (try split) <;> omega
theorem cAll_le {un : Nat} : ∀ (cs : List Nat) {p : Nat}, p ≤ 1 → cAll un p cs ≤ 1
  | [], _, h => h
  | c :: t, p, h => cAll_le t (p := cAft un c p) (cAft_le h)
theorem cAll_app (un p : Nat) (a b : List Nat) : cAll un p (a ++ b) = cAll un (cAll un p a) b := by unfold cAll; rw [List.foldl_append]
theorem cAt_le {un sc : Nat} {cs : List Nat} {i : Nat} (h : sc ≤ 1) : cAt un sc cs i ≤ 1 := cAll_le _ h
theorem cAt_0 (un sc : Nat) (cs : List Nat) : cAt un sc cs 0 = sc := by simp [cAt, cAll]
theorem take_s {α : Type} {cs : List α} {i : Nat} (h : i < cs.length) : cs.take (i + 1) = cs.take i ++ [cs[i]] := by
  rw [List.take_succ, List.getElem?_eq_getElem h]; rfl
theorem cAt_s {un sc : Nat} {cs : List Nat} {i : Nat} (h : i < cs.length) : cAt un sc cs (i + 1) = cAft un cs[i] (cAt un sc cs i) := by
  unfold cAt
  rw [take_s h, cAll_app]; rfl
theorem cAt_n {un sc : Nat} {cs : List Nat} {i : Nat} (h : cs.length ≤ i) : cAt un sc cs i = cAll un sc cs := by
  unfold cAt; rw [List.take_of_length_le h]
theorem fig_lt : ∀ c, c < 26 → fig c < 128 := by decide
theorem fig_fn : ∀ c, c < 26 → figL.getD c 36 = fig c := by decide
theorem ch_lt {c p : Nat} (h : c < 29) : ch c p < 128 := by
  unfold ch
  split
  · split
    · exact fig_lt c (by assumption)
    · omega
  · split
    · omega
    · split <;> omega
/-- the printed text from case p on -/
def txt (un : Nat) : Nat → List Nat → List Nat
  | _, [] => []
  | p, c :: t => if c < 29 then ch c p :: txt un (cAft un c p) t else txt un (cAft un c p) t
theorem txt_app (un : Nat) : ∀ (a : List Nat) (p : Nat) (b : List Nat), txt un p (a ++ b) = txt un p a ++ txt un (cAll un p a) b
  | [], p, b => rfl
  | c :: t, p, b => by
    show txt un p (c :: (t ++ b)) = txt un p (c :: t) ++ txt un (cAll un (cAft un c p) t) b
    simp only [txt]
    split
    · rw [txt_app un t, List.cons_append]
    · rw [txt_app un t]
theorem txt_s {un sc : Nat} {cs : List Nat} {i : Nat} (h : i < cs.length) : txt un sc (cs.take (i + 1)) = txt un sc (cs.take i) ++ (if cs[i] < 29 then [ch cs[i] (cAt un sc cs i)] else []) := by
  rw [take_s h, txt_app]
  congr 1
theorem txt_len (un : Nat) : ∀ (cs : List Nat) (p : Nat), (txt un p cs).length ≤ cs.length
  | [], _ => Nat.le_refl _
  | c :: t, p => by
    simp only [txt]
    have := txt_len un t (cAft un c p)
    split
    · simp only [List.length_cons]; omega
    · simp only [List.length_cons]; omega
theorem txt_lt (un : Nat) : ∀ (cs : List Nat) (p : Nat), ∀ x ∈ txt un p cs, x < 128
  | [], _, x, h => by cases h
  | c :: t, p, x, h => by
    simp only [txt] at h
    split at h
    · rcases List.mem_cons.mp h with rfl | h
      · exact ch_lt (by assumption)
      · exact txt_lt un t _ x h
    · exact txt_lt un t _ x h
/-- the code of a character: 255 if none; its case: 2 for both -/
def cof (x : Nat) : Nat := if x = 32 then 26 else if x = 10 then 27 else if x = 13 then 28 else if 65 ≤ x ∧ x ≤ 90 then x - 65 else if x ∈ figL then figL.idxOf x else 255
def cfor (x : Nat) : Nat := if 65 ≤ x ∧ x ≤ 90 then 0 else if x ∈ figL then 1 else 2
/-- a state of the tape: codes, start case, option, width -/
abbrev TP : Type := List Nat × Nat × Nat × Nat
def TPok (T : TP) : Prop := T.1.length ≤ 96 ∧ (∀ c ∈ T.1, c < 32) ∧ T.2.1 ≤ 1 ∧ T.2.2.1 ≤ 1 ∧ 5 ≤ T.2.2.2 ∧ T.2.2.2 ≤ 40
theorem TPok.cd {T : TP} (h : TPok T) {i : Nat} (hi : i < T.1.length) : T.1[i] < 32 := h.2.1 _ (List.getElem_mem hi)
theorem prt_ne {c p : Nat} (h : 29 ≤ c) : prt c p = -1 := by unfold prt; rw [if_neg (by omega)]
theorem prt_in {c p : Nat} (h : c < 29) : prt c p = nI (ch c p) := by unfold prt; rw [if_pos h]
theorem nI_m1 {a : Nat} (h : a < 2 ^ 31) : ¬ nI a = -1 := fun e => by
  have h1 := nI_toInt h
  rw [e] at h1
  have : (-1 : Int32).toInt = -1 := by decide
  omega
theorem nz (v : Bool) : narrow .boolean (.int (if v then 1 else 0)) = .int (if v then 1 else 0) := by cases v <;> rfl
theorem nzc (c : Prop) [Decidable c] : narrow .boolean (.int (if c then nI 1 else nI 0)) = .int (if c then nI 1 else nI 0) := by split <;> rfl
