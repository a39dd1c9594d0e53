/-! RULES of the pure machine, an instruction each: stack, locals, numbers, branches -/
section RU
variable {l : Launch} {X : EX} {Z : ZT} {M : MT} {pc : Nat} {lv lv' : List (Option Value)} {st : List Value} {hp : HPt} {k n : Nat}
theorem R_iconst {i : Int} {v : Int32} (hd : DC M pc (.iconst i) 1) (hv : Int32.ofInt i = v) (kk : PZ l X Z M (pc + 1) lv (.int v :: st) hp k n) : PZ l X Z M pc lv st hp k n :=
  fun p e s m args below meth c H locs ls C hH hS hl => lv_iconst C.1 C.2.1 hd hv (kk p e s m args below meth c H locs ls C hH hS hl)
theorem R_bipush {i : Int} {v : Int32} (hd : DC M pc (.bipush i) 2) (hv : (Int8.ofInt i).toInt32 = v) (kk : PZ l X Z M (pc + 2) lv (.int v :: st) hp k n) : PZ l X Z M pc lv st hp k n :=
  fun p e s m args below meth c H locs ls C hH hS hl => lv_bipush C.1 C.2.1 hd hv (kk p e s m args below meth c H locs ls C hH hS hl)
theorem R_sipush {i : Int} {v : Int32} (hd : DC M pc (.sipush i) 3) (hv : (Int16.ofInt i).toInt32 = v) (kk : PZ l X Z M (pc + 3) lv (.int v :: st) hp k n) : PZ l X Z M pc lv st hp k n :=
  fun p e s m args below meth c H locs ls C hH hS hl => lv_sipush C.1 C.2.1 hd hv (kk p e s m args below meth c H locs ls C hH hS hl)
theorem R_lconst {i : Fin 2} {v : Int64} (hd : DC M pc (.lconst i) 1) (hv : Int64.ofNat i.val = v) (kk : PZ l X Z M (pc + 1) lv (.long v :: st) hp k n) : PZ l X Z M pc lv st hp k n :=
  fun p e s m args below meth c H locs ls C hH hS hl => lv_lconst C.1 C.2.1 hd hv (kk p e s m args below meth c H locs ls C hH hS hl)
theorem R_ldc2 {i : Nat} {v : Int64} (hd : DC M pc (.ldc2_w i) 3) (hv : Cond.constantLong (mY M).cls i v ∈ lw_tg) (kk : PZ l X Z M (pc + 3) lv (.long v :: st) hp k n) : PZ l X Z M pc lv st hp k n :=
  fun p e s m args below meth c H locs ls C hH hS hl => lv_ldc2 C.1 C.2.1 C.2.2.2.1 (C.2.2.2.2.2.2.2.1.1 _ hv args) hd (kk p e s m args below meth c H locs ls C hH hS hl)
theorem R_iload_n {j : Fin 4} {i : Nat} {x : Int32} (hd : DC M pc (.iload_n j) 1) (hi : (j : Nat) = i) (hv : lv[i]? = some (some (.int x))) (kk : PZ l X Z M (pc + 1) lv (.int x :: st) hp k n) : PZ l X Z M pc lv st hp k n :=
  fun p e s m args below meth c H locs ls C hH hS hl => lv_iload_n C.1 C.2.1 hd hi (hl.2.2 _ _ hv) (kk p e s m args below meth c H locs ls C hH hS hl)
theorem R_iload {i : Nat} {x : Int32} (hd : DC M pc (.iload i) 2) (hv : lv[i]? = some (some (.int x))) (kk : PZ l X Z M (pc + 2) lv (.int x :: st) hp k n) : PZ l X Z M pc lv st hp k n :=
  fun p e s m args below meth c H locs ls C hH hS hl => lv_iload C.1 C.2.1 hd (hl.2.2 _ _ hv) (kk p e s m args below meth c H locs ls C hH hS hl)
theorem R_lload_n {j : Fin 4} {i : Nat} {x : Int64} (hd : DC M pc (.lload_n j) 1) (hi : (j : Nat) = i) (hv : lv[i]? = some (some (.long x))) (kk : PZ l X Z M (pc + 1) lv (.long x :: st) hp k n) : PZ l X Z M pc lv st hp k n :=
  fun p e s m args below meth c H locs ls C hH hS hl => lv_lload_n C.1 C.2.1 hd hi (hl.2.2 _ _ hv) (kk p e s m args below meth c H locs ls C hH hS hl)
theorem R_lload {i : Nat} {x : Int64} (hd : DC M pc (.lload i) 2) (hv : lv[i]? = some (some (.long x))) (kk : PZ l X Z M (pc + 2) lv (.long x :: st) hp k n) : PZ l X Z M pc lv st hp k n :=
  fun p e s m args below meth c H locs ls C hH hS hl => lv_lload C.1 C.2.1 hd (hl.2.2 _ _ hv) (kk p e s m args below meth c H locs ls C hH hS hl)
theorem R_aload_n {j : Fin 4} {i h : Nat} (hd : DC M pc (.aload_n j) 1) (hi : (j : Nat) = i) (hv : lv[i]? = some (some (.ref h))) (kk : PZ l X Z M (pc + 1) lv (.ref h :: st) hp k n) : PZ l X Z M pc lv st hp k n :=
  fun p e s m args below meth c H locs ls C hH hS hl => lv_aload_n C.1 C.2.1 hd hi (hl.2.2 _ _ hv) (kk p e s m args below meth c H locs ls C hH hS hl)
theorem R_aload {i h : Nat} (hd : DC M pc (.aload i) 2) (hv : lv[i]? = some (some (.ref h))) (kk : PZ l X Z M (pc + 2) lv (.ref h :: st) hp k n) : PZ l X Z M pc lv st hp k n :=
  fun p e s m args below meth c H locs ls C hH hS hl => lv_aload C.1 C.2.1 hd (hl.2.2 _ _ hv) (kk p e s m args below meth c H locs ls C hH hS hl)
/-- an outside cell -/
theorem R_xload_n {j : Fin 4} {i h : Nat} (hd : DC M pc (.aload_n j) 1) (hi : (j : Nat) = i) (hv : lv[i]? = some (some (.retAddr h))) (kk : PZ l X Z M (pc + 1) lv (.retAddr h :: st) hp k n) : PZ l X Z M pc lv st hp k n :=
  fun p e s m args below meth c H locs ls C hH hS hl => lv_aload_n C.1 C.2.1 hd hi (hl.2.2 _ _ hv) (kk p e s m args below meth c H locs ls C hH hS hl)
def clr2 : Option Value → Option Value
  | some (.long _) => none
  | some (.double _) => none
  | o => o
def lput : List (Option Value) → Nat → Value → List (Option Value)
  | [], _, _ => []
  | _ :: t, 0, v => some v :: t
  | o :: t, 1, v => clr2 o :: lput t 0 v
  | o :: t, i + 2, v => o :: lput t (i + 1) v
theorem lput_get : ∀ (lv : List (Option Value)) (i : Nat) (v : Value) (j : Nat) (w : Value), (lput lv i v)[j]? = some (some w) → (j = i ∧ w = v) ∨ (j ≠ i ∧ lv[j]? = some (some w) ∧ ¬ (j + 1 = i ∧ w.category = 2))
  | [], i, v, j, w, h => by simp [lput] at h
  | o :: t, 0, v, 0, w, h => by
    simp only [lput, List.getElem?_cons_zero, Option.some.injEq] at h
    exact Or.inl ⟨rfl, h.symm⟩
  | o :: t, 0, v, j + 1, w, h => by
    simp only [lput, List.getElem?_cons_succ] at h
    exact Or.inr ⟨by omega, by simpa using h, by omega⟩
  | o :: t, 1, v, 0, w, h => by
    simp only [lput, List.getElem?_cons_zero, Option.some.injEq] at h
    cases o with
    | none => cases h
    | some a => cases a <;> first | (simp only [clr2] at h; cases h; exact Or.inr ⟨by omega, rfl, by simp [Value.category]⟩) | cases h
  | o :: t, 1, v, j + 1, w, h => by
    simp only [lput, List.getElem?_cons_succ] at h
    rcases lput_get t 0 v j w h with ⟨h1, h2⟩ | ⟨h1, h2, h3⟩
    · exact Or.inl ⟨by omega, h2⟩
    · exact Or.inr ⟨by omega, by simpa using h2, by omega⟩
  | o :: t, i + 2, v, 0, w, h => by
    simp only [lput, List.getElem?_cons_zero, Option.some.injEq] at h
    exact Or.inr ⟨by omega, by simpa using h, by omega⟩
  | o :: t, i + 2, v, j + 1, w, h => by
    simp only [lput, List.getElem?_cons_succ] at h
    rcases lput_get t (i + 1) v j w h with ⟨h1, h2⟩ | ⟨h1, h2, h3⟩
    · exact Or.inl ⟨by omega, h2⟩
    · exact Or.inr ⟨by omega, by simpa using h2, fun z => h3 ⟨by omega, z.2⟩⟩
def lvA (X : EX) (nL : Nat) (lv : List (Option Value)) : List (Nat × Value) := (List.range nL).filterMap (fun i => match lv[i]? with | some (some v) => some (i, xv X v) | _ => none)
theorem lvA_mem {X : EX} {nL i : Nat} {lv : List (Option Value)} {v : Value} (hi : i < nL) (h : lv[i]? = some (some v)) : (i, xv X v) ∈ lvA X nL lv :=
  List.mem_filterMap.mpr ⟨i, List.mem_range.mpr hi, by rw [h]⟩
theorem LV.has {X : EX} {ls : Array Slot} {nL : Nat} {lv : List (Option Value)} (h : LV X ls nL lv) : lv_has ls nL (lvA X nL lv) := by
  refine ⟨h.1, h.2.1, fun q hq => ?_⟩
  obtain ⟨i, -, hi⟩ := List.mem_filterMap.mp hq
  cases hv : lv[i]? with
  | none => rw [hv] at hi; cases hi
  | some o =>
    cases o with
    | none => rw [hv] at hi; cases hi
    | some v => rw [hv] at hi; cases hi; exact h.2.2 i v hv
theorem LV.lt {X : EX} {ls : Array Slot} {nL i : Nat} {lv : List (Option Value)} {v : Value} (h : LV X ls nL lv) (hv : lv[i]? = some (some v)) : i < nL := by
  rw [← h.1]
  exact (Array.getElem?_eq_some_iff.mp (h.2.2 i v hv)).1
theorem LV.put {X : EX} {ls ls' : Array Slot} {nL i : Nat} {lv : List (Option Value)} {v : Value} (h : LV X ls nL lv) (h' : lv_has ls' nL ((i, xv X v) :: (lvA X nL lv).filter (fun q => !(q.1 == i) && !(q.1 + 1 == i && q.2.category == 2)))) : LV X ls' nL (lput lv i v) := by
  refine ⟨h'.1, h'.2.1, fun j w hj => ?_⟩
  rcases lput_get lv i v j w hj with ⟨rfl, rfl⟩ | ⟨h1, h2, h3⟩
  · exact h'.2.2 _ List.mem_cons_self
  · refine h'.2.2 (j, xv X w) (List.mem_cons_of_mem _ (List.mem_filter.mpr ⟨lvA_mem (h.lt h2) h2, ?_⟩))
    rw [xv_cat]
    simp only [Bool.and_eq_true, Bool.not_eq_true', beq_eq_false_iff_ne, ne_eq, Bool.and_eq_false_iff]
    refine ⟨h1, ?_⟩
    by_cases q : j + 1 = i
    · exact Or.inr (fun z => h3 ⟨q, z⟩)
    · exact Or.inl q
theorem LV.put2 {X : EX} {ls ls' : Array Slot} {nL i : Nat} {lv : List (Option Value)} {v : Value} (h : LV X ls nL lv) (h' : lv_has ls' nL ((i, xv X v) :: (lvA X nL lv).filter (fun q => !(q.1 == i) && (!(q.1 == i + 1) && !(q.1 + 1 == i && q.2.category == 2))))) : LV X ls' nL ((lput lv i v).set (i + 1) none) := by
  refine ⟨h'.1, h'.2.1, fun j w hj => ?_⟩
  rw [List.getElem?_set] at hj
  by_cases hij : i + 1 = j
  · rw [if_pos hij] at hj
    by_cases hl : i + 1 < (lput lv i v).length
    · rw [if_pos hl] at hj; cases hj
    · rw [if_neg hl] at hj; cases hj
  · rw [if_neg hij] at hj
    rcases lput_get lv i v j w hj with ⟨rfl, rfl⟩ | ⟨h1, h2, h3⟩
    · exact h'.2.2 _ List.mem_cons_self
    · refine h'.2.2 (j, xv X w) (List.mem_cons_of_mem _ (List.mem_filter.mpr ⟨lvA_mem (h.lt h2) h2, ?_⟩))
      rw [xv_cat]
      simp only [Bool.and_eq_true, Bool.not_eq_true', beq_eq_false_iff_ne, ne_eq, Bool.and_eq_false_iff]
      refine ⟨h1, fun z => hij z.symm, ?_⟩
      by_cases q : j + 1 = i
      · exact Or.inr (fun z => h3 ⟨q, z⟩)
      · exact Or.inl q
theorem R_istore_n {j : Fin 4} {i : Nat} {x : Int32} (hd : DC M pc (.istore_n j) 1) (hi : (j : Nat) = i) (hn : i < mN M) (hv : lput lv i (.int x) = lv') (kk : PZ l X Z M (pc + 1) lv' st hp k n) : PZ l X Z M pc lv (.int x :: st) hp k n :=
  fun p e s m args below meth c H locs ls C hH hS hl => lv_istore_n C.1 C.2.1 hd hi hl.has hn rfl (fun ls' h' => kk p e s m args below meth c H locs ls' C hH hS (hv ▸ LV.put (v := .int x) hl h'))
theorem R_istore {i : Nat} {x : Int32} (hd : DC M pc (.istore i) 2) (hn : i < mN M) (hv : lput lv i (.int x) = lv') (kk : PZ l X Z M (pc + 2) lv' st hp k n) : PZ l X Z M pc lv (.int x :: st) hp k n :=
  fun p e s m args below meth c H locs ls C hH hS hl => lv_istore C.1 C.2.1 hd hl.has hn rfl (fun ls' h' => kk p e s m args below meth c H locs ls' C hH hS (hv ▸ LV.put (v := .int x) hl h'))
theorem R_astore_n {j : Fin 4} {i h : Nat} (hd : DC M pc (.astore_n j) 1) (hi : (j : Nat) = i) (hn : i < mN M) (hv : lput lv i (.ref h) = lv') (kk : PZ l X Z M (pc + 1) lv' st hp k n) : PZ l X Z M pc lv (.ref h :: st) hp k n :=
  fun p e s m args below meth c H locs ls C hH hS hl => lv_astore_n C.1 C.2.1 hd hi hl.has hn rfl (fun ls' h' => kk p e s m args below meth c H locs ls' C hH hS (hv ▸ LV.put (v := .ref h) hl h'))
theorem R_lstore_n {j : Fin 4} {i : Nat} {x : Int64} (hd : DC M pc (.lstore_n j) 1) (hi : (j : Nat) = i) (hn : i + 1 < mN M) (hv : (lput lv i (.long x)).set (i + 1) none = lv') (kk : PZ l X Z M (pc + 1) lv' st hp k n) : PZ l X Z M pc lv (.long x :: st) hp k n :=
  fun p e s m args below meth c H locs ls C hH hS hl => lv_lstore_n C.1 C.2.1 hd hi hl.has hn rfl (fun ls' h' => kk p e s m args below meth c H locs ls' C hH hS (hv ▸ LV.put2 (v := .long x) hl h'))
theorem R_lstore {i : Nat} {x : Int64} (hd : DC M pc (.lstore i) 2) (hn : i + 1 < mN M) (hv : (lput lv i (.long x)).set (i + 1) none = lv') (kk : PZ l X Z M (pc + 2) lv' st hp k n) : PZ l X Z M pc lv (.long x :: st) hp k n :=
  fun p e s m args below meth c H locs ls C hH hS hl => lv_lstore C.1 C.2.1 hd hl.has hn rfl (fun ls' h' => kk p e s m args below meth c H locs ls' C hH hS (hv ▸ LV.put2 (v := .long x) hl h'))
theorem R_iinc {i : Nat} {d : Int} {x v : Int32} (hd : DC M pc (.iinc i d) 3) (hx : lv[i]? = some (some (.int x))) (hq : x + Int32.ofInt d = v) (hv : lput lv i (.int v) = lv') (kk : PZ l X Z M (pc + 3) lv' st hp k n) : PZ l X Z M pc lv st hp k n := by
  intro p e s m args below meth c H locs ls C hH hS hl
  obtain ⟨kx, hk⟩ := List.getElem?_of_mem (lvA_mem (X := X) (hl.lt hx) hx)
  exact lv_iinc C.1 C.2.1 hd hl.has (k := kx) hk hq (hl.lt hx) rfl (fun ls' h' => kk p e s m args below meth c H locs ls' C hH hS (hv ▸ LV.put (v := .int v) hl h'))
theorem R_iadd {x y : Int32} (hd : DC M pc .iadd 1) (kk : PZ l X Z M (pc + 1) lv (.int (x + y) :: st) hp k n) : PZ l X Z M pc lv (.int y :: .int x :: st) hp k n :=
  fun p e s m args below meth c H locs ls C hH hS hl => lv_iadd C.1 C.2.1 hd (kk p e s m args below meth c H locs ls C hH hS hl)
theorem R_isub {x y : Int32} (hd : DC M pc .isub 1) (kk : PZ l X Z M (pc + 1) lv (.int (x - y) :: st) hp k n) : PZ l X Z M pc lv (.int y :: .int x :: st) hp k n :=
  fun p e s m args below meth c H locs ls C hH hS hl => lv_isub C.1 C.2.1 hd (kk p e s m args below meth c H locs ls C hH hS hl)
theorem R_imul {x y : Int32} (hd : DC M pc .imul 1) (kk : PZ l X Z M (pc + 1) lv (.int (x * y) :: st) hp k n) : PZ l X Z M pc lv (.int y :: .int x :: st) hp k n :=
  fun p e s m args below meth c H locs ls C hH hS hl => lv_imul C.1 C.2.1 hd (kk p e s m args below meth c H locs ls C hH hS hl)
theorem R_iand {x y : Int32} (hd : DC M pc .iand 1) (kk : PZ l X Z M (pc + 1) lv (.int (x &&& y) :: st) hp k n) : PZ l X Z M pc lv (.int y :: .int x :: st) hp k n :=
  fun p e s m args below meth c H locs ls C hH hS hl => lv_iand C.1 C.2.1 hd (kk p e s m args below meth c H locs ls C hH hS hl)
theorem R_ior {x y : Int32} (hd : DC M pc .ior 1) (kk : PZ l X Z M (pc + 1) lv (.int (x ||| y) :: st) hp k n) : PZ l X Z M pc lv (.int y :: .int x :: st) hp k n :=
  fun p e s m args below meth c H locs ls C hH hS hl => lv_ior C.1 C.2.1 hd (kk p e s m args below meth c H locs ls C hH hS hl)
theorem R_ixor {x y : Int32} (hd : DC M pc .ixor 1) (kk : PZ l X Z M (pc + 1) lv (.int (x ^^^ y) :: st) hp k n) : PZ l X Z M pc lv (.int y :: .int x :: st) hp k n :=
  fun p e s m args below meth c H locs ls C hH hS hl => lv_ixor C.1 C.2.1 hd (kk p e s m args below meth c H locs ls C hH hS hl)
theorem R_ishl {x y : Int32} (hd : DC M pc .ishl 1) (kk : PZ l X Z M (pc + 1) lv (.int (x <<< (y &&& 31)) :: st) hp k n) : PZ l X Z M pc lv (.int y :: .int x :: st) hp k n :=
  fun p e s m args below meth c H locs ls C hH hS hl => lv_ishl C.1 C.2.1 hd (kk p e s m args below meth c H locs ls C hH hS hl)
theorem R_ishr {x y : Int32} (hd : DC M pc .ishr 1) (kk : PZ l X Z M (pc + 1) lv (.int (x >>> (y &&& 31)) :: st) hp k n) : PZ l X Z M pc lv (.int y :: .int x :: st) hp k n :=
  fun p e s m args below meth c H locs ls C hH hS hl => lv_ishr C.1 C.2.1 hd (kk p e s m args below meth c H locs ls C hH hS hl)
theorem R_idiv {x y : Int32} (hd : DC M pc .idiv 1) (hy : ¬ y = 0) (kk : PZ l X Z M (pc + 1) lv (.int (x / y) :: st) hp k n) : PZ l X Z M pc lv (.int y :: .int x :: st) hp k n :=
  fun p e s m args below meth c H locs ls C hH hS hl => lv_idiv C.1 C.2.1 hd hy (kk p e s m args below meth c H locs ls C hH hS hl)
theorem R_irem {x y : Int32} (hd : DC M pc .irem 1) (hy : ¬ y = 0) (kk : PZ l X Z M (pc + 1) lv (.int (x - x / y * y) :: st) hp k n) : PZ l X Z M pc lv (.int y :: .int x :: st) hp k n :=
  fun p e s m args below meth c H locs ls C hH hS hl => lv_irem C.1 C.2.1 hd hy (kk p e s m args below meth c H locs ls C hH hS hl)
theorem R_ladd {x y : Int64} (hd : DC M pc .ladd 1) (kk : PZ l X Z M (pc + 1) lv (.long (x + y) :: st) hp k n) : PZ l X Z M pc lv (.long y :: .long x :: st) hp k n :=
  fun p e s m args below meth c H locs ls C hH hS hl => lv_ladd C.1 C.2.1 hd (kk p e s m args below meth c H locs ls C hH hS hl)
theorem R_lsub {x y : Int64} (hd : DC M pc .lsub 1) (kk : PZ l X Z M (pc + 1) lv (.long (x - y) :: st) hp k n) : PZ l X Z M pc lv (.long y :: .long x :: st) hp k n :=
  fun p e s m args below meth c H locs ls C hH hS hl => lv_lsub C.1 C.2.1 hd (kk p e s m args below meth c H locs ls C hH hS hl)
theorem R_lmul {x y : Int64} (hd : DC M pc .lmul 1) (kk : PZ l X Z M (pc + 1) lv (.long (x * y) :: st) hp k n) : PZ l X Z M pc lv (.long y :: .long x :: st) hp k n :=
  fun p e s m args below meth c H locs ls C hH hS hl => lv_lmul C.1 C.2.1 hd (kk p e s m args below meth c H locs ls C hH hS hl)
theorem R_land {x y : Int64} (hd : DC M pc .land 1) (kk : PZ l X Z M (pc + 1) lv (.long (x &&& y) :: st) hp k n) : PZ l X Z M pc lv (.long y :: .long x :: st) hp k n :=
  fun p e s m args below meth c H locs ls C hH hS hl => lv_land C.1 C.2.1 hd (kk p e s m args below meth c H locs ls C hH hS hl)
theorem R_lor {x y : Int64} (hd : DC M pc .lor 1) (kk : PZ l X Z M (pc + 1) lv (.long (x ||| y) :: st) hp k n) : PZ l X Z M pc lv (.long y :: .long x :: st) hp k n :=
  fun p e s m args below meth c H locs ls C hH hS hl => lv_lor C.1 C.2.1 hd (kk p e s m args below meth c H locs ls C hH hS hl)
theorem R_ldiv {x y : Int64} (hd : DC M pc .ldiv 1) (hy : ¬ y = 0) (kk : PZ l X Z M (pc + 1) lv (.long (x / y) :: st) hp k n) : PZ l X Z M pc lv (.long y :: .long x :: st) hp k n :=
  fun p e s m args below meth c H locs ls C hH hS hl => lv_ldiv C.1 C.2.1 hd hy (kk p e s m args below meth c H locs ls C hH hS hl)
theorem R_lrem {x y : Int64} (hd : DC M pc .lrem 1) (hy : ¬ y = 0) (kk : PZ l X Z M (pc + 1) lv (.long (x - x / y * y) :: st) hp k n) : PZ l X Z M pc lv (.long y :: .long x :: st) hp k n :=
  fun p e s m args below meth c H locs ls C hH hS hl => lv_lrem C.1 C.2.1 hd hy (kk p e s m args below meth c H locs ls C hH hS hl)
theorem R_i2l {x : Int32} (hd : DC M pc .i2l 1) (kk : PZ l X Z M (pc + 1) lv (.long x.toInt64 :: st) hp k n) : PZ l X Z M pc lv (.int x :: st) hp k n :=
  fun p e s m args below meth c H locs ls C hH hS hl => lv_i2l C.1 C.2.1 hd rfl (kk p e s m args below meth c H locs ls C hH hS hl)
theorem R_l2i {x : Int64} (hd : DC M pc .l2i 1) (kk : PZ l X Z M (pc + 1) lv (.int x.toInt32 :: st) hp k n) : PZ l X Z M pc lv (.long x :: st) hp k n :=
  fun p e s m args below meth c H locs ls C hH hS hl => lv_l2i C.1 C.2.1 hd rfl (kk p e s m args below meth c H locs ls C hH hS hl)
theorem R_i2c {x v : Int32} (hd : DC M pc .i2c 1) (hv : (x.toUInt32 % 65536).toInt32 = v) (kk : PZ l X Z M (pc + 1) lv (.int v :: st) hp k n) : PZ l X Z M pc lv (.int x :: st) hp k n :=
  fun p e s m args below meth c H locs ls C hH hS hl => lv_i2c C.1 C.2.1 hd hv (kk p e s m args below meth c H locs ls C hH hS hl)
theorem R_i2b {x v : Int32} (hd : DC M pc .i2b 1) (hv : x.toInt8.toInt32 = v) (kk : PZ l X Z M (pc + 1) lv (.int v :: st) hp k n) : PZ l X Z M pc lv (.int x :: st) hp k n :=
  fun p e s m args below meth c H locs ls C hH hS hl => lv_i2b C.1 C.2.1 hd hv (kk p e s m args below meth c H locs ls C hH hS hl)
theorem R_lushr {x v : Int64} {y : Int32} (hd : DC M pc .lushr 1) (hv : (x.toUInt64 >>> (y.toInt64.toUInt64 &&& Int64.toUInt64 63)).toInt64 = v) (kk : PZ l X Z M (pc + 1) lv (.long v :: st) hp k n) : PZ l X Z M pc lv (.int y :: .long x :: st) hp k n :=
  fun p e s m args below meth c H locs ls C hH hS hl => lv_lushr C.1 C.2.1 hd hv (kk p e s m args below meth c H locs ls C hH hS hl)
theorem R_lshl {x v : Int64} {y : Int32} (hd : DC M pc .lshl 1) (hv : x <<< (y.toInt64 &&& 63) = v) (kk : PZ l X Z M (pc + 1) lv (.long v :: st) hp k n) : PZ l X Z M pc lv (.int y :: .long x :: st) hp k n :=
  fun p e s m args below meth c H locs ls C hH hS hl => lv_lshl C.1 C.2.1 hd hv (kk p e s m args below meth c H locs ls C hH hS hl)
theorem R_lcmp {x y : Int64} (hd : DC M pc .lcmp 1) (kk : PZ l X Z M (pc + 1) lv (.int (lg_cmp x y) :: st) hp k n) : PZ l X Z M pc lv (.long y :: .long x :: st) hp k n :=
  fun p e s m args below meth c H locs ls C hH hS hl => W.lcmp C.1 C.2.1 hd (kk p e s m args below meth c H locs ls C hH hS hl)
theorem R_dup {v : Value} (hd : DC M pc .dup 1) (hc : v.category = 1) (kk : PZ l X Z M (pc + 1) lv (v :: v :: st) hp k n) : PZ l X Z M pc lv (v :: st) hp k n :=
  fun p e s m args below meth c H locs ls C hH hS hl => lv_dup C.1 C.2.1 hd ((xv_cat X v).trans hc) (kk p e s m args below meth c H locs ls C hH hS hl)
theorem R_dup2 {v w : Value} (hd : DC M pc .dup2 1) (hc : v.category = 1) (hc2 : w.category = 1) (kk : PZ l X Z M (pc + 1) lv (v :: w :: v :: w :: st) hp k n) : PZ l X Z M pc lv (v :: w :: st) hp k n :=
  fun p e s m args below meth c H locs ls C hH hS hl => lv_dup2_11 C.1 C.2.1 hd ((xv_cat X v).trans hc) ((xv_cat X w).trans hc2) (kk p e s m args below meth c H locs ls C hH hS hl)
theorem R_pop {v : Value} (hd : DC M pc .pop 1) (hc : v.category = 1) (kk : PZ l X Z M (pc + 1) lv st hp k n) : PZ l X Z M pc lv (v :: st) hp k n :=
  fun p e s m args below meth c H locs ls C hH hS hl => lv_pop C.1 C.2.1 hd ((xv_cat X v).trans hc) (kk p e s m args below meth c H locs ls C hH hS hl)
theorem R_goto {off : Int} {tgt : Nat} (hd : DC M pc (.goto off) 3) (ht : (pc : Int) + off = (tgt : Int)) (kk : PZ l X Z M tgt lv st hp k n) : PZ l X Z M pc lv st hp k n :=
  fun p e s m args below meth c H locs ls C hH hS hl => lv_goto C.1 C.2.1 hd ht (kk p e s m args below meth c H locs ls C hH hS hl)
theorem R_if_eq {x : Int32} {off : Int} {tgt : Nat} (hd : DC M pc (.ifCond .eq off) 3) (ht : (pc : Int) + off = (tgt : Int)) (kt : x = 0 → PZ l X Z M tgt lv st hp k n) (kf : ¬ (x = 0) → PZ l X Z M (pc + 3) lv st hp k n) : PZ l X Z M pc lv (.int x :: st) hp k n :=
  fun p e s m args below meth c H locs ls C hH hS hl => lv_if_eq C.1 C.2.1 hd ht (fun h => kt h p e s m args below meth c H locs ls C hH hS hl) (fun h => kf h p e s m args below meth c H locs ls C hH hS hl)
theorem R_if_ne {x : Int32} {off : Int} {tgt : Nat} (hd : DC M pc (.ifCond .ne off) 3) (ht : (pc : Int) + off = (tgt : Int)) (kt : ¬ x = 0 → PZ l X Z M tgt lv st hp k n) (kf : x = 0 → PZ l X Z M (pc + 3) lv st hp k n) : PZ l X Z M pc lv (.int x :: st) hp k n :=
  fun p e s m args below meth c H locs ls C hH hS hl => lv_if_ne C.1 C.2.1 hd ht (fun h => kt h p e s m args below meth c H locs ls C hH hS hl) (fun h => kf h p e s m args below meth c H locs ls C hH hS hl)
theorem R_if_lt {x : Int32} {off : Int} {tgt : Nat} (hd : DC M pc (.ifCond .lt off) 3) (ht : (pc : Int) + off = (tgt : Int)) (kt : x < 0 → PZ l X Z M tgt lv st hp k n) (kf : ¬ (x < 0) → PZ l X Z M (pc + 3) lv st hp k n) : PZ l X Z M pc lv (.int x :: st) hp k n :=
  fun p e s m args below meth c H locs ls C hH hS hl => lv_if_lt C.1 C.2.1 hd ht (fun h => kt h p e s m args below meth c H locs ls C hH hS hl) (fun h => kf h p e s m args below meth c H locs ls C hH hS hl)
theorem R_if_ge {x : Int32} {off : Int} {tgt : Nat} (hd : DC M pc (.ifCond .ge off) 3) (ht : (pc : Int) + off = (tgt : Int)) (kt : 0 ≤ x → PZ l X Z M tgt lv st hp k n) (kf : ¬ (0 ≤ x) → PZ l X Z M (pc + 3) lv st hp k n) : PZ l X Z M pc lv (.int x :: st) hp k n :=
  fun p e s m args below meth c H locs ls C hH hS hl => lv_if_ge C.1 C.2.1 hd ht (fun h => kt h p e s m args below meth c H locs ls C hH hS hl) (fun h => kf h p e s m args below meth c H locs ls C hH hS hl)
theorem R_if_gt {x : Int32} {off : Int} {tgt : Nat} (hd : DC M pc (.ifCond .gt off) 3) (ht : (pc : Int) + off = (tgt : Int)) (kt : 0 < x → PZ l X Z M tgt lv st hp k n) (kf : ¬ (0 < x) → PZ l X Z M (pc + 3) lv st hp k n) : PZ l X Z M pc lv (.int x :: st) hp k n :=
  fun p e s m args below meth c H locs ls C hH hS hl => lv_if_gt C.1 C.2.1 hd ht (fun h => kt h p e s m args below meth c H locs ls C hH hS hl) (fun h => kf h p e s m args below meth c H locs ls C hH hS hl)
theorem R_if_le {x : Int32} {off : Int} {tgt : Nat} (hd : DC M pc (.ifCond .le off) 3) (ht : (pc : Int) + off = (tgt : Int)) (kt : x ≤ 0 → PZ l X Z M tgt lv st hp k n) (kf : ¬ (x ≤ 0) → PZ l X Z M (pc + 3) lv st hp k n) : PZ l X Z M pc lv (.int x :: st) hp k n :=
  fun p e s m args below meth c H locs ls C hH hS hl => lv_if_le C.1 C.2.1 hd ht (fun h => kt h p e s m args below meth c H locs ls C hH hS hl) (fun h => kf h p e s m args below meth c H locs ls C hH hS hl)
theorem R_icmp_eq {x y : Int32} {off : Int} {tgt : Nat} (hd : DC M pc (.if_icmp .eq off) 3) (ht : (pc : Int) + off = (tgt : Int)) (kt : x = y → PZ l X Z M tgt lv st hp k n) (kf : ¬ (x = y) → PZ l X Z M (pc + 3) lv st hp k n) : PZ l X Z M pc lv (.int y :: .int x :: st) hp k n :=
  fun p e s m args below meth c H locs ls C hH hS hl => lv_icmp_eq C.1 C.2.1 hd ht (fun h => kt h p e s m args below meth c H locs ls C hH hS hl) (fun h => kf h p e s m args below meth c H locs ls C hH hS hl)
theorem R_icmp_ne {x y : Int32} {off : Int} {tgt : Nat} (hd : DC M pc (.if_icmp .ne off) 3) (ht : (pc : Int) + off = (tgt : Int)) (kt : ¬ x = y → PZ l X Z M tgt lv st hp k n) (kf : x = y → PZ l X Z M (pc + 3) lv st hp k n) : PZ l X Z M pc lv (.int y :: .int x :: st) hp k n :=
  fun p e s m args below meth c H locs ls C hH hS hl => lv_icmp_ne C.1 C.2.1 hd ht (fun h => kt h p e s m args below meth c H locs ls C hH hS hl) (fun h => kf h p e s m args below meth c H locs ls C hH hS hl)
theorem R_icmp_lt {x y : Int32} {off : Int} {tgt : Nat} (hd : DC M pc (.if_icmp .lt off) 3) (ht : (pc : Int) + off = (tgt : Int)) (kt : x < y → PZ l X Z M tgt lv st hp k n) (kf : ¬ (x < y) → PZ l X Z M (pc + 3) lv st hp k n) : PZ l X Z M pc lv (.int y :: .int x :: st) hp k n :=
  fun p e s m args below meth c H locs ls C hH hS hl => lv_icmp_lt C.1 C.2.1 hd ht (fun h => kt h p e s m args below meth c H locs ls C hH hS hl) (fun h => kf h p e s m args below meth c H locs ls C hH hS hl)
theorem R_icmp_ge {x y : Int32} {off : Int} {tgt : Nat} (hd : DC M pc (.if_icmp .ge off) 3) (ht : (pc : Int) + off = (tgt : Int)) (kt : y ≤ x → PZ l X Z M tgt lv st hp k n) (kf : ¬ (y ≤ x) → PZ l X Z M (pc + 3) lv st hp k n) : PZ l X Z M pc lv (.int y :: .int x :: st) hp k n :=
  fun p e s m args below meth c H locs ls C hH hS hl => lv_icmp_ge C.1 C.2.1 hd ht (fun h => kt h p e s m args below meth c H locs ls C hH hS hl) (fun h => kf h p e s m args below meth c H locs ls C hH hS hl)
theorem R_icmp_gt {x y : Int32} {off : Int} {tgt : Nat} (hd : DC M pc (.if_icmp .gt off) 3) (ht : (pc : Int) + off = (tgt : Int)) (kt : y < x → PZ l X Z M tgt lv st hp k n) (kf : ¬ (y < x) → PZ l X Z M (pc + 3) lv st hp k n) : PZ l X Z M pc lv (.int y :: .int x :: st) hp k n :=
  fun p e s m args below meth c H locs ls C hH hS hl => lv_icmp_gt C.1 C.2.1 hd ht (fun h => kt h p e s m args below meth c H locs ls C hH hS hl) (fun h => kf h p e s m args below meth c H locs ls C hH hS hl)
theorem R_icmp_le {x y : Int32} {off : Int} {tgt : Nat} (hd : DC M pc (.if_icmp .le off) 3) (ht : (pc : Int) + off = (tgt : Int)) (kt : x ≤ y → PZ l X Z M tgt lv st hp k n) (kf : ¬ (x ≤ y) → PZ l X Z M (pc + 3) lv st hp k n) : PZ l X Z M pc lv (.int y :: .int x :: st) hp k n :=
  fun p e s m args below meth c H locs ls C hH hS hl => lv_icmp_le C.1 C.2.1 hd ht (fun h => kt h p e s m args below meth c H locs ls C hH hS hl) (fun h => kf h p e s m args below meth c H locs ls C hH hS hl)
theorem R_lookup {dflt : Int} {ps : Array (Int × Int)} {len : Nat} {x : Int32} {off : Int} {tgt : Nat} (hd : DC M pc (.lookupswitch dflt ps) len) (hp' : (ps.toList.zip (ps.toList.drop 1)).all (fun (a, next) => a.1 < next.1) = true) (ho : Op.lookupswitch.offset ps.toList dflt x.toInt = off) (ht : (pc : Int) + off = (tgt : Int)) (kk : PZ l X Z M tgt lv st hp k n) : PZ l X Z M pc lv (.int x :: st) hp k n :=
  fun p e s m args below meth c H locs ls C hH hS hl => lv_lookup C.1 C.2.1 hd hp' ho ht (kk p e s m args below meth c H locs ls C hH hS hl)
theorem R_tableOut {dflt lo hi : Int} {offs : Array Int} {len : Nat} {x : Int32} {tgt : Nat} (hd : DC M pc (.tableswitch dflt lo hi offs) len) (h : x.toInt < lo ∨ hi < x.toInt) (ht : (pc : Int) + dflt = (tgt : Int)) (kk : PZ l X Z M tgt lv st hp k n) : PZ l X Z M pc lv (.int x :: st) hp k n :=
  fun p e s m args below meth c H locs ls C hH hS hl => lv_tableOut C.1 C.2.1 hd h ht (kk p e s m args below meth c H locs ls C hH hS hl)
theorem R_tableIn {dflt lo hi : Int} {offs : Array Int} {len : Nat} {x : Int32} {off : Int} {tgt : Nat} (hd : DC M pc (.tableswitch dflt lo hi offs) len) (h1 : ¬ x.toInt < lo) (h2 : ¬ hi < x.toInt) (ho : offs[(x.toInt - lo).toNat]? = some off) (ht : (pc : Int) + off = (tgt : Int)) (kk : PZ l X Z M tgt lv st hp k n) : PZ l X Z M pc lv (.int x :: st) hp k n :=
  fun p e s m args below meth c H locs ls C hH hS hl => lv_tableIn C.1 C.2.1 hd h1 h2 ho ht (kk p e s m args below meth c H locs ls C hH hS hl)
end RU
