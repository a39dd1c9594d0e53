/-! THE PURE MACHINE'S STATE: a heap is a list of cells, a reference is a place in it; what lies outside (the script, the two texts and their bytes) is a 'retAddr'. -/
abbrev PE : Type := (Nat × vp_A) ⊕ (Nat × List Value)
abbrev HPt : Type := List PE
abbrev EX : Type := (Nat → Nat) × Nat × va_G × (Nat → ClassId) × Nat × (Nat → Int32)
def xc (X : EX) : Nat → Nat := X.1
def x0 (X : EX) : Nat := X.2.1
def xD (X : EX) : va_G := X.2.2.1
def xy (X : EX) : Nat → ClassId := X.2.2.2.1
def xL (X : EX) : Nat := X.2.2.2.2.1
def xs (X : EX) : Nat → Int32 := X.2.2.2.2.2
def xA (X : EX) : Nat → Prop := fun q => x0 X ≤ q
def xv (X : EX) : Value → Value
  | .ref i => .ref (x0 X + i)
  | .retAddr i => .ref (xc X i)
  | .int v => .int v
  | .long v => .long v
  | .float v => .float v
  | .double v => .double v
  | .null => .null
def xf (X : EX) : ((Nat → Int32) ⊕ (Nat → Int64) ⊕ (Nat → UInt32) ⊕ (Nat → UInt64) ⊕ (Nat → Option Nat)) → ((Nat → Int32) ⊕ (Nat → Int64) ⊕ (Nat → UInt32) ⊕ (Nat → UInt64) ⊕ (Nat → Option Nat))
  | .inl f => .inl f
  | .inr (.inl f) => .inr (.inl f)
  | .inr (.inr (.inl f)) => .inr (.inr (.inl f))
  | .inr (.inr (.inr (.inl f))) => .inr (.inr (.inr (.inl f)))
  | .inr (.inr (.inr (.inr f))) => .inr (.inr (.inr (.inr (fun j => (f j).map (x0 X + ·)))))
def xe (X : EX) : PE → va_E
  | .inl q => .inl (xy X q.1, q.2.1, xf X q.2.2)
  | .inr q => .inr (q.1, q.2.map (xv X))
def xw (X : EX) (hp : HPt) : va_W := hp.mapIdx (fun i e => (x0 X + i, xe X e))
abbrev ia (n : Nat) (f : Nat → Int32) : PE := .inl (0, n, .inl f)
abbrev za (n : Nat) (f : Nat → Int32) : PE := .inl (1, n, .inl f)
abbrev qa (n : Nat) (f : Nat → Option Nat) : PE := .inl (2, n, .inr (.inr (.inr (.inr f))))
abbrev ob (ci : Nat) (fs : List Value) : PE := .inr (ci, fs)
abbrev xt (X : EX) : List (ClassId × FieldType) := [(xy X 0, .int), (xy X 1, .boolean), (xy X 2, .object RX9)]
theorem xw_get (X : EX) (hp : HPt) (i : Nat) : (xw X hp)[i]? = (hp[i]?).map (fun e => (x0 X + i, xe X e)) := by
  unfold xw
  rw [List.getElem?_mapIdx]
theorem xw_at {X : EX} {hp : HPt} {i : Nat} {e : PE} (h : hp[i]? = some e) : (xw X hp)[i]? = some (x0 X + i, xe X e) := by
  rw [xw_get, h]; rfl
theorem xw_len (X : EX) (hp : HPt) : (xw X hp).length = hp.length := by
  unfold xw
  rw [List.length_mapIdx]
theorem xw_set (X : EX) (hp : HPt) (i : Nat) (e : PE) : (xw X hp).set i (x0 X + i, xe X e) = xw X (hp.set i e) := by
  apply List.ext_getElem?
  intro j
  rw [xw_get, List.getElem?_set, List.getElem?_set, xw_get, xw_len]
  by_cases hij : i = j
  · subst hij
    by_cases hl : i < hp.length <;> simp [hl]
  · simp [hij]
theorem xw_push (X : EX) (hp : HPt) (e : PE) : xw X hp ++ [(x0 X + hp.length, xe X e)] = xw X (hp ++ [e]) := by
  unfold xw
  rw [List.mapIdx_append]
  simp
theorem xw_D (X : EX) (hp : HPt) : va_D (xA X) (xw X hp) := by
  refine ⟨fun i j p q hi hj hpq => ?_, fun k q hk => ?_⟩
  · rw [xw_get] at hi hj
    cases h1 : hp[i]? with
    | none => rw [h1] at hi; cases hi
    | some a =>
      cases h2 : hp[j]? with
      | none => rw [h2] at hj; cases hj
      | some b =>
        rw [h1] at hi; rw [h2] at hj
        cases hi; cases hj
        have : x0 X + i = x0 X + j := hpq
        omega
  · rw [xw_get] at hk
    cases h1 : hp[k]? with
    | none => rw [h1] at hk; cases hk
    | some a => rw [h1] at hk; cases hk; exact Nat.le_add_right _ _
/-! the tables' words, at any state of the run -/
def TB (s : State) : Prop := ∀ w ∈ lw_tg, ∀ args : Array Value, w.before args s = true
theorem TB.warm {s U : State} (hW : s.WarmedH U.vm) (h : TB s) : TB U := by
  intro w hw args
  have hk := (List.mem_filter.mp hw).2
  have h0 := h w hw #[]
  unfold tgw at hk
  rw [Bool.and_eq_true, Bool.or_eq_true] at hk
  obtain ⟨h1, h2 | h2⟩ := hk
  · exact word_at hW (Or.inl (by rw [h1, h2]; rfl)) h0
  · cases w <;> first | exact va_Nw.use rfl (va_Nw.warmF hW h0) | exact va_Nw.use rfl (va_Nw.warmM hW h0) | exact absurd (show false = true from h2) Bool.false_ne_true
def slen : List Nat := [26, 26]
def sbyt : List (List Int32) := [[65, 66, 67, 68, 69, 70, 71, 72, 73, 74, 75, 76, 77, 78, 79, 80, 81, 82, 83, 84, 85, 86, 87, 88, 89, 90], [48, 49, 50, 51, 52, 53, 54, 55, 56, 57, 45, 63, 58, 40, 41, 46, 44, 47, 61, 39, 43, 33, 38, 37, 59, 36]]
def XS (X : EX) (s : State) (H : Heap) : Prop :=
  vk_R RX0 23 "ABCDEFGHIJKLMNOPQRSTUVWXYZ" (xc X 1) s ∧ vk_R RX0 15 "0123456789-?:().,/='+!&%;$" (xc X 2) s ∧ vk_S 2 slen sbyt (fun i => xc X (1 + i)) (fun i => xc X (3 + i)) (xA X) s H ∧ va_Z "java/lang/String" "COMPACT_STRINGS" "Z" (.int 1) (xA X) s H ∧
  (va_Z "jdk/internal/util/Preconditions" "SIOOBE_FORMATTER" "Ljava/util/function/BiFunction;" .null (xA X) s H ∨ va_Z "jdk/internal/util/Preconditions" "SIOOBE_FORMATTER" "Ljava/util/function/BiFunction;" (.ref (xc X 5)) (xA X) s H)
def XF (X : EX) (s : State) (H : Heap) : Prop :=
  TB s ∧ va_K (xD X) vwCl (xt X) s ∧ ((Cond.arrayClass .int).before #[] s = true ∧ (Cond.arrayClass .boolean).before #[] s = true ∧ va_AO RX9 s) ∧ (va_X (xc X 0) (xL X) (xs X) s H ∧ xc X 0 < x0 X) ∧ XS X s H
theorem XF.move {X : EX} {s U : State} {H H1 : Heap} (hW : s.WarmedH U.vm) (hq : ∀ q, q < x0 X → H1[q]? = H[q]?) (h : XF X s H) : XF X U H1 := by
  obtain ⟨h1, h2, ⟨h3, h4, h5⟩, ⟨h6, h7⟩, h8, h9, h10, h11, h12⟩ := h
  have hk : ∀ a : Nat, a < H.size → ¬ xA X a → H1[a]? = H[a]? := fun a _ hA => hq a (Nat.not_le.mp hA)
  refine ⟨h1.warm hW, h2.moved hW.alike, ⟨word_at hW (Or.inr ⟨_, rfl⟩) h3, word_at hW (Or.inr ⟨_, rfl⟩) h4, h5.moved hW.alike⟩, ⟨(h6.moved hW.alike).kept (hq _ h7), h7⟩, h8.warm hW, h9.warm hW, (h10.moved hW.alike).kept hk, (va_Z.moved hW.alike h11).kept hk, ?_⟩
  rcases h12 with h | h
  · exact Or.inl ((va_Z.moved hW.alike h).kept hk)
  · exact Or.inr ((va_Z.moved hW.alike h).kept hk)
/-- the heap H holds hp, k cells after the state s -/
def HR (X : EX) (hp : HPt) (k : Nat) (s : State) (H : Heap) : Prop := s.heap.size + k = x0 X + hp.length ∧ va_P (xD X) vwCl (xw X hp) H
/-! a method: its name, code, locals, answer, room -/
abbrev MT : Type := MethodName × ByteArray × Nat × Option FieldType × Room
def mY (M : MT) : MethodName := M.1
def mB (M : MT) : ByteArray := M.2.1
def mN (M : MT) : Nat := M.2.2.1
def mR (M : MT) : Option FieldType := M.2.2.2.1
def mM (M : MT) : Room := M.2.2.2.2
def CX (X : EX) (M : MT) (p : Program) (s : State) (m : MethodId) (meth : Method) (c : Code) : Prop :=
  p.tables.exec = Jvm.exec ∧ c.code = mB M ∧ c.maxLocals = mN M ∧ s.vm.findClass (mY M).cls = some m.cls ∧ meth.sig.returnType = mR M ∧ meth.locks = false ∧ meth.name = (mY M).name ∧ XF X s s.heap ∧ x0 X ≤ s.heap.size
def LV (X : EX) (ls : Array Slot) (nL : Nat) (lv : List (Option Value)) : Prop := ls.size = nL ∧ lv_wf ls ∧ ∀ (i : Nat) (v : Value), lv[i]? = some (some v) → ls[i]? = some (.val (xv X v))
abbrev ZT : Type := List Frame → Array Value → State → State → Prop
def PZ (l : Launch) (X : EX) (Z : ZT) (M : MT) (pc : Nat) (lv : List (Option Value)) (st : List Value) (hp : HPt) (k n : Nat) : Prop :=
  ∀ (p : Program) (e : Env) (s : State) (m : MethodId) (args : Array Value) (below : List Frame) (meth : Method) (c : Code) (H : Heap) (locs : List Loc) (ls : Array Slot), CX X M p s m meth c → HR X hp k s H → va_S (xA X) s.heap H locs → LV X ls (mN M) lv →
    W p l e (mM M) s m args below meth c H locs k n (Z below args s) (F0 m pc ls (st.map (xv X)))
def QC (X : EX) (k : Nat) (Q : Option Value → HPt → Prop) : Array Value → State → Outcome → State → Prop := fun _ st oc t =>
  (∃ (v : Option Value) (hp' : HPt), oc = .returned (v.map (xv X)) ∧ Q v hp' ∧ HR X hp' k st t.heap) ∧ st.heap.size ≤ t.heap.size ∧ ∀ q, q < x0 X → t.heap[q]? = st.heap[q]?
def MZ (X : EX) (M : MT) (Q : Option Value → HPt → Prop) : ZT := fun below args s => MQ below (QC X (mM M).cells Q) args s (mM M).cells (mM M).slots (xA X)
def PC (X : EX) (args : List Value) (hp : HPt) : Array Value → State → Prop := va_Pc (args.map (xv X)) (fun U => XF X U U.heap ∧ x0 X ≤ U.heap.size ∧ HR X hp 0 U U.heap)
def Sp (l : Launch) (X : EX) (M : MT) (args : List Value) (hp : HPt) (Q : Option Value → HPt → Prop) : Prop :=
  Met l (mY M) [Cond.code (mY M) (mB M) (mN M) (mR M)] (mM M) (PC X args hp) (QC X (mM M).cells Q) (mM M).cells (mM M).slots (xA X)
def DC (M : MT) (pc : Nat) (i : Instr) (len : Nat) : Prop := decode (mB M) pc = .ok (i, len)
/-! entry -/
def lvS : List Value → List (Option Value)
  | [] => []
  | .long x :: t => some (.long x) :: none :: lvS t
  | .double x :: t => some (.double x) :: none :: lvS t
  | v :: t => some v :: lvS t
def lvE (n : Nat) (args : List Value) : List (Option Value) := lvS args ++ List.replicate (n - (lvS args).length) none
theorem xv_cat (X : EX) (v : Value) : (xv X v).category = v.category := by cases v <;> rfl
theorem lvS_cons (v : Value) (t : List Value) : lvS (v :: t) = if v.category = 2 then some v :: none :: lvS t else some v :: lvS t := by
  cases v <;> simp [lvS, Value.category]
theorem lvS_args (X : EX) : ∀ (args : List Value) (o i : Nat) (v : Value), (lvS args)[i]? = some (some v) → (o + i, xv X v) ∈ lv_args o (args.map (xv X))
  | [], o, i, v, h => by simp [lvS] at h
  | a :: t, o, i, v, h => by
    rw [lvS_cons] at h
    show (o + i, xv X v) ∈ (o, xv X a) :: lv_args (if (xv X a).category = 2 then o + 2 else o + 1) (t.map (xv X))
    rw [xv_cat]
    by_cases hc : a.category = 2
    · rw [if_pos hc] at h ⊢
      match i, h with
      | 0, h =>
        cases h
        exact List.mem_cons_self
      | 1, h => cases h
      | i + 2, h =>
        have := lvS_args X t (o + 2) i v h
        rw [show o + 2 + i = o + (i + 2) by omega] at this
        exact List.mem_cons_of_mem _ this
    · rw [if_neg hc] at h ⊢
      match i, h with
      | 0, h =>
        cases h
        exact List.mem_cons_self
      | i + 1, h =>
        have := lvS_args X t (o + 1) i v h
        rw [show o + 1 + i = o + (i + 1) by omega] at this
        exact List.mem_cons_of_mem _ this
theorem LV.entry {X : EX} {ls : Array Slot} {n : Nat} {args : List Value} (h : lv_has ls n (lv_args 0 (args.map (xv X)))) : LV X ls n (lvE n args) := by
  refine ⟨h.1, h.2.1, fun i v hv => ?_⟩
  unfold lvE at hv
  by_cases hi : i < (lvS args).length
  · rw [List.getElem?_append_left hi] at hv
    have := lvS_args X args 0 i v hv
    rw [Nat.zero_add] at this
    exact h.2.2 _ this
  · rw [List.getElem?_append_right (by omega)] at hv
    have := List.eq_of_mem_replicate (List.mem_of_getElem? hv)
    cases this
theorem Sp.of {l : Launch} {X : EX} {M : MT} {args : List Value} {hp : HPt} {Q : Option Value → HPt → Prop} (hy : plainName (mY M).cls = true) (hlen : (lg_sl (args.map (xv X))).length ≤ mN M) {lv : List (Option Value)} (hlv : lvE (mN M) args = lv) (h : PZ l X (MZ X M Q) M 0 lv [] hp 0 0) : Sp l X M args hp Q := by
  refine Met.ofW (cc := mB M) (maxL := mN M) (ret := mR M) hy rfl ?_
  intro p e s m a below meth c s₁ B hml hv
  obtain ⟨rfl, hX, h0, hH⟩ := hv
  have hl := lv_entry (args.map (xv X)) (n := mN M) hlen
  rw [lg_entry_eq]
  generalize (lg_sl (args.map (xv X)) ++ List.replicate (mN M - (lg_sl (args.map (xv X))).length) Slot.unset).toArray = ls at hl ⊢
  subst hlv
  exact h p e s m _ below meth c s.heap [] ls ⟨B.exec, B.bytes, hml, findClass_of_methodNamed B.named, B.returns, B.notSynchronized, (name_of_methodNamed B.named B.method).1, hX, h0⟩ hH va_S.rf (LV.entry hl)
/-- what a method answers may be told weaker -/
theorem Sp.imp {l : Launch} {X : EX} {M : MT} {args : List Value} {hp : HPt} {Q Q' : Option Value → HPt → Prop} (h : Sp l X M args hp Q) (hq : ∀ v hp', Q v hp' → Q' v hp') : Sp l X M args hp Q' := by
  unfold Sp Met at h ⊢
  intro p e ha hc hk s m args below hf happ hP hT
  obtain ⟨kk, o, h1, h2, h3, ⟨⟨v, hp', e1, e2, e3⟩, e4⟩, h5⟩ := h p e ha hc hk s m args below hf happ hP hT
  exact ⟨kk, o, h1, h2, h3, ⟨⟨v, hp', e1, hq v hp' e2, e3⟩, e4⟩, h5⟩
