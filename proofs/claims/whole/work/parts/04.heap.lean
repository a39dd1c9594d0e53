/-! RULES of the pure machine: fields, arrays, new cells, what lies outside, returns, calls -/
section RH
variable {l : Launch} {X : EX} {Z : ZT} {M : MT} {pc : Nat} {lv lv' : List (Option Value)} {st : List Value} {hp : HPt} {k n : Nat}
def KC (ci : Nat) (C : String) (T : u_T) (N : Nat) (ty0 : Nat → FieldType) : Prop := vwCl[ci]? = some (C, T, N) ∧ (∀ w ∈ u_ws C T N, w ∈ lw_tg) ∧ (∀ k, k < N → parseFieldDescriptor (T k).2.2.1 = some (ty0 k)) ∧ ∀ a, a < N → ∀ b, b < N → a ≠ b → (T a).2.1 ≠ (T b).2.1
def FL (own : String) (idx : Nat) (T : u_T) (j : Nat) : Prop := Cond.fieldLink own idx (T j).1 (T j).2.1 (T j).2.2.1 ∈ lw_tg ∨ ∃ host, Cond.fieldLinkNest own idx (T j).1 (T j).2.1 (T j).2.2.1 host ∈ lw_tg
/-- the entry idx of own's pool is the field j of the class ci -/
def FG (own : String) (idx ci j : Nat) : Prop := ∃ (C : String) (T : u_T) (N : Nat) (ty0 : Nat → FieldType), KC ci C T N ty0 ∧ j < N ∧ FL own idx T j
/-- .. and it may be written, of type ty -/
def FP (own : String) (idx ci j : Nat) (ty : FieldType) : Prop := ∃ (C : String) (T : u_T) (N : Nat) (ty0 : Nat → FieldType), KC ci C T N ty0 ∧ j < N ∧ FL own idx T j ∧ (T j).2.2.2 = false ∧ ty0 j = ty
/-- .. it is final, and own's -/
def FQ (own : String) (idx ci j : Nat) (ty : FieldType) : Prop := ∃ (C : String) (T : u_T) (N : Nat) (ty0 : Nat → FieldType), KC ci C T N ty0 ∧ j < N ∧ Cond.fieldLink own idx (T j).1 (T j).2.1 (T j).2.2.1 ∈ lw_tg ∧ (T j).2.2.2 = true ∧ ty0 j = ty ∧ (T j).1 = own
theorem CX.ts {p : Program} {s : State} {m : MethodId} {meth : Method} {c : Code} (C : CX X M p s m meth c) (args : Array Value) : ∀ w ∈ lw_tg, w.before args s = true := fun w hw => C.2.2.2.2.2.2.2.1.1 w hw args
theorem CX.K {p : Program} {s : State} {m : MethodId} {meth : Method} {c : Code} (C : CX X M p s m meth c) : va_K (xD X) vwCl (xt X) s := C.2.2.2.2.2.2.2.1.2.1
theorem CX.own {p : Program} {s : State} {m : MethodId} {meth : Method} {c : Code} (C : CX X M p s m meth c) : s.vm.findClass (mY M).cls = some m.cls := C.2.2.2.1
theorem CX.xf {p : Program} {s : State} {m : MethodId} {meth : Method} {c : Code} (C : CX X M p s m meth c) : XF X s s.heap := C.2.2.2.2.2.2.2.1
theorem CX.ge {p : Program} {s : State} {m : MethodId} {meth : Method} {c : Code} (C : CX X M p s m meth c) : x0 X ≤ s.heap.size := C.2.2.2.2.2.2.2.2
theorem HR.set {s : State} {H H1 : Heap} {h : Nat} {e : PE} {e' : va_E} (hH : HR X hp k s H) (he : xe X e = e') (hP : va_P (xD X) vwCl ((xw X hp).set h (x0 X + h, e')) H1) : HR X (hp.set h e) k s H1 := by
  refine ⟨by rw [List.length_set]; exact hH.1, ?_⟩
  rw [← xw_set, he]
  exact hP
theorem R_getf {idx ci j h : Nat} {fs : List Value} {v : Value} (hd : DC M pc (.getfield idx) 3) (hf : FG (mY M).cls idx ci j) (hh : hp[h]? = some (.inr (ci, fs))) (hv : fs[j]? = some v) (kk : PZ l X Z M (pc + 3) lv (v :: st) hp k n) : PZ l X Z M pc lv (.ref h :: st) hp k n := by
  obtain ⟨C, T, N, ty0, ⟨h1, h2, h3, h4⟩, hj, hlink⟩ := hf
  intro p e s m args below meth c H locs ls Cx hH hS hl
  have he : (xw X hp)[h]? = some (x0 X + h, .inr (ci, fs.map (xv X))) := xw_at hh
  have hv' : (fs.map (xv X))[j]? = some (xv X v) := by rw [List.getElem?_map, hv]; rfl
  have kk' := kk p e s m args below meth c H locs ls Cx hH hS hl
  rcases hlink with hlink | ⟨host, hlink⟩
  · exact va_get Cx.1 Cx.2.1 (Cx.ts args) h2 Cx.own Cx.K hH.2 h he h1 j hj (Cx.ts args _ hlink) (fun _ z => z) hv' hd kk'
  · exact va_getN Cx.1 Cx.2.1 (Cx.ts args) h2 Cx.own Cx.K hH.2 h he h1 j hj (Cx.ts args _ hlink) (fun _ z => z) hv' hd kk'
theorem R_putf {idx ci j h : Nat} {ty : FieldType} {fs : List Value} {v : Value} (hd : DC M pc (.putfield idx) 3) (hf : FP (mY M).cls idx ci j ty) (hh : hp[h]? = some (.inr (ci, fs))) (hj' : j < fs.length) (hn : narrow ty (xv X v) = xv X v) (hfit : fits ty (xv X v) = true) (kk : PZ l X Z M (pc + 3) lv st (hp.set h (.inr (ci, fs.set j v))) k n) : PZ l X Z M pc lv (v :: .ref h :: st) hp k n := by
  obtain ⟨C, T, N, ty0, ⟨h1, h2, h3, h4⟩, hj, hlink, hfin, hty⟩ := hf
  intro p e s m args below meth c H locs ls Cx hH hS hl
  have he : (xw X hp)[h]? = some (x0 X + h, .inr (ci, fs.map (xv X))) := xw_at hh
  have hl' : j < (fs.map (xv X)).length := by rw [List.length_map]; exact hj'
  have kk' : ∀ (H1 : Heap) (locs1 : List Loc), va_P (xD X) vwCl ((xw X hp).set h (x0 X + h, .inr (ci, (fs.map (xv X)).set j (xv X v)))) H1 → va_D (xA X) ((xw X hp).set h (x0 X + h, .inr (ci, (fs.map (xv X)).set j (xv X v)))) → va_S (xA X) s.heap H1 locs1 → W p l e (mM M) s m args below meth c H1 locs1 k n (Z below args s) (F0 m (pc + 3) ls (st.map (xv X))) :=
    fun H1 locs1 hP1 _ hS1 => kk p e s m args below meth c H1 locs1 ls Cx (hH.set (by show Sum.inr _ = _; rw [List.map_set]) hP1) hS1 hl
  rcases hlink with hlink | ⟨host, hlink⟩
  · exact va_put Cx.1 Cx.2.1 (Cx.ts args) h2 ty0 h3 h4 Cx.own Cx.K hH.2 (xw_D X hp) hS h he h1 j hj (Cx.ts args _ hlink) (fun _ z => z) hfin (by rw [h3 j hj, hty]) hn hfit hl' hd kk'
  · exact va_putN Cx.1 Cx.2.1 (Cx.ts args) h2 ty0 h3 h4 Cx.own Cx.K hH.2 (xw_D X hp) hS h he h1 j hj (Cx.ts args _ hlink) (fun _ z => z) hfin (by rw [h3 j hj, hty]) hn hfit hl' hd kk'
theorem R_putF {idx ci j h : Nat} {ty : FieldType} {fs : List Value} {v : Value} (hd : DC M pc (.putfield idx) 3) (hf : FQ (mY M).cls idx ci j ty) (hi : (mY M).name = "<init>") (hh : hp[h]? = some (.inr (ci, fs))) (hj' : j < fs.length) (hn : narrow ty (xv X v) = xv X v) (hfit : fits ty (xv X v) = true) (kk : PZ l X Z M (pc + 3) lv st (hp.set h (.inr (ci, fs.set j v))) k n) : PZ l X Z M pc lv (v :: .ref h :: st) hp k n := by
  obtain ⟨C, T, N, ty0, ⟨h1, h2, h3, h4⟩, hj, hlink, hfin, hty, hdecl⟩ := hf
  intro p e s m args below meth c H locs ls Cx hH hS hl
  have he : (xw X hp)[h]? = some (x0 X + h, .inr (ci, fs.map (xv X))) := xw_at hh
  have hl' : j < (fs.map (xv X)).length := by rw [List.length_map]; exact hj'
  exact va_putF Cx.1 Cx.2.1 (Cx.ts args) h2 ty0 h3 h4 Cx.own Cx.K hH.2 (xw_D X hp) hS h he h1 j hj (Cx.ts args _ hlink) (fun _ z => z) hfin (Cx.2.2.2.2.2.2.1.trans hi) hdecl (by rw [h3 j hj, hty]) hn hfit hl' hd
    (fun H1 locs1 hP1 _ hS1 => kk p e s m args below meth c H1 locs1 ls Cx (hH.set (by show Sum.inr _ = _; rw [List.map_set]) hP1) hS1 hl)
theorem R_iaload {h N : Nat} {f : Nat → Int32} {i : Int32} (hd : DC M pc .iaload 1) (hh : hp[h]? = some (ia N f)) (hi : vp_in i N) (kk : PZ l X Z M (pc + 1) lv (.int (f i.toNatClampNeg) :: st) hp k n) : PZ l X Z M pc lv (.int i :: .ref h :: st) hp k n :=
  fun p e s m args below meth c H locs ls Cx hH hS hl => va_iald Cx.1 Cx.2.1 Cx.K hH.2 h 0 (xw_at hh) rfl hi hd (kk p e s m args below meth c H locs ls Cx hH hS hl)
theorem R_baload {h N : Nat} {f : Nat → Int32} {i : Int32} (hd : DC M pc .baload 1) (hh : hp[h]? = some (za N f)) (hi : vp_in i N) (kk : PZ l X Z M (pc + 1) lv (.int (f i.toNatClampNeg) :: st) hp k n) : PZ l X Z M pc lv (.int i :: .ref h :: st) hp k n :=
  fun p e s m args below meth c H locs ls Cx hH hS hl => va_zald Cx.1 Cx.2.1 Cx.K hH.2 h 1 (xw_at hh) rfl hi hd (kk p e s m args below meth c H locs ls Cx hH hS hl)
theorem R_iastore {h N : Nat} {f : Nat → Int32} {i x : Int32} (hd : DC M pc .iastore 1) (hh : hp[h]? = some (ia N f)) (hi : vp_in i N) (kk : PZ l X Z M (pc + 1) lv st (hp.set h (ia N (upd f i.toNatClampNeg x))) k n) : PZ l X Z M pc lv (.int x :: .int i :: .ref h :: st) hp k n :=
  fun p e s m args below meth c H locs ls Cx hH hS hl => va_iast Cx.1 Cx.2.1 Cx.K hH.2 (xw_D X hp) hS h 0 (xw_at hh) rfl hi hd (fun H1 locs1 hP1 _ hS1 => kk p e s m args below meth c H1 locs1 ls Cx (hH.set rfl hP1) hS1 hl)
theorem R_bastore {h N : Nat} {f : Nat → Int32} {i x : Int32} (hd : DC M pc .bastore 1) (hh : hp[h]? = some (za N f)) (hi : vp_in i N) (kk : PZ l X Z M (pc + 1) lv st (hp.set h (za N (upd f i.toNatClampNeg (vp_nar .boolean x)))) k n) : PZ l X Z M pc lv (.int x :: .int i :: .ref h :: st) hp k n :=
  fun p e s m args below meth c H locs ls Cx hH hS hl => va_zast Cx.1 Cx.2.1 Cx.K hH.2 (xw_D X hp) hS h 1 (xw_at hh) rfl hi hd (fun H1 locs1 hP1 _ hS1 => kk p e s m args below meth c H1 locs1 ls Cx (hH.set rfl hP1) hS1 hl)
theorem R_aaload {h N q : Nat} {f : Nat → Option Nat} {i : Int32} (hd : DC M pc .aaload 1) (hh : hp[h]? = some (qa N f)) (hi : vp_in i N) (hq : f i.toNatClampNeg = some q) (kk : PZ l X Z M (pc + 1) lv (.ref q :: st) hp k n) : PZ l X Z M pc lv (.int i :: .ref h :: st) hp k n := by
  intro p e s m args below meth c H locs ls Cx hH hS hl
  refine va_aldq Cx.1 Cx.2.1 Cx.K hH.2 h 2 (xw_at hh) rfl hi hd ?_
  have e1 : va_rf ((f i.toNatClampNeg).map (x0 X + ·)) = .ref (x0 X + q) := by rw [hq]; rfl
  rw [e1]
  exact kk p e s m args below meth c H locs ls Cx hH hS hl
theorem R_aastore {h N q : Nat} {f : Nat → Option Nat} {i : Int32} {fs : List Value} (hd : DC M pc .aastore 1) (hh : hp[h]? = some (qa N f)) (hi : vp_in i N) (hq : hp[q]? = some (.inr (8, fs))) (kk : PZ l X Z M (pc + 1) lv st (hp.set h (qa N (va_up f i.toNatClampNeg (some q)))) k n) : PZ l X Z M pc lv (.ref q :: .int i :: .ref h :: st) hp k n := by
  intro p e s m args below meth c H locs ls Cx hH hS hl
  have hu : (fun j => (va_up f i.toNatClampNeg (some q) j).map (x0 X + ·)) = va_up (fun j => (f j).map (x0 X + ·)) i.toNatClampNeg (some (x0 X + q)) := by
    funext j
    unfold va_up
    by_cases hj : j = i.toNatClampNeg <;> simp [hj]
  exact va_astq Cx.1 Cx.2.1 Cx.K hH.2 (xw_D X hp) hS h 2 q 8 (r := (RX9, TX9, 5)) (xw_at hh) rfl (xw_at hq) rfl hi hd (fun H1 locs1 hP1 _ hS1 => kk p e s m args below meth c H1 locs1 ls Cx (hH.set (by show Sum.inl _ = _; simp only [xf, hu]) hP1) hS1 hl)
theorem R_alen {h : Nat} {kd N : Nat} {v : vp_A} {x : Int32} (hd : DC M pc .arraylength 1) (hh : hp[h]? = some (.inl (kd, v))) (hkd : kd < 3) (hx : Int32.ofNat v.1 = x) (kk : PZ l X Z M (pc + 1) lv (.int x :: st) hp k n) : PZ l X Z M pc lv (.ref h :: st) hp k n := by
  intro p e s m args below meth c H locs ls Cx hH hS hl
  have kk' := kk p e s m args below meth c H locs ls Cx hH hS hl
  have he : (xw X hp)[h]? = some (x0 X + h, .inl (xy X kd, (v.1, xf X v.2))) := xw_at hh
  rcases (show kd = 0 ∨ kd = 1 ∨ kd = 2 by omega) with rfl | rfl | rfl
  · exact va_alen Cx.1 Cx.2.1 Cx.K hH.2 h 0 he rfl hx hd kk'
  · exact va_alen Cx.1 Cx.2.1 Cx.K hH.2 h 1 he rfl hx hd kk'
  · exact va_alen Cx.1 Cx.2.1 Cx.K hH.2 h 2 he rfl hx hd kk'
/-- the script -/
theorem R_sload {i : Int32} (hd : DC M pc .iaload 1) (hi : vp_in i (xL X)) (kk : PZ l X Z M (pc + 1) lv (.int (xs X i.toNatClampNeg) :: st) hp k n) : PZ l X Z M pc lv (.int i :: .retAddr 0 :: st) hp k n :=
  fun p e s m args below meth c H locs ls Cx hH hS hl => va_sld Cx.1 Cx.2.1 Cx.xf.2.2.2.1.1 (Nat.lt_of_lt_of_le Cx.xf.2.2.2.1.2 Cx.ge) (Nat.not_le.mpr Cx.xf.2.2.2.1.2) hS hi hd (kk p e s m args below meth c H locs ls Cx hH hS hl)
theorem R_slen (hd : DC M pc .arraylength 1) (kk : PZ l X Z M (pc + 1) lv (.int (Int32.ofNat (xL X)) :: st) hp k n) : PZ l X Z M pc lv (.retAddr 0 :: st) hp k n :=
  fun p e s m args below meth c H locs ls Cx hH hS hl => va_slen Cx.1 Cx.2.1 Cx.xf.2.2.2.1.1 (Nat.lt_of_lt_of_le Cx.xf.2.2.2.1.2 Cx.ge) (Nat.not_le.mpr Cx.xf.2.2.2.1.2) hS hd (kk p e s m args below meth c H locs ls Cx hH hS hl)
/-- System.arraycopy between rows of ints -/
theorem R_copy {idx h0 h1 n0 n1 : Nat} {f g : Nat → Int32} {sp dp c' : Int32} (hd : DC M pc (.invokestatic idx) 3) (hlk : Cond.methodLink (mY M).cls idx arraycopyName ∈ lw_tg) (hh0 : hp[h0]? = some (ia n0 f)) (hh1 : hp[h1]? = some (ia n1 g)) (a1 : ¬ sp < 0) (a2 : ¬ dp < 0) (a3 : ¬ c' < 0) (a4 : sp.toNatClampNeg + c'.toNatClampNeg ≤ n0) (a5 : dp.toNatClampNeg + c'.toNatClampNeg ≤ n1)
    (hw : (st.map fun v => v.category).sum + (nativeFrameWords "java/lang/System" "arraycopy" 5 + 11) ≤ (mM M).locals) (hfr : 1 ≤ (mM M).frames) (hni : Cond.native arraycopyName ∈ lw_tg) (hsi : Cond.static arraycopyName ∈ lw_tg) (hii : Cond.initialized "java/lang/System" ∈ lw_tg)
    (kk : PZ l X Z M (pc + 3) lv st (hp.set h1 (ia n1 (va_cpy f g sp.toNatClampNeg dp.toNatClampNeg c'.toNatClampNeg))) k n) : PZ l X Z M pc lv (.int c' :: .int dp :: .ref h1 :: .int sp :: .ref h0 :: st) hp k n := by
  intro p e s m args below meth c H locs ls Cx hH hS hl
  have hw' : ((st.map (xv X)).map fun v => v.category).sum + (nativeFrameWords "java/lang/System" "arraycopy" 5 + 11) ≤ (mM M).locals := by
    rw [List.map_map]
    have : ((fun v : Value => v.category) ∘ xv X) = fun v : Value => v.category := funext fun v => xv_cat X v
    rw [this]; exact hw
  exact va_copyi Cx.1 Cx.2.1 (Cx.2.2.1.trans hl.1.symm) Cx.own (Cx.ts args _ hlk) (Cx.ts args _ hni) (Cx.ts args _ hsi) (Cx.ts args _ hii) Cx.K hH.2 (xw_D X hp) hS h0 h1 0 0 (ty := .int) (xw_at hh0) (xw_at hh1) rfl rfl rfl a1 a2 a3 a4 a5 (fun _ _ => rfl) hfr hw' hd
    (fun H1 locs1 hP1 _ hS1 => kk p e s m args below meth c H1 locs1 ls Cx (hH.set rfl hP1) hS1 hl)
/-! returns -/
theorem HR.done {s t : State} {H : Heap} {locs : List Loc} {Q : Option Value → HPt → Prop} {v : Option Value} {a : Array Value} (hH : HR X hp k s H) (hS : va_S (xA X) s.heap H locs) (h0 : x0 X ≤ s.heap.size) (ht : t.heap = H) (hq : Q v hp) : QC X k Q a s (.returned (v.map (xv X))) t :=
  ⟨⟨v, hp, rfl, hq, by rw [ht]; exact hH⟩, by rw [ht]; exact hS.1, fun q hq => by rw [ht]; exact hS.2.1 q (Nat.lt_of_lt_of_le hq h0) (Nat.not_le.mpr hq)⟩
theorem R_iret {v : Int32} {Q : Option Value → HPt → Prop} (hd : DC M pc .ireturn 1) (hr : mR M = some .int) (hk : k = (mM M).cells) (hn : n = (mM M).slots) (hq : Q (some (.int v)) hp) : PZ l X (MZ X M Q) M pc lv [.int v] hp k n := by
  subst hk; subst hn
  intro p e s m args below meth c H locs ls Cx hH hS hl
  exact W.iret Cx.1 Cx.2.1 (Cx.2.2.2.2.1.trans hr) (fun t ht _ => hH.done (v := some (.int v)) hS Cx.ge ht hq) hS.2.2 hd Cx.2.2.2.2.2.1
theorem R_zret {v : Int32} {ty : FieldType} {Q : Option Value → HPt → Prop} (hd : DC M pc .ireturn 1) (hr : mR M = some ty) (hv : narrow ty (.int v) = .int v) (hk : k = (mM M).cells) (hn : n = (mM M).slots) (hq : Q (some (.int v)) hp) : PZ l X (MZ X M Q) M pc lv [.int v] hp k n := by
  subst hk; subst hn
  intro p e s m args below meth c H locs ls Cx hH hS hl
  exact W.zret Cx.1 Cx.2.1 (Cx.2.2.2.2.1.trans hr) hv (fun t ht _ => hH.done (v := some (.int v)) hS Cx.ge ht hq) hS.2.2 hd Cx.2.2.2.2.2.1
theorem R_lret {v : Int64} {Q : Option Value → HPt → Prop} (hd : DC M pc .lreturn 1) (hr : mR M = some .long) (hk : k = (mM M).cells) (hn : n = (mM M).slots) (hq : Q (some (.long v)) hp) : PZ l X (MZ X M Q) M pc lv [.long v] hp k n := by
  subst hk; subst hn
  intro p e s m args below meth c H locs ls Cx hH hS hl
  exact W.lret Cx.1 Cx.2.1 (Cx.2.2.2.2.1.trans hr) (fun t ht _ => hH.done (v := some (.long v)) hS Cx.ge ht hq) hS.2.2 hd Cx.2.2.2.2.2.1
theorem R_vret {Q : Option Value → HPt → Prop} (hd : DC M pc .return_ 1) (hr : mR M = none) (hk : k = (mM M).cells) (hn : n = (mM M).slots) (hq : Q none hp) : PZ l X (MZ X M Q) M pc lv [] hp k n := by
  subst hk; subst hn
  intro p e s m args below meth c H locs ls Cx hH hS hl
  exact W.vret Cx.1 Cx.2.1 (Cx.2.2.2.2.1.trans hr) (fun t ht _ => hH.done (v := none) hS Cx.ge ht hq) hS.2.2 hd Cx.2.2.2.2.2.1
/-! calls -/
theorem HR.size {p : Program} {e : Env} {R : Room} {s T : State} {m : MethodId} {args : Array Value} {below : List Frame} {meth : Method} {c : Code} {H : Heap} {locs : List Loc} (hH : HR X hp k s H) (hS : va_S (xA X) s.heap H locs) (h0 : x0 X ≤ s.heap.size) (hT : T.heap = H) (S : Stand p l e R s m args below meth c T locs k n) : H.size = x0 X + hp.length := by
  have h1 : H.size ≤ s.heap.size + k := by rw [← hT]; exact S.heapSize
  have h2 : x0 X + hp.length ≤ H.size := by
    cases hn : hp.length with
    | zero => exact Nat.le_trans h0 hS.1
    | succ j =>
      have hj : j < hp.length := by omega
      have := (hH.2 j _ (xw_at (List.getElem?_eq_getElem hj))).lt
      show x0 X + j < H.size
      exact this
  have h3 := hH.1
  omega
def MLk (own : String) (idx : Nat) (y : MethodName) : Prop := Cond.methodLink own idx y ∈ lw_tg ∨ ∃ host, Cond.methodLinkNest own idx y host ∈ lw_tg
/-- what the tables say of a method -/
def MK (M : MT) (np : Nat) : Prop := Cond.code (mY M) (mB M) (mN M) (mR M) ∈ lw_tg ∧ Cond.initialized (mY M).cls ∈ lw_tg ∧ ((mY M).cls ≠ "java/lang/invoke/MethodHandle" ∧ (mY M).cls ≠ "java/lang/invoke/VarHandle") ∧ (parseMethodDescriptor (mY M).desc).map (fun d => d.parameters.length) = some np
def MS (M : MT) (np : Nat) : Prop := MK M np ∧ Cond.static (mY M) ∈ lw_tg
def MV (M : MT) (np : Nat) : Prop := MK M np ∧ Cond.instanceMethod (mY M) ∈ lw_tg ∧ Cond.selects (mY M).cls (mY M) (mY M) ∈ lw_tg
def MI (M : MT) (np : Nat) : Prop := MK M np ∧ Cond.instanceMethod (mY M) ∈ lw_tg ∧ (mY M).name = "<init>" ∧ mR M = none
def RMk (M M' : MT) : Prop := (mM M').frames + 1 ≤ (mM M).frames ∧ 8 + (mN M' + 11) + (mM M').locals ≤ (mM M).locals
theorem MK.code {M' : MT} {np : Nat} (h : MK M' np) {s : State} (hT : TB s) : ∀ w ∈ [Cond.code (mY M') (mB M') (mN M') (mR M')], ∀ (a' : Array Value) (U : State), s.WarmedH U.vm → w.before a' U = true := by
  intro w hw a' U hW
  rw [List.mem_singleton.mp hw]
  exact hT.warm hW _ h.1 a'
theorem MK.len {M' : MT} {np : Nat} (h : MK M' np) : ∀ sig, parseMethodDescriptor (mY M').desc = some sig → np = sig.parameters.length := by
  intro sig hs
  have h2 := h.2.2.2
  rw [hs] at h2
  exact (Option.some.inj h2).symm
theorem PC.blind {args : List Value} : FrameBlind (PC X args hp) := by
  intro a U g mk h
  obtain ⟨h1, h2, h3, h4⟩ := h
  exact ⟨h1, h2.move (State.WarmedH.refl U) (fun _ _ => rfl), h3, h4⟩
theorem PC.at {p : Program} {s U : State} {m : MethodId} {meth : Method} {c : Code} {H : Heap} {locs : List Loc} {args : List Value} (Cx : CX X M p s m meth c) (hH : HR X hp k s H) (hS : va_S (xA X) s.heap H locs) (hz : H.size = x0 X + hp.length) (hU : U.heap = H) (hW : s.WarmedH U.vm) : PC X args hp (args.map (xv X)).toArray U := by
  refine ⟨rfl, Cx.xf.move hW (fun q hq => ?_), ?_, ?_, ?_⟩
  · rw [hU]; exact hS.2.1 q (Nat.lt_of_lt_of_le hq Cx.ge) (Nat.not_le.mpr hq)
  · rw [hU, hz]; exact Nat.le_add_right _ _
  · rw [hU, hz]; rfl
  · rw [hU]; exact hH.2
/-- behind a call -/
theorem call_on {p : Program} {e : Env} {s : State} {m : MethodId} {args : Array Value} {below : List Frame} {meth : Method} {c : Code} {H : Heap} {locs : List Loc} {ls : Array Slot} {M' : MT} {Q : Option Value → HPt → Prop} {a : Array Value} {stk : List Value} (Cx : CX X M p s m meth c) (hH : HR X hp k s H) (hS : va_S (xA X) s.heap H locs) (hl : LV X ls (mN M) lv)
    (hr : va_Run p l e (mM M) s m args below meth c H locs k n (mM M').cells (mM M').slots (F0 m pc ls stk) (st.map (xv X)) (QC X (mM M').cells Q a) (xA X)) {T : State} (hT : T.heap = H) (S : Stand p l e (mM M) s m args below meth c T locs k n)
    (kk : ∀ (v : Option Value) (hp' : HPt), Q v hp' → PZ l X Z M (pc + 3) lv (v.toList ++ st) hp' (k + (mM M').cells) (n + (mM M').slots)) : ∃ t, Steps p.tables e below (T.setTop (F0 m pc ls stk)) t ∧ Z below args s t := by
  have hz := hH.size hS Cx.ge hT S
  obtain ⟨v, st₀, t, T', L, h0, X', hL, e1, e2, ⟨⟨v', hp', hv, hq, hH'⟩, hsz0, hk'⟩, stp⟩ := hr T hT S
  cases hv
  have hsz : H.size ≤ T'.heap.size := by
    rw [e1, ← h0]; exact hsz0
  have hS1 : va_S (xA X) s.heap T'.heap (locs ++ L) := by
    refine ⟨Nat.le_trans hS.1 hsz, fun q g1 g2 => ?_, fun q hq => ?_⟩
    · rw [e1, hk' q (Nat.not_le.mp g2), h0]; exact hS.2.1 q g1 g2
    · rcases List.mem_append.mp hq with h | h
      · exact hS.2.2 q h
      · exact hL q h
  have hH1 : HR X hp' (k + (mM M').cells) s T'.heap := by
    have h1 := hH'.1
    rw [h0, hz] at h1
    have h2 := hH.1
    exact ⟨by omega, by rw [e1]; exact hH'.2⟩
  obtain ⟨t2, a1, b1⟩ := kk v' hp' hq p e s m args below meth c T'.heap (locs ++ L) ls Cx hH1 hS1 hl T' rfl X'
  refine ⟨t2, stp t2 ?_, b1⟩
  have e3 : (v'.toList ++ st).map (xv X) = (v'.map (xv X)).toList ++ st.map (xv X) := by
    cases v' <;> simp
  rw [e3] at a1
  exact a1
theorem cat_room {m : MethodId} {pc : Nat} {ls : Array Slot} {stk : List Value} (X : EX) {st : List Value} (h : (st.map fun v => v.category).sum ≤ 8) : 2 * (F0 m pc ls stk).monitorRoom + ((st.map (xv X)).map fun v => v.category).sum ≤ 8 := by
  refine lv_room ?_
  rw [List.map_map]
  have : ((fun v : Value => v.category) ∘ xv X) = fun v : Value => v.category := funext fun v => xv_cat X v
  rw [this]; exact h
theorem R_callS {M' : MT} {np idx : Nat} {As stk : List Value} {Q : Option Value → HPt → Prop} (hm : MS M' np) (hlk : MLk (mY M).cls idx (mY M')) (hsp : Sp l X M' As hp Q) (hd : DC M pc (.invokestatic idx) 3) (hst : stk = As.reverse ++ st) (hn : As.length = np) (hw : (st.map fun v => v.category).sum ≤ 8) (hrm : RMk M M') (hc : k + (mM M').cells ≤ (mM M).cells ∧ n + (mM M').slots ≤ (mM M).slots)
    (kk : ∀ (v : Option Value) (hp' : HPt), Q v hp' → PZ l X Z M (pc + 3) lv (v.toList ++ st) hp' (k + (mM M').cells) (n + (mM M').slots)) : PZ l X Z M pc lv stk hp k n := by
  intro p e s m args below meth c H locs ls Cx hH hS hl T hT S
  have hz := hH.size hS Cx.ge hT S
  have hT0 : TB s := Cx.xf.1
  have hstk : stk.map (xv X) = (As.map (xv X)).reverse ++ st.map (xv X) := by rw [hst, List.map_append, List.map_reverse]
  have hp : PreS s H (PC X As hp) (As.map (xv X)) := ⟨PC.blind, fun U hU hW => PC.at Cx hH hS hz hU hW⟩
  have hln : (As.map (xv X)).length = np := by rw [List.length_map]; exact hn
  refine call_on (Q := Q) (M' := M') (a := (As.map (xv X)).toArray) Cx hH hS hl ?_ hT S kk
  rcases hlk with hlk | ⟨host, hlk⟩
  · exact va_runS (ret := mR M') (bytes := mB M') (maxL := mN M') (rest := st.map (xv X)) ⟨Cx.1, Cx.2.1, Cx.2.2.1, Cx.own, Cx.ts args⟩ hsp ⟨⟨rfl, rfl, hrm.1, hrm.2, hm.1.code hT0, List.mem_singleton.mpr rfl, hT0 _ hm.1.1 _, hT0 _ hm.1.2.1 _, hm.1.2.2.1, hm.1.len, hT0 _ hlk _⟩, hT0 _ hm.2 _⟩ hp rfl hln hl.1 hstk (cat_room X hw) hd hc
  · exact va_runSN (ret := mR M') (bytes := mB M') (maxL := mN M') (rest := st.map (xv X)) ⟨Cx.1, Cx.2.1, Cx.2.2.1, Cx.own, Cx.ts args⟩ hsp ⟨⟨⟨rfl, rfl, hrm.1, hrm.2, hm.1.code hT0, List.mem_singleton.mpr rfl⟩, hT0 _ hm.1.1 _, hT0 _ hm.1.2.1 _, hm.1.2.2.1, hm.1.len, hT0 _ hlk _⟩, hT0 _ hm.2 _, trivial⟩ hp rfl hln hl.1 hstk (cat_room X hw) hd hc
theorem R_callI {M' : MT} {np idx h : Nat} {As stk : List Value} {Q : Option Value → HPt → Prop} (hm : MI M' np) (hlk : MLk (mY M).cls idx (mY M')) (hsp : Sp l X M' (.ref h :: As) hp Q) (hd : DC M pc (.invokespecial idx) 3) (hst : stk = As.reverse ++ .ref h :: st) (hn : As.length = np) (hw : (st.map fun v => v.category).sum ≤ 8) (hrm : RMk M M') (hc : k + (mM M').cells ≤ (mM M).cells ∧ n + (mM M').slots ≤ (mM M).slots)
    (kk : ∀ (v : Option Value) (hp' : HPt), Q v hp' → PZ l X Z M (pc + 3) lv (v.toList ++ st) hp' (k + (mM M').cells) (n + (mM M').slots)) : PZ l X Z M pc lv stk hp k n := by
  intro p e s m args below meth c H locs ls Cx hH hS hl T hT S
  have hz := hH.size hS Cx.ge hT S
  have hT0 : TB s := Cx.xf.1
  have hstk : stk.map (xv X) = (As.map (xv X)).reverse ++ .ref (x0 X + h) :: st.map (xv X) := by rw [hst, List.map_append, List.map_reverse]; rfl
  have hp : PreS s H (PC X (.ref h :: As) hp) (.ref (x0 X + h) :: As.map (xv X)) := ⟨PC.blind, fun U hU hW => PC.at (args := .ref h :: As) Cx hH hS hz hU hW⟩
  have hln : (As.map (xv X)).length = np := by rw [List.length_map]; exact hn
  obtain ⟨hmk, hin, hy1, hr0⟩ := hm
  refine call_on (Q := Q) (M' := M') (a := (Value.ref (x0 X + h) :: As.map (xv X)).toArray) Cx hH hS hl ?_ hT S kk
  have hcd := hmk.code hT0
  have hc1 := hT0 _ hmk.1 args
  unfold Sp at hsp
  rw [hr0] at hsp hcd hc1
  rcases hlk with hlk | ⟨host, hlk⟩
  · exact va_runI (bytes := mB M') (maxL := mN M') (rest := st.map (xv X)) ⟨Cx.1, Cx.2.1, Cx.2.2.1, Cx.own, Cx.ts args⟩ hsp ⟨⟨rfl, rfl, hrm.1, hrm.2, hcd, List.mem_singleton.mpr rfl, hc1, hT0 _ hmk.2.1 _, hmk.2.2.1, hmk.len, hT0 _ hlk _⟩, hy1, hT0 _ hin _⟩ hp rfl hln hl.1 hstk (cat_room X hw) hd hc
  · exact va_runIN (bytes := mB M') (maxL := mN M') (rest := st.map (xv X)) ⟨Cx.1, Cx.2.1, Cx.2.2.1, Cx.own, Cx.ts args⟩ hsp ⟨⟨⟨rfl, rfl, hrm.1, hrm.2, hcd, List.mem_singleton.mpr rfl⟩, hc1, hT0 _ hmk.2.1 _, hmk.2.2.1, hmk.len, hT0 _ hlk _⟩, hy1, hT0 _ hin _⟩ hp rfl hln hl.1 hstk (cat_room X hw) hd hc
theorem R_callVg {M' : MT} {np idx : Nat} {b : Nat} {rv : Value} {As stk : List Value} {Q : Option Value → HPt → Prop} (hm : MV M' np) (hlk : MLk (mY M).cls idx (mY M')) (hsp : Sp l X M' (rv :: As) hp Q) (hrv : xv X rv = .ref b) (hrc : ∀ (p : Program) (s : State) (m : MethodId) (meth : Method) (c : Code) (H : Heap) (locs : List Loc), CX X M p s m meth c → HR X hp k s H → va_S (xA X) s.heap H locs → ∃ cell : Cell, H[b]? = some cell ∧ cell.vm.isStatics = false ∧ s.vm.findClass (mY M').cls = some cell.cls)
    (hd : DC M pc (.invokevirtual idx) 3) (hst : stk = As.reverse ++ rv :: st) (hn : As.length = np) (hw : (st.map fun v => v.category).sum ≤ 8) (hrm : RMk M M') (hc : k + (mM M').cells ≤ (mM M).cells ∧ n + (mM M').slots ≤ (mM M).slots)
    (kk : ∀ (v : Option Value) (hp' : HPt), Q v hp' → PZ l X Z M (pc + 3) lv (v.toList ++ st) hp' (k + (mM M').cells) (n + (mM M').slots)) : PZ l X Z M pc lv stk hp k n := by
  intro p e s m args below meth c H locs ls Cx hH hS hl T hT S
  have hz := hH.size hS Cx.ge hT S
  have hT0 : TB s := Cx.xf.1
  have hstk : stk.map (xv X) = (As.map (xv X)).reverse ++ .ref b :: st.map (xv X) := by rw [hst, List.map_append, List.map_reverse, List.map_cons, hrv]
  have hp : PreV s H (mY M').cls b (PC X (rv :: As) hp) (As.map (xv X)) := ⟨PC.blind, hrc p s m meth c H locs Cx hH hS, fun U hU hW => by
    have h1 := PC.at (args := rv :: As) Cx hH hS hz hU hW
    rw [List.map_cons, hrv] at h1
    exact h1⟩
  have hln : (As.map (xv X)).length = np := by rw [List.length_map]; exact hn
  obtain ⟨hmk, hin, hse⟩ := hm
  refine call_on (Q := Q) (M' := M') (a := (Value.ref b :: As.map (xv X)).toArray) Cx hH hS hl ?_ hT S kk
  rcases hlk with hlk | ⟨host, hlk⟩
  · exact va_runV (ret := mR M') (bytes := mB M') (maxL := mN M') (rest := st.map (xv X)) ⟨Cx.1, Cx.2.1, Cx.2.2.1, Cx.own, Cx.ts args⟩ hsp ⟨⟨rfl, rfl, hrm.1, hrm.2, hmk.code hT0, List.mem_singleton.mpr rfl, hT0 _ hmk.1 _, hT0 _ hmk.2.1 _, hmk.2.2.1, hmk.len, hT0 _ hlk _⟩, hT0 _ hin _, hT0 _ hse _⟩ hp rfl hln hl.1 hstk (cat_room X hw) hd hc
  · exact va_runVN (ret := mR M') (bytes := mB M') (maxL := mN M') (rest := st.map (xv X)) ⟨Cx.1, Cx.2.1, Cx.2.2.1, Cx.own, Cx.ts args⟩ hsp ⟨⟨⟨rfl, rfl, hrm.1, hrm.2, hmk.code hT0, List.mem_singleton.mpr rfl⟩, hT0 _ hmk.1 _, hT0 _ hmk.2.1 _, hmk.2.2.1, hmk.len, hT0 _ hlk _⟩, hT0 _ hin _, hT0 _ hse _⟩ hp rfl hln hl.1 hstk (cat_room X hw) hd hc
theorem R_callV {M' : MT} {np idx ci h : Nat} {T' : u_T} {N' : Nat} {fs As stk : List Value} {Q : Option Value → HPt → Prop} (hm : MV M' np) (hlk : MLk (mY M).cls idx (mY M')) (hsp : Sp l X M' (.ref h :: As) hp Q) (hci : vwCl[ci]? = some ((mY M').cls, T', N')) (hh : hp[h]? = some (.inr (ci, fs)))
    (hd : DC M pc (.invokevirtual idx) 3) (hst : stk = As.reverse ++ .ref h :: st) (hn : As.length = np) (hw : (st.map fun v => v.category).sum ≤ 8) (hrm : RMk M M') (hc : k + (mM M').cells ≤ (mM M).cells ∧ n + (mM M').slots ≤ (mM M).slots)
    (kk : ∀ (v : Option Value) (hp' : HPt), Q v hp' → PZ l X Z M (pc + 3) lv (v.toList ++ st) hp' (k + (mM M').cells) (n + (mM M').slots)) : PZ l X Z M pc lv stk hp k n :=
  R_callVg hm hlk hsp (b := x0 X + h) rfl (fun p s m meth c H locs Cx hH hS => va_recv Cx.K hH.2 hci (xw_at hh)) hd hst hn hw hrm hc kk
/-- a text is the receiver -/
theorem R_callVK {M' : MT} {np idx i : Nat} {As stk : List Value} {Q : Option Value → HPt → Prop} (hm : MV M' np) (hcl : (mY M').cls = "java/lang/String") (hi : i < 2) (hlk : MLk (mY M).cls idx (mY M')) (hsp : Sp l X M' (.retAddr (1 + i) :: As) hp Q)
    (hd : DC M pc (.invokevirtual idx) 3) (hst : stk = As.reverse ++ .retAddr (1 + i) :: st) (hn : As.length = np) (hw : (st.map fun v => v.category).sum ≤ 8) (hrm : RMk M M') (hc : k + (mM M').cells ≤ (mM M).cells ∧ n + (mM M').slots ≤ (mM M).slots)
    (kk : ∀ (v : Option Value) (hp' : HPt), Q v hp' → PZ l X Z M (pc + 3) lv (v.toList ++ st) hp' (k + (mM M').cells) (n + (mM M').slots)) : PZ l X Z M pc lv stk hp k n :=
  R_callVg hm hlk hsp (b := xc X (1 + i)) rfl (fun p s m meth c H locs Cx hH hS => by rw [hcl]; exact vk_recv (adK := fun i => xc X (1 + i)) (i := i) Cx.xf.2.2.2.2.2.2.1 hi hS) hd hst hn hw hrm hc kk
/-! new cells -/
theorem R_objInit {idx h : Nat} (hd : DC M pc (.invokespecial idx) 3) (hlk : Cond.methodLink (mY M).cls idx objectInit ∈ lw_tg) (hi : Cond.instanceMethod objectInit ∈ lw_tg) (hcd : Cond.code objectInit ⟨#[0xb1]⟩ 1 none ∈ lw_tg) (hfr : 1 ≤ (mM M).frames) (hlo : (st.map fun v => v.category).sum + 12 ≤ (mM M).locals) (kk : PZ l X Z M (pc + 3) lv st hp k n) : PZ l X Z M pc lv (.ref h :: st) hp k n := by
  intro p e s m args below meth c H locs ls Cx hH hS hl
  have hlo' : ((st.map (xv X)).map fun v => v.category).sum + 12 ≤ (mM M).locals := by
    rw [List.map_map]
    have : ((fun v : Value => v.category) ∘ xv X) = fun v : Value => v.category := funext fun v => xv_cat X v
    rw [this]; exact hlo
  refine W.objInit Cx.1 Cx.2.1 Cx.own (Cx.ts args _ hlk) (Cx.ts args _ hi) (Cx.ts args _ hcd) rfl (by rw [Cx.2.2.1]; exact hl.1) rfl hd hfr ?_ (kk p e s m args below meth c H locs ls Cx hH hS hl)
  first | exact hlo' | (simp; simpa using hlo') | (show 2 * 0 + _ + _ ≤ _; omega)
end RH
