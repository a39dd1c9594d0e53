/-! frames of the pure heap; writes that tell what stays -/
def Fr (L : List Nat) (hp hp' : HPt) : Prop := ∀ j, j ∉ L → hp'[j]? = hp[j]?
theorem Fr.rf {L : List Nat} {hp : HPt} : Fr L hp hp := fun _ _ => rfl
theorem Fr.one {L : List Nat} {hp hp' : HPt} {h : Nat} (e : ∀ j, j ≠ h → hp'[j]? = hp[j]?) (hL : h ∈ L) : Fr L hp hp' := fun j hj => e j (fun z => hj (z ▸ hL))
theorem Fr.trans {L : List Nat} {a b c : HPt} (h1 : Fr L a b) (h2 : Fr L b c) : Fr L a c := fun j hj => (h2 j hj).trans (h1 j hj)
theorem Fr.mono {L L' : List Nat} {a b : HPt} (h1 : Fr L a b) (h : ∀ j, j ∈ L → j ∈ L') : Fr L' a b := fun j hj => h1 j (fun z => hj (h j z))
theorem Fr.at {L : List Nat} {a b : HPt} (h1 : Fr L a b) {j : Nat} {e : PE} (hj : j ∉ L) (h : a[j]? = some e) : b[j]? = some e := (h1 j hj).trans h
section WR
variable {l : Launch} {X : EX} {Z : ZT} {M : MT} {pc : Nat} {lv lv' : List (Option Value)} {st : List Value} {hp : HPt} {k n : Nat}
theorem W_set {h : Nat} {e e0 : PE} {pc' : Nat} (hh : hp[h]? = some e0) (kk : ∀ hp1 : HPt, hp1[h]? = some e → (∀ j, j ≠ h → hp1[j]? = hp[j]?) → PZ l X Z M pc' lv st hp1 k n) : PZ l X Z M pc' lv st (hp.set h e) k n :=
  kk _ (gs_same hh) (fun _ hj => gs_ne (Ne.symm hj))
theorem W_puti {idx ci j h : Nat} {fs fs' : List Value} {v : Int32} (hd : DC M pc (.putfield idx) 3) (hf : FP (mY M).cls idx ci j .int) (hh : hp[h]? = some (.inr (ci, fs))) (hj' : j < fs.length) (hfs : fs.set j (.int v) = fs') (kk : ∀ hp1 : HPt, hp1[h]? = some (ob ci fs') → (∀ j, j ≠ h → hp1[j]? = hp[j]?) → PZ l X Z M (pc + 3) lv st hp1 k n) : PZ l X Z M pc lv (.int v :: .ref h :: st) hp k n := by
  subst hfs
  exact R_puti hd hf hh hj' (W_set hh kk)
theorem W_putl {idx ci j h : Nat} {fs fs' : List Value} {v : Int64} (hd : DC M pc (.putfield idx) 3) (hf : FP (mY M).cls idx ci j .long) (hh : hp[h]? = some (.inr (ci, fs))) (hj' : j < fs.length) (hfs : fs.set j (.long v) = fs') (kk : ∀ hp1 : HPt, hp1[h]? = some (ob ci fs') → (∀ j, j ≠ h → hp1[j]? = hp[j]?) → PZ l X Z M (pc + 3) lv st hp1 k n) : PZ l X Z M pc lv (.long v :: .ref h :: st) hp k n := by
  subst hfs
  exact R_putl hd hf hh hj' (W_set hh kk)
theorem W_putz {idx ci j h : Nat} {fs fs' : List Value} {v : Int32} (hd : DC M pc (.putfield idx) 3) (hf : FP (mY M).cls idx ci j .boolean) (hh : hp[h]? = some (.inr (ci, fs))) (hj' : j < fs.length) (hfs : fs.set j (.int v) = fs') (hv : narrow .boolean (.int v) = .int v) (hv2 : fits .boolean (.int v) = true) (kk : ∀ hp1 : HPt, hp1[h]? = some (ob ci fs') → (∀ j, j ≠ h → hp1[j]? = hp[j]?) → PZ l X Z M (pc + 3) lv st hp1 k n) : PZ l X Z M pc lv (.int v :: .ref h :: st) hp k n := by
  subst hfs
  exact R_putz hd hf hh hj' hv hv2 (W_set hh kk)
theorem W_iast {h N j : Nat} {f f' : Nat → Int32} {x : Int32} (hd : DC M pc .iastore 1) (hh : hp[h]? = some (ia N f)) (hj : j < N) (hN : N < 2 ^ 31) (hf : f' = upd f j x) (kk : ∀ hp1 : HPt, hp1[h]? = some (ia N f') → (∀ j, j ≠ h → hp1[j]? = hp[j]?) → PZ l X Z M (pc + 1) lv st hp1 k n) : PZ l X Z M pc lv (.int x :: .int (nI j) :: .ref h :: st) hp k n := by
  subst hf
  exact N_iast hd hh hj hN (W_set hh kk)
theorem W_bast {h N j : Nat} {f f' : Nat → Int32} {x : Int32} (hd : DC M pc .bastore 1) (hh : hp[h]? = some (za N f)) (hj : j < N) (hN : N < 2 ^ 31) (hx : vp_nar .boolean x = x) (hf : f' = upd f j x) (kk : ∀ hp1 : HPt, hp1[h]? = some (za N f') → (∀ j, j ≠ h → hp1[j]? = hp[j]?) → PZ l X Z M (pc + 1) lv st hp1 k n) : PZ l X Z M pc lv (.int x :: .int (nI j) :: .ref h :: st) hp k n := by
  subst hf
  exact N_bast hd hh hj hN hx (W_set hh kk)
theorem W_copy {idx h0 h1 n0 n1 sp dp c' : Nat} {f g g' : Nat → Int32} (hd : DC M pc (.invokestatic idx) 3) (hlk : Cond.methodLink (mY M).cls idx arraycopyName ∈ lw_tg) (hh0 : hp[h0]? = some (ia n0 f)) (hh1 : hp[h1]? = some (ia n1 g)) (b0 : n0 < 2 ^ 31) (b1 : n1 < 2 ^ 31) (a4 : sp + c' ≤ n0) (a5 : dp + c' ≤ n1)
    (hw : (st.map fun v => v.category).sum + (nativeFrameWords "java/lang/System" "arraycopy" 5 + 11) ≤ (mM M).locals) (hfr : 1 ≤ (mM M).frames) (hg : g' = va_cpy f g sp dp c') (kk : ∀ hp1 : HPt, hp1[h1]? = some (ia n1 g') → (∀ j, j ≠ h1 → hp1[j]? = hp[j]?) → PZ l X Z M (pc + 3) lv st hp1 k n) : PZ l X Z M pc lv (.int (nI c') :: .int (nI dp) :: .ref h1 :: .int (nI sp) :: .ref h0 :: st) hp k n := by
  subst hg
  have e1 := nI_clamp (n := sp) (by omega)
  have e2 := nI_clamp (n := dp) (by omega)
  have e3 := nI_clamp (n := c') (by omega)
  exact R_copy hd hlk hh0 hh1 (nI_pos (by omega)) (nI_pos (by omega)) (nI_pos (by omega)) (by rw [e1, e3]; exact a4) (by rw [e2, e3]; exact a5) hw hfr ac_n ac_s ac_i (by rw [e1, e2, e3]; exact W_set hh1 kk)
/-- Math.min, Math.max -/
theorem R_min {idx : Nat} {x y : Int32} (hd : DC M pc (.invokestatic idx) 3) (hlk : Cond.methodLink (mY M).cls idx yJ9_min_7cf53 ∈ lw_tg) (hfr : 1 ≤ (mM M).frames) (hlo : (st.map fun v => v.category).sum + 13 ≤ (mM M).locals) (hc : k ≤ (mM M).cells ∧ n ≤ (mM M).slots) (kk : PZ l X Z M (pc + 3) lv (.int (if y < x then y else x) :: st) hp k n) : PZ l X Z M pc lv (.int y :: .int x :: st) hp k n := by
  intro p e s m args below meth c H locs ls Cx hH hS hl
  have hlo' : ((st.map (xv X)).map fun v => v.category).sum + 13 ≤ (mM M).locals := by
    rw [List.map_map]
    have : ((fun v : Value => v.category) ∘ xv X) = fun v : Value => v.category := funext fun v => xv_cat X v
    rw [this]; exact hlo
  exact va_mmin Cx.1 Cx.2.1 (Cx.2.2.1.trans hl.1.symm) Cx.own (Cx.ts args _ hlk) (Cx.ts args _ kJ9_min_7cf53.2) (Cx.ts args _ kJ9_min_7cf53.1.2.1) (Cx.ts args _ kJ9_min_7cf53.1.1) hfr hlo' hc.1 hc.2 hd (kk p e s m args below meth c H locs ls Cx hH hS hl)
theorem R_max {idx : Nat} {x y : Int32} (hd : DC M pc (.invokestatic idx) 3) (hlk : Cond.methodLink (mY M).cls idx yJ9_max_7cf53 ∈ lw_tg) (hfr : 1 ≤ (mM M).frames) (hlo : (st.map fun v => v.category).sum + 13 ≤ (mM M).locals) (hc : k ≤ (mM M).cells ∧ n ≤ (mM M).slots) (kk : PZ l X Z M (pc + 3) lv (.int (if x < y then y else x) :: st) hp k n) : PZ l X Z M pc lv (.int y :: .int x :: st) hp k n := by
  intro p e s m args below meth c H locs ls Cx hH hS hl
  have hlo' : ((st.map (xv X)).map fun v => v.category).sum + 13 ≤ (mM M).locals := by
    rw [List.map_map]
    have : ((fun v : Value => v.category) ∘ xv X) = fun v : Value => v.category := funext fun v => xv_cat X v
    rw [this]; exact hlo
  exact va_mmax Cx.1 Cx.2.1 (Cx.2.2.1.trans hl.1.symm) Cx.own (Cx.ts args _ hlk) (Cx.ts args _ kJ9_max_7cf53.2) (Cx.ts args _ kJ9_max_7cf53.1.2.1) (Cx.ts args _ kJ9_max_7cf53.1.1) hfr hlo' hc.1 hc.2 hd (kk p e s m args below meth c H locs ls Cx hH hS hl)
end WR
