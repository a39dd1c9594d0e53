/-! answers that are references; tests against null; a row's length -/
section R12
variable {l : Launch} {X : EX} {Z : ZT} {M : MT} {pc : Nat} {lv lv' : List (Option Value)} {st : List Value} {hp : HPt} {k n : Nat}
def SpR (l : Launch) (X : EX) (M : MT) (args : List Value) (hp : HPt) (Q : Nat → HPt → Prop) : Prop := Sp l X M args hp (fun v hp' => ∃ r, v = some (.ref r) ∧ Q r hp')
def MZr (X : EX) (M : MT) (Q : Nat → HPt → Prop) : ZT := MZ X M (fun v hp' => ∃ r, v = some (.ref r) ∧ Q r hp')
theorem SpR.of {args : List Value} {Q : Nat → HPt → Prop} (hy : plainName (mY M).cls = true) (hlen : (lg_sl (args.map (xv X))).length ≤ mN M) (hlv : lvE (mN M) args = lv) (h : PZ l X (MZr X M Q) M 0 lv [] hp 0 0) : SpR l X M args hp Q := Sp.of hy hlen hlv h
theorem R_aret {h : Nat} {nm : String} {Q : Option Value → HPt → Prop} (hd : DC M pc .areturn 1) (hr : mR M = some (.object nm)) (hk : k = (mM M).cells) (hn : n = (mM M).slots) (hq : Q (some (.ref h)) hp) : PZ l X (MZ X M Q) M pc lv [.ref h] hp k n := by
  subst hk; subst hn
  intro p e s m args below meth c H locs ls Cx hH hS hl
  exact W.aret Cx.1 Cx.2.1 (Cx.2.2.2.2.1.trans hr) (Or.inl ⟨nm, rfl⟩) (Or.inr ⟨_, rfl⟩) (fun t ht _ => hH.done (v := some (.ref h)) hS Cx.ge ht hq) hS.2.2 hd Cx.2.2.2.2.2.1
theorem R_retr {h : Nat} {nm : String} {Q : Nat → HPt → Prop} (hd : DC M pc .areturn 1) (hr : mR M = some (.object nm)) (hk : k = (mM M).cells) (hn : n = (mM M).slots) (hq : Q h hp) : PZ l X (MZr X M Q) M pc lv [.ref h] hp k n := R_aret hd hr hk hn ⟨h, rfl, hq⟩
theorem R_callr {M' : MT} {np idx ci h : Nat} {T' : u_T} {N' : Nat} {fs As stk : List Value} {Q : Nat → HPt → Prop} (hm : MV M' np) (hlk : MLk (mY M).cls idx (mY M')) (hsp : SpR l X M' (.ref h :: As) hp Q) (hci : vwCl[ci]? = some ((mY M').cls, T', N')) (hh : hp[h]? = some (.inr (ci, fs)))
    (hd : DC M pc (.invokevirtual idx) 3) (hst : stk = As.reverse ++ .ref h :: st) (hn : As.length = np) (hw : (st.map fun v => v.category).sum ≤ 8) (hrm : RMk M M') (hz : CZ M') (hc : k ≤ (mM M).cells ∧ n ≤ (mM M).slots)
    (kk : ∀ (r : Nat) (hp' : HPt), Q r hp' → PZ l X Z M (pc + 3) lv (.ref r :: st) hp' k n) : PZ l X Z M pc lv stk hp k n :=
  R_callV hm hlk hsp hci hh hd hst hn hw hrm (by rw [hz.1, hz.2]; exact hc) (fun v hp' ⟨r, hv, hq⟩ => by rw [hz.1, hz.2, hv]; exact kk r hp' hq)
theorem R_ifnonnull {h : Nat} {off : Int} {tgt : Nat} (hd : DC M pc (.ifnonnull off) 3) (ht : (pc : Int) + off = (tgt : Int)) (kk : PZ l X Z M tgt lv st hp k n) : PZ l X Z M pc lv (.ref h :: st) hp k n :=
  fun p e s m args below meth c H locs ls C hH hS hl => lv_ifnonnull C.1 C.2.1 hd ht (kk p e s m args below meth c H locs ls C hH hS hl)
theorem R_ifnull {h : Nat} {off : Int} (hd : DC M pc (.ifnull off) 3) (kk : PZ l X Z M (pc + 3) lv st hp k n) : PZ l X Z M pc lv (.ref h :: st) hp k n :=
  fun p e s m args below meth c H locs ls C hH hS hl => lv_ifnull C.1 C.2.1 hd (kk p e s m args below meth c H locs ls C hH hS hl)
end R12
