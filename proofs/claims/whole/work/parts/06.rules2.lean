/-! RULES in Nat's words (nI), and specs by the kind of the answer -/
section R2
variable {l : Launch} {X : EX} {Z : ZT} {M : MT} {pc : Nat} {lv lv' : List (Option Value)} {st : List Value} {hp : HPt} {k n : Nat}
def SpI (l : Launch) (X : EX) (M : MT) (args : List Value) (hp : HPt) (Q : Int32 → HPt → Prop) : Prop := Sp l X M args hp (fun v hp' => ∃ r, v = some (.int r) ∧ Q r hp')
def SpL (l : Launch) (X : EX) (M : MT) (args : List Value) (hp : HPt) (Q : Int64 → HPt → Prop) : Prop := Sp l X M args hp (fun v hp' => ∃ r, v = some (.long r) ∧ Q r hp')
def SpV (l : Launch) (X : EX) (M : MT) (args : List Value) (hp : HPt) (Q : HPt → Prop) : Prop := Sp l X M args hp (fun v hp' => v = none ∧ Q hp')
def MZi (X : EX) (M : MT) (Q : Int32 → HPt → Prop) : ZT := MZ X M (fun v hp' => ∃ r, v = some (.int r) ∧ Q r hp')
def MZl (X : EX) (M : MT) (Q : Int64 → HPt → Prop) : ZT := MZ X M (fun v hp' => ∃ r, v = some (.long r) ∧ Q r hp')
def MZv (X : EX) (M : MT) (Q : HPt → Prop) : ZT := MZ X M (fun v hp' => v = none ∧ Q hp')
theorem SpI.of {args : List Value} {Q : Int32 → HPt → Prop} (hy : plainName (mY M).cls = true) (hlen : (lg_sl (args.map (xv X))).length ≤ mN M) (hlv : lvE (mN M) args = lv) (h : PZ l X (MZi X M Q) M 0 lv [] hp 0 0) : SpI l X M args hp Q := Sp.of hy hlen hlv h
theorem SpL.of {args : List Value} {Q : Int64 → HPt → Prop} (hy : plainName (mY M).cls = true) (hlen : (lg_sl (args.map (xv X))).length ≤ mN M) (hlv : lvE (mN M) args = lv) (h : PZ l X (MZl X M Q) M 0 lv [] hp 0 0) : SpL l X M args hp Q := Sp.of hy hlen hlv h
theorem SpV.of {args : List Value} {Q : HPt → Prop} (hy : plainName (mY M).cls = true) (hlen : (lg_sl (args.map (xv X))).length ≤ mN M) (hlv : lvE (mN M) args = lv) (h : PZ l X (MZv X M Q) M 0 lv [] hp 0 0) : SpV l X M args hp Q := Sp.of hy hlen hlv h
theorem SpI.imp {args : List Value} {Q Q' : Int32 → HPt → Prop} (h : SpI l X M args hp Q) (hq : ∀ v hp', Q v hp' → Q' v hp') : SpI l X M args hp Q' := Sp.imp h (fun _ _ ⟨r, h1, h2⟩ => ⟨r, h1, hq _ _ h2⟩)
theorem SpV.imp {args : List Value} {Q Q' : HPt → Prop} (h : SpV l X M args hp Q) (hq : ∀ hp', Q hp' → Q' hp') : SpV l X M args hp Q' := Sp.imp h (fun _ _ ⟨h1, h2⟩ => ⟨h1, hq _ h2⟩)
theorem R_reti {v : Int32} {Q : Int32 → HPt → Prop} (hd : DC M pc .ireturn 1) (hr : mR M = some .int) (hk : k = (mM M).cells) (hn : n = (mM M).slots) (hq : Q v hp) : PZ l X (MZi X M Q) M pc lv [.int v] hp k n := R_iret hd hr hk hn ⟨v, rfl, hq⟩
theorem R_retz {v : Int32} {ty : FieldType} {Q : Int32 → HPt → Prop} (hd : DC M pc .ireturn 1) (hr : mR M = some ty) (hv : narrow ty (.int v) = .int v) (hk : k = (mM M).cells) (hn : n = (mM M).slots) (hq : Q v hp) : PZ l X (MZi X M Q) M pc lv [.int v] hp k n := R_zret hd hr hv hk hn ⟨v, rfl, hq⟩
theorem R_retl {v : Int64} {Q : Int64 → HPt → Prop} (hd : DC M pc .lreturn 1) (hr : mR M = some .long) (hk : k = (mM M).cells) (hn : n = (mM M).slots) (hq : Q v hp) : PZ l X (MZl X M Q) M pc lv [.long v] hp k n := R_lret hd hr hk hn ⟨v, rfl, hq⟩
theorem R_retv {Q : HPt → Prop} (hd : DC M pc .return_ 1) (hr : mR M = none) (hk : k = (mM M).cells) (hn : n = (mM M).slots) (hq : Q hp) : PZ l X (MZv X M Q) M pc lv [] hp k n := R_vret hd hr hk hn ⟨rfl, hq⟩
def CZ (M' : MT) : Prop := (mM M').cells = 0 ∧ (mM M').slots = 0
theorem R_calli {M' : MT} {np idx ci h : Nat} {T' : u_T} {N' : Nat} {fs As stk : List Value} {Q : Int32 → HPt → Prop} (hm : MV M' np) (hlk : MLk (mY M).cls idx (mY M')) (hsp : SpI l X M' (.ref h :: As) hp Q) (hci : vwCl[ci]? = some ((mY M').cls, T', N')) (hh : hp[h]? = some (.inr (ci, fs)))
    (hd : DC M pc (.invokevirtual idx) 3) (hst : stk = As.reverse ++ .ref h :: st) (hn : As.length = np) (hw : (st.map fun v => v.category).sum ≤ 8) (hrm : RMk M M') (hz : CZ M') (hc : k ≤ (mM M).cells ∧ n ≤ (mM M).slots)
    (kk : ∀ (r : Int32) (hp' : HPt), Q r hp' → PZ l X Z M (pc + 3) lv (.int r :: st) hp' k n) : PZ l X Z M pc lv stk hp k n :=
  R_callV hm hlk hsp hci hh hd hst hn hw hrm (by rw [hz.1, hz.2]; exact hc) (fun v hp' ⟨r, hv, hq⟩ => by rw [hz.1, hz.2, hv]; exact kk r hp' hq)
theorem R_callv {M' : MT} {np idx ci h : Nat} {T' : u_T} {N' : Nat} {fs As stk : List Value} {Q : HPt → Prop} (hm : MV M' np) (hlk : MLk (mY M).cls idx (mY M')) (hsp : SpV l X M' (.ref h :: As) hp Q) (hci : vwCl[ci]? = some ((mY M').cls, T', N')) (hh : hp[h]? = some (.inr (ci, fs)))
    (hd : DC M pc (.invokevirtual idx) 3) (hst : stk = As.reverse ++ .ref h :: st) (hn : As.length = np) (hw : (st.map fun v => v.category).sum ≤ 8) (hrm : RMk M M') (hz : CZ M') (hc : k ≤ (mM M).cells ∧ n ≤ (mM M).slots)
    (kk : ∀ (hp' : HPt), Q hp' → PZ l X Z M (pc + 3) lv st hp' k n) : PZ l X Z M pc lv stk hp k n :=
  R_callV hm hlk hsp hci hh hd hst hn hw hrm (by rw [hz.1, hz.2]; exact hc) (fun v hp' ⟨hv, hq⟩ => by rw [hz.1, hz.2, hv]; exact kk hp' hq)
theorem R_callKi {M' : MT} {np idx i : Nat} {As stk : List Value} {Q : Int32 → HPt → Prop} (hm : MV M' np) (hcl : (mY M').cls = "java/lang/String") (hi : i < 2) (hlk : MLk (mY M).cls idx (mY M')) (hsp : SpI l X M' (.retAddr (1 + i) :: As) hp Q)
    (hd : DC M pc (.invokevirtual idx) 3) (hst : stk = As.reverse ++ .retAddr (1 + i) :: st) (hn : As.length = np) (hw : (st.map fun v => v.category).sum ≤ 8) (hrm : RMk M M') (hz : CZ M') (hc : k ≤ (mM M).cells ∧ n ≤ (mM M).slots)
    (kk : ∀ (r : Int32) (hp' : HPt), Q r hp' → PZ l X Z M (pc + 3) lv (.int r :: st) hp' k n) : PZ l X Z M pc lv stk hp k n :=
  R_callVK hm hcl hi hlk hsp hd hst hn hw hrm (by rw [hz.1, hz.2]; exact hc) (fun v hp' ⟨r, hv, hq⟩ => by rw [hz.1, hz.2, hv]; exact kk r hp' hq)
theorem R_stati {M' : MT} {np idx : Nat} {As stk : List Value} {Q : Int32 → HPt → Prop} (hm : MS M' np) (hlk : MLk (mY M).cls idx (mY M')) (hsp : SpI l X M' As hp Q)
    (hd : DC M pc (.invokestatic idx) 3) (hst : stk = As.reverse ++ st) (hn : As.length = np) (hw : (st.map fun v => v.category).sum ≤ 8) (hrm : RMk M M') (hz : CZ M') (hc : k ≤ (mM M).cells ∧ n ≤ (mM M).slots)
    (kk : ∀ (r : Int32) (hp' : HPt), Q r hp' → PZ l X Z M (pc + 3) lv (.int r :: st) hp' k n) : PZ l X Z M pc lv stk hp k n :=
  R_callS hm hlk hsp hd hst hn hw hrm (by rw [hz.1, hz.2]; exact hc) (fun v hp' ⟨r, hv, hq⟩ => by rw [hz.1, hz.2, hv]; exact kk r hp' hq)
theorem R_statl {M' : MT} {np idx : Nat} {As stk : List Value} {Q : Int64 → HPt → Prop} (hm : MS M' np) (hlk : MLk (mY M).cls idx (mY M')) (hsp : SpL l X M' As hp Q)
    (hd : DC M pc (.invokestatic idx) 3) (hst : stk = As.reverse ++ st) (hn : As.length = np) (hw : (st.map fun v => v.category).sum ≤ 8) (hrm : RMk M M') (hz : CZ M') (hc : k ≤ (mM M).cells ∧ n ≤ (mM M).slots)
    (kk : ∀ (r : Int64) (hp' : HPt), Q r hp' → PZ l X Z M (pc + 3) lv (.long r :: st) hp' k n) : PZ l X Z M pc lv stk hp k n :=
  R_callS hm hlk hsp hd hst hn hw hrm (by rw [hz.1, hz.2]; exact hc) (fun v hp' ⟨r, hv, hq⟩ => by rw [hz.1, hz.2, hv]; exact kk r hp' hq)
theorem R_statv {M' : MT} {np idx : Nat} {As stk : List Value} {Q : HPt → Prop} (hm : MS M' np) (hlk : MLk (mY M).cls idx (mY M')) (hsp : SpV l X M' As hp Q)
    (hd : DC M pc (.invokestatic idx) 3) (hst : stk = As.reverse ++ st) (hn : As.length = np) (hw : (st.map fun v => v.category).sum ≤ 8) (hrm : RMk M M') (hz : CZ M') (hc : k ≤ (mM M).cells ∧ n ≤ (mM M).slots)
    (kk : ∀ (hp' : HPt), Q hp' → PZ l X Z M (pc + 3) lv st hp' k n) : PZ l X Z M pc lv stk hp k n :=
  R_callS hm hlk hsp hd hst hn hw hrm (by rw [hz.1, hz.2]; exact hc) (fun v hp' ⟨hv, hq⟩ => by rw [hz.1, hz.2, hv]; exact kk hp' hq)
/-! Nat's words -/
theorem N_iadd {a b : Nat} (hd : DC M pc .iadd 1) (kk : PZ l X Z M (pc + 1) lv (.int (nI (a + b)) :: st) hp k n) : PZ l X Z M pc lv (.int (nI b) :: .int (nI a) :: st) hp k n := R_iadd hd (by rw [nI_add]; exact kk)
theorem N_isub {a b : Nat} (hd : DC M pc .isub 1) (h : b ≤ a) (kk : PZ l X Z M (pc + 1) lv (.int (nI (a - b)) :: st) hp k n) : PZ l X Z M pc lv (.int (nI b) :: .int (nI a) :: st) hp k n := R_isub hd (by rw [pk_sub h]; exact kk)
theorem N_imul {a b : Nat} (hd : DC M pc .imul 1) (kk : PZ l X Z M (pc + 1) lv (.int (nI (a * b)) :: st) hp k n) : PZ l X Z M pc lv (.int (nI b) :: .int (nI a) :: st) hp k n := R_imul hd (by rw [pk_mul]; exact kk)
theorem nI_ne {b : Nat} (h0 : 0 < b) (hb : b < 2 ^ 31) : ¬ nI b = 0 := nI_ne0 h0 hb
theorem N_idiv {a b : Nat} (hd : DC M pc .idiv 1) (ha : a < 2 ^ 31) (h0 : 0 < b) (hb : b < 2 ^ 31) (kk : PZ l X Z M (pc + 1) lv (.int (nI (a / b)) :: st) hp k n) : PZ l X Z M pc lv (.int (nI b) :: .int (nI a) :: st) hp k n := R_idiv hd (nI_ne0 h0 hb) (by rw [pk_div ha h0 hb]; exact kk)
theorem N_irem {a b : Nat} (hd : DC M pc .irem 1) (ha : a < 2 ^ 31) (h0 : 0 < b) (hb : b < 2 ^ 31) (kk : PZ l X Z M (pc + 1) lv (.int (nI (a % b)) :: st) hp k n) : PZ l X Z M pc lv (.int (nI b) :: .int (nI a) :: st) hp k n := R_irem hd (nI_ne0 h0 hb) (by rw [pk_rem ha h0 hb]; exact kk)
theorem N_iinc {i d a : Nat} (hd : DC M pc (.iinc i (d : Int)) 3) (hx : lv[i]? = some (some (.int (nI a)))) (hv : lput lv i (.int (nI (a + d))) = lv') (kk : PZ l X Z M (pc + 3) lv' st hp k n) : PZ l X Z M pc lv st hp k n :=
  R_iinc hd hx (by rw [show Int32.ofInt (d : Int) = nI d from by unfold nI; exact Int32.ofInt_eq_ofNat]; exact nI_add a d) hv kk
theorem N_icmp_lt {a b : Nat} {off : Int} {tgt : Nat} (hd : DC M pc (.if_icmp .lt off) 3) (ht : (pc : Int) + off = (tgt : Int)) (ha : a < 2 ^ 31) (hb : b < 2 ^ 31) (kt : a < b → PZ l X Z M tgt lv st hp k n) (kf : b ≤ a → PZ l X Z M (pc + 3) lv st hp k n) : PZ l X Z M pc lv (.int (nI b) :: .int (nI a) :: st) hp k n :=
  R_icmp_lt hd ht (fun h => kt ((nI_ltI ha hb).mp h)) (fun h => kf (Nat.not_lt.mp (fun z => h ((nI_ltI ha hb).mpr z))))
theorem N_icmp_ge {a b : Nat} {off : Int} {tgt : Nat} (hd : DC M pc (.if_icmp .ge off) 3) (ht : (pc : Int) + off = (tgt : Int)) (ha : a < 2 ^ 31) (hb : b < 2 ^ 31) (kt : b ≤ a → PZ l X Z M tgt lv st hp k n) (kf : a < b → PZ l X Z M (pc + 3) lv st hp k n) : PZ l X Z M pc lv (.int (nI b) :: .int (nI a) :: st) hp k n :=
  R_icmp_ge hd ht (fun h => kt ((nI_leI hb ha).mp h)) (fun h => kf (Nat.not_le.mp (fun z => h ((nI_leI hb ha).mpr z))))
theorem N_icmp_gt {a b : Nat} {off : Int} {tgt : Nat} (hd : DC M pc (.if_icmp .gt off) 3) (ht : (pc : Int) + off = (tgt : Int)) (ha : a < 2 ^ 31) (hb : b < 2 ^ 31) (kt : b < a → PZ l X Z M tgt lv st hp k n) (kf : a ≤ b → PZ l X Z M (pc + 3) lv st hp k n) : PZ l X Z M pc lv (.int (nI b) :: .int (nI a) :: st) hp k n :=
  R_icmp_gt hd ht (fun h => kt ((nI_ltI hb ha).mp h)) (fun h => kf (Nat.not_lt.mp (fun z => h ((nI_ltI hb ha).mpr z))))
theorem N_icmp_le {a b : Nat} {off : Int} {tgt : Nat} (hd : DC M pc (.if_icmp .le off) 3) (ht : (pc : Int) + off = (tgt : Int)) (ha : a < 2 ^ 31) (hb : b < 2 ^ 31) (kt : a ≤ b → PZ l X Z M tgt lv st hp k n) (kf : b < a → PZ l X Z M (pc + 3) lv st hp k n) : PZ l X Z M pc lv (.int (nI b) :: .int (nI a) :: st) hp k n :=
  R_icmp_le hd ht (fun h => kt ((nI_leI ha hb).mp h)) (fun h => kf (Nat.not_le.mp (fun z => h ((nI_leI ha hb).mpr z))))
theorem N_icmp_eq {a b : Nat} {off : Int} {tgt : Nat} (hd : DC M pc (.if_icmp .eq off) 3) (ht : (pc : Int) + off = (tgt : Int)) (ha : a < 2 ^ 31) (hb : b < 2 ^ 31) (kt : a = b → PZ l X Z M tgt lv st hp k n) (kf : a ≠ b → PZ l X Z M (pc + 3) lv st hp k n) : PZ l X Z M pc lv (.int (nI b) :: .int (nI a) :: st) hp k n :=
  R_icmp_eq hd ht (fun h => kt ((nI_eq ha hb).mp h)) (fun h => kf (fun z => h ((nI_eq ha hb).mpr z)))
theorem N_icmp_ne {a b : Nat} {off : Int} {tgt : Nat} (hd : DC M pc (.if_icmp .ne off) 3) (ht : (pc : Int) + off = (tgt : Int)) (ha : a < 2 ^ 31) (hb : b < 2 ^ 31) (kt : a ≠ b → PZ l X Z M tgt lv st hp k n) (kf : a = b → PZ l X Z M (pc + 3) lv st hp k n) : PZ l X Z M pc lv (.int (nI b) :: .int (nI a) :: st) hp k n :=
  R_icmp_ne hd ht (fun h => kt (fun z => h ((nI_eq ha hb).mpr z))) (fun h => kf ((nI_eq ha hb).mp h))
theorem N_if_eq {a : Nat} {off : Int} {tgt : Nat} (hd : DC M pc (.ifCond .eq off) 3) (ht : (pc : Int) + off = (tgt : Int)) (ha : a < 2 ^ 31) (kt : a = 0 → PZ l X Z M tgt lv st hp k n) (kf : a ≠ 0 → PZ l X Z M (pc + 3) lv st hp k n) : PZ l X Z M pc lv (.int (nI a) :: st) hp k n :=
  R_if_eq hd ht (fun h => kt (by by_cases z : a = 0; exact z; exact absurd h (nI_ne0 (by omega) ha))) (fun h => kf (fun z => h (by rw [z]; rfl)))
theorem N_if_ne {a : Nat} {off : Int} {tgt : Nat} (hd : DC M pc (.ifCond .ne off) 3) (ht : (pc : Int) + off = (tgt : Int)) (ha : a < 2 ^ 31) (kt : a ≠ 0 → PZ l X Z M tgt lv st hp k n) (kf : a = 0 → PZ l X Z M (pc + 3) lv st hp k n) : PZ l X Z M pc lv (.int (nI a) :: st) hp k n :=
  R_if_ne hd ht (fun h => kt (fun z => h (by rw [z]; rfl))) (fun h => kf (by by_cases z : a = 0; exact z; exact absurd h (nI_ne0 (by omega) ha)))
theorem N_iald {h N j : Nat} {f : Nat → Int32} {y : Int32} (hd : DC M pc .iaload 1) (hh : hp[h]? = some (ia N f)) (hj : j < N) (hN : N < 2 ^ 31) (hy : f j = y) (kk : PZ l X Z M (pc + 1) lv (.int y :: st) hp k n) : PZ l X Z M pc lv (.int (nI j) :: .ref h :: st) hp k n :=
  R_iaload hd hh (vp_in_nI hj hN) (by rw [nI_clamp (by omega), hy]; exact kk)
theorem N_bald {h N j : Nat} {f : Nat → Int32} {y : Int32} (hd : DC M pc .baload 1) (hh : hp[h]? = some (za N f)) (hj : j < N) (hN : N < 2 ^ 31) (hy : f j = y) (kk : PZ l X Z M (pc + 1) lv (.int y :: st) hp k n) : PZ l X Z M pc lv (.int (nI j) :: .ref h :: st) hp k n :=
  R_baload hd hh (vp_in_nI hj hN) (by rw [nI_clamp (by omega), hy]; exact kk)
theorem N_iast {h N j : Nat} {f : Nat → Int32} {x : Int32} (hd : DC M pc .iastore 1) (hh : hp[h]? = some (ia N f)) (hj : j < N) (hN : N < 2 ^ 31) (kk : PZ l X Z M (pc + 1) lv st (hp.set h (ia N (upd f j x))) k n) : PZ l X Z M pc lv (.int x :: .int (nI j) :: .ref h :: st) hp k n :=
  R_iastore hd hh (vp_in_nI hj hN) (by rw [nI_clamp (by omega)]; exact kk)
theorem N_bast {h N j : Nat} {f : Nat → Int32} {x : Int32} (hd : DC M pc .bastore 1) (hh : hp[h]? = some (za N f)) (hj : j < N) (hN : N < 2 ^ 31) (hx : vp_nar .boolean x = x) (kk : PZ l X Z M (pc + 1) lv st (hp.set h (za N (upd f j x))) k n) : PZ l X Z M pc lv (.int x :: .int (nI j) :: .ref h :: st) hp k n :=
  R_bastore hd hh (vp_in_nI hj hN) (by rw [nI_clamp (by omega), hx]; exact kk)
theorem N_aald {h N q j : Nat} {f : Nat → Option Nat} (hd : DC M pc .aaload 1) (hh : hp[h]? = some (qa N f)) (hj : j < N) (hN : N < 2 ^ 31) (hq : f j = some q) (kk : PZ l X Z M (pc + 1) lv (.ref q :: st) hp k n) : PZ l X Z M pc lv (.int (nI j) :: .ref h :: st) hp k n :=
  R_aaload hd hh (vp_in_nI hj hN) (by rw [nI_clamp (by omega)]; exact hq) kk
theorem N_aast {h N q j : Nat} {f : Nat → Option Nat} {fs : List Value} (hd : DC M pc .aastore 1) (hh : hp[h]? = some (qa N f)) (hj : j < N) (hN : N < 2 ^ 31) (hq : hp[q]? = some (.inr (8, fs))) (kk : PZ l X Z M (pc + 1) lv st (hp.set h (qa N (va_up f j (some q)))) k n) : PZ l X Z M pc lv (.ref q :: .int (nI j) :: .ref h :: st) hp k n :=
  R_aastore hd hh (vp_in_nI hj hN) hq (by rw [nI_clamp (by omega)]; exact kk)
theorem R_puti {idx ci j h : Nat} {fs : List Value} {v : Int32} (hd : DC M pc (.putfield idx) 3) (hf : FP (mY M).cls idx ci j .int) (hh : hp[h]? = some (.inr (ci, fs))) (hj' : j < fs.length) (kk : PZ l X Z M (pc + 3) lv st (hp.set h (.inr (ci, fs.set j (.int v)))) k n) : PZ l X Z M pc lv (.int v :: .ref h :: st) hp k n := R_putf hd hf hh hj' rfl rfl kk
theorem R_putl {idx ci j h : Nat} {fs : List Value} {v : Int64} (hd : DC M pc (.putfield idx) 3) (hf : FP (mY M).cls idx ci j .long) (hh : hp[h]? = some (.inr (ci, fs))) (hj' : j < fs.length) (kk : PZ l X Z M (pc + 3) lv st (hp.set h (.inr (ci, fs.set j (.long v)))) k n) : PZ l X Z M pc lv (.long v :: .ref h :: st) hp k n := R_putf hd hf hh hj' rfl rfl kk
theorem R_putz {idx ci j h : Nat} {fs : List Value} {v : Int32} (hd : DC M pc (.putfield idx) 3) (hf : FP (mY M).cls idx ci j .boolean) (hh : hp[h]? = some (.inr (ci, fs))) (hj' : j < fs.length) (hv : narrow .boolean (.int v) = .int v) (hv2 : fits .boolean (.int v) = true) (kk : PZ l X Z M (pc + 3) lv st (hp.set h (.inr (ci, fs.set j (.int v)))) k n) : PZ l X Z M pc lv (.int v :: .ref h :: st) hp k n := R_putf hd hf hh hj' hv hv2 kk
theorem R_jmp {pc' : Nat} {lv' : List (Option Value)} {st' : List Value} {hp' : HPt} {k' n' : Nat} (h1 : pc = pc') (h2 : lv = lv') (h3 : st = st') (h4 : hp = hp') (h5 : k = k') (h6 : n = n') (h : PZ l X Z M pc' lv' st' hp' k' n') : PZ l X Z M pc lv st hp k n := by
  subst h1; subst h2; subst h3; subst h4; subst h5; subst h6; exact h
theorem gs_same {hp : HPt} {i : Nat} {e e0 : PE} (h : hp[i]? = some e0) : (hp.set i e)[i]? = some e := by
  rw [List.getElem?_set_self (List.getElem?_eq_some_iff.mp h).1]
theorem gs_ne {hp : HPt} {i j : Nat} {e : PE} (h : i ≠ j) : (hp.set i e)[j]? = hp[j]? := List.getElem?_set_ne h
theorem gs_ss {hp : HPt} {i : Nat} {e e' : PE} : (hp.set i e).set i e' = hp.set i e' := List.set_set ..
theorem gs_id {hp : HPt} {i : Nat} {e : PE} (h : hp[i]? = some e) : hp.set i e = hp := by
  apply List.ext_getElem?
  intro j
  by_cases hj : i = j
  · subst hj; rw [gs_same h, h]
  · rw [gs_ne hj]
theorem kd_ne {hp : HPt} {i j : Nat} {a : Nat × vp_A} {b : Nat × List Value} (h1 : hp[i]? = some (.inl a)) (h2 : hp[j]? = some (.inr b)) : i ≠ j := fun e => by
  rw [e, h2] at h1; cases h1
end R2
