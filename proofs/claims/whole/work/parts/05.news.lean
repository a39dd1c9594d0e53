/-! RULES of the pure machine: new cells, and what lies outside -/
section RN
variable {l : Launch} {X : EX} {Z : ZT} {M : MT} {pc : Nat} {lv lv' : List (Option Value)} {st : List Value} {hp : HPt} {k n : Nat}
theorem HR.push {s : State} {H H1 : Heap} {e : PE} (hH : HR X hp k s H) (hz : H.size = x0 X + hp.length) (o1 : ∀ q, q < H.size → H1[q]? = H[q]?) (he : va_at (xD X) vwCl (H.size, xe X e) H1) : HR X (hp ++ [e]) (k + 1) s H1 := by
  refine ⟨by rw [List.length_append, ← Nat.add_assoc, hH.1]; rfl, ?_⟩
  rw [← xw_push, ← hz]
  refine (hH.2.kept (fun i x hx => o1 x.1 ((hH.2 i x hx).lt))).app (fun i x hx => ?_)
  have hi : i < 1 := (List.getElem?_eq_some_iff.mp hx).1
  rw [show i = 0 by omega] at hx
  cases hx
  exact he
theorem S_push {s : State} {H H1 : Heap} {locs : List Loc} {A : Nat → Prop} (hS : va_S A s.heap H locs) (z1 : H1.size = H.size + 1) (o1 : ∀ q, q < H.size → H1[q]? = H[q]?) : va_S A s.heap H1 locs :=
  ⟨Nat.le_trans hS.1 (by omega), fun x h1 h2 => (o1 x (Nat.lt_of_lt_of_le h1 hS.1)).trans (hS.2.1 x h1 h2), hS.2.2⟩
theorem R_new {idx ci N : Nat} {C : String} {T : u_T} {ty0 : Nat → FieldType} {fs : List Value} (hkc : KC ci C T N ty0) (hd : DC M pc (.new idx) 3) (hcl : Cond.classLink (mY M).cls idx C ∈ lw_tg) (hin : Cond.instantiable C N ∈ lw_tg) (hini : Cond.initialized C ∈ lw_tg) (hfs : ∀ j, j < N → defaultValue (ty0 j) = vp_V (fs.map (xv X)) j) (hc : k + 1 ≤ (mM M).cells ∧ n + N ≤ (mM M).slots)
    (kk : PZ l X Z M (pc + 3) lv (.ref hp.length :: st) (hp ++ [.inr (ci, fs)]) (k + 1) (n + N)) : PZ l X Z M pc lv st hp k n := by
  intro p e s m args below meth c H locs ls Cx hH hS hl T' hT S
  have hz := hH.size hS Cx.ge hT S
  have hKn := Cx.K.1 ci _ hkc.1
  suffices w : W p l e (mM M) s m args below meth c H locs k n (Z below args s) (F0 m pc ls (st.map (xv X))) from w T' hT S
  refine W.newcK (h := H.size) Cx.1 Cx.2.1 Cx.own (Cx.ts args _ hcl) (Cx.ts args _ hin) (Cx.ts args _ hini) rfl hd hc.1 hc.2 hKn.2.1 rfl (fun H1 kC hkC e1 z1 o1 => ?_)
  have h9 := kk p e s m args below meth c H1 locs ls Cx (hH.push hz o1 ⟨_, hkc.1, (u_born ty0 (Cx.ts args) hkc.2.1 hKn hkC e1 hkc.2.2.1).to hfs⟩) (S_push hS z1 o1) hl
  rw [hz]
  exact h9
theorem R_newi {x : Int32} {N : Nat} (hd : DC M pc (.newarray .int) 2) (hx : ¬ x < 0) (hN : x.toNatClampNeg = N) (hb : N ≤ 100000) (hc : k + 1 ≤ (mM M).cells ∧ n + N ≤ (mM M).slots) (kk : PZ l X Z M (pc + 2) lv (.ref hp.length :: st) (hp ++ [ia N (fun _ => 0)]) (k + 1) (n + N)) : PZ l X Z M pc lv (.int x :: st) hp k n := by
  intro p e s m args below meth c H locs ls Cx hH hS hl T' hT S
  have hz := hH.size hS Cx.ge hT S
  suffices w : W p l e (mM M) s m args below meth c H locs k n (Z below args s) (F0 m pc ls (.int x :: st.map (xv X))) from w T' hT S
  refine va_newaK (atype := .int) (h := H.size) Cx.1 Cx.2.1 (show (Cond.arrayClass .int).before args s = true from Cx.xf.2.2.1.1) rfl hd rfl hx hN (by show N * 4 ≤ 536870912; omega) hc.1 hc.2 rfl (fun H1 cA e1 z1 o1 hAr hNm => ?_)
  have hy : cA = xy X 0 := Option.some.inj ((show s.vm.findClass ("[" ++ (FieldType.int).toString) = some cA from hNm).symm.trans (Cx.K.2 0 _ rfl).2)
  subst hy
  have h9 := kk p e s m args below meth c H1 locs ls Cx (hH.push hz o1 e1) (S_push hS z1 o1) hl
  rw [hz]
  exact h9
theorem R_newz {x : Int32} {N : Nat} (hd : DC M pc (.newarray .boolean) 2) (hx : ¬ x < 0) (hN : x.toNatClampNeg = N) (hb : N ≤ 100000) (hc : k + 1 ≤ (mM M).cells ∧ n + N ≤ (mM M).slots) (kk : PZ l X Z M (pc + 2) lv (.ref hp.length :: st) (hp ++ [za N (fun _ => 0)]) (k + 1) (n + N)) : PZ l X Z M pc lv (.int x :: st) hp k n := by
  intro p e s m args below meth c H locs ls Cx hH hS hl T' hT S
  have hz := hH.size hS Cx.ge hT S
  suffices w : W p l e (mM M) s m args below meth c H locs k n (Z below args s) (F0 m pc ls (.int x :: st.map (xv X))) from w T' hT S
  refine va_newaK (atype := .boolean) (h := H.size) Cx.1 Cx.2.1 (show (Cond.arrayClass .boolean).before args s = true from Cx.xf.2.2.1.2.1) rfl hd rfl hx hN (by show N * 1 ≤ 536870912; omega) hc.1 hc.2 rfl (fun H1 cA e1 z1 o1 hAr hNm => ?_)
  have hy : cA = xy X 1 := Option.some.inj ((show s.vm.findClass ("[" ++ (FieldType.boolean).toString) = some cA from hNm).symm.trans (Cx.K.2 1 _ rfl).2)
  subst hy
  have h9 := kk p e s m args below meth c H1 locs ls Cx (hH.push hz o1 e1) (S_push hS z1 o1) hl
  rw [hz]
  exact h9
theorem R_newq {x : Int32} {N idx : Nat} (hd : DC M pc (.anewarray idx) 3) (hcl : Cond.classLink (mY M).cls idx RX9 ∈ lw_tg) (hx : ¬ x < 0) (hN : x.toNatClampNeg = N) (hb : N ≤ 100000) (hc : k + 1 ≤ (mM M).cells ∧ n + N ≤ (mM M).slots) (kk : PZ l X Z M (pc + 3) lv (.ref hp.length :: st) (hp ++ [qa N (fun _ => none)]) (k + 1) (n + N)) : PZ l X Z M pc lv (.int x :: st) hp k n := by
  intro p e s m args below meth c H locs ls Cx hH hS hl T' hT S
  have hz := hH.size hS Cx.ge hT S
  subst hN
  suffices w : W p l e (mM M) s m args below meth c H locs k n (Z below args s) (F0 m pc ls (.int x :: st.map (xv X))) from w T' hT S
  refine W.anew Cx.1 Cx.2.1 Cx.own (Cx.ts args _ hcl) (va_AO.use Cx.xf.2.2.1.2.2) rfl hd rfl hx (by omega) hc.1 hc.2 (fun cA kA comp f1 f2 f3 f4 => ?_)
  have hy : cA = xy X 2 := by
    obtain ⟨_, _, _, _, _, g4⟩ := (Cx.K.2 2 _ rfl).2
    exact Option.some.inj (f1.symm.trans g4)
  subst hy
  generalize hH1 : H.push ({ cls := xy X 2, slots := Array.replicate x.toNatClampNeg .null, vm := .none } : Cell) = H1
  have z1 : H1.size = H.size + 1 := by rw [← hH1, Array.size_push]
  have e1 : H1[H.size]? = some (arrV (xy X 2) x.toNatClampNeg (fun _ => .null)) := by rw [← hH1, Array.getElem?_push_size, ← arrV_new]
  have o1 : ∀ q : Nat, q < H.size → H1[q]? = H[q]? := fun q hq => by rw [← hH1, Array.getElem?_push, if_neg (Nat.ne_of_lt hq)]
  have h9 := kk p e s m args below meth c H1 locs ls Cx (hH.push hz o1 e1) (S_push hS z1 o1) hl
  rw [hz]
  exact h9
/-! the two texts -/
theorem R_ldcL (hd : DC M pc (.ldc 23) 2) (hc : (mY M).cls = RX0) (kk : PZ l X Z M (pc + 2) lv (.retAddr 1 :: st) hp k n) : PZ l X Z M pc lv st hp k n :=
  fun p e s m args below meth c H locs ls Cx hH hS hl => va_ldcS Cx.1 Cx.2.1 (own := RX0) (by rw [← hc]; exact Cx.own) Cx.xf.2.2.2.2.1 hd (kk p e s m args below meth c H locs ls Cx hH hS hl)
theorem R_ldcF (hd : DC M pc (.ldc 15) 2) (hc : (mY M).cls = RX0) (kk : PZ l X Z M (pc + 2) lv (.retAddr 2 :: st) hp k n) : PZ l X Z M pc lv st hp k n :=
  fun p e s m args below meth c H locs ls Cx hH hS hl => va_ldcS Cx.1 Cx.2.1 (own := RX0) (by rw [← hc]; exact Cx.own) Cx.xf.2.2.2.2.2.1 hd (kk p e s m args below meth c H locs ls Cx hH hS hl)
theorem R_getsC {idx : Nat} (hd : DC M pc (.getstatic idx) 3) (hlk : Cond.fieldLink (mY M).cls idx "java/lang/String" "COMPACT_STRINGS" "Z" ∈ lw_tg) (kk : PZ l X Z M (pc + 3) lv (.int 1 :: st) hp k n) : PZ l X Z M pc lv st hp k n :=
  fun p e s m args below meth c H locs ls Cx hH hS hl => va_gets Cx.1 Cx.2.1 Cx.xf.2.2.2.2.2.2.2.1 hS Cx.own (Cx.ts args _ hlk) (fun _ z => z) hd (kk p e s m args below meth c H locs ls Cx hH hS hl)
theorem R_getsQ {idx : Nat} (hd : DC M pc (.getstatic idx) 3) (hlk : Cond.fieldLink (mY M).cls idx "jdk/internal/util/Preconditions" "SIOOBE_FORMATTER" "Ljava/util/function/BiFunction;" ∈ lw_tg) (k0 : PZ l X Z M (pc + 3) lv (.null :: st) hp k n) (k1 : PZ l X Z M (pc + 3) lv (.retAddr 5 :: st) hp k n) : PZ l X Z M pc lv st hp k n := by
  intro p e s m args below meth c H locs ls Cx hH hS hl
  rcases Cx.xf.2.2.2.2.2.2.2.2 with h | h
  · exact va_gets Cx.1 Cx.2.1 h hS Cx.own (Cx.ts args _ hlk) (fun _ z => z) hd (k0 p e s m args below meth c H locs ls Cx hH hS hl)
  · exact va_gets Cx.1 Cx.2.1 h hS Cx.own (Cx.ts args _ hlk) (fun _ z => z) hd (k1 p e s m args below meth c H locs ls Cx hH hS hl)
theorem R_coder {idx i : Nat} (hd : DC M pc (.getfield idx) 3) (hlk : Cond.fieldLink (mY M).cls idx "java/lang/String" "coder" "B" ∈ lw_tg) (hi : i < 2) (kk : PZ l X Z M (pc + 3) lv (.int 0 :: st) hp k n) : PZ l X Z M pc lv (.retAddr (1 + i) :: st) hp k n :=
  fun p e s m args below meth c H locs ls Cx hH hS hl => vk_getf Cx.1 Cx.2.1 (Cx.xf.2.2.2.2.2.2.1.1 i hi).2.1 hS Cx.own (Cx.ts args _ hlk) (fun _ z => z) hd (kk p e s m args below meth c H locs ls Cx hH hS hl)
theorem R_value {idx i : Nat} (hd : DC M pc (.getfield idx) 3) (hlk : Cond.fieldLink (mY M).cls idx "java/lang/String" "value" "[B" ∈ lw_tg) (hi : i < 2) (kk : PZ l X Z M (pc + 3) lv (.retAddr (3 + i) :: st) hp k n) : PZ l X Z M pc lv (.retAddr (1 + i) :: st) hp k n :=
  fun p e s m args below meth c H locs ls Cx hH hS hl => vk_getf Cx.1 Cx.2.1 (Cx.xf.2.2.2.2.2.2.1.1 i hi).2.2.1 hS Cx.own (Cx.ts args _ hlk) (fun _ z => z) hd (kk p e s m args below meth c H locs ls Cx hH hS hl)
theorem R_blen {i : Nat} {x : Int32} (hd : DC M pc .arraylength 1) (hi : i < 2) (hx : Int32.ofNat (slen.getD i 0) = x) (kk : PZ l X Z M (pc + 1) lv (.int x :: st) hp k n) : PZ l X Z M pc lv (.retAddr (3 + i) :: st) hp k n :=
  fun p e s m args below meth c H locs ls Cx hH hS hl => va_tlen Cx.1 Cx.2.1 (Cx.xf.2.2.2.2.2.2.1.1 i hi).2.2.2 hS hx hd (kk p e s m args below meth c H locs ls Cx hH hS hl)
theorem R_bld {i : Nat} {x y : Int32} (hd : DC M pc .baload 1) (hi : i < 2) (hx : vp_in x (slen.getD i 0)) (hy : (sbyt.getD i []).getD x.toNatClampNeg 0 = y) (kk : PZ l X Z M (pc + 1) lv (.int y :: st) hp k n) : PZ l X Z M pc lv (.int x :: .retAddr (3 + i) :: st) hp k n := by
  subst hy
  exact fun p e s m args below meth c H locs ls Cx hH hS hl => va_tb Cx.1 Cx.2.1 (Cx.xf.2.2.2.2.2.2.1.1 i hi).2.2.2 hS hx rfl hd (kk p e s m args below meth c H locs ls Cx hH hS hl)
theorem R_nload_n {j : Fin 4} {i : Nat} (hd : DC M pc (.aload_n j) 1) (hi : (j : Nat) = i) (hv : lv[i]? = some (some .null)) (kk : PZ l X Z M (pc + 1) lv (.null :: st) hp k n) : PZ l X Z M pc lv st hp k n :=
  fun p e s m args below meth c H locs ls C hH hS hl => lv_aload_nN C.1 C.2.1 hd hi (hl.2.2 _ _ hv) (kk p e s m args below meth c H locs ls C hH hS hl)
end RN
