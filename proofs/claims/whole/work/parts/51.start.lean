/-! THE START: what lies outside, and the claim -/
theorem TB.of {s : State} {b : Nat} (hts : ∀ w ∈ lw_tbl, w.before #[Value.ref b] s = true) : TB s := by
  intro w hw args
  have hk := (List.mem_filter.mp hw).2
  have h0 := hts w (List.mem_filter.mp hw).1
  unfold tgw at hk
  rw [Bool.and_eq_true] at hk
  exact va_any hk.1 h0
theorem kn_all {s : State} (hT : TB s) : ∃ D : va_G, ∀ (c : Nat) (q : vw_C), vwCl[c]? = some q → u_Kn s q.1 q.2.1 q.2.2 (D.1 c) (D.2 c) := by
  have h0 : ∀ c : Nat, ∃ p : ClassId × (Nat → Nat), ∀ q : vw_C, vwCl[c]? = some q → u_Kn s q.1 q.2.1 q.2.2 p.1 p.2 := by
    intro c
    match c with
    | 0 =>
      obtain ⟨a, b, h⟩ := u_known (args := #[]) (C := RX1) (T := TX1) (N := 4) (n := 4) (fun w hw => hT w hw #[]) iX1 (hT _ tX1 #[])
      exact ⟨(a, b), fun q hq => by cases hq; exact h⟩
    | 1 =>
      obtain ⟨a, b, h⟩ := u_known (args := #[]) (C := RX2) (T := TX2) (N := 3) (n := 3) (fun w hw => hT w hw #[]) iX2 (hT _ tX2 #[])
      exact ⟨(a, b), fun q hq => by cases hq; exact h⟩
    | 2 =>
      obtain ⟨a, b, h⟩ := u_known (args := #[]) (C := RX3) (T := TX3) (N := 2) (n := 2) (fun w hw => hT w hw #[]) iX3 (hT _ tX3 #[])
      exact ⟨(a, b), fun q hq => by cases hq; exact h⟩
    | 3 =>
      obtain ⟨a, b, h⟩ := u_known (args := #[]) (C := RX4) (T := TX4) (N := 4) (n := 4) (fun w hw => hT w hw #[]) iX4 (hT _ tX4 #[])
      exact ⟨(a, b), fun q hq => by cases hq; exact h⟩
    | 4 =>
      obtain ⟨a, b, h⟩ := u_known (args := #[]) (C := RX5) (T := TX5) (N := 4) (n := 4) (fun w hw => hT w hw #[]) iX5 (hT _ tX5 #[])
      exact ⟨(a, b), fun q hq => by cases hq; exact h⟩
    | 5 =>
      obtain ⟨a, b, h⟩ := u_known (args := #[]) (C := RX6) (T := TX6) (N := 3) (n := 3) (fun w hw => hT w hw #[]) iX6 (hT _ tX6 #[])
      exact ⟨(a, b), fun q hq => by cases hq; exact h⟩
    | 6 =>
      obtain ⟨a, b, h⟩ := u_known (args := #[]) (C := RX7) (T := TX7) (N := 2) (n := 2) (fun w hw => hT w hw #[]) iX7 (hT _ tX7 #[])
      exact ⟨(a, b), fun q hq => by cases hq; exact h⟩
    | 7 =>
      obtain ⟨a, b, h⟩ := u_known (args := #[]) (C := RX8) (T := TX8) (N := 2) (n := 2) (fun w hw => hT w hw #[]) iX8 (hT _ tX8 #[])
      exact ⟨(a, b), fun q hq => by cases hq; exact h⟩
    | 8 =>
      obtain ⟨a, b, h⟩ := u_known (args := #[]) (C := RX9) (T := TX9) (N := 5) (n := 5) (fun w hw => hT w hw #[]) iX9 (hT _ tX9 #[])
      exact ⟨(a, b), fun q hq => by cases hq; exact h⟩
    | 9 =>
      obtain ⟨a, b, h⟩ := u_known (args := #[]) (C := RX10) (T := TX10) (N := 3) (n := 3) (fun w hw => hT w hw #[]) iX10 (hT _ tX10 #[])
      exact ⟨(a, b), fun q hq => by cases hq; exact h⟩
    | 10 =>
      obtain ⟨a, b, h⟩ := u_known (args := #[]) (C := RX11) (T := TX11) (N := 12) (n := 12) (fun w hw => hT w hw #[]) iX11 (hT _ tX11 #[])
      exact ⟨(a, b), fun q hq => by cases hq; exact h⟩
    | 11 =>
      obtain ⟨a, b, h⟩ := u_known (args := #[]) (C := RX12) (T := TX12) (N := 24) (n := 24) (fun w hw => hT w hw #[]) iX12 (hT _ tX12 #[])
      exact ⟨(a, b), fun q hq => by cases hq; exact h⟩
    | c + 12 => exact ⟨(0, fun _ => 0), fun q hq => by simp [vwCl] at hq⟩
  exact ⟨(fun c => (Classical.choose (h0 c)).1, fun c => (Classical.choose (h0 c)).2), fun c q hq => Classical.choose_spec (h0 c) q hq⟩
theorem arr_of {s : State} {t : FieldType} {args : Array Value} (h : (Cond.arrayClass t).before args s = true) : ∃ cA, ArrOfT s cA t ∧ s.vm.findClass ("[" ++ t.toString) = some cA := by
  obtain ⟨c, k, comp, h1, h2, h3⟩ := Cond.arrayClass_spec h
  exact ⟨c, fun n z => ⟨fun k h => (by cases h), k, h2, comp, h3⟩, h1⟩
def tmS (i : Nat) : Term := .string "TeleprinterTape$Code" (if i = 0 then 23 else 15)
def flS : List Cond := flatC (Jvm.Cond.and given_1 narrow_1)
theorem fs_ex : ∀ i, i < 2 → Cond.exactly (tmS i) "java/lang/String" ∈ flS := by decide +kernel
theorem fs_co : ∀ i, i < 2 → Cond.eq (.field (tmS i) "java/lang/String" "coder" "B") (.int 0) ∈ flS := by decide +kernel
theorem fs_ar : ∀ i, i < 2 → Cond.arrayOf (.field (tmS i) "java/lang/String" "value" "[B") .byte ∈ flS := by decide +kernel
theorem fs_le : ∀ i, i < 2 → Cond.eq (.length (.field (tmS i) "java/lang/String" "value" "[B")) (.int (Int32.ofNat (slen.getD i 0))) ∈ flS := by decide +kernel
theorem fs_el : ∀ i, i < 2 → ∀ j, j < slen.getD i 0 → Cond.eq (.elem (.field (tmS i) "java/lang/String" "value" "[B") (.int (Int32.ofNat j))) (.int ((sbyt.getD i []).getD j 0)) ∈ flS := by decide +kernel
theorem fs_ne : ∀ i, i < 2 → ∀ j, j < 2 → i ≠ j → Cond.not (Cond.eq (tmS i) (tmS j)) ∈ flS ∨ Cond.not (Cond.eq (tmS j) (tmS i)) ∈ flS := by decide +kernel
theorem fs_cs : Cond.eq (.static "java/lang/String" "COMPACT_STRINGS" "Z") (.int 1) ∈ flS := by decide +kernel
theorem fs_sf : Cond.isRef (.static "jdk/internal/util/Preconditions" "SIOOBE_FORMATTER" "Ljava/util/function/BiFunction;") ∈ flS := by decide +kernel
theorem fs_ln : ∀ i, i < 2 → slen.getD i 0 < 2 ^ 31 := by decide
theorem tb_in {w : Cond} (i : Nat) (h : lw_tbl[i]? = some w) : w ∈ lw_tbl := List.mem_of_getElem? h
theorem start_X {s : State} {b L : Nat} {xs : Nat → Int32} (hts : ∀ w ∈ lw_tbl, w.before #[Value.ref b] s = true) (hX : va_X b L xs s s.heap) (hbl : b < s.heap.size) (hgv : (Jvm.Cond.and given_1 narrow_1).before #[Value.ref b] s = true) : ∃ X : EX, xc X 0 = b ∧ x0 X = s.heap.size ∧ xL X = L ∧ XF X s s.heap := by
  have hT : TB s := TB.of hts
  have hs : ∀ c ∈ flS, c.before #[Value.ref b] s = true := flat_of_before _ hgv
  obtain ⟨D, hD⟩ := kn_all hT
  have hi := hts (.arrayClass .int) (tb_in 94 (by decide +kernel))
  have hz := hts (.arrayClass .boolean) (tb_in 165 (by decide +kernel))
  have hq := hts (.arrayOver (.object RX9)) (tb_in 137 (by decide +kernel))
  obtain ⟨c0, a0, n0⟩ := arr_of hi
  obtain ⟨c1, a1, n1⟩ := arr_of hz
  obtain ⟨comp, c2, k2, g1, g2, g3, g4, g5⟩ := Cond.arrayOver_spec hq
  have hA : ∀ a : Nat, a < s.heap.size → ¬ (fun q : Nat => s.heap.size ≤ q) a := fun a h => Nat.not_le.mpr h
  obtain ⟨adK, adV, hS, hev⟩ := vk_Sof (args := #[Value.ref b]) (s := s) (N := 2) (tm := tmS) (len := slen) (byt := sbyt) (A := fun q : Nat => s.heap.size ≤ q) fs_ln (fun i h => hs _ (fs_ex i h)) (fun i h => hs _ (fs_co i h)) (fun i h => hs _ (fs_ar i h)) (fun i h => hs _ (fs_le i h)) (fun i h j hj => hs _ (fs_el i h j hj)) (fun i j h hj e => (fs_ne i h j hj e).imp (hs _) (hs _)) hA
  have hZ1 := va_Zof (A := fun q : Nat => s.heap.size ≤ q) (hts (.laysStatic "java/lang/String" "COMPACT_STRINGS" "Z") (tb_in 336 (by decide +kernel))) (hts (.initialized "java/lang/String") (tb_in 43 (by decide +kernel))) (va_eqt (hs _ fs_cs)) hA
  have hZ2 := va_Zqof (A := fun q : Nat => s.heap.size ≤ q) (hts (.laysStatic "jdk/internal/util/Preconditions" "SIOOBE_FORMATTER" "Ljava/util/function/BiFunction;") (tb_in 379 (by decide +kernel))) (hts (.initialized "jdk/internal/util/Preconditions") (tb_in 47 (by decide +kernel))) (hs _ fs_sf) hA
  obtain ⟨t, ht⟩ : ∃ t : Nat, va_Z "jdk/internal/util/Preconditions" "SIOOBE_FORMATTER" "Ljava/util/function/BiFunction;" .null (fun q : Nat => s.heap.size ≤ q) s s.heap ∨ va_Z "jdk/internal/util/Preconditions" "SIOOBE_FORMATTER" "Ljava/util/function/BiFunction;" (.ref t) (fun q : Nat => s.heap.size ≤ q) s s.heap := by
    rcases hZ2 with h | ⟨t, h⟩
    · exact ⟨0, .inl h⟩
    · exact ⟨t, .inr h⟩
  have hr1 : vk_R RX0 23 "ABCDEFGHIJKLMNOPQRSTUVWXYZ" (adK 0) s := vk_R.of (hts (.stringRef RX0 23 "ABCDEFGHIJKLMNOPQRSTUVWXYZ") (tb_in 322 (by decide +kernel))) (hev 0 (by decide))
  have hr2 : vk_R RX0 15 "0123456789-?:().,/='+!&%;$" (adK 1) s := vk_R.of (hts (.stringRef RX0 15 "0123456789-?:().,/='+!&%;$") (tb_in 409 (by decide +kernel))) (hev 1 (by decide))
  refine ⟨(fun i => match i with | 0 => b | 1 => adK 0 | 2 => adK 1 | 3 => adV 0 | 4 => adV 1 | _ => t, s.heap.size, D, fun i => match i with | 0 => c0 | 1 => c1 | _ => c2, L, xs), rfl, rfl, rfl, hT, ⟨hD, fun k q hk => ?_⟩, ⟨word_at (State.WarmedH.refl s) (Or.inr ⟨_, rfl⟩) hi, word_at (State.WarmedH.refl s) (Or.inr ⟨_, rfl⟩) hz, va_AO.of hq⟩, ⟨hX, hbl⟩, hr1, hr2, ⟨fun i hi => ?_, fun i j hi hj e => ?_⟩, hZ1, ht⟩
  · match k, hk with
    | 0, hk => cases hk; exact ⟨a0, n0⟩
    | 1, hk => cases hk; exact ⟨a1, n1⟩
    | 2, hk => cases hk; exact ⟨fun n z => ⟨fun k h => (by cases h), k2, g3, comp, g4⟩, k2, comp, g3, g4, g1, g5⟩
    | k + 3, hk => simp [xt] at hk
  · rcases (show i = 0 ∨ i = 1 by omega) with rfl | rfl
    · exact hS.1 0 (by decide)
    · exact hS.1 1 (by decide)
  · rcases (show i = 0 ∨ i = 1 by omega) with rfl | rfl
    · rcases (show j = 0 ∨ j = 1 by omega) with rfl | rfl
      · rfl
      · exact absurd (hS.2 0 1 (by decide) (by decide) e) (by decide)
    · rcases (show j = 0 ∨ j = 1 by omega) with rfl | rfl
      · exact absurd (hS.2 1 0 (by decide) (by decide) e) (by decide)
      · rfl
def R_law : String := "TeleprinterTapeLaw"
def lw_P (b : Addr) (xs : List Int32) (args : Array Value) (s : State) : Prop := args = #[.ref b] ∧ s.IntsAt b xs ∧ xs.length ≤ 2048 ∧ (Jvm.Cond.and given_1 narrow_1).before args s = true
def lw_Q (_ : Array Value) (s : State) (o : Outcome) (t : State) : Prop := o = .returned (some (.int 1)) ∧ Framed s o t [] 600000 7302250
def lw_Z (below : List Frame) (a : Array Value) (s : State) : State → Prop := fun t => ∃ o, t.status = .running ∧ Ended t below o ∧ lw_Q a s o t
/-- the law's own end, with 1 on the stack, nothing written that was there before, its room as the claim has it -/
theorem lw_ret {p : Program} {l : Launch} {e : Env} {s : State} {m : MethodId} {below : List Frame} {meth : Method} {c : Code} {b : Nat} (hx : p.tables.exec = Jvm.exec) (hb : c.code = code) (hr : meth.sig.returnType = ret) (hlocks : meth.locks = false) {pc : Nat} {H : Heap} {ls : Array Slot} (hdg : decode code pc = .ok (.ireturn, 1)) : W p l e room_1 s m #[Value.ref b] below meth c H [] 600000 7302250 (lw_Z below #[Value.ref b] s) (F0 m pc ls [.int 1]) := by
  intro T hT X
  obtain ⟨fs, hret, hrun, hended, hW, hframe⟩ := X.leave (v := some (.int 1)) (hlocks := hlocks) (fun h => by rw [hr] at h; cases h)
  have hmeth' : T.vm.method? m = some meth := X.method'
  refine ⟨T.setFrames fs, ?_, .returned (some (.int 1)), hrun, hended, rfl, ⟨_, rfl⟩, hW, hframe⟩
  jvm_step X.here [X.here.top, hx, hb, hdg, hmeth', hr, ret, narrow_b1]
  (try refine ⟨rfl, ?_⟩); (try refine ⟨rfl, ?_⟩)
  first | (intro acts; rw [hret _ acts rfl rfl rfl]) | rw [hret _ _ rfl rfl rfl]
  exact Steps.refl _
/-- what holds at the law's entry: the machine, the code, the tables' words (any of lw_tbl by 'hts w (by decide +kernel)'), the script of L ints xs at the cell b, what the Statement gives of the start (any of its parts by flat_of_before) -/
def lw_At (p : Program) (s : State) (m : MethodId) (meth : Method) (c : Code) (b L : Nat) (xs : Nat → Int32) : Prop :=
  p.tables.exec = Jvm.exec ∧ c.code = code ∧ meth.sig.returnType = ret ∧ c.maxLocals = 4 ∧ s.vm.findClass R_law = some m.cls ∧ (∀ w ∈ lw_tbl, w.before #[Value.ref b] s = true) ∧ va_X b L xs s s.heap ∧ b < s.heap.size ∧ meth.locks = false ∧ (Jvm.Cond.and given_1 narrow_1).before #[Value.ref b] s = true ∧ meth.name = "law"
def ZL (X : EX) : ZT := fun below args s t => (args = #[Value.ref (xc X 0)] ∧ s.heap.size = x0 X) → lw_Z below args s t
section E51
variable {l : Launch} {X : EX}
theorem law_end (hp : HPt) (lv : List (Option Value)) : PZ l X (ZL X) mL_law 949 lv [.int (nI 1)] hp 78 5654 := by
  intro p e s m args below meth c H locs ls Cx hH hS hl
  by_cases h : args = #[Value.ref (xc X 0)] ∧ s.heap.size = x0 X
  · obtain ⟨rfl, h2⟩ := h
    have w : W p l e room_1 s m #[Value.ref (xc X 0)] below meth c H locs 78 5654 (lw_Z below #[Value.ref (xc X 0)] s) (F0 m 949 ls [.int 1]) :=
      va_forget (fun q hq => by rw [h2]; exact hS.2.2 q hq) (W.widen (k := 600000) (n := 7302250) (Nat.le_of_ble_eq_true rfl) (Nat.le_of_ble_eq_true rfl) (lw_ret Cx.1 Cx.2.1 Cx.2.2.2.2.1 Cx.2.2.2.2.2.1 dL_law_949))
    intro T hT S
    obtain ⟨t, h3, h4⟩ := w T hT S
    exact ⟨t, h3, fun _ => h4⟩
  · intro T hT S
    exact ⟨_, Steps.refl _, fun z => absurd z h⟩
set_option maxRecDepth 100000 in
set_option maxHeartbeats 4000000 in
theorem law_entry (hL : xL X ≤ 2048) : PZ l X (ZL X) mL_law 0 [some (.retAddr 0), none, none, none] [] [] 0 0 := by
  have hl : ([] : HPt).length = 0 := rfl
  refine V_new (fs := [.null, .null, .null, .null, .null, .null, .null, .null, .null, .null, .null, .null]) hl kcX11 dL_law_0 wL_7 tX11 sX11 (dfX11 X) ⟨Nat.le_of_ble_eq_true rfl, Nat.le_of_ble_eq_true rfl⟩ (fun wp1 wl4 wH2 wE3 => ?_)
  have wG5 : Fr [0] [] wp1 := Fr.one wE3 (by simp)
  have wF6 : Fr (List.range 78) [] wp1 := wG5.mono (by decide)
  refine R_dup dL_law_3 rfl ?_
  refine V_callI (st := [.ref 0]) kX11_init lL_9 (i_main wl4 wH2) dL_law_4 (Nat.le_of_ble_eq_true rfl) ⟨by decide, by decide⟩ ⟨Nat.le_of_ble_eq_true rfl, Nat.le_of_ble_eq_true rfl⟩ (fun wp7 wq11 => ?_)
  obtain ⟨wl8, wc9, wG10⟩ := wq11
  have wF12 : Fr (List.range 78) [] wp7 := wF6.trans (wG10.mono (by decide))
  refine R_astore_n (lv' := [some (.retAddr 0), some (.ref 0), none, none]) dL_law_7 rfl (by decide) rfl ?_
  refine V_new (fs := [.null, .int (nI 0), .null, .null, .null, .int (nI 0), .int (nI 0), .null, .null, .null, .null, .int (nI 0), .int (nI 0), .null, .null, .null, .null, .null, .int (nI 0), .null, .int (nI 0), .null, .int (nI 0), .null]) wl8 kcX12 dL_law_8 wL_10 tX12 sX12 (dfX12 X) ⟨Nat.le_of_ble_eq_true rfl, Nat.le_of_ble_eq_true rfl⟩ (fun wp13 wl16 wH14 wE15 => ?_)
  have wG17 : Fr [61] wp7 wp13 := Fr.one wE15 (by simp)
  have wc18 := wc9.fr wG17 (by decide)
  have wF19 : Fr (List.range 78) [] wp13 := wF12.trans (wG17.mono (by decide))
  refine R_dup dL_law_11 rfl ?_
  refine V_callI (st := [.ref 61]) kX12_init lL_12 (i_ref wl16 wH14) dL_law_12 (Nat.le_of_ble_eq_true rfl) ⟨by decide, by decide⟩ ⟨Nat.le_of_ble_eq_true rfl, Nat.le_of_ble_eq_true rfl⟩ (fun wp20 wq24 => ?_)
  obtain ⟨wl21, wc22, wG23⟩ := wq24
  have wc25 := wc18.fr wG23 (by decide)
  have wF26 : Fr (List.range 78) [] wp20 := wF19.trans (wG23.mono (by decide))
  refine R_astore_n (lv' := [some (.retAddr 0), some (.ref 0), some (.ref 61), none]) dL_law_15 rfl (by decide) rfl ?_
  refine R_iconst (v := (nI 0)) dL_law_16 (by decide) ?_
  refine R_istore_n (lv' := [some (.retAddr 0), some (.ref 0), some (.ref 61), some (.int (nI 0))]) dL_law_17 rfl (by decide) rfl ?_
  exact law_loop hL law_end (xL X) 0 _ _ (by omega) (Nat.zero_le _) wc25 wc22
end E51
theorem whole_start {p : Program} {e : Env} {s : State} {m : MethodId} {below : List Frame} {meth : Method} {c : Code} (l : Launch) (hflags : l.flags = flags0) {b L : Nat} {xs : Nat → Int32} (hL : L ≤ 2048) (C0 : lw_At p s m meth c b L xs) : W p l e room_1 s m #[Value.ref b] below meth c s.heap [] 0 0 (lw_Z below #[Value.ref b] s) (entryFrame m ([Value.ref b] : List Value).toArray 4) := by
  obtain ⟨hx, hb, hr, hml, hown, hts, hX, hbl, hlocks, hgv, hname⟩ := C0
  obtain ⟨X, e0, e1, e2, hF⟩ := start_X hts hX hbl hgv
  have hl := lv_entry ([Value.ref b]) (n := 4) (Nat.le_of_ble_eq_true rfl)
  rw [lg_entry_eq]
  generalize (lg_sl ([Value.ref b]) ++ List.replicate (4 - (lg_sl ([Value.ref b])).length) Slot.unset).toArray = ls at hl ⊢
  have hl2 : LV X ls 4 (lvE 4 [.retAddr 0]) := LV.entry (args := [.retAddr 0]) (by
    show lv_has ls 4 (lv_args 0 [Value.ref (xc X 0)])
    rw [e0]; exact hl)
  have w := law_entry (l := l) (X := X) (by rw [e2]; exact hL) p e s m #[Value.ref b] below meth c s.heap [] ls ⟨hx, hb, hml, hown, hr, hlocks, hname, hF, Nat.le_of_eq e1⟩ ⟨by rw [e1]; rfl, fun k q h => by simp [xw] at h⟩ va_S.rf hl2
  intro T hT S
  obtain ⟨t, h1, h2⟩ := w T hT S
  exact ⟨t, h1, h2 ⟨by rw [e0], e1.symm⟩⟩
set_option maxHeartbeats 4000000 in
theorem lw_walk (l : Launch) (hflags : l.flags = flags0) (b : Addr) (xs : List Int32) : MetFree l x (headSpec (Jvm.Cond.code x code maxLocals ret :: tables_1) room_1) (lw_P b xs) (fun _ _ _ _ _ => True) lw_Q := by
  refine MetFree.of_bodyS (code := code) (maxLocals := maxLocals) (ret := ret) (by decide) ?_ ?_
  · intro args s m h hn
    obtain ⟨meth, c, h1, h2, h3, h4, h5, h6, -, -⟩ := Cond.code_spec hn (atoms_spec (ws := Jvm.Cond.code x code maxLocals ret :: tables_1) h _ List.mem_cons_self)
    exact ⟨meth, c, h1, h2, h3, h4, h5, h6⟩
  · intro p e s m args below meth c s₁ B hml0 hP _
    obtain ⟨rfl, hx, hbd, hgv⟩ := hP
    obtain ⟨scr, harrAt, hlist, hof, hsmall⟩ := hx
    obtain ⟨hcb, hkn, -, -⟩ := State.arrayAt?_spec harrAt
    have hown : s.vm.findClass R_law = some m.cls := findClass_of_methodNamed B.named
    have hts0 : ∀ c ∈ (Jvm.Cond.code x code maxLocals ret :: tables_1), c.before #[Value.ref b] s = true := atoms_spec (ws := Jvm.Cond.code x code maxLocals ret :: tables_1) B.pre
    have hts : ∀ w ∈ lw_tbl, w.before #[Value.ref b] s = true := k2_hts_sels lw_privs (fun w hw => hts0 w (List.mem_cons_of_mem _ hw)) lw_privs_ok
    have hml : c.maxLocals = 4 := B.maxLocals_eq (hts0 _ List.mem_cons_self)
    have X₀ : Stand p l e room_1 s m #[Value.ref b] below meth c s₁ [] 0 0 := Stand.of_body B
    have hh0 : s₁.heap = s.heap := by rw [B.state]; rfl
    have hsz : scr.slots.size = xs.length := by rw [← Array.length_toList, hlist, List.length_map]
    have hval : ∀ j : Nat, j < xs.length → scr.slots[j]? = some (.int (xs.getD j 0)) := fun j hj => by
      rw [← Array.getElem?_toList, hlist]
      simp [hj]
    have hbl : b < s.heap.size := (Array.getElem?_eq_some_iff.mp hcb).1
    have hX : va_X b xs.length (fun j => xs.getD j 0) s s.heap := ⟨scr, hcb, hof, hkn, hsz, hval⟩
    have K : W p l e room_1 s m #[Value.ref b] below meth c s₁.heap [] 0 0 (lw_Z below #[Value.ref b] s) (entryFrame m ([Value.ref b] : List Value).toArray 4) := by
      rw [hh0]
      exact whole_start l hflags hbd ⟨B.exec, B.bytes, B.returns, hml, hown, hts, hX, hbl, B.notSynchronized, hgv, (name_of_methodNamed B.named B.method).1⟩
    obtain ⟨t, a1, o, b1, b2, b3⟩ := K s₁ rfl X₀
    exact ⟨t, o, a1, b1, b2, b3⟩
theorem lw_pre_spec {args : Array Value} {s : State} (h : (Jvm.Cond.and given_1 narrow_1).before args s = true) (hr : rest_1_c.before args s = true) : ∃ (b : Addr) (xs : List Int32), lw_P b xs args s := by
  have hs := flat_of_before _ h
  have hq := flat_of_before _ hr
  have hc : (Cond.count 1).before args s = true := hs _ (by decide +kernel)
  have harr : (Cond.arrayOf (.arg 0) .int).before args s = true := hs _ (by decide +kernel)
  have hle : (Cond.le (.length (.arg 0)) (.int 2048)).before args s = true := hs _ (by decide +kernel)
  have hlen : (Cond.isInt (.length (.arg 0))).before args s = true := hq _ (by decide +kernel)
  have hall : (Cond.all (.arg 0) (.isInt (.elem (.arg 0) (.index 0)))).before args s = true := hq _ (by decide +kernel)
  obtain ⟨b, xs, hb, hx⟩ := State.ints_of_pre rfl harr hlen hall
  have hsm : xs.length < 2 ^ 31 := hx.choose_spec.2.2.2
  have hev : (Term.length (.arg 0)).eval args s none [] s = some (.int xs.length.toInt32) := hx.length_eval hb
  have hv := Cond.le_ints hev (show (Term.int 2048).eval args s none [] s = some (.int 2048) from rfl)
  have hd : xs.length.toInt32 ≤ 2048 := by
    simpa [Cond.before, Cond.holds, hv] using hle
  have hN : xs.length ≤ 2048 := (Int32.ofNat_le_ofNat hsm (by decide)).mp (show Int32.ofNat xs.length ≤ Int32.ofNat 2048 from hd)
  exact ⟨b, xs, Cond.one_arg hc (show args[0]? = some (.ref b) from hb), hx, hN, h⟩
theorem lw_comes (l : Launch) (hflags : l.flags = flags0) : Comes l x (Jvm.Cond.code x code maxLocals ret :: tables_1) room_1 (fun tb e args s => Calls_1 tb e args s ∧ rest_1 tb e args s ∧ Pre_1 tb e args s)
    (fun _ _ args s o t => lw_Q args s o t) := by
  intro p e ha hc hk s m args below hf hfit hheap happ hpre
  obtain ⟨b, xs, hP⟩ := lw_pre_spec hpre.2.2 hpre.2.1
  obtain ⟨k, o, h1, h2, h3, hQ⟩ := lw_walk l hflags b xs p e ha hc hk s m args below hf ((Spec.applies_iff_loose hf).mp happ).1 hP trivial
  exact ⟨k, o, h1, h2, h3, hQ⟩
theorem lw_frame {s t : State} {o : Outcome} {args : Array Value} (h : Framed s o t [] 600000 7302250) :
    Framed s o t (fieldLocs frame_1_writes args s ++ arrayLocs frame_1_arrays args s ++ staticLocs frame_1_statics s) 600000 7302250 := h
theorem lw_limb (L : Cond) (hL : ∀ (args : Array Value) (s t : State), L.after args s (.returned (some (.int 1))) t = true) :
    ArmFor flags0 classFile x code maxLocals ret World_1 tables_1 room_1 Calls_1 rest_1 Pre_1
      (fun tb e a s o t => postC L tb e a s o t ∧ Framed s o t (fieldLocs frame_1_writes a s ++ arrayLocs frame_1_arrays a s ++ staticLocs frame_1_statics s) 600000 7302250) := by
  intro l hflags _ _ p e ha hc hk s m args below hf hfit hheap happ hpre
  obtain ⟨k, o, h1, h2, h3, rfl, hF⟩ := lw_comes l hflags p e ha hc hk s m args below hf hfit hheap happ hpre
  exact ⟨k, _, h1, h2, h3, hL args s _, lw_frame hF⟩
theorem i_vc : Claimed_1_1 ∧ Claimed_1_2 := ⟨lw_limb limb_1_1 (fun args s t => by simp [limb_1_1, Cond.after, Cond.holds, Cond.value]), lw_limb limb_1_2 (fun args s t => Cond.after_iff.mpr (by
  first | (rw [show limb_1_2 = Cond.eq .result (.int 1) from rfl, Cond.eq_ints (x := 1) (y := 1) rfl rfl]; simp; done) | (simp [limb_1_2, Cond.value, Term.eval]; done)))⟩
