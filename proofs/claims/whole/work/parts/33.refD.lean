/-! The reference's calls -/
def MgA (hp : HPt) (ms : List Nat) : Prop := ∃ f : Nat → Int32, hp[62]? = some (ia 60 f) ∧ (∀ (i : Nat) (hi : i < ms.length), f i = nI ms[i]) ∧ ms.length ≤ 60 ∧ ∀ c ∈ ms, c < 256
theorem MgA.fr {hp hp' : HPt} {ms : List Nat} {L : List Nat} (H : MgA hp ms) (F : Fr L hp hp') (h1 : 62 ∉ L) : MgA hp' ms := by
  obtain ⟨f, A, r⟩ := H
  exact ⟨f, F.at h1 A, r⟩
def KpA (hp : HPt) (s0 s1 : Option TP) : Prop := ∃ f u : Nat → Int32, hp[66]? = some (ia 200 f) ∧ hp[67]? = some (za 2 u) ∧ u 0 = bz s0.isSome ∧ u 1 = bz s1.isSome ∧ (∀ T, s0 = some T → RwF f 0 T) ∧ (∀ T, s1 = some T → RwF f 100 T)
theorem KpA.fr {hp hp' : HPt} {s0 s1 : Option TP} {L : List Nat} (H : KpA hp s0 s1) (F : Fr L hp hp') (h1 : 66 ∉ L) (h2 : 67 ∉ L) : KpA hp' s0 s1 := by
  obtain ⟨f, u, A, B, r⟩ := H
  exact ⟨f, u, F.at h1 A, F.at h2 B, r⟩
def ObA (hp : HPt) (os : List (Nat × Nat)) (nx : Nat) : Prop := ∃ f g : Nat → Int32, hp[68]? = some (ia 6 f) ∧ hp[69]? = some (ia 6 g) ∧ (∀ (i : Nat) (hi : i < os.length), f i = nI os[i].1 ∧ g i = nI os[i].2) ∧ os.length ≤ 6 ∧ nx < 6 ∧ (os.length < 6 → nx = os.length) ∧ ∀ q ∈ os, q.1 < 96 ∧ q.2 < 256
theorem ObA.fr {hp hp' : HPt} {os : List (Nat × Nat)} {nx : Nat} {L : List Nat} (H : ObA hp os nx) (F : Fr L hp hp') (h1 : 68 ∉ L) (h2 : 69 ∉ L) : ObA hp' os nx := by
  obtain ⟨f, g, A, B, r⟩ := H
  exact ⟨f, g, F.at h1 A, F.at h2 B, r⟩
def MJ (hp : HPt) (A : AS) : Prop := match A with
  | (ms, T, hs, s0, s1, os, ox) => ∃ (nx : Nat) (tl sl st : Int32), hp[61]? = some (ob 11 [.ref 62, .int (nI (ms.length)), .ref 63, .ref 64, .ref 65, .int (nI (hs.length)), .int (nI nx), .ref 66, .ref 67, .ref 68, .ref 69, .int (nI (os.length)), .int (nI ox), .ref 70, .ref 71, .ref 72, .ref 73, .ref 74, .int (tl), .ref 75, .int (sl), .ref 76, .int (st), .ref 77]) ∧ MgA hp ms ∧ RwAt hp 63 T ∧ AX hp 64 100 ∧ DiA hp hs nx ∧ KpA hp s0 s1 ∧ ObA hp os ox ∧ AX hp 70 96 ∧ AX hp 71 97 ∧ AX hp 72 96 ∧ AX hp 73 97 ∧ AX hp 74 96 ∧ AX hp 75 96 ∧ AX hp 76 320 ∧ AX hp 77 97
def LM : List Nat := [61, 62, 63, 64, 65, 66, 67, 68, 69, 70, 71, 72, 73, 74, 75, 76, 77]
theorem RwAt.ok {hp : HPt} {a : Nat} {cs : List Nat} {sc un wd : Nat} (H : RwAt hp a (cs, sc, un, wd)) : cs.length ≤ 96 ∧ (∀ c ∈ cs, c < 32) ∧ sc ≤ 1 ∧ un ≤ 1 ∧ 5 ≤ wd ∧ wd ≤ 40 := by
  obtain ⟨f, -, h⟩ := H
  exact h.to.2.2.2.2.2
theorem MgA.ok {hp : HPt} {ms : List Nat} (H : MgA hp ms) : ms.length ≤ 60 ∧ ∀ c ∈ ms, c < 256 := by
  obtain ⟨f, -, -, h⟩ := H
  exact h
theorem DiA.ok {hp : HPt} {hs : List TP} {nx : Nat} (H : DiA hp hs nx) : nx < 14 ∧ hs.length ≤ 14 := by
  obtain ⟨f, -, h1, h2, -⟩ := H
  exact ⟨h1, h2⟩
theorem ObA.ok {hp : HPt} {os : List (Nat × Nat)} {nx : Nat} (H : ObA hp os nx) : os.length ≤ 6 ∧ nx < 6 := by
  obtain ⟨f, g, -, -, -, h1, h2, -⟩ := H
  exact ⟨h1, h2⟩
theorem cofR_9 {x : Nat} : cofR x = -9 ↔ cof x = 255 := by
  unfold cofR
  by_cases h : cof x = 255
  · rw [if_pos h]; exact ⟨fun _ => h, fun _ => rfl⟩
  · rw [if_neg h]; exact ⟨fun z => absurd z (nI_m9 (by have := cof_lt h; have := cfor_le x; omega)), fun z => absurd z h⟩
section R33
variable {l : Launch} {X : EX} {hp : HPt}
set_option maxRecDepth 100000 in
set_option maxHeartbeats 4000000 in
theorem y_append {ms : List Nat} {cs : List Nat} {sc un wd : Nat} {hs : List TP} {s0 s1 : Option TP} {os : List (Nat × Nat)} {ox : Nat} {c : Int32} (hM : MJ hp (ms, (cs, sc, un, wd), hs, s0, s1, os, ox)) : SpI l X mX12_append [.ref 61, .int (c)] hp (fun r hp' => r = (f_append (ms, (cs, sc, un, wd), hs, s0, s1, os, ox) c).1 ∧ MJ hp' (f_append (ms, (cs, sc, un, wd), hs, s0, s1, os, ox) c).2 ∧ Fr LM hp hp') := by
  obtain ⟨nx, tl, sl, st, M0, MM, MN, MT, MD, MK, MO, A70, A71, A72, A73, A74, A75, A76, A77⟩ := hM
  obtain ⟨hL, hC3, hs1, hu1, hw1, hw2⟩ := MN.ok
  obtain ⟨hmL, hmC⟩ := MM.ok
  obtain ⟨hnx0, hsl0⟩ := MD.ok
  obtain ⟨hol0, hox0⟩ := MO.ok
  refine SpI.of pnX12 (Nat.le_of_ble_eq_true rfl) rfl ?_
  refine R_iload_n dX12_append_0 rfl rfl ?_
  refine R_i2l dX12_append_1 ?_
  refine R_lconst (v := 0) dX12_append_2 (by decide) ?_
  refine R_ldc2 dX12_append_3 nX12_90 ?_
  refine R_stati (As := [.long ((c).toInt64), .long (0), .long (255)]) (st := []) kX12_in lX12_67 (r_inW 0 255 rfl rfl (by decide) (by decide)) dX12_append_6 rfl rfl (Nat.le_of_ble_eq_true rfl) ⟨by decide, by decide⟩ zX12_in ⟨Nat.le_refl _, Nat.le_refl _⟩ (fun wr3 wp2 wq1 => ?_)
  obtain ⟨rfl, rfl⟩ : wr3 = _ ∧ hp = wp2 := ⟨wq1.1, wq1.2.symm⟩
  cases hw4 : inW c 0 255 with
  | false =>
    show PZ _ _ _ _ _ _ (.int (nI 0) :: _) _ _ _
    refine N_if_ne (tgt := 15) dX12_append_9 (by decide) (by decide) (fun hc => absurd hc (by decide)) (fun _ => ?_)
    have hf : f_append (ms, (cs, sc, un, wd), hs, s0, s1, os, ox) c = (-2, (ms, (cs, sc, un, wd), hs, s0, s1, os, ox)) := by unfold f_append; dsimp only; rw [hw4]; rfl
    refine R_bipush (v := (-2)) dX12_append_12 (by decide) ?_
    rw [hf]
    exact R_reti dX12_append_14 rfl rfl rfl ⟨rfl, ⟨_, _, _, _, M0, MM, MN, MT, MD, MK, MO, A70, A71, A72, A73, A74, A75, A76, A77⟩, (Fr.rf (L := LM) (hp := hp))⟩
  | true =>
    show PZ _ _ _ _ _ _ (.int (nI 1) :: _) _ _ _
    obtain ⟨j, -, hj, rfl⟩ := inW_t (by decide) hw4
    refine N_if_ne (tgt := 15) dX12_append_9 (by decide) (by decide) (fun _ => ?_) (fun hc => absurd hc (by decide))
    refine R_aload_n dX12_append_15 rfl rfl ?_
    refine R_getf dX12_append_16 gX12_92 M0 rfl ?_
    refine R_bipush (v := (nI 60)) dX12_append_19 (by decide) ?_
    refine N_icmp_ne (tgt := 27) dX12_append_21 (by decide) (by omega) (by omega) (fun hl => ?_) (fun hl => ?_)
    · obtain ⟨fm, Hm, hfm, -⟩ := id MM
      refine R_aload_n dX12_append_27 rfl rfl ?_
      refine R_getf dX12_append_28 gX12_7 M0 rfl ?_
      refine R_aload_n dX12_append_31 rfl rfl ?_
      refine R_getf dX12_append_32 gX12_92 M0 rfl ?_
      refine R_iload_n dX12_append_35 rfl rfl ?_
      obtain ⟨g2, eg2⟩ : ∃ y, y = upd fm (ms.length) (nI j) := ⟨_, rfl⟩
      refine W_iast (f' := g2) dX12_append_36 Hm (by omega) (by decide) eg2 (fun wp5 wH6 wE7 => ?_)
      have wH8 := (wE7 61 (by decide)).trans M0
      have wF9 : Fr [61, 62] hp wp5 := Fr.one wE7 (by simp)
      refine R_aload_n dX12_append_37 rfl rfl ?_
      refine R_dup dX12_append_38 rfl ?_
      refine R_getf dX12_append_39 gX12_92 wH8 rfl ?_
      refine R_iconst (v := (nI 1)) dX12_append_42 (by decide) ?_
      refine N_iadd dX12_append_43 ?_
      refine W_puti (fs' := [.ref 62, .int (nI ((ms.length) + 1)), .ref 63, .ref 64, .ref 65, .int (nI (hs.length)), .int (nI nx), .ref 66, .ref 67, .ref 68, .ref 69, .int (nI (os.length)), .int (nI ox), .ref 70, .ref 71, .ref 72, .ref 73, .ref 74, .int (tl), .ref 75, .int (sl), .ref 76, .int (st), .ref 77]) dX12_append_44 pX12_92 wH8 (Nat.le_of_ble_eq_true rfl) rfl (fun wp10 wH11 wE12 => ?_)
      have wH13 := (wE12 62 (by decide)).trans wH6
      have wF14 : Fr [61, 62] hp wp10 := wF9.trans (Fr.one wE12 (by simp))
      refine R_aload_n dX12_append_47 rfl rfl ?_
      refine R_getf dX12_append_48 gX12_92 wH11 rfl ?_
      have cm : MgA wp10 (ms ++ [j]) := by
        refine ⟨g2, wH13, fun i hi => ?_, by rw [len1]; omega, fun x hx => ?_⟩
        · rw [eg2]
          rcases at_app hi with ⟨h, _, e⟩ | ⟨h, e⟩
          · rw [upd_n (by omega), e]; exact hfm i h
          · rw [e, h, upd_s]
        · rcases List.mem_append.mp hx with h | h
          · exact hmC x h
          · rw [List.mem_singleton.mp h]; omega
      have cm0 : wp10[61]? = some (ob 11 [.ref 62, .int (nI ((ms ++ [j]).length)), .ref 63, .ref 64, .ref 65, .int (nI (hs.length)), .int (nI nx), .ref 66, .ref 67, .ref 68, .ref 69, .int (nI (os.length)), .int (nI ox), .ref 70, .ref 71, .ref 72, .ref 73, .ref 74, .int (tl), .ref 75, .int (sl), .ref 76, .int (st), .ref 77]) := by rw [len1]; exact wH11
      have c15 := MN.fr wF14 (by decide)
      have c16 := MT.fr wF14 (by decide)
      have c17 := MD.fr wF14 (by decide)
      have c18 := MK.fr wF14 (by decide) (by decide)
      have c19 := MO.fr wF14 (by decide) (by decide)
      have c20 := A70.fr wF14 (by decide)
      have c21 := A71.fr wF14 (by decide)
      have c22 := A72.fr wF14 (by decide)
      have c23 := A73.fr wF14 (by decide)
      have c24 := A74.fr wF14 (by decide)
      have c25 := A75.fr wF14 (by decide)
      have c26 := A76.fr wF14 (by decide)
      have c27 := A77.fr wF14 (by decide)
      have FF28 : Fr LM hp wp10 := (Fr.rf (L := LM) (hp := hp)).trans (wF14.mono (by decide))
      have hf : f_append (ms, (cs, sc, un, wd), hs, s0, s1, os, ox) (nI j) = (nI (ms.length + 1), (ms ++ [j], (cs, sc, un, wd), hs, s0, s1, os, ox)) := by unfold f_append; dsimp only; rw [hw4, if_pos rfl, if_pos (by omega), vN_n (by omega)]
      rw [hf]
      exact R_reti dX12_append_51 rfl rfl rfl ⟨rfl, ⟨_, _, _, _, cm0, cm, c15, c16, c17, c18, c19, c20, c21, c22, c23, c24, c25, c26, c27⟩, FF28⟩
    · have hf : f_append (ms, (cs, sc, un, wd), hs, s0, s1, os, ox) (nI j) = (-4, (ms, (cs, sc, un, wd), hs, s0, s1, os, ox)) := by unfold f_append; dsimp only; rw [hw4, if_pos rfl, if_neg (by omega)]
      refine R_bipush (v := (-4)) dX12_append_24 (by decide) ?_
      rw [hf]
      exact R_reti dX12_append_26 rfl rfl rfl ⟨rfl, ⟨_, _, _, _, M0, MM, MN, MT, MD, MK, MO, A70, A71, A72, A73, A74, A75, A76, A77⟩, (Fr.rf (L := LM) (hp := hp))⟩
set_option maxRecDepth 100000 in
set_option maxHeartbeats 4000000 in
theorem y_clear {ms : List Nat} {cs : List Nat} {sc un wd : Nat} {hs : List TP} {s0 s1 : Option TP} {os : List (Nat × Nat)} {ox : Nat} (hM : MJ hp (ms, (cs, sc, un, wd), hs, s0, s1, os, ox)) : SpI l X mX12_clearMessage [.ref 61] hp (fun r hp' => r = (f_clear (ms, (cs, sc, un, wd), hs, s0, s1, os, ox)).1 ∧ MJ hp' (f_clear (ms, (cs, sc, un, wd), hs, s0, s1, os, ox)).2 ∧ Fr LM hp hp') := by
  obtain ⟨nx, tl, sl, st, M0, MM, MN, MT, MD, MK, MO, A70, A71, A72, A73, A74, A75, A76, A77⟩ := hM
  obtain ⟨hL, hC3, hs1, hu1, hw1, hw2⟩ := MN.ok
  obtain ⟨hmL, hmC⟩ := MM.ok
  obtain ⟨hnx0, hsl0⟩ := MD.ok
  obtain ⟨hol0, hox0⟩ := MO.ok
  refine SpI.of pnX12 (Nat.le_of_ble_eq_true rfl) rfl ?_
  obtain ⟨fm, Hm, hfm, -⟩ := id MM
  refine R_aload_n dX12_clearMessage_0 rfl rfl ?_
  refine R_getf dX12_clearMessage_1 gX12_92 M0 rfl ?_
  refine R_istore_n (lv' := [some (.ref 61), some (.int (nI (ms.length)))]) dX12_clearMessage_4 rfl (by decide) rfl ?_
  refine R_aload_n dX12_clearMessage_5 rfl rfl ?_
  refine R_iconst (v := (nI 0)) dX12_clearMessage_6 (by decide) ?_
  refine W_puti (fs' := [.ref 62, .int (nI 0), .ref 63, .ref 64, .ref 65, .int (nI (hs.length)), .int (nI nx), .ref 66, .ref 67, .ref 68, .ref 69, .int (nI (os.length)), .int (nI ox), .ref 70, .ref 71, .ref 72, .ref 73, .ref 74, .int (tl), .ref 75, .int (sl), .ref 76, .int (st), .ref 77]) dX12_clearMessage_7 pX12_92 M0 (Nat.le_of_ble_eq_true rfl) rfl (fun wp1 wH2 wE3 => ?_)
  have wH4 := (wE3 62 (by decide)).trans Hm
  have wF5 : Fr [61] hp wp1 := Fr.one wE3 (by simp)
  refine R_iload_n dX12_clearMessage_10 rfl rfl ?_
  have cm : MgA wp1 [] := ⟨fm, wH4, fun i hi => absurd hi (by simp), Nat.zero_le _, fun x hx => by simp at hx⟩
  have c6 := MN.fr wF5 (by decide)
  have c7 := MT.fr wF5 (by decide)
  have c8 := MD.fr wF5 (by decide)
  have c9 := MK.fr wF5 (by decide) (by decide)
  have c10 := MO.fr wF5 (by decide) (by decide)
  have c11 := A70.fr wF5 (by decide)
  have c12 := A71.fr wF5 (by decide)
  have c13 := A72.fr wF5 (by decide)
  have c14 := A73.fr wF5 (by decide)
  have c15 := A74.fr wF5 (by decide)
  have c16 := A75.fr wF5 (by decide)
  have c17 := A76.fr wF5 (by decide)
  have c18 := A77.fr wF5 (by decide)
  have FF19 : Fr LM hp wp1 := (Fr.rf (L := LM) (hp := hp)).trans (wF5.mono (by decide))
  skip
  exact R_reti dX12_clearMessage_11 rfl rfl rfl ⟨rfl, ⟨_, _, _, _, wH2, cm, c6, c7, c8, c9, c10, c11, c12, c13, c14, c15, c16, c17, c18⟩, FF19⟩
set_option maxRecDepth 100000 in
set_option maxHeartbeats 4000000 in
theorem r_erL {ms : List Nat} {ac nxx sn sx tl sl st : Int32} (M0 : hp[61]? = some (ob 11 [.ref 62, .int (nI (ms.length)), .ref 63, .ref 64, .ref 65, .int (ac), .int (nxx), .ref 66, .ref 67, .ref 68, .ref 69, .int (sn), .int (sx), .ref 70, .ref 71, .ref 72, .ref 73, .ref 74, .int (tl), .ref 75, .int (sl), .ref 76, .int (st), .ref 77])) (MM : MgA hp ms) : ∀ (d j : Nat), j + d = ms.length → PZ l X (MZi X mX12_errorPosition (fun r hp' => r = errG (ms.drop j) j ∧ hp' = hp)) mX12_errorPosition 2 [some (.ref 61), some (.int (nI j))] [] hp 0 0 := by
  obtain ⟨fm, Hm, hfm, hmL, hmC⟩ := MM
  intro d
  induction d with
  | zero =>
    intro j hj
    refine R_iload_n dX12_errorPosition_2 rfl rfl ?_
    refine R_aload_n dX12_errorPosition_3 rfl rfl ?_
    refine R_getf dX12_errorPosition_4 gX12_92 M0 rfl ?_
    refine N_icmp_ge (tgt := 32) dX12_errorPosition_7 (by decide) (by omega) (by omega) (fun _ => ?_) (fun hc => absurd hc (by omega))
    refine R_bipush (v := (-9)) dX12_errorPosition_32 (by decide) ?_
    exact R_reti dX12_errorPosition_34 rfl rfl rfl ⟨by rw [List.drop_eq_nil_of_le (by omega)]; rfl, rfl⟩
  | succ d ih =>
    intro j hj
    have hc := hmC ms[j] (List.getElem_mem (by omega))
    have hdr := drop_c (cs := ms) (j := j) (by omega)
    refine R_iload_n dX12_errorPosition_2 rfl rfl ?_
    refine R_aload_n dX12_errorPosition_3 rfl rfl ?_
    refine R_getf dX12_errorPosition_4 gX12_92 M0 rfl ?_
    refine N_icmp_ge (tgt := 32) dX12_errorPosition_7 (by decide) (by omega) (by omega) (fun hc => absurd hc (by omega)) (fun _ => ?_)
    refine R_aload_n dX12_errorPosition_10 rfl rfl ?_
    refine R_getf dX12_errorPosition_11 gX12_7 M0 rfl ?_
    refine R_iload_n dX12_errorPosition_14 rfl rfl ?_
    refine N_iald (y := (nI (ms[j]))) dX12_errorPosition_15 Hm (by omega) (by decide) (hfm j (by omega)) ?_
    refine R_stati (As := [.int (nI (ms[j]))]) (st := []) kX12_codeOf lX12_95 (r_codeOf hc) dX12_errorPosition_16 rfl rfl (Nat.le_of_ble_eq_true rfl) ⟨by decide, by decide⟩ zX12_codeOf ⟨Nat.le_refl _, Nat.le_refl _⟩ (fun wr3 wp2 wq1 => ?_)
    obtain ⟨rfl, rfl⟩ : wr3 = _ ∧ hp = wp2 := ⟨wq1.1, wq1.2.symm⟩
    refine R_bipush (v := (-9)) dX12_errorPosition_19 (by decide) ?_
    refine R_icmp_ne (tgt := 26) dX12_errorPosition_21 (by decide) (fun h9 => ?_) (fun h9 => ?_)
    · refine N_iinc (d := 1) (lv' := [some (.ref 61), some (.int (nI (j + 1)))]) dX12_errorPosition_26 rfl rfl ?_
      refine R_goto (tgt := 2) dX12_errorPosition_29 (by decide) ?_
      have h8 := ih (j + 1) (by omega)
      rw [hdr]; unfold errG; rw [if_neg (fun z9 => h9 (cofR_9.mpr z9))]
      exact h8
    · refine R_iload_n dX12_errorPosition_24 rfl rfl ?_
      exact R_reti dX12_errorPosition_25 rfl rfl rfl ⟨by rw [hdr]; unfold errG; rw [if_pos (cofR_9.mp h9)], rfl⟩
set_option maxRecDepth 100000 in
set_option maxHeartbeats 4000000 in
theorem r_err {ms : List Nat} {ac nxx sn sx tl sl st : Int32} (M0 : hp[61]? = some (ob 11 [.ref 62, .int (nI (ms.length)), .ref 63, .ref 64, .ref 65, .int (ac), .int (nxx), .ref 66, .ref 67, .ref 68, .ref 69, .int (sn), .int (sx), .ref 70, .ref 71, .ref 72, .ref 73, .ref 74, .int (tl), .ref 75, .int (sl), .ref 76, .int (st), .ref 77])) (MM : MgA hp ms) : SpI l X mX12_errorPosition [.ref 61] hp (fun r hp' => r = errG ms 0 ∧ hp' = hp) := by
  refine SpI.of pnX12 (Nat.le_of_ble_eq_true rfl) rfl ?_
  refine R_iconst (v := (nI 0)) dX12_errorPosition_0 (by decide) ?_
  refine R_istore_n (lv' := [some (.ref 61), some (.int (nI 0))]) dX12_errorPosition_1 rfl (by decide) rfl ?_
  exact r_erL M0 MM ms.length 0 (by omega)
set_option maxRecDepth 100000 in
set_option maxHeartbeats 4000000 in
theorem y_err {ms : List Nat} {cs : List Nat} {sc un wd : Nat} {hs : List TP} {s0 s1 : Option TP} {os : List (Nat × Nat)} {ox : Nat} (hM : MJ hp (ms, (cs, sc, un, wd), hs, s0, s1, os, ox)) : SpI l X mX12_errorPosition [.ref 61] hp (fun r hp' => r = (f_err (ms, (cs, sc, un, wd), hs, s0, s1, os, ox)).1 ∧ MJ hp' (f_err (ms, (cs, sc, un, wd), hs, s0, s1, os, ox)).2 ∧ Fr LM hp hp') := by
  obtain ⟨nx, tl, sl, st, M0, MM, MN, MT, MD, MK, MO, A70, A71, A72, A73, A74, A75, A76, A77⟩ := id hM
  exact (r_err M0 MM).imp (fun r hp' h => ⟨h.1, h.2.symm ▸ hM, h.2.symm ▸ Fr.rf⟩)
set_option maxRecDepth 100000 in
set_option maxHeartbeats 4000000 in
theorem y_len {ms : List Nat} {cs : List Nat} {sc un wd : Nat} {hs : List TP} {s0 s1 : Option TP} {os : List (Nat × Nat)} {ox : Nat} (hM : MJ hp (ms, (cs, sc, un, wd), hs, s0, s1, os, ox)) : SpI l X mX12_length [.ref 61] hp (fun r hp' => r = (f_len (ms, (cs, sc, un, wd), hs, s0, s1, os, ox)).1 ∧ MJ hp' (f_len (ms, (cs, sc, un, wd), hs, s0, s1, os, ox)).2 ∧ Fr LM hp hp') := by
  obtain ⟨nx, tl, sl, st, M0, MM, MN, MT, MD, MK, MO, A70, A71, A72, A73, A74, A75, A76, A77⟩ := hM
  obtain ⟨hL, hC3, hs1, hu1, hw1, hw2⟩ := MN.ok
  obtain ⟨hmL, hmC⟩ := MM.ok
  obtain ⟨hnx0, hsl0⟩ := MD.ok
  obtain ⟨hol0, hox0⟩ := MO.ok
  refine SpI.of pnX12 (Nat.le_of_ble_eq_true rfl) rfl ?_
  obtain ⟨f, Ha, hR⟩ := id MN
  obtain ⟨h0, h1, h2, h3, hf, -⟩ := hR.to
  refine R_aload_n dX12_length_0 rfl rfl ?_
  refine R_getf dX12_length_1 gX12_13 M0 rfl ?_
  refine R_iconst (v := (nI 0)) dX12_length_4 (by decide) ?_
  refine N_iald (y := (nI (cs.length))) dX12_length_5 Ha (by decide) (by decide) h0 ?_
  skip
  exact R_reti dX12_length_6 rfl rfl rfl ⟨rfl, ⟨_, _, _, _, M0, MM, MN, MT, MD, MK, MO, A70, A71, A72, A73, A74, A75, A76, A77⟩, (Fr.rf (L := LM) (hp := hp))⟩
set_option maxRecDepth 100000 in
set_option maxHeartbeats 4000000 in
theorem y_code {ms : List Nat} {cs : List Nat} {sc un wd : Nat} {hs : List TP} {s0 s1 : Option TP} {os : List (Nat × Nat)} {ox : Nat} {i : Int32} (hM : MJ hp (ms, (cs, sc, un, wd), hs, s0, s1, os, ox)) : SpI l X mX12_codeAt [.ref 61, .int (i)] hp (fun r hp' => r = (f_code (ms, (cs, sc, un, wd), hs, s0, s1, os, ox) i).1 ∧ MJ hp' (f_code (ms, (cs, sc, un, wd), hs, s0, s1, os, ox) i).2 ∧ Fr LM hp hp') := by
  obtain ⟨nx, tl, sl, st, M0, MM, MN, MT, MD, MK, MO, A70, A71, A72, A73, A74, A75, A76, A77⟩ := hM
  obtain ⟨hL, hC3, hs1, hu1, hw1, hw2⟩ := MN.ok
  obtain ⟨hmL, hmC⟩ := MM.ok
  obtain ⟨hnx0, hsl0⟩ := MD.ok
  obtain ⟨hol0, hox0⟩ := MO.ok
  refine SpI.of pnX12 (Nat.le_of_ble_eq_true rfl) rfl ?_
  refine R_aload_n dX12_codeAt_0 rfl rfl ?_
  refine R_iload_n dX12_codeAt_1 rfl rfl ?_
  refine R_calli (As := [.int (i)]) (st := []) kX12_isIndex lX12_98 (r_isx (i := i) M0 MN) rfl M0 dX12_codeAt_2 rfl rfl (Nat.le_of_ble_eq_true rfl) ⟨by decide, by decide⟩ zX12_isIndex ⟨Nat.le_refl _, Nat.le_refl _⟩ (fun wr3 wp2 wq1 => ?_)
  obtain ⟨rfl, rfl⟩ : wr3 = _ ∧ hp = wp2 := ⟨wq1.1, wq1.2.symm⟩
  cases hb4 : inB i cs.length with
  | false =>
    show PZ _ _ _ _ _ _ (.int (nI 0) :: _) _ _ _
    refine N_if_eq (tgt := 19) dX12_codeAt_5 (by decide) (by decide) (fun _ => ?_) (fun hc => absurd hc (by decide))
    have hf : f_code (ms, (cs, sc, un, wd), hs, s0, s1, os, ox) i = (-1, (ms, (cs, sc, un, wd), hs, s0, s1, os, ox)) := by unfold f_code; dsimp only; rw [hb4]; rfl
    refine R_iconst (v := (-1)) dX12_codeAt_19 (by decide) ?_
    rw [hf]
    exact R_reti dX12_codeAt_20 rfl rfl rfl ⟨rfl, ⟨_, _, _, _, M0, MM, MN, MT, MD, MK, MO, A70, A71, A72, A73, A74, A75, A76, A77⟩, (Fr.rf (L := LM) (hp := hp))⟩
  | true =>
    show PZ _ _ _ _ _ _ (.int (nI 1) :: _) _ _ _
    obtain ⟨j, hj, rfl⟩ := inB_t (by omega) hb4
    refine N_if_eq (tgt := 19) dX12_codeAt_5 (by decide) (by decide) (fun hc => absurd hc (by decide)) (fun _ => ?_)
    obtain ⟨f, Ha, hR⟩ := id MN
    obtain ⟨h0, h1, h2, h3, hf, -⟩ := hR.to
    refine R_aload_n dX12_codeAt_8 rfl rfl ?_
    refine R_getf dX12_codeAt_9 gX12_13 M0 rfl ?_
    refine R_iconst (v := (nI 4)) dX12_codeAt_12 (by decide) ?_
    refine R_iload_n dX12_codeAt_13 rfl rfl ?_
    refine N_iadd dX12_codeAt_14 ?_
    refine N_iald (y := (nI (cs[j]))) dX12_codeAt_15 Ha (by omega) (by decide) (hf j hj) ?_
    refine R_goto (tgt := 20) dX12_codeAt_16 (by decide) ?_
    have hf9 : f_code (ms, (cs, sc, un, wd), hs, s0, s1, os, ox) (nI j) = (nI cs[j], (ms, (cs, sc, un, wd), hs, s0, s1, os, ox)) := by unfold f_code; dsimp only; rw [hb4, vN_n (by omega), gD hj]; rfl
    rw [hf9]
    exact R_reti dX12_codeAt_20 rfl rfl rfl ⟨rfl, ⟨_, _, _, _, M0, MM, MN, MT, MD, MK, MO, A70, A71, A72, A73, A74, A75, A76, A77⟩, (Fr.rf (L := LM) (hp := hp))⟩
set_option maxRecDepth 100000 in
set_option maxHeartbeats 4000000 in
theorem y_case {ms : List Nat} {cs : List Nat} {sc un wd : Nat} {hs : List TP} {s0 s1 : Option TP} {os : List (Nat × Nat)} {ox : Nat} {i : Int32} (hM : MJ hp (ms, (cs, sc, un, wd), hs, s0, s1, os, ox)) : SpI l X mX12_caseAt [.ref 61, .int (i)] hp (fun r hp' => r = (f_case (ms, (cs, sc, un, wd), hs, s0, s1, os, ox) i).1 ∧ MJ hp' (f_case (ms, (cs, sc, un, wd), hs, s0, s1, os, ox) i).2 ∧ Fr LM hp hp') := by
  obtain ⟨nx, tl, sl, st, M0, MM, MN, MT, MD, MK, MO, A70, A71, A72, A73, A74, A75, A76, A77⟩ := hM
  obtain ⟨hL, hC3, hs1, hu1, hw1, hw2⟩ := MN.ok
  obtain ⟨hmL, hmC⟩ := MM.ok
  obtain ⟨hnx0, hsl0⟩ := MD.ok
  obtain ⟨hol0, hox0⟩ := MO.ok
  refine SpI.of pnX12 (Nat.le_of_ble_eq_true rfl) rfl ?_
  refine R_aload_n dX12_caseAt_0 rfl rfl ?_
  refine R_iload_n dX12_caseAt_1 rfl rfl ?_
  refine R_calli (As := [.int (i)]) (st := []) kX12_isIndex lX12_98 (r_isx (i := i) M0 MN) rfl M0 dX12_caseAt_2 rfl rfl (Nat.le_of_ble_eq_true rfl) ⟨by decide, by decide⟩ zX12_isIndex ⟨Nat.le_refl _, Nat.le_refl _⟩ (fun wr3 wp2 wq1 => ?_)
  obtain ⟨rfl, rfl⟩ : wr3 = _ ∧ hp = wp2 := ⟨wq1.1, wq1.2.symm⟩
  cases hb4 : inB i cs.length with
  | false =>
    show PZ _ _ _ _ _ _ (.int (nI 0) :: _) _ _ _
    refine N_if_ne (tgt := 10) dX12_caseAt_5 (by decide) (by decide) (fun hc => absurd hc (by decide)) (fun _ => ?_)
    have hf : f_case (ms, (cs, sc, un, wd), hs, s0, s1, os, ox) i = (-1, (ms, (cs, sc, un, wd), hs, s0, s1, os, ox)) := by unfold f_case; dsimp only; rw [hb4]; rfl
    refine R_iconst (v := (-1)) dX12_caseAt_8 (by decide) ?_
    rw [hf]
    exact R_reti dX12_caseAt_9 rfl rfl rfl ⟨rfl, ⟨_, _, _, _, M0, MM, MN, MT, MD, MK, MO, A70, A71, A72, A73, A74, A75, A76, A77⟩, (Fr.rf (L := LM) (hp := hp))⟩
  | true =>
    show PZ _ _ _ _ _ _ (.int (nI 1) :: _) _ _ _
    obtain ⟨j, hj, rfl⟩ := inB_t (by omega) hb4
    refine N_if_ne (tgt := 10) dX12_caseAt_5 (by decide) (by decide) (fun _ => ?_) (fun hc => absurd hc (by decide))
    refine R_aload_n dX12_caseAt_10 rfl rfl ?_
    refine R_aload_n dX12_caseAt_11 rfl rfl ?_
    refine R_getf dX12_caseAt_12 gX12_13 M0 rfl ?_
    refine R_callv (As := [.ref 63]) (st := []) kX12_layText lX12_102 (r_lt M0 MN A70 A71 A74) rfl M0 dX12_caseAt_15 rfl rfl (Nat.le_of_ble_eq_true rfl) ⟨by decide, by decide⟩ zX12_layText ⟨Nat.le_refl _, Nat.le_refl _⟩ (fun wp6 wq5 => ?_)
    obtain ⟨hl1, hl2, hl3⟩ := wq5
    have c8 := MM.fr hl3 (by decide)
    have c9 := MN.fr hl3 (by decide)
    have c10 := MT.fr hl3 (by decide)
    have c11 := MD.fr hl3 (by decide)
    have c12 := MK.fr hl3 (by decide) (by decide)
    have c13 := MO.fr hl3 (by decide) (by decide)
    have c14 := A72.fr hl3 (by decide)
    have c15 := A73.fr hl3 (by decide)
    have c16 := A75.fr hl3 (by decide)
    have c17 := A76.fr hl3 (by decide)
    have c18 := A77.fr hl3 (by decide)
    have FF19 : Fr LM hp wp6 := (Fr.rf (L := LM) (hp := hp)).trans (hl3.mono (by decide))
    obtain ⟨ga, wa, ta, Hga, Hwa, Hta, -, hwa, -⟩ := id hl2
    refine R_aload_n dX12_caseAt_18 rfl rfl ?_
    refine R_getf dX12_caseAt_19 gX12_38 hl1 rfl ?_
    refine R_iload_n dX12_caseAt_22 rfl rfl ?_
    refine N_iald (y := (nI (cAt un sc cs j))) dX12_caseAt_23 Hwa (by omega) (by decide) (hwa j (by omega)) ?_
    have hf9 : f_case (ms, (cs, sc, un, wd), hs, s0, s1, os, ox) (nI j) = (nI (cAt un sc cs j), (ms, (cs, sc, un, wd), hs, s0, s1, os, ox)) := by unfold f_case; dsimp only; rw [hb4, vN_n (by omega)]; rfl
    rw [hf9]
    exact R_reti dX12_caseAt_24 rfl rfl rfl ⟨rfl, ⟨_, _, _, _, hl1, c8, c9, c10, c11, c12, c13, hl2.x1, hl2.x2, c14, c15, hl2.x3, c16, c17, c18⟩, FF19⟩
set_option maxRecDepth 100000 in
set_option maxHeartbeats 4000000 in
theorem y_plen {ms : List Nat} {cs : List Nat} {sc un wd : Nat} {hs : List TP} {s0 s1 : Option TP} {os : List (Nat × Nat)} {ox : Nat} (hM : MJ hp (ms, (cs, sc, un, wd), hs, s0, s1, os, ox)) : SpI l X mX12_printedLength [.ref 61] hp (fun r hp' => r = (f_plen (ms, (cs, sc, un, wd), hs, s0, s1, os, ox)).1 ∧ MJ hp' (f_plen (ms, (cs, sc, un, wd), hs, s0, s1, os, ox)).2 ∧ Fr LM hp hp') := by
  obtain ⟨nx, tl, sl, st, M0, MM, MN, MT, MD, MK, MO, A70, A71, A72, A73, A74, A75, A76, A77⟩ := hM
  obtain ⟨hL, hC3, hs1, hu1, hw1, hw2⟩ := MN.ok
  obtain ⟨hmL, hmC⟩ := MM.ok
  obtain ⟨hnx0, hsl0⟩ := MD.ok
  obtain ⟨hol0, hox0⟩ := MO.ok
  refine SpI.of pnX12 (Nat.le_of_ble_eq_true rfl) rfl ?_
  refine R_aload_n dX12_printedLength_0 rfl rfl ?_
  refine R_aload_n dX12_printedLength_1 rfl rfl ?_
  refine R_getf dX12_printedLength_2 gX12_13 M0 rfl ?_
  refine R_callv (As := [.ref 63]) (st := []) kX12_layText lX12_102 (r_lt M0 MN A70 A71 A74) rfl M0 dX12_printedLength_5 rfl rfl (Nat.le_of_ble_eq_true rfl) ⟨by decide, by decide⟩ zX12_layText ⟨Nat.le_refl _, Nat.le_refl _⟩ (fun wp2 wq1 => ?_)
  obtain ⟨hl1, hl2, hl3⟩ := wq1
  have c4 := MM.fr hl3 (by decide)
  have c5 := MN.fr hl3 (by decide)
  have c6 := MT.fr hl3 (by decide)
  have c7 := MD.fr hl3 (by decide)
  have c8 := MK.fr hl3 (by decide) (by decide)
  have c9 := MO.fr hl3 (by decide) (by decide)
  have c10 := A72.fr hl3 (by decide)
  have c11 := A73.fr hl3 (by decide)
  have c12 := A75.fr hl3 (by decide)
  have c13 := A76.fr hl3 (by decide)
  have c14 := A77.fr hl3 (by decide)
  have FF15 : Fr LM hp wp2 := (Fr.rf (L := LM) (hp := hp)).trans (hl3.mono (by decide))
  refine R_aload_n dX12_printedLength_8 rfl rfl ?_
  refine R_getf dX12_printedLength_9 gX12_83 hl1 rfl ?_
  skip
  exact R_reti dX12_printedLength_12 rfl rfl rfl ⟨rfl, ⟨_, _, _, _, hl1, c4, c5, c6, c7, c8, c9, hl2.x1, hl2.x2, c10, c11, hl2.x3, c12, c13, c14⟩, FF15⟩
set_option maxRecDepth 100000 in
set_option maxHeartbeats 4000000 in
theorem y_pat {ms : List Nat} {cs : List Nat} {sc un wd : Nat} {hs : List TP} {s0 s1 : Option TP} {os : List (Nat × Nat)} {ox : Nat} {i : Int32} (hM : MJ hp (ms, (cs, sc, un, wd), hs, s0, s1, os, ox)) : SpI l X mX12_printedAt [.ref 61, .int (i)] hp (fun r hp' => r = (f_pat (ms, (cs, sc, un, wd), hs, s0, s1, os, ox) i).1 ∧ MJ hp' (f_pat (ms, (cs, sc, un, wd), hs, s0, s1, os, ox) i).2 ∧ Fr LM hp hp') := by
  obtain ⟨nx, tl, sl, st, M0, MM, MN, MT, MD, MK, MO, A70, A71, A72, A73, A74, A75, A76, A77⟩ := hM
  obtain ⟨hL, hC3, hs1, hu1, hw1, hw2⟩ := MN.ok
  obtain ⟨hmL, hmC⟩ := MM.ok
  obtain ⟨hnx0, hsl0⟩ := MD.ok
  obtain ⟨hol0, hox0⟩ := MO.ok
  refine SpI.of pnX12 (Nat.le_of_ble_eq_true rfl) rfl ?_
  have htl := txt_len un cs sc
  refine R_aload_n dX12_printedAt_0 rfl rfl ?_
  refine R_aload_n dX12_printedAt_1 rfl rfl ?_
  refine R_getf dX12_printedAt_2 gX12_13 M0 rfl ?_
  refine R_callv (As := [.ref 63]) (st := []) kX12_layText lX12_102 (r_lt M0 MN A70 A71 A74) rfl M0 dX12_printedAt_5 rfl rfl (Nat.le_of_ble_eq_true rfl) ⟨by decide, by decide⟩ zX12_layText ⟨Nat.le_refl _, Nat.le_refl _⟩ (fun wp2 wq1 => ?_)
  obtain ⟨hl1, hl2, hl3⟩ := wq1
  have c4 := MM.fr hl3 (by decide)
  have c5 := MN.fr hl3 (by decide)
  have c6 := MT.fr hl3 (by decide)
  have c7 := MD.fr hl3 (by decide)
  have c8 := MK.fr hl3 (by decide) (by decide)
  have c9 := MO.fr hl3 (by decide) (by decide)
  have c10 := A72.fr hl3 (by decide)
  have c11 := A73.fr hl3 (by decide)
  have c12 := A75.fr hl3 (by decide)
  have c13 := A76.fr hl3 (by decide)
  have c14 := A77.fr hl3 (by decide)
  have FF15 : Fr LM hp wp2 := (Fr.rf (L := LM) (hp := hp)).trans (hl3.mono (by decide))
  refine R_iload_n dX12_printedAt_8 rfl rfl ?_
  refine R_i2l dX12_printedAt_9 ?_
  refine R_lconst (v := 0) dX12_printedAt_10 (by decide) ?_
  refine R_aload_n dX12_printedAt_11 rfl rfl ?_
  refine R_getf dX12_printedAt_12 gX12_83 hl1 rfl ?_
  refine R_iconst (v := (nI 1)) dX12_printedAt_15 (by decide) ?_
  refine R_isub dX12_printedAt_16 ?_
  refine R_i2l dX12_printedAt_17 ?_
  refine R_stati (As := [.long ((i).toInt64), .long (0), .long (((nI ((txt un sc cs).length)) - (nI 1)).toInt64)]) (st := []) kX12_in lX12_67 (r_inB (n := (txt un sc cs).length) (by omega)) dX12_printedAt_18 rfl rfl (Nat.le_of_ble_eq_true rfl) ⟨by decide, by decide⟩ zX12_in ⟨Nat.le_refl _, Nat.le_refl _⟩ (fun wr18 wp17 wq16 => ?_)
  obtain ⟨rfl, rfl⟩ : wr18 = _ ∧ wp2 = wp17 := ⟨wq16.1, wq16.2.symm⟩
  cases hb : inB i (txt un sc cs).length with
  | false =>
    show PZ _ _ _ _ _ _ (.int (nI 0) :: _) _ _ _
    refine N_if_eq (tgt := 33) dX12_printedAt_21 (by decide) (by decide) (fun _ => ?_) (fun hc => absurd hc (by decide))
    have hf : f_pat (ms, (cs, sc, un, wd), hs, s0, s1, os, ox) i = (-1, (ms, (cs, sc, un, wd), hs, s0, s1, os, ox)) := by unfold f_pat; dsimp only; rw [hb]; rfl
    refine R_iconst (v := (-1)) dX12_printedAt_33 (by decide) ?_
    rw [hf]
    exact R_reti dX12_printedAt_34 rfl rfl rfl ⟨rfl, ⟨_, _, _, _, hl1, c4, c5, c6, c7, c8, c9, hl2.x1, hl2.x2, c10, c11, hl2.x3, c12, c13, c14⟩, FF15⟩
  | true =>
    show PZ _ _ _ _ _ _ (.int (nI 1) :: _) _ _ _
    obtain ⟨j, hj, rfl⟩ := inB_t (by omega) hb
    refine N_if_eq (tgt := 33) dX12_printedAt_21 (by decide) (by decide) (fun hc => absurd hc (by decide)) (fun _ => ?_)
    obtain ⟨ga, wa, ta, Hga, Hwa, Hta, -, -, hta⟩ := id hl2
    refine R_aload_n dX12_printedAt_24 rfl rfl ?_
    refine R_getf dX12_printedAt_25 gX12_47 hl1 rfl ?_
    refine R_iload_n dX12_printedAt_28 rfl rfl ?_
    refine N_iald (y := (nI ((txt un sc cs)[j]))) dX12_printedAt_29 Hta (by omega) (by decide) (hta j hj) ?_
    refine R_goto (tgt := 34) dX12_printedAt_30 (by decide) ?_
    have hf : f_pat (ms, (cs, sc, un, wd), hs, s0, s1, os, ox) (nI j) = (nI ((txt un sc cs)[j]), (ms, (cs, sc, un, wd), hs, s0, s1, os, ox)) := by unfold f_pat; dsimp only; rw [hb, vN_n (by omega), gD hj]; rfl
    rw [hf]
    exact R_reti dX12_printedAt_34 rfl rfl rfl ⟨rfl, ⟨_, _, _, _, hl1, c4, c5, c6, c7, c8, c9, hl2.x1, hl2.x2, c10, c11, hl2.x3, c12, c13, c14⟩, FF15⟩
set_option maxRecDepth 100000 in
set_option maxHeartbeats 4000000 in
theorem y_punch {ms : List Nat} {cs : List Nat} {sc un wd : Nat} {hs : List TP} {s0 s1 : Option TP} {os : List (Nat × Nat)} {ox : Nat} {c : Int32} (hM : MJ hp (ms, (cs, sc, un, wd), hs, s0, s1, os, ox)) : SpI l X mX12_punch [.ref 61, .int (c)] hp (fun r hp' => r = (f_punch (ms, (cs, sc, un, wd), hs, s0, s1, os, ox) c).1 ∧ MJ hp' (f_punch (ms, (cs, sc, un, wd), hs, s0, s1, os, ox) c).2 ∧ Fr LM hp hp') := by
  obtain ⟨nx, tl, sl, st, M0, MM, MN, MT, MD, MK, MO, A70, A71, A72, A73, A74, A75, A76, A77⟩ := hM
  obtain ⟨hL, hC3, hs1, hu1, hw1, hw2⟩ := MN.ok
  obtain ⟨hmL, hmC⟩ := MM.ok
  obtain ⟨hnx0, hsl0⟩ := MD.ok
  obtain ⟨hol0, hox0⟩ := MO.ok
  refine SpI.of pnX12 (Nat.le_of_ble_eq_true rfl) rfl ?_
  refine R_iload_n dX12_punch_0 rfl rfl ?_
  refine R_i2l dX12_punch_1 ?_
  refine R_lconst (v := 0) dX12_punch_2 (by decide) ?_
  refine R_ldc2 dX12_punch_3 nX12_120 ?_
  refine R_stati (As := [.long ((c).toInt64), .long (0), .long (31)]) (st := []) kX12_in lX12_67 (r_inW 0 31 rfl rfl (by decide) (by decide)) dX12_punch_6 rfl rfl (Nat.le_of_ble_eq_true rfl) ⟨by decide, by decide⟩ zX12_in ⟨Nat.le_refl _, Nat.le_refl _⟩ (fun wr3 wp2 wq1 => ?_)
  obtain ⟨rfl, rfl⟩ : wr3 = _ ∧ hp = wp2 := ⟨wq1.1, wq1.2.symm⟩
  cases hw4 : inW c 0 31 with
  | false =>
    show PZ _ _ _ _ _ _ (.int (nI 0) :: _) _ _ _
    refine N_if_ne (tgt := 15) dX12_punch_9 (by decide) (by decide) (fun hc => absurd hc (by decide)) (fun _ => ?_)
    have hf : f_punch (ms, (cs, sc, un, wd), hs, s0, s1, os, ox) c = (-2, (ms, (cs, sc, un, wd), hs, s0, s1, os, ox)) := by unfold f_punch; dsimp only; rw [hw4]; rfl
    refine R_bipush (v := (-2)) dX12_punch_12 (by decide) ?_
    rw [hf]
    exact R_reti dX12_punch_14 rfl rfl rfl ⟨rfl, ⟨_, _, _, _, M0, MM, MN, MT, MD, MK, MO, A70, A71, A72, A73, A74, A75, A76, A77⟩, (Fr.rf (L := LM) (hp := hp))⟩
  | true =>
    show PZ _ _ _ _ _ _ (.int (nI 1) :: _) _ _ _
    obtain ⟨j, -, hj, rfl⟩ := inW_t (by decide) hw4
    refine N_if_ne (tgt := 15) dX12_punch_9 (by decide) (by decide) (fun _ => ?_) (fun hc => absurd hc (by decide))
    obtain ⟨f, Ha, hR⟩ := id MN
    obtain ⟨h0, h1, h2, h3, hf, -⟩ := hR.to
    refine R_aload_n dX12_punch_15 rfl rfl ?_
    refine R_getf dX12_punch_16 gX12_13 M0 rfl ?_
    refine R_iconst (v := (nI 0)) dX12_punch_19 (by decide) ?_
    refine N_iald (y := (nI (cs.length))) dX12_punch_20 Ha (by decide) (by decide) h0 ?_
    refine R_bipush (v := (nI 96)) dX12_punch_21 (by decide) ?_
    refine N_icmp_ne (tgt := 29) dX12_punch_23 (by decide) (by omega) (by omega) (fun hl => ?_) (fun hl => ?_)
    · refine R_aload_n dX12_punch_29 rfl rfl ?_
      refine R_callv (As := []) (st := []) kX12_note lX12_122 (r_note M0 MN MD) rfl M0 dX12_punch_30 rfl rfl (Nat.le_of_ble_eq_true rfl) ⟨by decide, by decide⟩ zX12_note ⟨Nat.le_refl _, Nat.le_refl _⟩ (fun wp6 wq5 => ?_)
      obtain ⟨hn1, hn2, hn3⟩ := wq5
      have c8 := MM.fr hn3 (by decide)
      have c9 := MN.fr hn3 (by decide)
      have c10 := MT.fr hn3 (by decide)
      have c11 := MK.fr hn3 (by decide) (by decide)
      have c12 := MO.fr hn3 (by decide) (by decide)
      have c13 := A70.fr hn3 (by decide)
      have c14 := A71.fr hn3 (by decide)
      have c15 := A72.fr hn3 (by decide)
      have c16 := A73.fr hn3 (by decide)
      have c17 := A74.fr hn3 (by decide)
      have c18 := A75.fr hn3 (by decide)
      have c19 := A76.fr hn3 (by decide)
      have c20 := A77.fr hn3 (by decide)
      have FF21 : Fr LM hp wp6 := (Fr.rf (L := LM) (hp := hp)).trans (hn3.mono (by decide))
      refine R_aload_n dX12_punch_33 rfl rfl ?_
      refine R_getf dX12_punch_34 gX12_13 hn1 rfl ?_
      refine R_iload_n dX12_punch_37 rfl rfl ?_
      refine R_stati (As := [.ref 63, .int (nI j)]) (st := []) kX12_put lX12_116 (r_put (c := j) (by omega) c9) dX12_punch_38 rfl rfl (Nat.le_of_ble_eq_true rfl) ⟨by decide, by decide⟩ zX12_put ⟨Nat.le_refl _, Nat.le_refl _⟩ (fun wr24 wp23 wq22 => ?_)
      obtain ⟨rfl, hq1, hq2⟩ := wq22
      have c25 := hq2.at (by decide) hn1
      have c26 := c8.fr hq2 (by decide)
      have c27 := c10.fr hq2 (by decide)
      have c28 := hn2.fr hq2 (by decide)
      have c29 := c11.fr hq2 (by decide) (by decide)
      have c30 := c12.fr hq2 (by decide) (by decide)
      have c31 := c13.fr hq2 (by decide)
      have c32 := c14.fr hq2 (by decide)
      have c33 := c15.fr hq2 (by decide)
      have c34 := c16.fr hq2 (by decide)
      have c35 := c17.fr hq2 (by decide)
      have c36 := c18.fr hq2 (by decide)
      have c37 := c19.fr hq2 (by decide)
      have c38 := c20.fr hq2 (by decide)
      have FF39 : Fr LM hp wp23 := FF21.trans (hq2.mono (by decide))
      rw [tk96 (by omega)] at hq1
      obtain ⟨fx, Hx, hRx⟩ := id hq1
      refine R_istore_n (lv' := [some (.ref 61), some (.int (nI j)), some (.int (bz (decide (cs.length < 96))))]) dX12_punch_41 rfl (by decide) rfl ?_
      refine R_aload_n dX12_punch_42 rfl rfl ?_
      refine R_getf dX12_punch_43 gX12_13 c25 rfl ?_
      refine R_iconst (v := (nI 0)) dX12_punch_46 (by decide) ?_
      refine N_iald (y := (nI ((cs ++ [j]).length))) dX12_punch_47 Hx (by decide) (by decide) hRx.to.1 ?_
      have hf9 : f_punch (ms, (cs, sc, un, wd), hs, s0, s1, os, ox) (nI j) = (nI (cs ++ [j]).length, psh (ms, (cs, sc, un, wd), hs, s0, s1, os, ox) (cs ++ [j], sc, un, wd)) := by unfold f_punch; dsimp only; rw [hw4, if_pos rfl, if_pos (by omega), vN_n (by omega), List.length_append]; rfl
      rw [hf9]
      exact R_reti dX12_punch_48 rfl rfl rfl ⟨rfl, ⟨_, _, _, _, c25, c26, hq1, c27, c28, c29, c30, c31, c32, c33, c34, c35, c36, c37, c38⟩, FF39⟩
    · have hf9 : f_punch (ms, (cs, sc, un, wd), hs, s0, s1, os, ox) (nI j) = (-4, (ms, (cs, sc, un, wd), hs, s0, s1, os, ox)) := by unfold f_punch; dsimp only; rw [hw4, if_pos rfl, if_neg (by omega)]
      refine R_bipush (v := (-4)) dX12_punch_26 (by decide) ?_
      rw [hf9]
      exact R_reti dX12_punch_28 rfl rfl rfl ⟨rfl, ⟨_, _, _, _, M0, MM, MN, MT, MD, MK, MO, A70, A71, A72, A73, A74, A75, A76, A77⟩, (Fr.rf (L := LM) (hp := hp))⟩
set_option maxRecDepth 100000 in
set_option maxHeartbeats 4000000 in
theorem y_rem {ms : List Nat} {cs : List Nat} {sc un wd : Nat} {hs : List TP} {s0 s1 : Option TP} {os : List (Nat × Nat)} {ox : Nat} {i : Int32} (hM : MJ hp (ms, (cs, sc, un, wd), hs, s0, s1, os, ox)) : SpI l X mX12_remove [.ref 61, .int (i)] hp (fun r hp' => r = (f_rem (ms, (cs, sc, un, wd), hs, s0, s1, os, ox) i).1 ∧ MJ hp' (f_rem (ms, (cs, sc, un, wd), hs, s0, s1, os, ox) i).2 ∧ Fr LM hp hp') := by
  obtain ⟨nx, tl, sl, st, M0, MM, MN, MT, MD, MK, MO, A70, A71, A72, A73, A74, A75, A76, A77⟩ := hM
  obtain ⟨hL, hC3, hs1, hu1, hw1, hw2⟩ := MN.ok
  obtain ⟨hmL, hmC⟩ := MM.ok
  obtain ⟨hnx0, hsl0⟩ := MD.ok
  obtain ⟨hol0, hox0⟩ := MO.ok
  refine SpI.of pnX12 (Nat.le_of_ble_eq_true rfl) rfl ?_
  refine R_aload_n dX12_remove_0 rfl rfl ?_
  refine R_iload_n dX12_remove_1 rfl rfl ?_
  refine R_calli (As := [.int (i)]) (st := []) kX12_isIndex lX12_98 (r_isx (i := i) M0 MN) rfl M0 dX12_remove_2 rfl rfl (Nat.le_of_ble_eq_true rfl) ⟨by decide, by decide⟩ zX12_isIndex ⟨Nat.le_refl _, Nat.le_refl _⟩ (fun wr3 wp2 wq1 => ?_)
  obtain ⟨rfl, rfl⟩ : wr3 = _ ∧ hp = wp2 := ⟨wq1.1, wq1.2.symm⟩
  cases hb4 : inB i cs.length with
  | false =>
    show PZ _ _ _ _ _ _ (.int (nI 0) :: _) _ _ _
    refine N_if_ne (tgt := 10) dX12_remove_5 (by decide) (by decide) (fun hc => absurd hc (by decide)) (fun _ => ?_)
    have hf : f_rem (ms, (cs, sc, un, wd), hs, s0, s1, os, ox) i = (-1, (ms, (cs, sc, un, wd), hs, s0, s1, os, ox)) := by unfold f_rem; dsimp only; rw [hb4]; rfl
    refine R_iconst (v := (-1)) dX12_remove_8 (by decide) ?_
    rw [hf]
    exact R_reti dX12_remove_9 rfl rfl rfl ⟨rfl, ⟨_, _, _, _, M0, MM, MN, MT, MD, MK, MO, A70, A71, A72, A73, A74, A75, A76, A77⟩, (Fr.rf (L := LM) (hp := hp))⟩
  | true =>
    show PZ _ _ _ _ _ _ (.int (nI 1) :: _) _ _ _
    obtain ⟨j, hj, rfl⟩ := inB_t (by omega) hb4
    refine N_if_ne (tgt := 10) dX12_remove_5 (by decide) (by decide) (fun _ => ?_) (fun hc => absurd hc (by decide))
    refine R_aload_n dX12_remove_10 rfl rfl ?_
    refine R_callv (As := []) (st := []) kX12_note lX12_122 (r_note M0 MN MD) rfl M0 dX12_remove_11 rfl rfl (Nat.le_of_ble_eq_true rfl) ⟨by decide, by decide⟩ zX12_note ⟨Nat.le_refl _, Nat.le_refl _⟩ (fun wp6 wq5 => ?_)
    obtain ⟨hn1, hn2, hn3⟩ := wq5
    have c8 := MM.fr hn3 (by decide)
    have c9 := MN.fr hn3 (by decide)
    have c10 := MT.fr hn3 (by decide)
    have c11 := MK.fr hn3 (by decide) (by decide)
    have c12 := MO.fr hn3 (by decide) (by decide)
    have c13 := A70.fr hn3 (by decide)
    have c14 := A71.fr hn3 (by decide)
    have c15 := A72.fr hn3 (by decide)
    have c16 := A73.fr hn3 (by decide)
    have c17 := A74.fr hn3 (by decide)
    have c18 := A75.fr hn3 (by decide)
    have c19 := A76.fr hn3 (by decide)
    have c20 := A77.fr hn3 (by decide)
    have FF21 : Fr LM hp wp6 := (Fr.rf (L := LM) (hp := hp)).trans (hn3.mono (by decide))
    obtain ⟨f, Ha, hR⟩ := id c9
    obtain ⟨h0, h1, h2, h3, hf, -⟩ := hR.to
    refine R_aload_n dX12_remove_14 rfl rfl ?_
    refine R_getf dX12_remove_15 gX12_13 hn1 rfl ?_
    refine R_iconst (v := (nI 4)) dX12_remove_18 (by decide) ?_
    refine R_iload_n dX12_remove_19 rfl rfl ?_
    refine N_iadd dX12_remove_20 ?_
    refine N_iald (y := (nI (cs[j]))) dX12_remove_21 Ha (by omega) (by decide) (hf j hj) ?_
    refine R_istore_n (lv' := [some (.ref 61), some (.int (nI j)), some (.int (nI (cs[j])))]) dX12_remove_22 rfl (by decide) rfl ?_
    refine R_aload_n dX12_remove_23 rfl rfl ?_
    refine R_getf dX12_remove_24 gX12_13 hn1 rfl ?_
    refine R_iload_n dX12_remove_27 rfl rfl ?_
    refine R_statv (As := [.ref 63, .int (nI j)]) (st := []) kX12_takeOut lX12_143 (r_tk hj c9) dX12_remove_28 rfl rfl (Nat.le_of_ble_eq_true rfl) ⟨by decide, by decide⟩ zX12_takeOut ⟨Nat.le_refl _, Nat.le_refl _⟩ (fun wp23 wq22 => ?_)
    obtain ⟨hq1, hq2⟩ := wq22
    have c25 := hq2.at (by decide) hn1
    have c26 := c8.fr hq2 (by decide)
    have c27 := c10.fr hq2 (by decide)
    have c28 := hn2.fr hq2 (by decide)
    have c29 := c11.fr hq2 (by decide) (by decide)
    have c30 := c12.fr hq2 (by decide) (by decide)
    have c31 := c13.fr hq2 (by decide)
    have c32 := c14.fr hq2 (by decide)
    have c33 := c15.fr hq2 (by decide)
    have c34 := c16.fr hq2 (by decide)
    have c35 := c17.fr hq2 (by decide)
    have c36 := c18.fr hq2 (by decide)
    have c37 := c19.fr hq2 (by decide)
    have c38 := c20.fr hq2 (by decide)
    have FF39 : Fr LM hp wp23 := FF21.trans (hq2.mono (by decide))
    refine R_iload_n dX12_remove_31 rfl rfl ?_
    have hf9 : f_rem (ms, (cs, sc, un, wd), hs, s0, s1, os, ox) (nI j) = (nI cs[j], psh (ms, (cs, sc, un, wd), hs, s0, s1, os, ox) (cs.eraseIdx j, sc, un, wd)) := by unfold f_rem; dsimp only; rw [hb4, if_pos rfl, vN_n (by omega), gD hj]
    rw [hf9]
    exact R_reti dX12_remove_32 rfl rfl rfl ⟨rfl, ⟨_, _, _, _, c25, c26, hq1, c27, c28, c29, c30, c31, c32, c33, c34, c35, c36, c37, c38⟩, FF39⟩
set_option maxRecDepth 100000 in
set_option maxHeartbeats 4000000 in
theorem y_flip {ms : List Nat} {cs : List Nat} {sc un wd : Nat} {hs : List TP} {s0 s1 : Option TP} {os : List (Nat × Nat)} {ox : Nat} {i b : Int32} (hM : MJ hp (ms, (cs, sc, un, wd), hs, s0, s1, os, ox)) : SpI l X mX12_flip [.ref 61, .int (i), .int (b)] hp (fun r hp' => r = (f_flip (ms, (cs, sc, un, wd), hs, s0, s1, os, ox) i b).1 ∧ MJ hp' (f_flip (ms, (cs, sc, un, wd), hs, s0, s1, os, ox) i b).2 ∧ Fr LM hp hp') := by
  obtain ⟨nx, tl, sl, st, M0, MM, MN, MT, MD, MK, MO, A70, A71, A72, A73, A74, A75, A76, A77⟩ := hM
  obtain ⟨hL, hC3, hs1, hu1, hw1, hw2⟩ := MN.ok
  obtain ⟨hmL, hmC⟩ := MM.ok
  obtain ⟨hnx0, hsl0⟩ := MD.ok
  obtain ⟨hol0, hox0⟩ := MO.ok
  refine SpI.of pnX12 (Nat.le_of_ble_eq_true rfl) rfl ?_
  refine R_aload_n dX12_flip_0 rfl rfl ?_
  refine R_iload_n dX12_flip_1 rfl rfl ?_
  refine R_calli (As := [.int (i)]) (st := []) kX12_isIndex lX12_98 (r_isx (i := i) M0 MN) rfl M0 dX12_flip_2 rfl rfl (Nat.le_of_ble_eq_true rfl) ⟨by decide, by decide⟩ zX12_isIndex ⟨Nat.le_refl _, Nat.le_refl _⟩ (fun wr3 wp2 wq1 => ?_)
  obtain ⟨rfl, rfl⟩ : wr3 = _ ∧ hp = wp2 := ⟨wq1.1, wq1.2.symm⟩
  cases hb4 : inB i cs.length with
  | false =>
    show PZ _ _ _ _ _ _ (.int (nI 0) :: _) _ _ _
    refine N_if_ne (tgt := 10) dX12_flip_5 (by decide) (by decide) (fun hc => absurd hc (by decide)) (fun _ => ?_)
    have hf : f_flip (ms, (cs, sc, un, wd), hs, s0, s1, os, ox) i b = (-1, (ms, (cs, sc, un, wd), hs, s0, s1, os, ox)) := by unfold f_flip; dsimp only; rw [hb4]; rfl
    refine R_iconst (v := (-1)) dX12_flip_8 (by decide) ?_
    rw [hf]
    exact R_reti dX12_flip_9 rfl rfl rfl ⟨rfl, ⟨_, _, _, _, M0, MM, MN, MT, MD, MK, MO, A70, A71, A72, A73, A74, A75, A76, A77⟩, (Fr.rf (L := LM) (hp := hp))⟩
  | true =>
    show PZ _ _ _ _ _ _ (.int (nI 1) :: _) _ _ _
    obtain ⟨j, hj, rfl⟩ := inB_t (by omega) hb4
    refine N_if_ne (tgt := 10) dX12_flip_5 (by decide) (by decide) (fun _ => ?_) (fun hc => absurd hc (by decide))
    refine R_iload_n dX12_flip_10 rfl rfl ?_
    refine R_i2l dX12_flip_11 ?_
    refine R_lconst (v := 0) dX12_flip_12 (by decide) ?_
    refine R_ldc2 dX12_flip_13 nX12_147 ?_
    refine R_stati (As := [.long ((b).toInt64), .long (0), .long (4)]) (st := []) kX12_in lX12_67 (r_inW 0 4 rfl rfl (by decide) (by decide)) dX12_flip_16 rfl rfl (Nat.le_of_ble_eq_true rfl) ⟨by decide, by decide⟩ zX12_in ⟨Nat.le_refl _, Nat.le_refl _⟩ (fun wr7 wp6 wq5 => ?_)
    obtain ⟨rfl, rfl⟩ : wr7 = _ ∧ hp = wp6 := ⟨wq5.1, wq5.2.symm⟩
    cases hw8 : inW b 0 4 with
    | false =>
      show PZ _ _ _ _ _ _ (.int (nI 0) :: _) _ _ _
      refine N_if_ne (tgt := 25) dX12_flip_19 (by decide) (by decide) (fun hc => absurd hc (by decide)) (fun _ => ?_)
      have hf : f_flip (ms, (cs, sc, un, wd), hs, s0, s1, os, ox) (nI j) b = (-2, (ms, (cs, sc, un, wd), hs, s0, s1, os, ox)) := by unfold f_flip; dsimp only; rw [hb4, hw8]; rfl
      refine R_bipush (v := (-2)) dX12_flip_22 (by decide) ?_
      rw [hf]
      exact R_reti dX12_flip_24 rfl rfl rfl ⟨rfl, ⟨_, _, _, _, M0, MM, MN, MT, MD, MK, MO, A70, A71, A72, A73, A74, A75, A76, A77⟩, (Fr.rf (L := LM) (hp := hp))⟩
    | true =>
      show PZ _ _ _ _ _ _ (.int (nI 1) :: _) _ _ _
      obtain ⟨q, -, hq, rfl⟩ := inW_t (by decide) hw8
      refine N_if_ne (tgt := 25) dX12_flip_19 (by decide) (by decide) (fun _ => ?_) (fun hc => absurd hc (by decide))
      refine R_aload_n dX12_flip_25 rfl rfl ?_
      refine R_callv (As := []) (st := []) kX12_note lX12_122 (r_note M0 MN MD) rfl M0 dX12_flip_26 rfl rfl (Nat.le_of_ble_eq_true rfl) ⟨by decide, by decide⟩ zX12_note ⟨Nat.le_refl _, Nat.le_refl _⟩ (fun wp10 wq9 => ?_)
      obtain ⟨hn1, hn2, hn3⟩ := wq9
      have c12 := MM.fr hn3 (by decide)
      have c13 := MN.fr hn3 (by decide)
      have c14 := MT.fr hn3 (by decide)
      have c15 := MK.fr hn3 (by decide) (by decide)
      have c16 := MO.fr hn3 (by decide) (by decide)
      have c17 := A70.fr hn3 (by decide)
      have c18 := A71.fr hn3 (by decide)
      have c19 := A72.fr hn3 (by decide)
      have c20 := A73.fr hn3 (by decide)
      have c21 := A74.fr hn3 (by decide)
      have c22 := A75.fr hn3 (by decide)
      have c23 := A76.fr hn3 (by decide)
      have c24 := A77.fr hn3 (by decide)
      have FF25 : Fr LM hp wp10 := (Fr.rf (L := LM) (hp := hp)).trans (hn3.mono (by decide))
      obtain ⟨f, Ha, hR⟩ := id c13
      obtain ⟨h0, h1, h2, h3, hf, -⟩ := hR.to
      have hcj := hC3 cs[j] (List.getElem_mem hj)
      refine R_aload_n dX12_flip_29 rfl rfl ?_
      refine R_getf dX12_flip_30 gX12_13 hn1 rfl ?_
      refine R_iconst (v := (nI 4)) dX12_flip_33 (by decide) ?_
      refine R_iload_n dX12_flip_34 rfl rfl ?_
      refine N_iadd dX12_flip_35 ?_
      refine R_dup2 dX12_flip_36 rfl rfl ?_
      refine N_iald (y := (nI (cs[j]))) dX12_flip_37 Ha (by omega) (by decide) (hf j hj) ?_
      refine R_iconst (v := (nI 1)) dX12_flip_38 (by decide) ?_
      refine R_iload_n dX12_flip_39 rfl rfl ?_
      refine R_ishl dX12_flip_40 ?_
      refine R_ixor dX12_flip_41 ?_
      rw [xor_I cs[j] hcj q (by omega)]
      obtain ⟨g2, eg2⟩ : ∃ y, y = upd f (4 + j) (nI (cs[j] ^^^ 2 ^ q)) := ⟨_, rfl⟩
      refine W_iast (f' := g2) dX12_flip_42 Ha (by omega) (by decide) eg2 (fun wp26 wH27 wE28 => ?_)
      have wH29 := (wE28 61 (by decide)).trans hn1
      have wF30 : Fr [63] wp10 wp26 := Fr.one wE28 (by simp)
      have hq1 : RwAt wp26 63 (cs.set j (cs[j] ^^^ 2 ^ q), sc, un, wd) := by
        refine ⟨g2, wH27, RwH.to ⟨by rw [eg2, upd_n (by omega), List.length_set]; exact h0, by rw [eg2, upd_n (by omega)]; exact h1, by rw [eg2, upd_n (by omega)]; exact h2, by rw [eg2, upd_n (by omega)]; exact h3, fun i hi => ?_, by rw [List.length_set]; omega, fun x hx => ?_, hs1, hu1, hw1, hw2⟩⟩
        · rw [List.length_set] at hi
          rw [eg2, List.getElem_set]
          by_cases e : j = i
          · subst e; rw [upd_s, if_pos rfl]
          · rw [upd_n (by omega), if_neg e]; exact hf i hi
        · rcases List.mem_or_eq_of_mem_set hx with h | h
          · exact hC3 x h
          · rw [h]; exact xor_lt hcj (by omega)
      have c31 := wF30.at (by decide) hn1
      have c32 := c12.fr wF30 (by decide)
      have c33 := c14.fr wF30 (by decide)
      have c34 := hn2.fr wF30 (by decide)
      have c35 := c15.fr wF30 (by decide) (by decide)
      have c36 := c16.fr wF30 (by decide) (by decide)
      have c37 := c17.fr wF30 (by decide)
      have c38 := c18.fr wF30 (by decide)
      have c39 := c19.fr wF30 (by decide)
      have c40 := c20.fr wF30 (by decide)
      have c41 := c21.fr wF30 (by decide)
      have c42 := c22.fr wF30 (by decide)
      have c43 := c23.fr wF30 (by decide)
      have c44 := c24.fr wF30 (by decide)
      have FF45 : Fr LM hp wp26 := FF25.trans (wF30.mono (by decide))
      refine R_aload_n dX12_flip_43 rfl rfl ?_
      refine R_getf dX12_flip_44 gX12_13 c31 rfl ?_
      refine R_iconst (v := (nI 4)) dX12_flip_47 (by decide) ?_
      refine R_iload_n dX12_flip_48 rfl rfl ?_
      refine N_iadd dX12_flip_49 ?_
      refine N_iald (y := (nI (cs[j] ^^^ 2 ^ q))) dX12_flip_50 wH27 (by omega) (by decide) (by rw [eg2, upd_s]) ?_
      have hf9 : f_flip (ms, (cs, sc, un, wd), hs, s0, s1, os, ox) (nI j) (nI q) = (nI (cs[j] ^^^ 2 ^ q), psh (ms, (cs, sc, un, wd), hs, s0, s1, os, ox) (cs.set j (cs[j] ^^^ 2 ^ q), sc, un, wd)) := by unfold f_flip; dsimp only; rw [hb4, if_pos rfl, hw8, if_pos rfl, vN_n (by omega), vN_n (by omega), gD hj]
      rw [hf9]
      exact R_reti dX12_flip_51 rfl rfl rfl ⟨rfl, ⟨_, _, _, _, c31, c32, hq1, c33, c34, c35, c36, c37, c38, c39, c40, c41, c42, c43, c44⟩, FF45⟩
end R33
