/-! The reference: its object, the texts and the diary -/
def AX (hp : HPt) (a N : Nat) : Prop := ∃ f : Nat → Int32, hp[a]? = some (ia N f)
theorem AX.fr {hp hp' : HPt} {a N : Nat} {L : List Nat} (H : AX hp a N) (F : Fr L hp hp') (h1 : a ∉ L) : AX hp' a N := by
  obtain ⟨f, A⟩ := H
  exact ⟨f, F.at h1 A⟩
theorem RwAt.ax {hp : HPt} {a : Nat} {T : TP} (H : RwAt hp a T) : AX hp a 100 := by
  obtain ⟨f, A, -⟩ := H
  exact ⟨f, A⟩
/-- what layText lays -/
def LtA (hp : HPt) (a b c : Nat) (cs : List Nat) (sc un : Nat) : Prop := ∃ g w t : Nat → Int32, hp[a]? = some (ia 96 g) ∧ hp[b]? = some (ia 97 w) ∧ hp[c]? = some (ia 96 t) ∧ (∀ (q : Nat) (hq : q < cs.length), g q = prt cs[q] (cAt un sc cs q)) ∧ (∀ q, q ≤ cs.length → w q = nI (cAt un sc cs q)) ∧ (∀ (q : Nat) (hq : q < (txt un sc cs).length), t q = nI (txt un sc cs)[q])
theorem LtA.fr {hp hp' : HPt} {a b c : Nat} {cs : List Nat} {sc un : Nat} {L : List Nat} (H : LtA hp a b c cs sc un) (F : Fr L hp hp') (h1 : a ∉ L) (h2 : b ∉ L) (h3 : c ∉ L) : LtA hp' a b c cs sc un := by
  obtain ⟨g, w, t, A, B, C, r⟩ := H
  exact ⟨g, w, t, F.at h1 A, F.at h2 B, F.at h3 C, r⟩
theorem LtA.x1 {hp : HPt} {a b c : Nat} {cs : List Nat} {sc un : Nat} (H : LtA hp a b c cs sc un) : AX hp a 96 := by
  obtain ⟨g, w, t, A, B, C, r⟩ := H
  exact ⟨g, A⟩
theorem LtA.x2 {hp : HPt} {a b c : Nat} {cs : List Nat} {sc un : Nat} (H : LtA hp a b c cs sc un) : AX hp b 97 := by
  obtain ⟨g, w, t, A, B, C, r⟩ := H
  exact ⟨w, B⟩
theorem LtA.x3 {hp : HPt} {a b c : Nat} {cs : List Nat} {sc un : Nat} (H : LtA hp a b c cs sc un) : AX hp c 96 := by
  obtain ⟨g, w, t, A, B, C, r⟩ := H
  exact ⟨t, C⟩
theorem txt_tl {un sc : Nat} {cs : List Nat} {j : Nat} : (txt un sc (cs.take j)).length ≤ j := Nat.le_trans (txt_len un _ _) (by rw [List.length_take]; omega)
section R32
variable {l : Launch} {X : EX} {hp : HPt}
set_option maxRecDepth 100000 in
set_option maxHeartbeats 4000000 in
theorem r_ltL {cs : List Nat} {sc un wd : Nat} {ln ac nxx sn sx sl st : Int32} {f g w : Nat → Int32} (hR : RwF f 0 (cs, sc, un, wd)) (hg : ∀ (q : Nat) (hq : q < cs.length), g q = prt cs[q] (cAt un sc cs q)) (hw : ∀ q, q ≤ cs.length → w q = nI (cAt un sc cs q)) : ∀ (d j : Nat) (hz : HPt) (t : Nat → Int32), j + d = cs.length → hz[61]? = some (ob 11 [.ref 62, .int (ln), .ref 63, .ref 64, .ref 65, .int (ac), .int (nxx), .ref 66, .ref 67, .ref 68, .ref 69, .int (sn), .int (sx), .ref 70, .ref 71, .ref 72, .ref 73, .ref 74, .int (nI ((txt un sc (cs.take j)).length)), .ref 75, .int (sl), .ref 76, .int (st), .ref 77]) → hz[63]? = some (ia 100 f) → hz[70]? = some (ia 96 g) → hz[71]? = some (ia 97 w) → hz[74]? = some (ia 96 t) → (∀ (q : Nat) (hq : q < (txt un sc (cs.take j)).length), t q = nI (txt un sc (cs.take j))[q]) → Fr [61, 70, 71, 74] hp hz → PZ l X (MZv X mX12_layText (fun hp' => hp'[61]? = some (ob 11 [.ref 62, .int (ln), .ref 63, .ref 64, .ref 65, .int (ac), .int (nxx), .ref 66, .ref 67, .ref 68, .ref 69, .int (sn), .int (sx), .ref 70, .ref 71, .ref 72, .ref 73, .ref 74, .int (nI ((txt un sc cs).length)), .ref 75, .int (sl), .ref 76, .int (st), .ref 77]) ∧ LtA hp' 70 71 74 cs sc un ∧ Fr [61, 70, 71, 74] hp hp')) mX12_layText 19 [some (.ref 61), some (.ref 63), some (.int (nI j))] [] hz 0 0 := by
  intro d
  obtain ⟨h0, h1, h2, h3, hf, hL, hC, hs, hu, hw1, hw2⟩ := hR.to
  induction d with
  | zero =>
    intro j hz t hj H0 Ha Hg Hw Ht ht hF
    have hje : cs.take j = cs := List.take_of_length_le (by omega)
    refine R_iload_n dX12_layText_19 rfl rfl ?_
    refine R_aload_n dX12_layText_20 rfl rfl ?_
    refine R_iconst (v := (nI 0)) dX12_layText_21 (by decide) ?_
    refine N_iald (y := (nI (cs.length))) dX12_layText_22 Ha (by decide) (by decide) h0 ?_
    refine N_icmp_ge (tgt := 67) dX12_layText_23 (by decide) (by omega) (by omega) (fun _ => ?_) (fun hc => absurd hc (by omega))
    rw [hje] at H0 ht
    exact R_retv dX12_layText_67 rfl rfl rfl ⟨H0, ⟨g, w, t, Hg, Hw, Ht, hg, hw, ht⟩, hF⟩
  | succ d ih =>
    intro j hz t hj H0 Ha Hg Hw Ht ht hF
    have htl := txt_tl (un := un) (sc := sc) (cs := cs) (j := j)
    have hts := txt_s (un := un) (sc := sc) (cs := cs) (i := j) (by omega)
    refine R_iload_n dX12_layText_19 rfl rfl ?_
    refine R_aload_n dX12_layText_20 rfl rfl ?_
    refine R_iconst (v := (nI 0)) dX12_layText_21 (by decide) ?_
    refine N_iald (y := (nI (cs.length))) dX12_layText_22 Ha (by decide) (by decide) h0 ?_
    refine N_icmp_ge (tgt := 67) dX12_layText_23 (by decide) (by omega) (by omega) (fun hc => absurd hc (by omega)) (fun _ => ?_)
    refine R_aload_n dX12_layText_26 rfl rfl ?_
    refine R_getf dX12_layText_27 gX12_35 H0 rfl ?_
    refine R_iload_n dX12_layText_30 rfl rfl ?_
    refine N_iald (y := (prt cs[j] (cAt un sc cs j))) dX12_layText_31 Hg (by omega) (by decide) (hg j (by omega)) ?_
    refine R_iconst (v := (-1)) dX12_layText_32 (by decide) ?_
    refine R_icmp_eq (tgt := 61) dX12_layText_33 (by decide) (fun hm => ?_) (fun hm => ?_)
    · have hc9 : ¬ cs[j] < 29 := fun z9 => nI_m1 (a := ch cs[j] (cAt un sc cs j)) (by have := ch_lt (p := cAt un sc cs j) z9; omega) ((prt_in z9).symm.trans hm)
      rw [if_neg hc9, List.append_nil] at hts
      refine N_iinc (d := 1) (lv' := [some (.ref 61), some (.ref 63), some (.int (nI (j + 1)))]) dX12_layText_61 rfl rfl ?_
      refine R_goto (tgt := 19) dX12_layText_64 (by decide) ?_
      refine ih (j + 1) _ t (by omega) ?_ Ha Hg Hw Ht ?_ hF
      · rw [hts]; exact H0
      · rw [hts]; exact ht
    · have hc9 : cs[j] < 29 := Classical.byContradiction (fun z9 => hm (prt_ne (by omega)))
      rw [if_pos hc9] at hts
      refine R_aload_n dX12_layText_36 rfl rfl ?_
      refine R_getf dX12_layText_37 gX12_47 H0 rfl ?_
      refine R_aload_n dX12_layText_40 rfl rfl ?_
      refine R_getf dX12_layText_41 gX12_83 H0 rfl ?_
      refine R_aload_n dX12_layText_44 rfl rfl ?_
      refine R_getf dX12_layText_45 gX12_35 H0 rfl ?_
      refine R_iload_n dX12_layText_48 rfl rfl ?_
      refine N_iald (y := (prt cs[j] (cAt un sc cs j))) dX12_layText_49 Hg (by omega) (by decide) (hg j (by omega)) ?_
      obtain ⟨t2, et2⟩ : ∃ y, y = upd t ((txt un sc (cs.take j)).length) (prt cs[j] (cAt un sc cs j)) := ⟨_, rfl⟩
      refine W_iast (f' := t2) dX12_layText_50 Ht (by omega) (by decide) et2 (fun wp1 wH2 wE3 => ?_)
      have wH4 := (wE3 61 (by decide)).trans H0
      have wH5 := (wE3 63 (by decide)).trans Ha
      have wH6 := (wE3 70 (by decide)).trans Hg
      have wH7 := (wE3 71 (by decide)).trans Hw
      have wF8 : Fr [61, 70, 71, 74] hp wp1 := hF.trans (Fr.one wE3 (by simp))
      refine R_aload_n dX12_layText_51 rfl rfl ?_
      refine R_dup dX12_layText_52 rfl ?_
      refine R_getf dX12_layText_53 gX12_83 wH4 rfl ?_
      refine R_iconst (v := (nI 1)) dX12_layText_56 (by decide) ?_
      refine N_iadd dX12_layText_57 ?_
      refine W_puti (fs' := [.ref 62, .int (ln), .ref 63, .ref 64, .ref 65, .int (ac), .int (nxx), .ref 66, .ref 67, .ref 68, .ref 69, .int (sn), .int (sx), .ref 70, .ref 71, .ref 72, .ref 73, .ref 74, .int (nI (((txt un sc (cs.take j)).length) + 1)), .ref 75, .int (sl), .ref 76, .int (st), .ref 77]) dX12_layText_58 pX12_83 wH4 (Nat.le_of_ble_eq_true rfl) rfl (fun wp9 wH10 wE11 => ?_)
      have wH12 := (wE11 63 (by decide)).trans wH5
      have wH13 := (wE11 70 (by decide)).trans wH6
      have wH14 := (wE11 71 (by decide)).trans wH7
      have wH15 := (wE11 74 (by decide)).trans wH2
      have wF16 : Fr [61, 70, 71, 74] hp wp9 := wF8.trans (Fr.one wE11 (by simp))
      refine N_iinc (d := 1) (lv' := [some (.ref 61), some (.ref 63), some (.int (nI (j + 1)))]) dX12_layText_61 rfl rfl ?_
      refine R_goto (tgt := 19) dX12_layText_64 (by decide) ?_
      refine ih (j + 1) _ t2 (by omega) ?_ wH12 wH13 wH14 wH15 (fun q hq => ?_) wF16
      · rw [hts, len1]; exact wH10
      · have hq2 : q < (txt un sc (cs.take j) ++ [ch cs[j] (cAt un sc cs j)]).length := hts ▸ hq
        have e9 : (txt un sc (cs.take (j + 1)))[q] = (txt un sc (cs.take j) ++ [ch cs[j] (cAt un sc cs j)])[q] := by congr 1
        rw [e9, et2]
        rcases at_app hq2 with ⟨h, _, e⟩ | ⟨h, e⟩
        · rw [upd_n (by omega), e]; exact ht q h
        · rw [e, h, upd_s, prt_in hc9]
set_option maxRecDepth 100000 in
set_option maxHeartbeats 4000000 in
theorem r_lt {cs : List Nat} {sc un wd : Nat} {ln ac nxx sn sx tl sl st : Int32} (H0 : hp[61]? = some (ob 11 [.ref 62, .int (ln), .ref 63, .ref 64, .ref 65, .int (ac), .int (nxx), .ref 66, .ref 67, .ref 68, .ref 69, .int (sn), .int (sx), .ref 70, .ref 71, .ref 72, .ref 73, .ref 74, .int (tl), .ref 75, .int (sl), .ref 76, .int (st), .ref 77])) (H : RwAt hp 63 (cs, sc, un, wd)) (HA : AX hp 70 96) (HB : AX hp 71 97) (HC : AX hp 74 96) : SpV l X mX12_layText [.ref 61, .ref 63] hp (fun hp' => hp'[61]? = some (ob 11 [.ref 62, .int (ln), .ref 63, .ref 64, .ref 65, .int (ac), .int (nxx), .ref 66, .ref 67, .ref 68, .ref 69, .int (sn), .int (sx), .ref 70, .ref 71, .ref 72, .ref 73, .ref 74, .int (nI ((txt un sc cs).length)), .ref 75, .int (sl), .ref 76, .int (st), .ref 77]) ∧ LtA hp' 70 71 74 cs sc un ∧ Fr [61, 70, 71, 74] hp hp') := by
  obtain ⟨ga, Hga⟩ := HA
  obtain ⟨gb, Hgb⟩ := HB
  obtain ⟨gc, Hgc⟩ := HC
  refine SpV.of pnX12 (Nat.le_of_ble_eq_true rfl) rfl ?_
  refine R_aload_n dX12_layText_0 rfl rfl ?_
  refine R_aload_n dX12_layText_1 rfl rfl ?_
  refine R_getf dX12_layText_2 gX12_35 H0 rfl ?_
  refine R_aload_n dX12_layText_5 rfl rfl ?_
  refine R_getf dX12_layText_6 gX12_38 H0 rfl ?_
  refine R_statv (As := [.ref 63, .ref 70, .ref 71]) (st := []) kX12_layPrints lX12_79 (r_lp (by decide) (by decide) (by decide) H Hga Hgb) dX12_layText_9 rfl rfl (Nat.le_of_ble_eq_true rfl) ⟨by decide, by decide⟩ zX12_layPrints ⟨Nat.le_refl _, Nat.le_refl _⟩ (fun wp2 wq1 => ?_)
  obtain ⟨⟨g, w, Hg, Hw, hg, hw⟩, hF1⟩ := wq1
  obtain ⟨f, Ha, hR⟩ := H.fr hF1 (by decide)
  have H1 := hF1.at (by decide) H0
  have Hgd := hF1.at (by decide) Hgc
  have hF2 : Fr [61, 70, 71, 74] hp wp2 := hF1.mono (by decide)
  refine R_aload_n dX12_layText_12 rfl rfl ?_
  refine R_iconst (v := (nI 0)) dX12_layText_13 (by decide) ?_
  refine W_puti (fs' := [.ref 62, .int (ln), .ref 63, .ref 64, .ref 65, .int (ac), .int (nxx), .ref 66, .ref 67, .ref 68, .ref 69, .int (sn), .int (sx), .ref 70, .ref 71, .ref 72, .ref 73, .ref 74, .int (nI 0), .ref 75, .int (sl), .ref 76, .int (st), .ref 77]) dX12_layText_14 pX12_83 H1 (Nat.le_of_ble_eq_true rfl) rfl (fun wp4 wH5 wE6 => ?_)
  have wH7 := (wE6 63 (by decide)).trans Ha
  have wH8 := (wE6 70 (by decide)).trans Hg
  have wH9 := (wE6 71 (by decide)).trans Hw
  have wH10 := (wE6 74 (by decide)).trans Hgd
  have wF11 : Fr [61, 70, 71, 74] hp wp4 := hF2.trans (Fr.one wE6 (by simp))
  refine R_iconst (v := (nI 0)) dX12_layText_17 (by decide) ?_
  refine R_istore_n (lv' := [some (.ref 61), some (.ref 63), some (.int (nI 0))]) dX12_layText_18 rfl (by decide) rfl ?_
  exact r_ltL hR hg hw cs.length 0 _ gc (by omega) wH5 wH7 wH8 wH9 wH10 (fun q hq => absurd hq (by simp [txt])) wF11
set_option maxRecDepth 100000 in
set_option maxHeartbeats 4000000 in
theorem r_lsL {cs : List Nat} {sc un wd : Nat} {ln ac nxx sn sx tl st : Int32} {f g w : Nat → Int32} (hR : RwF f 0 (cs, sc, un, wd)) (hg : ∀ (q : Nat) (hq : q < cs.length), g q = prt cs[q] (cAt un sc cs q)) (hw : ∀ q, q ≤ cs.length → w q = nI (cAt un sc cs q)) : ∀ (d j : Nat) (hz : HPt) (t : Nat → Int32), j + d = cs.length → hz[61]? = some (ob 11 [.ref 62, .int (ln), .ref 63, .ref 64, .ref 65, .int (ac), .int (nxx), .ref 66, .ref 67, .ref 68, .ref 69, .int (sn), .int (sx), .ref 70, .ref 71, .ref 72, .ref 73, .ref 74, .int (tl), .ref 75, .int (nI ((txt un sc (cs.take j)).length)), .ref 76, .int (st), .ref 77]) → hz[64]? = some (ia 100 f) → hz[72]? = some (ia 96 g) → hz[73]? = some (ia 97 w) → hz[75]? = some (ia 96 t) → (∀ (q : Nat) (hq : q < (txt un sc (cs.take j)).length), t q = nI (txt un sc (cs.take j))[q]) → Fr [61, 72, 73, 75] hp hz → PZ l X (MZv X mX12_laySecond (fun hp' => hp'[61]? = some (ob 11 [.ref 62, .int (ln), .ref 63, .ref 64, .ref 65, .int (ac), .int (nxx), .ref 66, .ref 67, .ref 68, .ref 69, .int (sn), .int (sx), .ref 70, .ref 71, .ref 72, .ref 73, .ref 74, .int (tl), .ref 75, .int (nI ((txt un sc cs).length)), .ref 76, .int (st), .ref 77]) ∧ LtA hp' 72 73 75 cs sc un ∧ Fr [61, 72, 73, 75] hp hp')) mX12_laySecond 19 [some (.ref 61), some (.ref 64), some (.int (nI j))] [] hz 0 0 := by
  intro d
  obtain ⟨h0, h1, h2, h3, hf, hL, hC, hs, hu, hw1, hw2⟩ := hR.to
  induction d with
  | zero =>
    intro j hz t hj H0 Ha Hg Hw Ht ht hF
    have hje : cs.take j = cs := List.take_of_length_le (by omega)
    refine R_iload_n dX12_laySecond_19 rfl rfl ?_
    refine R_aload_n dX12_laySecond_20 rfl rfl ?_
    refine R_iconst (v := (nI 0)) dX12_laySecond_21 (by decide) ?_
    refine N_iald (y := (nI (cs.length))) dX12_laySecond_22 Ha (by decide) (by decide) h0 ?_
    refine N_icmp_ge (tgt := 67) dX12_laySecond_23 (by decide) (by omega) (by omega) (fun _ => ?_) (fun hc => absurd hc (by omega))
    rw [hje] at H0 ht
    exact R_retv dX12_laySecond_67 rfl rfl rfl ⟨H0, ⟨g, w, t, Hg, Hw, Ht, hg, hw, ht⟩, hF⟩
  | succ d ih =>
    intro j hz t hj H0 Ha Hg Hw Ht ht hF
    have htl := txt_tl (un := un) (sc := sc) (cs := cs) (j := j)
    have hts := txt_s (un := un) (sc := sc) (cs := cs) (i := j) (by omega)
    refine R_iload_n dX12_laySecond_19 rfl rfl ?_
    refine R_aload_n dX12_laySecond_20 rfl rfl ?_
    refine R_iconst (v := (nI 0)) dX12_laySecond_21 (by decide) ?_
    refine N_iald (y := (nI (cs.length))) dX12_laySecond_22 Ha (by decide) (by decide) h0 ?_
    refine N_icmp_ge (tgt := 67) dX12_laySecond_23 (by decide) (by omega) (by omega) (fun hc => absurd hc (by omega)) (fun _ => ?_)
    refine R_aload_n dX12_laySecond_26 rfl rfl ?_
    refine R_getf dX12_laySecond_27 gX12_41 H0 rfl ?_
    refine R_iload_n dX12_laySecond_30 rfl rfl ?_
    refine N_iald (y := (prt cs[j] (cAt un sc cs j))) dX12_laySecond_31 Hg (by omega) (by decide) (hg j (by omega)) ?_
    refine R_iconst (v := (-1)) dX12_laySecond_32 (by decide) ?_
    refine R_icmp_eq (tgt := 61) dX12_laySecond_33 (by decide) (fun hm => ?_) (fun hm => ?_)
    · have hc9 : ¬ cs[j] < 29 := fun z9 => nI_m1 (a := ch cs[j] (cAt un sc cs j)) (by have := ch_lt (p := cAt un sc cs j) z9; omega) ((prt_in z9).symm.trans hm)
      rw [if_neg hc9, List.append_nil] at hts
      refine N_iinc (d := 1) (lv' := [some (.ref 61), some (.ref 64), some (.int (nI (j + 1)))]) dX12_laySecond_61 rfl rfl ?_
      refine R_goto (tgt := 19) dX12_laySecond_64 (by decide) ?_
      refine ih (j + 1) _ t (by omega) ?_ Ha Hg Hw Ht ?_ hF
      · rw [hts]; exact H0
      · rw [hts]; exact ht
    · have hc9 : cs[j] < 29 := Classical.byContradiction (fun z9 => hm (prt_ne (by omega)))
      rw [if_pos hc9] at hts
      refine R_aload_n dX12_laySecond_36 rfl rfl ?_
      refine R_getf dX12_laySecond_37 gX12_50 H0 rfl ?_
      refine R_aload_n dX12_laySecond_40 rfl rfl ?_
      refine R_getf dX12_laySecond_41 gX12_87 H0 rfl ?_
      refine R_aload_n dX12_laySecond_44 rfl rfl ?_
      refine R_getf dX12_laySecond_45 gX12_41 H0 rfl ?_
      refine R_iload_n dX12_laySecond_48 rfl rfl ?_
      refine N_iald (y := (prt cs[j] (cAt un sc cs j))) dX12_laySecond_49 Hg (by omega) (by decide) (hg j (by omega)) ?_
      obtain ⟨t2, et2⟩ : ∃ y, y = upd t ((txt un sc (cs.take j)).length) (prt cs[j] (cAt un sc cs j)) := ⟨_, rfl⟩
      refine W_iast (f' := t2) dX12_laySecond_50 Ht (by omega) (by decide) et2 (fun wp1 wH2 wE3 => ?_)
      have wH4 := (wE3 61 (by decide)).trans H0
      have wH5 := (wE3 64 (by decide)).trans Ha
      have wH6 := (wE3 72 (by decide)).trans Hg
      have wH7 := (wE3 73 (by decide)).trans Hw
      have wF8 : Fr [61, 72, 73, 75] hp wp1 := hF.trans (Fr.one wE3 (by simp))
      refine R_aload_n dX12_laySecond_51 rfl rfl ?_
      refine R_dup dX12_laySecond_52 rfl ?_
      refine R_getf dX12_laySecond_53 gX12_87 wH4 rfl ?_
      refine R_iconst (v := (nI 1)) dX12_laySecond_56 (by decide) ?_
      refine N_iadd dX12_laySecond_57 ?_
      refine W_puti (fs' := [.ref 62, .int (ln), .ref 63, .ref 64, .ref 65, .int (ac), .int (nxx), .ref 66, .ref 67, .ref 68, .ref 69, .int (sn), .int (sx), .ref 70, .ref 71, .ref 72, .ref 73, .ref 74, .int (tl), .ref 75, .int (nI (((txt un sc (cs.take j)).length) + 1)), .ref 76, .int (st), .ref 77]) dX12_laySecond_58 pX12_87 wH4 (Nat.le_of_ble_eq_true rfl) rfl (fun wp9 wH10 wE11 => ?_)
      have wH12 := (wE11 64 (by decide)).trans wH5
      have wH13 := (wE11 72 (by decide)).trans wH6
      have wH14 := (wE11 73 (by decide)).trans wH7
      have wH15 := (wE11 75 (by decide)).trans wH2
      have wF16 : Fr [61, 72, 73, 75] hp wp9 := wF8.trans (Fr.one wE11 (by simp))
      refine N_iinc (d := 1) (lv' := [some (.ref 61), some (.ref 64), some (.int (nI (j + 1)))]) dX12_laySecond_61 rfl rfl ?_
      refine R_goto (tgt := 19) dX12_laySecond_64 (by decide) ?_
      refine ih (j + 1) _ t2 (by omega) ?_ wH12 wH13 wH14 wH15 (fun q hq => ?_) wF16
      · rw [hts, len1]; exact wH10
      · have hq2 : q < (txt un sc (cs.take j) ++ [ch cs[j] (cAt un sc cs j)]).length := hts ▸ hq
        have e9 : (txt un sc (cs.take (j + 1)))[q] = (txt un sc (cs.take j) ++ [ch cs[j] (cAt un sc cs j)])[q] := by congr 1
        rw [e9, et2]
        rcases at_app hq2 with ⟨h, _, e⟩ | ⟨h, e⟩
        · rw [upd_n (by omega), e]; exact ht q h
        · rw [e, h, upd_s, prt_in hc9]
set_option maxRecDepth 100000 in
set_option maxHeartbeats 4000000 in
theorem r_ls {cs : List Nat} {sc un wd : Nat} {ln ac nxx sn sx tl sl st : Int32} (H0 : hp[61]? = some (ob 11 [.ref 62, .int (ln), .ref 63, .ref 64, .ref 65, .int (ac), .int (nxx), .ref 66, .ref 67, .ref 68, .ref 69, .int (sn), .int (sx), .ref 70, .ref 71, .ref 72, .ref 73, .ref 74, .int (tl), .ref 75, .int (sl), .ref 76, .int (st), .ref 77])) (H : RwAt hp 64 (cs, sc, un, wd)) (HA : AX hp 72 96) (HB : AX hp 73 97) (HC : AX hp 75 96) : SpV l X mX12_laySecond [.ref 61, .ref 64] hp (fun hp' => hp'[61]? = some (ob 11 [.ref 62, .int (ln), .ref 63, .ref 64, .ref 65, .int (ac), .int (nxx), .ref 66, .ref 67, .ref 68, .ref 69, .int (sn), .int (sx), .ref 70, .ref 71, .ref 72, .ref 73, .ref 74, .int (tl), .ref 75, .int (nI ((txt un sc cs).length)), .ref 76, .int (st), .ref 77]) ∧ LtA hp' 72 73 75 cs sc un ∧ Fr [61, 72, 73, 75] hp hp') := by
  obtain ⟨ga, Hga⟩ := HA
  obtain ⟨gb, Hgb⟩ := HB
  obtain ⟨gc, Hgc⟩ := HC
  refine SpV.of pnX12 (Nat.le_of_ble_eq_true rfl) rfl ?_
  refine R_aload_n dX12_laySecond_0 rfl rfl ?_
  refine R_aload_n dX12_laySecond_1 rfl rfl ?_
  refine R_getf dX12_laySecond_2 gX12_41 H0 rfl ?_
  refine R_aload_n dX12_laySecond_5 rfl rfl ?_
  refine R_getf dX12_laySecond_6 gX12_44 H0 rfl ?_
  refine R_statv (As := [.ref 64, .ref 72, .ref 73]) (st := []) kX12_layPrints lX12_79 (r_lp (by decide) (by decide) (by decide) H Hga Hgb) dX12_laySecond_9 rfl rfl (Nat.le_of_ble_eq_true rfl) ⟨by decide, by decide⟩ zX12_layPrints ⟨Nat.le_refl _, Nat.le_refl _⟩ (fun wp2 wq1 => ?_)
  obtain ⟨⟨g, w, Hg, Hw, hg, hw⟩, hF1⟩ := wq1
  obtain ⟨f, Ha, hR⟩ := H.fr hF1 (by decide)
  have H1 := hF1.at (by decide) H0
  have Hgd := hF1.at (by decide) Hgc
  have hF2 : Fr [61, 72, 73, 75] hp wp2 := hF1.mono (by decide)
  refine R_aload_n dX12_laySecond_12 rfl rfl ?_
  refine R_iconst (v := (nI 0)) dX12_laySecond_13 (by decide) ?_
  refine W_puti (fs' := [.ref 62, .int (ln), .ref 63, .ref 64, .ref 65, .int (ac), .int (nxx), .ref 66, .ref 67, .ref 68, .ref 69, .int (sn), .int (sx), .ref 70, .ref 71, .ref 72, .ref 73, .ref 74, .int (tl), .ref 75, .int (nI 0), .ref 76, .int (st), .ref 77]) dX12_laySecond_14 pX12_87 H1 (Nat.le_of_ble_eq_true rfl) rfl (fun wp4 wH5 wE6 => ?_)
  have wH7 := (wE6 64 (by decide)).trans Ha
  have wH8 := (wE6 72 (by decide)).trans Hg
  have wH9 := (wE6 73 (by decide)).trans Hw
  have wH10 := (wE6 75 (by decide)).trans Hgd
  have wF11 : Fr [61, 72, 73, 75] hp wp4 := hF2.trans (Fr.one wE6 (by simp))
  refine R_iconst (v := (nI 0)) dX12_laySecond_17 (by decide) ?_
  refine R_istore_n (lv' := [some (.ref 61), some (.ref 64), some (.int (nI 0))]) dX12_laySecond_18 rfl (by decide) rfl ?_
  exact r_lsL hR hg hw cs.length 0 _ gc (by omega) wH5 wH7 wH8 wH9 wH10 (fun q hq => absurd hq (by simp [txt])) wF11
set_option maxRecDepth 100000 in
set_option maxHeartbeats 4000000 in
theorem r_stL {ln ac nxx sn sx st : Int32} {A B : List Nat} {t u : Nat → Int32} (H0 : hp[61]? = some (ob 11 [.ref 62, .int (ln), .ref 63, .ref 64, .ref 65, .int (ac), .int (nxx), .ref 66, .ref 67, .ref 68, .ref 69, .int (sn), .int (sx), .ref 70, .ref 71, .ref 72, .ref 73, .ref 74, .int (nI (A.length)), .ref 75, .int (nI (B.length)), .ref 76, .int (st), .ref 77])) (Ht : hp[74]? = some (ia 96 t)) (Hu : hp[75]? = some (ia 96 u)) (ht : ∀ (q : Nat) (hq : q < A.length), t q = nI A[q]) (hu : ∀ (q : Nat) (hq : q < B.length), u q = nI B[q]) (hA : A.length ≤ 96) (hB : B.length ≤ 96) (hA2 : ∀ c ∈ A, c < 128) (hB2 : ∀ c ∈ B, c < 128) : ∀ (d j : Nat) (v : Bool), j + d = A.length → (v = true → A.length = B.length) → (v = false → ¬ A = B) → (v = true → A.take j = B.take j) → PZ l X (MZi X mX12_isSameText (fun r hp' => r = bz (decide (A = B)) ∧ hp' = hp)) mX12_isSameText 19 [some (.ref 61), some (.int (bz v)), some (.int (nI j))] [] hp 0 0 := by
  intro d
  induction d with
  | zero =>
    intro j v hj h1 h2 h3
    refine R_iload_n dX12_isSameText_19 rfl rfl ?_
    refine R_aload_n dX12_isSameText_20 rfl rfl ?_
    refine R_getf dX12_isSameText_21 gX12_83 H0 rfl ?_
    refine N_icmp_ge (tgt := 58) dX12_isSameText_24 (by decide) (by omega) (by omega) (fun _ => ?_) (fun hc => absurd hc (by omega))
    refine R_iload_n dX12_isSameText_58 rfl rfl ?_
    have e : v = decide (A = B) := by
      cases v with
      | false => exact (decide_eq_false (h2 rfl)).symm
      | true =>
        have e1 := h3 rfl
        rw [List.take_of_length_le (by omega), List.take_of_length_le (by have := h1 rfl; omega)] at e1
        exact (decide_eq_true e1).symm
    exact R_retz dX12_isSameText_59 rfl (bz_n _) rfl rfl ⟨congrArg bz e, rfl⟩
  | succ d ih =>
    intro j v hj h1 h2 h3
    refine R_iload_n dX12_isSameText_19 rfl rfl ?_
    refine R_aload_n dX12_isSameText_20 rfl rfl ?_
    refine R_getf dX12_isSameText_21 gX12_83 H0 rfl ?_
    refine N_icmp_ge (tgt := 58) dX12_isSameText_24 (by decide) (by omega) (by omega) (fun hc => absurd hc (by omega)) (fun _ => ?_)
    refine R_iload_n dX12_isSameText_27 rfl rfl ?_
    cases v with
    | false =>
      show PZ _ _ _ _ _ _ [.int (nI 0)] _ _ _
      refine N_if_eq (tgt := 58) dX12_isSameText_28 (by decide) (by decide) (fun _ => ?_) (fun hc => absurd hc (by decide))
      refine R_iload_n dX12_isSameText_58 rfl rfl ?_
      exact R_retz dX12_isSameText_59 rfl (bz_n _) rfl rfl ⟨congrArg bz (decide_eq_false (h2 rfl)).symm, rfl⟩
    | true =>
      show PZ _ _ _ _ _ _ [.int (nI 1)] _ _ _
      refine N_if_eq (tgt := 58) dX12_isSameText_28 (by decide) (by decide) (fun hc => absurd hc (by decide)) (fun _ => ?_)
      have hl := h1 rfl
      have ha := hA2 A[j] (List.getElem_mem (by omega))
      have hb := hB2 B[j] (List.getElem_mem (by omega))
      refine R_aload_n dX12_isSameText_31 rfl rfl ?_
      refine R_getf dX12_isSameText_32 gX12_47 H0 rfl ?_
      refine R_iload_n dX12_isSameText_35 rfl rfl ?_
      refine N_iald (y := (nI (A[j]))) dX12_isSameText_36 Ht (by omega) (by decide) (ht j (by omega)) ?_
      refine R_aload_n dX12_isSameText_37 rfl rfl ?_
      refine R_getf dX12_isSameText_38 gX12_50 H0 rfl ?_
      refine R_iload_n dX12_isSameText_41 rfl rfl ?_
      refine N_iald (y := (nI (B[j]))) dX12_isSameText_42 Hu (by omega) (by decide) (hu j (by omega)) ?_
      refine N_icmp_ne (tgt := 50) dX12_isSameText_43 (by decide) (by omega) (by omega) (fun hab => ?_) (fun hab => ?_)
      · refine R_iconst (v := (nI 0)) dX12_isSameText_50 (by decide) ?_
        refine R_istore_n (lv' := [some (.ref 61), some (.int (nI 0)), some (.int (nI j))]) dX12_isSameText_51 rfl (by decide) rfl ?_
        refine N_iinc (d := 1) (lv' := [some (.ref 61), some (.int (nI 0)), some (.int (nI (j + 1)))]) dX12_isSameText_52 rfl rfl ?_
        refine R_goto (tgt := 19) dX12_isSameText_55 (by decide) ?_
        exact ih (j + 1) false (by omega) (fun z9 => Bool.noConfusion z9) (fun _ z9 => hab (by subst z9; rfl)) (fun z9 => Bool.noConfusion z9)
      · refine R_iconst (v := (nI 1)) dX12_isSameText_46 (by decide) ?_
        refine R_goto (tgt := 51) dX12_isSameText_47 (by decide) ?_
        refine R_istore_n (lv' := [some (.ref 61), some (.int (nI 1)), some (.int (nI j))]) dX12_isSameText_51 rfl (by decide) rfl ?_
        refine N_iinc (d := 1) (lv' := [some (.ref 61), some (.int (nI 1)), some (.int (nI (j + 1)))]) dX12_isSameText_52 rfl rfl ?_
        refine R_goto (tgt := 19) dX12_isSameText_55 (by decide) ?_
        exact ih (j + 1) true (by omega) (fun _ => hl) (fun z9 => Bool.noConfusion z9) (fun _ => by rw [take_s (by omega), take_s (by omega), h3 rfl, hab])
set_option maxRecDepth 100000 in
set_option maxHeartbeats 4000000 in
theorem r_same {ln ac nxx sn sx st : Int32} {A B : List Nat} {t u : Nat → Int32} (H0 : hp[61]? = some (ob 11 [.ref 62, .int (ln), .ref 63, .ref 64, .ref 65, .int (ac), .int (nxx), .ref 66, .ref 67, .ref 68, .ref 69, .int (sn), .int (sx), .ref 70, .ref 71, .ref 72, .ref 73, .ref 74, .int (nI (A.length)), .ref 75, .int (nI (B.length)), .ref 76, .int (st), .ref 77])) (Ht : hp[74]? = some (ia 96 t)) (Hu : hp[75]? = some (ia 96 u)) (ht : ∀ (q : Nat) (hq : q < A.length), t q = nI A[q]) (hu : ∀ (q : Nat) (hq : q < B.length), u q = nI B[q]) (hA : A.length ≤ 96) (hB : B.length ≤ 96) (hA2 : ∀ c ∈ A, c < 128) (hB2 : ∀ c ∈ B, c < 128) : SpI l X mX12_isSameText [.ref 61] hp (fun r hp' => r = bz (decide (A = B)) ∧ hp' = hp) := by
  refine SpI.of pnX12 (Nat.le_of_ble_eq_true rfl) rfl ?_
  refine R_aload_n dX12_isSameText_0 rfl rfl ?_
  refine R_getf dX12_isSameText_1 gX12_83 H0 rfl ?_
  refine R_aload_n dX12_isSameText_4 rfl rfl ?_
  refine R_getf dX12_isSameText_5 gX12_87 H0 rfl ?_
  refine N_icmp_ne (tgt := 15) dX12_isSameText_8 (by decide) (by omega) (by omega) (fun hl => ?_) (fun hl => ?_)
  · refine R_iconst (v := (nI 0)) dX12_isSameText_15 (by decide) ?_
    refine R_istore_n (lv' := [some (.ref 61), some (.int (nI 0)), none]) dX12_isSameText_16 rfl (by decide) rfl ?_
    refine R_iconst (v := (nI 0)) dX12_isSameText_17 (by decide) ?_
    refine R_istore_n (lv' := [some (.ref 61), some (.int (nI 0)), some (.int (nI 0))]) dX12_isSameText_18 rfl (by decide) rfl ?_
    exact r_stL H0 Ht Hu ht hu hA hB hA2 hB2 A.length 0 false (by omega) (fun z9 => Bool.noConfusion z9) (fun _ z9 => hl (by rw [z9])) (fun z9 => Bool.noConfusion z9)
  · refine R_iconst (v := (nI 1)) dX12_isSameText_11 (by decide) ?_
    refine R_goto (tgt := 16) dX12_isSameText_12 (by decide) ?_
    refine R_istore_n (lv' := [some (.ref 61), some (.int (nI 1)), none]) dX12_isSameText_16 rfl (by decide) rfl ?_
    refine R_iconst (v := (nI 0)) dX12_isSameText_17 (by decide) ?_
    refine R_istore_n (lv' := [some (.ref 61), some (.int (nI 1)), some (.int (nI 0))]) dX12_isSameText_18 rfl (by decide) rfl ?_
    exact r_stL H0 Ht Hu ht hu hA hB hA2 hB2 A.length 0 true (by omega) (fun _ => hl) (fun z9 => Bool.noConfusion z9) (fun _ => rfl)
set_option maxRecDepth 100000 in
set_option maxHeartbeats 4000000 in
theorem r_isx {cs : List Nat} {sc un wd : Nat} {ln ac nxx sn sx tl sl st : Int32} {i : Int32} (H0 : hp[61]? = some (ob 11 [.ref 62, .int (ln), .ref 63, .ref 64, .ref 65, .int (ac), .int (nxx), .ref 66, .ref 67, .ref 68, .ref 69, .int (sn), .int (sx), .ref 70, .ref 71, .ref 72, .ref 73, .ref 74, .int (tl), .ref 75, .int (sl), .ref 76, .int (st), .ref 77])) (H : RwAt hp 63 (cs, sc, un, wd)) : SpI l X mX12_isIndex [.ref 61, .int i] hp (fun r hp' => r = bz (inB i cs.length) ∧ hp' = hp) := by
  obtain ⟨f, Ha, hR⟩ := H
  obtain ⟨h0, h1, h2, h3, hf, hL, hC, hs, hu, hw1, hw2⟩ := hR.to
  refine SpI.of pnX12 (Nat.le_of_ble_eq_true rfl) rfl ?_
  refine R_iload_n dX12_isIndex_0 rfl rfl ?_
  refine R_i2l dX12_isIndex_1 ?_
  refine R_lconst (v := 0) dX12_isIndex_2 (by decide) ?_
  refine R_aload_n dX12_isIndex_3 rfl rfl ?_
  refine R_getf dX12_isIndex_4 gX12_13 H0 rfl ?_
  refine R_iconst (v := (nI 0)) dX12_isIndex_7 (by decide) ?_
  refine N_iald (y := (nI (cs.length))) dX12_isIndex_8 Ha (by decide) (by decide) h0 ?_
  refine R_iconst (v := (nI 1)) dX12_isIndex_9 (by decide) ?_
  refine R_isub dX12_isIndex_10 ?_
  refine R_i2l dX12_isIndex_11 ?_
  refine R_stati (As := [.long ((i).toInt64), .long (0), .long (((nI (cs.length)) - (nI 1)).toInt64)]) (st := []) kX12_in lX12_67 (r_inB (by omega)) dX12_isIndex_12 rfl rfl (Nat.le_of_ble_eq_true rfl) ⟨by decide, by decide⟩ zX12_in ⟨Nat.le_refl _, Nat.le_refl _⟩ (fun wr3 wp2 wq1 => ?_)
  obtain ⟨rfl, rfl⟩ : wr3 = _ ∧ hp = wp2 := ⟨wq1.1, wq1.2.symm⟩
  exact R_retz dX12_isIndex_15 rfl (bz_n _) rfl rfl ⟨rfl, rfl⟩
def DiA (hp : HPt) (hs : List TP) (nx : Nat) : Prop := ∃ f : Nat → Int32, hp[65]? = some (ia 1400 f) ∧ nx < 14 ∧ hs.length ≤ 14 ∧ ∀ (j : Nat) (hj : j < hs.length), RwF f (100 * rw14 nx j) hs[j]
theorem DiA.fr {hp hp' : HPt} {hs : List TP} {nx : Nat} {L : List Nat} (H : DiA hp hs nx) (F : Fr L hp hp') (h1 : 65 ∉ L) : DiA hp' hs nx := by
  obtain ⟨f, A, r⟩ := H
  exact ⟨f, F.at h1 A, r⟩
set_option maxRecDepth 100000 in
set_option maxHeartbeats 4000000 in
theorem r_noL {ln sn sx tl sl st : Int32} {T : TP} {hs : List TP} {nx : Nat} {f f0 : Nat → Int32} (hR : RwF f 0 T) (hnx : nx < 14) (hsl : hs.length ≤ 14) (hD : ∀ (j : Nat) (hj : j < hs.length), RwF f0 (100 * rw14 nx j) hs[j]) : ∀ (d j : Nat) (hz : HPt) (g : Nat → Int32), j + d = 100 → hz[61]? = some (ob 11 [.ref 62, .int (ln), .ref 63, .ref 64, .ref 65, .int (nI (hs.length)), .int (nI nx), .ref 66, .ref 67, .ref 68, .ref 69, .int (sn), .int (sx), .ref 70, .ref 71, .ref 72, .ref 73, .ref 74, .int (tl), .ref 75, .int (sl), .ref 76, .int (st), .ref 77]) → hz[63]? = some (ia 100 f) → hz[65]? = some (ia 1400 g) → (∀ q, q < j → g (100 * nx + q) = f q) → (∀ q, (q < 100 * nx ∨ 100 * nx + 100 ≤ q) → g q = f0 q) → Fr [61, 65] hp hz → PZ l X (MZv X mX12_note (fun hp' => hp'[61]? = some (ob 11 [.ref 62, .int (ln), .ref 63, .ref 64, .ref 65, .int (nI ((T :: hs.take 13).length)), .int (nI ((nx + 1) % 14)), .ref 66, .ref 67, .ref 68, .ref 69, .int (sn), .int (sx), .ref 70, .ref 71, .ref 72, .ref 73, .ref 74, .int (tl), .ref 75, .int (sl), .ref 76, .int (st), .ref 77]) ∧ DiA hp' (T :: hs.take 13) ((nx + 1) % 14) ∧ Fr [61, 65] hp hp')) mX12_note 2 [some (.ref 61), some (.int (nI j))] [] hz 0 0 := by
  intro d
  induction d with
  | zero =>
    intro j hz g hj H0 Ha Hg hg hg2 hF
    have hDi : ∀ (j : Nat) (hj : j < (T :: hs.take 13).length), RwF g (100 * rw14 ((nx + 1) % 14) j) (T :: hs.take 13)[j] := by
      intro j hj2
      cases j with
      | zero =>
        have e : rw14 ((nx + 1) % 14) 0 = nx := by unfold rw14; omega
        rw [e]
        exact hR.cg (fun q hq => by rw [hg q (by omega), Nat.zero_add])
      | succ j =>
        rw [List.length_cons, List.length_take] at hj2
        have e : rw14 ((nx + 1) % 14) (j + 1) = rw14 nx j := by unfold rw14; omega
        have e3 : rw14 nx j ≠ nx := by unfold rw14; omega
        rw [e]
        have e4 : (T :: hs.take 13)[j + 1]'(by rw [List.length_cons, List.length_take]; omega) = hs[j]'(by omega) := by rw [List.getElem_cons_succ, List.getElem_take]
        rw [e4]
        exact (hD j (by omega)).cg (fun q hq => hg2 _ (by omega))
    have hlt : (T :: hs.take 13).length = min 13 hs.length + 1 := by rw [List.length_cons, List.length_take]
    refine R_iload_n dX12_note_2 rfl rfl ?_
    refine R_bipush (v := (nI 100)) dX12_note_3 (by decide) ?_
    refine N_icmp_ge (tgt := 34) dX12_note_5 (by decide) (by omega) (by omega) (fun _ => ?_) (fun hc => absurd hc (by omega))
    refine R_aload_n dX12_note_34 rfl rfl ?_
    refine R_aload_n dX12_note_35 rfl rfl ?_
    refine R_getf dX12_note_36 gX12_106 H0 rfl ?_
    refine R_iconst (v := (nI 1)) dX12_note_39 (by decide) ?_
    refine N_iadd dX12_note_40 ?_
    refine R_bipush (v := (nI 14)) dX12_note_41 (by decide) ?_
    refine N_irem dX12_note_43 (by omega) (by omega) (by omega) ?_
    refine W_puti (fs' := [.ref 62, .int (ln), .ref 63, .ref 64, .ref 65, .int (nI (hs.length)), .int (nI ((nx + 1) % 14)), .ref 66, .ref 67, .ref 68, .ref 69, .int (sn), .int (sx), .ref 70, .ref 71, .ref 72, .ref 73, .ref 74, .int (tl), .ref 75, .int (sl), .ref 76, .int (st), .ref 77]) dX12_note_44 pX12_106 H0 (Nat.le_of_ble_eq_true rfl) rfl (fun wp1 wH2 wE3 => ?_)
    have wH4 := (wE3 63 (by decide)).trans Ha
    have wH5 := (wE3 65 (by decide)).trans Hg
    have wF6 : Fr [61, 65] hp wp1 := hF.trans (Fr.one wE3 (by simp))
    refine R_aload_n dX12_note_47 rfl rfl ?_
    refine R_aload_n dX12_note_48 rfl rfl ?_
    refine R_getf dX12_note_49 gX12_109 wH2 rfl ?_
    refine R_bipush (v := (nI 14)) dX12_note_52 (by decide) ?_
    refine N_icmp_ge (tgt := 66) dX12_note_54 (by decide) (by omega) (by omega) (fun hl => ?_) (fun hl => ?_)
    · have hl2 : (T :: hs.take 13).length = 14 := by omega
      refine R_bipush (v := (nI 14)) dX12_note_66 (by decide) ?_
      refine W_puti (fs' := [.ref 62, .int (ln), .ref 63, .ref 64, .ref 65, .int (nI 14), .int (nI ((nx + 1) % 14)), .ref 66, .ref 67, .ref 68, .ref 69, .int (sn), .int (sx), .ref 70, .ref 71, .ref 72, .ref 73, .ref 74, .int (tl), .ref 75, .int (sl), .ref 76, .int (st), .ref 77]) dX12_note_68 pX12_109 wH2 (Nat.le_of_ble_eq_true rfl) rfl (fun wp7 wH8 wE9 => ?_)
      have wH10 := (wE9 63 (by decide)).trans wH4
      have wH11 := (wE9 65 (by decide)).trans wH5
      have wF12 : Fr [61, 65] hp wp7 := wF6.trans (Fr.one wE9 (by simp))
      exact R_retv dX12_note_71 rfl rfl rfl ⟨by rw [hl2]; exact wH8, ⟨g, wH11, by omega, by omega, hDi⟩, wF12⟩
    · have hl2 : (T :: hs.take 13).length = hs.length + 1 := by omega
      refine R_aload_n dX12_note_57 rfl rfl ?_
      refine R_getf dX12_note_58 gX12_109 wH2 rfl ?_
      refine R_iconst (v := (nI 1)) dX12_note_61 (by decide) ?_
      refine N_iadd dX12_note_62 ?_
      refine R_goto (tgt := 68) dX12_note_63 (by decide) ?_
      refine W_puti (fs' := [.ref 62, .int (ln), .ref 63, .ref 64, .ref 65, .int (nI ((hs.length) + 1)), .int (nI ((nx + 1) % 14)), .ref 66, .ref 67, .ref 68, .ref 69, .int (sn), .int (sx), .ref 70, .ref 71, .ref 72, .ref 73, .ref 74, .int (tl), .ref 75, .int (sl), .ref 76, .int (st), .ref 77]) dX12_note_68 pX12_109 wH2 (Nat.le_of_ble_eq_true rfl) rfl (fun wp13 wH14 wE15 => ?_)
      have wH16 := (wE15 63 (by decide)).trans wH4
      have wH17 := (wE15 65 (by decide)).trans wH5
      have wF18 : Fr [61, 65] hp wp13 := wF6.trans (Fr.one wE15 (by simp))
      exact R_retv dX12_note_71 rfl rfl rfl ⟨by rw [hl2]; exact wH14, ⟨g, wH17, by omega, by omega, hDi⟩, wF18⟩
  | succ d ih =>
    intro j hz g hj H0 Ha Hg hg hg2 hF
    refine R_iload_n dX12_note_2 rfl rfl ?_
    refine R_bipush (v := (nI 100)) dX12_note_3 (by decide) ?_
    refine N_icmp_ge (tgt := 34) dX12_note_5 (by decide) (by omega) (by omega) (fun hc => absurd hc (by omega)) (fun _ => ?_)
    refine R_aload_n dX12_note_8 rfl rfl ?_
    refine R_getf dX12_note_9 gX12_19 H0 rfl ?_
    refine R_bipush (v := (nI 100)) dX12_note_12 (by decide) ?_
    refine R_aload_n dX12_note_14 rfl rfl ?_
    refine R_getf dX12_note_15 gX12_106 H0 rfl ?_
    refine N_imul dX12_note_18 ?_
    refine R_iload_n dX12_note_19 rfl rfl ?_
    refine N_iadd dX12_note_20 ?_
    refine R_aload_n dX12_note_21 rfl rfl ?_
    refine R_getf dX12_note_22 gX12_13 H0 rfl ?_
    refine R_iload_n dX12_note_25 rfl rfl ?_
    refine N_iald (y := (f j)) dX12_note_26 Ha (by omega) (by decide) rfl ?_
    obtain ⟨g2, eg2⟩ : ∃ y, y = upd g ((100 * nx) + j) (f j) := ⟨_, rfl⟩
    refine W_iast (f' := g2) dX12_note_27 Hg (by omega) (by decide) eg2 (fun wp19 wH20 wE21 => ?_)
    have wH22 := (wE21 61 (by decide)).trans H0
    have wH23 := (wE21 63 (by decide)).trans Ha
    have wF24 : Fr [61, 65] hp wp19 := hF.trans (Fr.one wE21 (by simp))
    refine N_iinc (d := 1) (lv' := [some (.ref 61), some (.int (nI (j + 1)))]) dX12_note_28 rfl rfl ?_
    refine R_goto (tgt := 2) dX12_note_31 (by decide) ?_
    refine ih (j + 1) _ g2 (by omega) wH22 wH23 wH20 (fun q hq => ?_) (fun q hq => by rw [eg2, upd_n (by omega)]; exact hg2 q hq) wF24
    by_cases e : q = j
    · subst e; rw [eg2, upd_s]
    · rw [eg2, upd_n (by omega)]; exact hg q (by omega)
set_option maxRecDepth 100000 in
set_option maxHeartbeats 4000000 in
theorem r_note {ln sn sx tl sl st : Int32} {T : TP} {hs : List TP} {nx : Nat} (H0 : hp[61]? = some (ob 11 [.ref 62, .int (ln), .ref 63, .ref 64, .ref 65, .int (nI (hs.length)), .int (nI nx), .ref 66, .ref 67, .ref 68, .ref 69, .int (sn), .int (sx), .ref 70, .ref 71, .ref 72, .ref 73, .ref 74, .int (tl), .ref 75, .int (sl), .ref 76, .int (st), .ref 77])) (H : RwAt hp 63 T) (HD : DiA hp hs nx) : SpV l X mX12_note [.ref 61] hp (fun hp' => hp'[61]? = some (ob 11 [.ref 62, .int (ln), .ref 63, .ref 64, .ref 65, .int (nI ((T :: hs.take 13).length)), .int (nI ((nx + 1) % 14)), .ref 66, .ref 67, .ref 68, .ref 69, .int (sn), .int (sx), .ref 70, .ref 71, .ref 72, .ref 73, .ref 74, .int (tl), .ref 75, .int (sl), .ref 76, .int (st), .ref 77]) ∧ DiA hp' (T :: hs.take 13) ((nx + 1) % 14) ∧ Fr [61, 65] hp hp') := by
  obtain ⟨f, Ha, hR⟩ := H
  obtain ⟨g, Hg, hnx, hsl, hD⟩ := HD
  refine SpV.of pnX12 (Nat.le_of_ble_eq_true rfl) rfl ?_
  refine R_iconst (v := (nI 0)) dX12_note_0 (by decide) ?_
  refine R_istore_n (lv' := [some (.ref 61), some (.int (nI 0))]) dX12_note_1 rfl (by decide) rfl ?_
  exact r_noL hR hnx hsl hD 100 0 hp g (by omega) H0 Ha Hg (fun q hq => absurd hq (by omega)) (fun q _ => rfl) Fr.rf
set_option maxRecDepth 100000 in
set_option maxHeartbeats 4000000 in
theorem r_take {ln sn sx tl sl st : Int32} {T : TP} {V : List Nat} {sc un wd : Nat} {hs : List TP} {nx : Nat} {b : Bool} (H0 : hp[61]? = some (ob 11 [.ref 62, .int (ln), .ref 63, .ref 64, .ref 65, .int (nI (hs.length)), .int (nI nx), .ref 66, .ref 67, .ref 68, .ref 69, .int (sn), .int (sx), .ref 70, .ref 71, .ref 72, .ref 73, .ref 74, .int (tl), .ref 75, .int (sl), .ref 76, .int (st), .ref 77])) (H : RwAt hp 63 T) (HT : AX hp 64 100) (HV : b = true → RwAt hp 64 (V, sc, un, wd)) (HD : DiA hp hs nx) : SpI l X mX12_take [.ref 61, .int (bz b)] hp (fun r hp' => (if b = true then r = nI V.length ∧ hp'[61]? = some (ob 11 [.ref 62, .int (ln), .ref 63, .ref 64, .ref 65, .int (nI ((T :: hs.take 13).length)), .int (nI ((nx + 1) % 14)), .ref 66, .ref 67, .ref 68, .ref 69, .int (sn), .int (sx), .ref 70, .ref 71, .ref 72, .ref 73, .ref 74, .int (tl), .ref 75, .int (sl), .ref 76, .int (st), .ref 77]) ∧ RwAt hp' 63 (V, sc, un, wd) ∧ DiA hp' (T :: hs.take 13) ((nx + 1) % 14) else r = -4 ∧ hp' = hp) ∧ Fr [61, 63, 65] hp hp') := by
  refine SpI.of pnX12 (Nat.le_of_ble_eq_true rfl) rfl ?_
  refine R_iload_n dX12_take_0 rfl rfl ?_
  cases b with
  | false =>
    show PZ _ _ _ _ _ _ [.int (nI 0)] _ _ _
    refine N_if_ne (tgt := 7) dX12_take_1 (by decide) (by decide) (fun hc => absurd hc (by decide)) (fun _ => ?_)
    refine R_bipush (v := (-4)) dX12_take_4 (by decide) ?_
    exact R_reti dX12_take_6 rfl rfl rfl ⟨⟨rfl, rfl⟩, Fr.rf⟩
  | true =>
    show PZ _ _ _ _ _ _ [.int (nI 1)] _ _ _
    refine N_if_ne (tgt := 7) dX12_take_1 (by decide) (by decide) (fun _ => ?_) (fun hc => absurd hc (by decide))
    refine R_aload_n dX12_take_7 rfl rfl ?_
    refine R_callv (As := []) (st := []) kX12_note lX12_122 (r_note H0 H HD) rfl H0 dX12_take_8 rfl rfl (Nat.le_of_ble_eq_true rfl) ⟨by decide, by decide⟩ zX12_note ⟨Nat.le_refl _, Nat.le_refl _⟩ (fun wp2 wq1 => ?_)
    obtain ⟨H1, HD1, hF1⟩ := wq1
    obtain ⟨fv, Hv, hRv⟩ := (HV rfl).fr hF1 (by decide)
    obtain ⟨fn, Hn, -⟩ := H.fr hF1 (by decide)
    refine R_aload_n dX12_take_11 rfl rfl ?_
    refine R_getf dX12_take_12 gX12_16 H1 rfl ?_
    refine R_aload_n dX12_take_15 rfl rfl ?_
    refine R_getf dX12_take_16 gX12_13 H1 rfl ?_
    refine R_statv (As := [.ref 64, .ref 63]) (st := []) kX12_copy lX12_129 (r_copy (by decide) Hv Hn) dX12_take_19 rfl rfl (Nat.le_of_ble_eq_true rfl) ⟨by decide, by decide⟩ zX12_copy ⟨Nat.le_refl _, Nat.le_refl _⟩ (fun wp5 wq4 => ?_)
    obtain ⟨⟨g, Hg, hg⟩, hF2⟩ := wq4
    have H2 := hF2.at (by decide) H1
    have HD2 := HD1.fr hF2 (by decide)
    have hR2 : RwF g 0 (V, sc, un, wd) := hRv.cg (fun q hq => by rw [Nat.zero_add]; exact hg q hq)
    refine R_aload_n dX12_take_22 rfl rfl ?_
    refine R_getf dX12_take_23 gX12_13 H2 rfl ?_
    refine R_iconst (v := (nI 0)) dX12_take_26 (by decide) ?_
    refine N_iald (y := (nI (V.length))) dX12_take_27 Hg (by decide) (by decide) hR2.to.1 ?_
    exact R_reti dX12_take_28 rfl rfl rfl ⟨⟨rfl, H2, ⟨g, Hg, hR2⟩, HD2⟩, (hF1.mono (by decide)).trans (hF2.mono (by decide))⟩
end R32
