/-! The reference: compacting -/
theorem ch_ne : ∀ c, c < 26 → ch c 0 ≠ ch c 1 := by decide +kernel
theorem ch_same {c w p : Nat} (h : ¬ c < 26) : ch c w = ch c p := by unfold ch; rw [if_neg h, if_neg h]
theorem cAft_lt {un c p : Nat} (h : c < 26) : cAft un c p = p := by unfold cAft; rw [if_neg (by omega), if_neg (by omega), if_neg (by omega)]
theorem txt_loss (un : Nat) : ∀ (D : List Nat) (w p : Nat), w ≤ 1 → p ≤ 1 → (txt un w D = txt un p D ↔ lossC un w p D = 0)
  | [], _, _, _, _ => by simp [txt, lossC]
  | c :: t, w, p, hw, hp => by
    have ih := txt_loss un t (cAft un c w) (cAft un c p) (cAft_le hw) (cAft_le hp)
    simp only [txt, lossC]
    by_cases h26 : c < 26
    · rw [if_pos (by omega), if_pos (by omega)]
      by_cases e : w = p
      · subst e; rw [if_neg (by omega)]; simp [lossC_eq]
      · rw [if_pos ⟨h26, e⟩]
        constructor
        · intro h
          have h1 := (List.cons.inj h).1
          have hn := ch_ne c h26
          have : (w = 0 ∧ p = 1) ∨ (w = 1 ∧ p = 0) := by omega
          rcases this with ⟨rfl, rfl⟩ | ⟨rfl, rfl⟩
          · exact absurd h1 hn
          · exact absurd h1.symm hn
        · intro h; omega
    · rw [if_neg (c := c < 26 ∧ w ≠ p) (fun z => h26 z.1), Nat.zero_add, ← ih]
      by_cases h29 : c < 29
      · rw [if_pos h29, if_pos h29, ch_same (w := w) (p := p) h26]
        exact ⟨fun h => (List.cons.inj h).2, fun h => by rw [h]⟩
      · rw [if_neg h29, if_neg h29]
theorem txt_er {un sc : Nat} {cs : List Nat} {i : Nat} (hi : i < cs.length) (h29 : 29 ≤ cs[i]) (hs : sc ≤ 1) : (txt un sc cs = txt un sc (cs.eraseIdx i)) ↔ lossD un sc cs i = 0 := by
  have e1 : cs = cs.take i ++ cs[i] :: cs.drop (i + 1) := by rw [← drop_c hi, List.take_append_drop]
  have e2 : txt un sc cs = txt un sc (cs.take i) ++ txt un (cAft un cs[i] (cAt un sc cs i)) (cs.drop (i + 1)) := by
    have := txt_app un (cs.take i) sc (cs[i] :: cs.drop (i + 1))
    rw [← e1] at this
    rw [this]
    simp only [txt]
    rw [if_neg (by omega)]; rfl
  have e3 : txt un sc (cs.eraseIdx i) = txt un sc (cs.take i) ++ txt un (cAt un sc cs i) (cs.drop (i + 1)) := by
    rw [List.eraseIdx_eq_take_drop_succ, txt_app]; rfl
  rw [e2, e3, List.append_cancel_left_eq]
  unfold lossD
  rw [gD hi]
  exact txt_loss un _ _ _ (cAft_le (cAt_le hs)) (cAt_le hs)
theorem cmpN_end (un sc : Nat) : ∀ (n : Nat) (cs : List Nat) (i : Nat), cs.length ≤ i → cmpN un sc n cs i = cs
  | 0, _, _, _ => rfl
  | n + 1, cs, i, h => by
    simp only [cmpN]
    rw [if_neg (by unfold rdn; rw [decide_eq_true_eq]; omega)]
    exact cmpN_end un sc n cs (i + 1) (by omega)
section R38
variable {l : Launch} {X : EX} {hp : HPt}
set_option maxRecDepth 100000 in
set_option maxHeartbeats 4000000 in
theorem r_cmL {ms : List Nat} {sc un wd : Nat} {hs : List TP} {s0 s1 : Option TP} {os : List (Nat × Nat)} {ox : Nat} {B : Nat} {Rs : List Nat} (hB : B ≤ 96) : ∀ (d i : Nat) (hz : HPt) (cs : List Nat) (lo : Option Value), cs.length ≤ i + d → i ≤ cs.length → cs.length ≤ B → MJ hz (ms, (cs, sc, un, wd), hs, s0, s1, os, ox) → Rs = cmpN un sc d cs i → Fr LM hp hz → PZ l X (MZi X mX12_compact (fun r hp' => r = nI (B - Rs.length) ∧ MJ hp' (ms, (Rs, sc, un, wd), hs, s0, s1, os, ox) ∧ Fr LM hp hp')) mX12_compact 13 [some (.ref 61), some (.int (nI B)), some (.int (nI i)), lo] [] hz 0 0 := by
  intro d
  induction d with
  | zero =>
    intro i hz cs lo hd hi hBc hM hRR hF
    have hRe : Rs = cs := hRR
    subst hRe
    obtain ⟨nx, tl, sl, st, M0, MM, MN, MT, MD, MK, MO, A70, A71, A72, A73, A74, A75, A76, A77⟩ := id hM
    obtain ⟨f, Ha, hR9⟩ := id MN
    refine R_iload_n dX12_compact_13 rfl rfl ?_
    refine R_aload_n dX12_compact_14 rfl rfl ?_
    refine R_getf dX12_compact_15 gX12_13 M0 rfl ?_
    refine R_iconst (v := (nI 0)) dX12_compact_18 (by decide) ?_
    refine N_iald (y := (nI (Rs.length))) dX12_compact_19 Ha (by decide) (by decide) hR9.to.1 ?_
    refine N_icmp_ge (tgt := 99) dX12_compact_20 (by decide) (by omega) (by omega) (fun _ => ?_) (fun hc => absurd hc (by omega))
    refine R_iload_n dX12_compact_99 rfl rfl ?_
    refine R_aload_n dX12_compact_100 rfl rfl ?_
    refine R_getf dX12_compact_101 gX12_13 M0 rfl ?_
    refine R_iconst (v := (nI 0)) dX12_compact_104 (by decide) ?_
    refine N_iald (y := (nI (Rs.length))) dX12_compact_105 Ha (by decide) (by decide) hR9.to.1 ?_
    refine N_isub dX12_compact_106 (by omega) ?_
    exact R_reti dX12_compact_107 rfl rfl rfl ⟨rfl, hM, hF⟩
  | succ d ih =>
    intro i hz cs lo hd hi hBc hM hRR hF
    obtain ⟨nx, tl, sl, st, M0, MM, MN, MT, MD, MK, MO, A70, A71, A72, A73, A74, A75, A76, A77⟩ := id hM
    obtain ⟨hL, hC3, hs1, hu1, hw1, hw2⟩ := MN.ok
    obtain ⟨f, Ha, hR⟩ := id MN
    obtain ⟨h0, h1, h2, h3, hf, -⟩ := hR.to
    refine R_iload_n dX12_compact_13 rfl rfl ?_
    refine R_aload_n dX12_compact_14 rfl rfl ?_
    refine R_getf dX12_compact_15 gX12_13 M0 rfl ?_
    refine R_iconst (v := (nI 0)) dX12_compact_18 (by decide) ?_
    refine N_iald (y := (nI (cs.length))) dX12_compact_19 Ha (by decide) (by decide) h0 ?_
    refine N_icmp_ge (tgt := 99) dX12_compact_20 (by decide) (by omega) (by omega) (fun hil => ?_) (fun hil => ?_)
    · have hRe : Rs = cs := by rw [hRR]; exact cmpN_end un sc _ _ _ hil
      subst hRe
      refine R_iload_n dX12_compact_99 rfl rfl ?_
      refine R_aload_n dX12_compact_100 rfl rfl ?_
      refine R_getf dX12_compact_101 gX12_13 M0 rfl ?_
      refine R_iconst (v := (nI 0)) dX12_compact_104 (by decide) ?_
      refine N_iald (y := (nI (Rs.length))) dX12_compact_105 Ha (by decide) (by decide) h0 ?_
      refine N_isub dX12_compact_106 (by omega) ?_
      exact R_reti dX12_compact_107 rfl rfl rfl ⟨rfl, hM, hF⟩
    · have hil2 : i < cs.length := by omega
      have hcj := hC3 cs[i] (List.getElem_mem hil2)
      refine R_iconst (v := (nI 0)) dX12_compact_23 (by decide) ?_
      refine R_istore_n (lv' := [some (.ref 61), some (.int (nI B)), some (.int (nI i)), some (.int (nI 0))]) dX12_compact_24 rfl (by decide) rfl ?_
      refine R_aload_n dX12_compact_25 rfl rfl ?_
      refine R_getf dX12_compact_26 gX12_13 M0 rfl ?_
      refine R_iconst (v := (nI 4)) dX12_compact_29 (by decide) ?_
      refine R_iload_n dX12_compact_30 rfl rfl ?_
      refine N_iadd dX12_compact_31 ?_
      refine N_iald (y := (nI (cs[i]))) dX12_compact_32 Ha (by omega) (by decide) (hf i (by omega)) ?_
      refine R_bipush (v := (nI 29)) dX12_compact_33 (by decide) ?_
      refine N_icmp_lt (tgt := 78) dX12_compact_35 (by decide) (by omega) (by omega) (fun h29 => ?_) (fun h29 => ?_)
      · refine R_iload_n dX12_compact_78 rfl rfl ?_
        refine N_if_eq (tgt := 93) dX12_compact_79 (by decide) (by decide) (fun _ => ?_) (fun hc => absurd hc (by decide))
        refine N_iinc (d := 1) (lv' := [some (.ref 61), some (.int (nI B)), some (.int (nI (i + 1))), some (.int (nI 0))]) dX12_compact_93 rfl rfl ?_
        refine R_goto (tgt := 13) dX12_compact_96 (by decide) ?_
        exact ih (i + 1) hz cs _ (by omega) (by omega) hBc hM (by rw [hRR]; simp only [cmpN]; rw [if_neg (by unfold rdn; rw [decide_eq_true_eq, gD hil2]; omega)]) hF
      · refine R_aload_n dX12_compact_38 rfl rfl ?_
        refine R_aload_n dX12_compact_39 rfl rfl ?_
        refine R_getf dX12_compact_40 gX12_13 M0 rfl ?_
        refine R_callv (As := [.ref 63]) (st := []) kX12_layText lX12_102 (r_lt M0 MN A70 A71 A74) rfl M0 dX12_compact_43 rfl rfl (Nat.le_of_ble_eq_true rfl) ⟨by decide, by decide⟩ zX12_layText ⟨Nat.le_refl _, Nat.le_refl _⟩ (fun wp2 wq1 => ?_)
        obtain ⟨hl1, hl2, hl3⟩ := wq1
        have c4 := MM.fr hl3 (by decide)
        have c5 := MN.fr hl3 (by decide)
        have c6 := MT.fr hl3 (by decide)
        have c7 := MD.fr hl3 (by decide)
        have c8 := MK.fr hl3 (by decide) (by decide)
        have c9 := MO.fr hl3 (by decide) (by decide)
        have c10 := A72.fr hl3 (by decide)
        have c11 := A73.fr hl3 (by decide)
        have c12 := A75.fr hl3 (by decide)
        have c13 := A76.fr hl3 (by decide)
        have c14 := A77.fr hl3 (by decide)
        have FF15 : Fr LM hp wp2 := hF.trans (hl3.mono (by decide))
        refine R_aload_n dX12_compact_46 rfl rfl ?_
        refine R_getf dX12_compact_47 gX12_13 hl1 rfl ?_
        refine R_aload_n dX12_compact_50 rfl rfl ?_
        refine R_getf dX12_compact_51 gX12_16 hl1 rfl ?_
        refine R_statv (As := [.ref 63, .ref 64]) (st := []) kX12_copy lX12_129 (r_cpR (by decide) c5 c6) dX12_compact_54 rfl rfl (Nat.le_of_ble_eq_true rfl) ⟨by decide, by decide⟩ zX12_copy ⟨Nat.le_refl _, Nat.le_refl _⟩ (fun wp17 wq16 => ?_)
        obtain ⟨hq1, hq2⟩ := wq16
        have c19 := hq2.at (by decide) hl1
        have c20 := c4.fr hq2 (by decide)
        have c21 := c5.fr hq2 (by decide)
        have c22 := c7.fr hq2 (by decide)
        have c23 := c8.fr hq2 (by decide) (by decide)
        have c24 := c9.fr hq2 (by decide) (by decide)
        have c25 := hl2.x1.fr hq2 (by decide)
        have c26 := hl2.x2.fr hq2 (by decide)
        have c27 := c10.fr hq2 (by decide)
        have c28 := c11.fr hq2 (by decide)
        have c29 := hl2.x3.fr hq2 (by decide)
        have c30 := c12.fr hq2 (by decide)
        have c31 := c13.fr hq2 (by decide)
        have c32 := c14.fr hq2 (by decide)
        have FF33 : Fr LM hp wp17 := FF15.trans (hq2.mono (by decide))
        refine R_aload_n dX12_compact_57 rfl rfl ?_
        refine R_getf dX12_compact_58 gX12_16 c19 rfl ?_
        refine R_iload_n dX12_compact_61 rfl rfl ?_
        refine R_statv (As := [.ref 64, .int (nI i)]) (st := []) kX12_takeOut lX12_143 (r_tk hil2 hq1) dX12_compact_62 rfl rfl (Nat.le_of_ble_eq_true rfl) ⟨by decide, by decide⟩ zX12_takeOut ⟨Nat.le_refl _, Nat.le_refl _⟩ (fun wp35 wq34 => ?_)
        obtain ⟨hq3, hq4⟩ := wq34
        have c37 := hq4.at (by decide) c19
        have c38 := c20.fr hq4 (by decide)
        have c39 := c21.fr hq4 (by decide)
        have c40 := c22.fr hq4 (by decide)
        have c41 := c23.fr hq4 (by decide) (by decide)
        have c42 := c24.fr hq4 (by decide) (by decide)
        have c43 := c25.fr hq4 (by decide)
        have c44 := c26.fr hq4 (by decide)
        have c45 := c27.fr hq4 (by decide)
        have c46 := c28.fr hq4 (by decide)
        have c47 := c29.fr hq4 (by decide)
        have c48 := c30.fr hq4 (by decide)
        have c49 := c31.fr hq4 (by decide)
        have c50 := c32.fr hq4 (by decide)
        have FF51 : Fr LM hp wp35 := FF33.trans (hq4.mono (by decide))
        refine R_aload_n dX12_compact_65 rfl rfl ?_
        refine R_aload_n dX12_compact_66 rfl rfl ?_
        refine R_getf dX12_compact_67 gX12_16 c37 rfl ?_
        refine R_callv (As := [.ref 64]) (st := []) kX12_laySecond lX12_149 (r_ls c37 hq3 c45 c46 c48) rfl c37 dX12_compact_70 rfl rfl (Nat.le_of_ble_eq_true rfl) ⟨by decide, by decide⟩ zX12_laySecond ⟨Nat.le_refl _, Nat.le_refl _⟩ (fun wp53 wq52 => ?_)
        obtain ⟨hk1, hk2, hk3⟩ := wq52
        have c55 := c38.fr hk3 (by decide)
        have c56 := c39.fr hk3 (by decide)
        have c57 := hq3.ax.fr hk3 (by decide)
        have c58 := c40.fr hk3 (by decide)
        have c59 := c41.fr hk3 (by decide) (by decide)
        have c60 := c42.fr hk3 (by decide) (by decide)
        have c61 := c43.fr hk3 (by decide)
        have c62 := c44.fr hk3 (by decide)
        have c63 := c47.fr hk3 (by decide)
        have c64 := c49.fr hk3 (by decide)
        have c65 := c50.fr hk3 (by decide)
        have FF66 : Fr LM hp wp53 := FF51.trans (hk3.mono (by decide))
        refine R_aload_n dX12_compact_73 rfl rfl ?_
        obtain ⟨ga, wa, ta, -, -, H74, -, -, hta⟩ := ((hl2.fr hq2 (by decide) (by decide) (by decide)).fr hq4 (by decide) (by decide) (by decide)).fr hk3 (by decide) (by decide) (by decide)
        obtain ⟨gb, wb, tb, -, -, H75, -, -, htb⟩ := id hk2
        have htl1 := txt_len un cs sc
        have htl2 := txt_len un (cs.eraseIdx i) sc
        have hel : (cs.eraseIdx i).length = cs.length - 1 := List.length_eraseIdx_of_lt hil2
        refine R_calli (As := []) (st := []) kX12_isSameText lX12_152 (r_same hk1 H74 H75 hta htb (by omega) (by omega) (txt_lt un cs sc) (txt_lt un _ sc)) rfl hk1 dX12_compact_74 rfl rfl (Nat.le_of_ble_eq_true rfl) ⟨by decide, by decide⟩ zX12_isSameText ⟨Nat.le_refl _, Nat.le_refl _⟩ (fun wr69 wp68 wq67 => ?_)
        obtain ⟨rfl, rfl⟩ : wr69 = _ ∧ wp53 = wp68 := ⟨wq67.1, wq67.2.symm⟩
        refine R_istore_n (lv' := [some (.ref 61), some (.int (nI B)), some (.int (nI i)), some (.int (bz (decide (txt un sc cs = txt un sc (cs.eraseIdx i)))))]) dX12_compact_77 rfl (by decide) rfl ?_
        refine R_iload_n dX12_compact_78 rfl rfl ?_
        have hMz : MJ wp53 (ms, (cs, sc, un, wd), hs, s0, s1, os, ox) := ⟨_, _, _, _, hk1, c55, c56, c57, c58, c59, c60, c61, c62, hk2.x1, hk2.x2, c63, hk2.x3, c64, c65⟩
        by_cases hsm : txt un sc cs = txt un sc (cs.eraseIdx i)
        · have hrd : rdn un sc cs i = true := by unfold rdn; rw [decide_eq_true_eq, gD hil2]; exact ⟨hil2, by omega, (txt_er hil2 (by omega) hs1).mp hsm⟩
          rw [decide_eq_true hsm]
          show PZ _ _ _ _ _ _ (.int (nI 1) :: _) _ _ _
          refine N_if_eq (tgt := 93) dX12_compact_79 (by decide) (by decide) (fun hc => absurd hc (by decide)) (fun _ => ?_)
          refine R_aload_n dX12_compact_82 rfl rfl ?_
          refine R_getf dX12_compact_83 gX12_13 hk1 rfl ?_
          refine R_iload_n dX12_compact_86 rfl rfl ?_
          refine R_statv (As := [.ref 63, .int (nI i)]) (st := []) kX12_takeOut lX12_143 (r_tk hil2 c56) dX12_compact_87 rfl rfl (Nat.le_of_ble_eq_true rfl) ⟨by decide, by decide⟩ zX12_takeOut ⟨Nat.le_refl _, Nat.le_refl _⟩ (fun wp71 wq70 => ?_)
          obtain ⟨hq5, hq6⟩ := wq70
          have c73 := hq6.at (by decide) hk1
          have c74 := c55.fr hq6 (by decide)
          have c75 := c57.fr hq6 (by decide)
          have c76 := c58.fr hq6 (by decide)
          have c77 := c59.fr hq6 (by decide) (by decide)
          have c78 := c60.fr hq6 (by decide) (by decide)
          have c79 := c61.fr hq6 (by decide)
          have c80 := c62.fr hq6 (by decide)
          have c81 := hk2.x1.fr hq6 (by decide)
          have c82 := hk2.x2.fr hq6 (by decide)
          have c83 := c63.fr hq6 (by decide)
          have c84 := hk2.x3.fr hq6 (by decide)
          have c85 := c64.fr hq6 (by decide)
          have c86 := c65.fr hq6 (by decide)
          have FF87 : Fr LM hp wp71 := FF66.trans (hq6.mono (by decide))
          refine R_goto (tgt := 96) dX12_compact_90 (by decide) ?_
          refine R_goto (tgt := 13) dX12_compact_96 (by decide) ?_
          exact ih i _ (cs.eraseIdx i) _ (by omega) (by omega) (by omega) ⟨_, _, _, _, c73, c74, hq5, c75, c76, c77, c78, c79, c80, c81, c82, c83, c84, c85, c86⟩ (by rw [hRR]; simp only [cmpN]; rw [if_pos hrd]) FF87
        · have hrd : ¬ rdn un sc cs i = true := by unfold rdn; rw [decide_eq_true_eq, gD hil2]; exact fun z9 => hsm ((txt_er hil2 (by omega) hs1).mpr z9.2.2)
          rw [decide_eq_false hsm]
          show PZ _ _ _ _ _ _ (.int (nI 0) :: _) _ _ _
          refine N_if_eq (tgt := 93) dX12_compact_79 (by decide) (by decide) (fun _ => ?_) (fun hc => absurd hc (by decide))
          refine N_iinc (d := 1) (lv' := [some (.ref 61), some (.int (nI B)), some (.int (nI (i + 1))), some (.int (bz false))]) dX12_compact_93 rfl rfl ?_
          refine R_goto (tgt := 13) dX12_compact_96 (by decide) ?_
          exact ih (i + 1) _ cs _ (by omega) (by omega) hBc hMz (by rw [hRR]; simp only [cmpN]; rw [if_neg hrd]) FF66
set_option maxRecDepth 100000 in
set_option maxHeartbeats 4000000 in
theorem y_comp {ms : List Nat} {cs : List Nat} {sc un wd : Nat} {hs : List TP} {s0 s1 : Option TP} {os : List (Nat × Nat)} {ox : Nat} (hM : MJ hp (ms, (cs, sc, un, wd), hs, s0, s1, os, ox)) : SpI l X mX12_compact [.ref 61] hp (fun r hp' => r = (f_comp (ms, (cs, sc, un, wd), hs, s0, s1, os, ox)).1 ∧ MJ hp' (f_comp (ms, (cs, sc, un, wd), hs, s0, s1, os, ox)).2 ∧ Fr LM hp hp') := by
  obtain ⟨nx, tl, sl, st, M0, MM, MN, MT, MD, MK, MO, A70, A71, A72, A73, A74, A75, A76, A77⟩ := hM
  obtain ⟨hL, hC3, hs1, hu1, hw1, hw2⟩ := MN.ok
  obtain ⟨hmL, hmC⟩ := MM.ok
  obtain ⟨hnx0, hsl0⟩ := MD.ok
  obtain ⟨hol0, hox0⟩ := MO.ok
  refine SpI.of pnX12 (Nat.le_of_ble_eq_true rfl) rfl ?_
  refine R_aload_n dX12_compact_0 rfl rfl ?_
  refine R_callv (As := []) (st := []) kX12_note lX12_122 (r_note M0 MN MD) rfl M0 dX12_compact_1 rfl rfl (Nat.le_of_ble_eq_true rfl) ⟨by decide, by decide⟩ zX12_note ⟨Nat.le_refl _, Nat.le_refl _⟩ (fun wp2 wq1 => ?_)
  obtain ⟨hn1, hn2, hn3⟩ := wq1
  have c4 := MM.fr hn3 (by decide)
  have c5 := MN.fr hn3 (by decide)
  have c6 := MT.fr hn3 (by decide)
  have c7 := MK.fr hn3 (by decide) (by decide)
  have c8 := MO.fr hn3 (by decide) (by decide)
  have c9 := A70.fr hn3 (by decide)
  have c10 := A71.fr hn3 (by decide)
  have c11 := A72.fr hn3 (by decide)
  have c12 := A73.fr hn3 (by decide)
  have c13 := A74.fr hn3 (by decide)
  have c14 := A75.fr hn3 (by decide)
  have c15 := A76.fr hn3 (by decide)
  have c16 := A77.fr hn3 (by decide)
  have FF17 : Fr LM hp wp2 := (Fr.rf (L := LM) (hp := hp)).trans (hn3.mono (by decide))
  obtain ⟨f, Ha, hR⟩ := id c5
  obtain ⟨h0, h1, h2, h3, hf, -⟩ := hR.to
  refine R_aload_n dX12_compact_4 rfl rfl ?_
  refine R_getf dX12_compact_5 gX12_13 hn1 rfl ?_
  refine R_iconst (v := (nI 0)) dX12_compact_8 (by decide) ?_
  refine N_iald (y := (nI (cs.length))) dX12_compact_9 Ha (by decide) (by decide) h0 ?_
  refine R_istore_n (lv' := [some (.ref 61), some (.int (nI (cs.length))), none, none]) dX12_compact_10 rfl (by decide) rfl ?_
  refine R_iconst (v := (nI 0)) dX12_compact_11 (by decide) ?_
  refine R_istore_n (lv' := [some (.ref 61), some (.int (nI (cs.length))), some (.int (nI 0)), none]) dX12_compact_12 rfl (by decide) rfl ?_
  have hMz : MJ wp2 (ms, (cs, sc, un, wd), ((cs, sc, un, wd) :: hs.take 13), s0, s1, os, ox) := ⟨_, _, _, _, hn1, c4, c5, c6, hn2, c7, c8, c9, c10, c11, c12, c13, c14, c15, c16⟩
  exact r_cmL hL cs.length 0 _ cs none (by omega) (by omega) (Nat.le_refl _) hMz rfl FF17
end R38
