/-! The reference: scripts -/
section R39
variable {l : Launch} {X : EX} {hp : HPt}
set_option maxRecDepth 100000 in
set_option maxHeartbeats 4000000 in
theorem r_th {n : Nat} (hn : n ≤ 4) : SpL l X mX12_thousands [.int (nI n)] hp (fun r hp' => r = lN (1000 ^ n) ∧ hp' = hp) := by
  have hcs : n = 0 ∨ n = 1 ∨ n = 2 ∨ n = 3 ∨ n = 4 := by omega
  refine SpL.of pnX12 (Nat.le_of_ble_eq_true rfl) rfl ?_
  rcases hcs with rfl | rfl | rfl | rfl | rfl
  · refine R_lconst (v := 1) dX12_thousands_0 (by decide) ?_
    refine R_lstore_n (lv' := [some (.int (nI 0)), some (.long (1)), none, none]) dX12_thousands_1 rfl (by decide) rfl ?_
    refine R_iconst (v := (nI 0)) dX12_thousands_2 (by decide) ?_
    refine R_istore_n (lv' := [some (.int (nI 0)), some (.long (1)), none, some (.int (nI 0))]) dX12_thousands_3 rfl (by decide) rfl ?_
    refine R_iload_n dX12_thousands_4 rfl rfl ?_
    refine R_iload_n dX12_thousands_5 rfl rfl ?_
    refine N_icmp_ge (tgt := 21) dX12_thousands_6 (by decide) (by decide) (by decide) (fun _ => ?_) (fun hc => absurd hc (by decide))
    refine R_lload_n dX12_thousands_21 rfl rfl ?_
    exact R_retl dX12_thousands_22 rfl rfl rfl ⟨by decide, rfl⟩
  · refine R_lconst (v := 1) dX12_thousands_0 (by decide) ?_
    refine R_lstore_n (lv' := [some (.int (nI 1)), some (.long (1)), none, none]) dX12_thousands_1 rfl (by decide) rfl ?_
    refine R_iconst (v := (nI 0)) dX12_thousands_2 (by decide) ?_
    refine R_istore_n (lv' := [some (.int (nI 1)), some (.long (1)), none, some (.int (nI 0))]) dX12_thousands_3 rfl (by decide) rfl ?_
    refine R_iload_n dX12_thousands_4 rfl rfl ?_
    refine R_iload_n dX12_thousands_5 rfl rfl ?_
    refine N_icmp_ge (tgt := 21) dX12_thousands_6 (by decide) (by decide) (by decide) (fun hc => absurd hc (by decide)) (fun _ => ?_)
    refine R_lload_n dX12_thousands_9 rfl rfl ?_
    refine R_ldc2 dX12_thousands_10 nX12_196 ?_
    refine R_lmul dX12_thousands_13 ?_
    refine R_lstore_n (lv' := [some (.int (nI 1)), some (.long ((1) * (1000))), none, some (.int (nI 0))]) dX12_thousands_14 rfl (by decide) rfl ?_
    refine N_iinc (d := 1) (lv' := [some (.int (nI 1)), some (.long ((1) * (1000))), none, some (.int (nI 1))]) dX12_thousands_15 rfl rfl ?_
    refine R_goto (tgt := 4) dX12_thousands_18 (by decide) ?_
    refine R_iload_n dX12_thousands_4 rfl rfl ?_
    refine R_iload_n dX12_thousands_5 rfl rfl ?_
    refine N_icmp_ge (tgt := 21) dX12_thousands_6 (by decide) (by decide) (by decide) (fun _ => ?_) (fun hc => absurd hc (by decide))
    refine R_lload_n dX12_thousands_21 rfl rfl ?_
    exact R_retl dX12_thousands_22 rfl rfl rfl ⟨by decide, rfl⟩
  · refine R_lconst (v := 1) dX12_thousands_0 (by decide) ?_
    refine R_lstore_n (lv' := [some (.int (nI 2)), some (.long (1)), none, none]) dX12_thousands_1 rfl (by decide) rfl ?_
    refine R_iconst (v := (nI 0)) dX12_thousands_2 (by decide) ?_
    refine R_istore_n (lv' := [some (.int (nI 2)), some (.long (1)), none, some (.int (nI 0))]) dX12_thousands_3 rfl (by decide) rfl ?_
    refine R_iload_n dX12_thousands_4 rfl rfl ?_
    refine R_iload_n dX12_thousands_5 rfl rfl ?_
    refine N_icmp_ge (tgt := 21) dX12_thousands_6 (by decide) (by decide) (by decide) (fun hc => absurd hc (by decide)) (fun _ => ?_)
    refine R_lload_n dX12_thousands_9 rfl rfl ?_
    refine R_ldc2 dX12_thousands_10 nX12_196 ?_
    refine R_lmul dX12_thousands_13 ?_
    refine R_lstore_n (lv' := [some (.int (nI 2)), some (.long ((1) * (1000))), none, some (.int (nI 0))]) dX12_thousands_14 rfl (by decide) rfl ?_
    refine N_iinc (d := 1) (lv' := [some (.int (nI 2)), some (.long ((1) * (1000))), none, some (.int (nI 1))]) dX12_thousands_15 rfl rfl ?_
    refine R_goto (tgt := 4) dX12_thousands_18 (by decide) ?_
    refine R_iload_n dX12_thousands_4 rfl rfl ?_
    refine R_iload_n dX12_thousands_5 rfl rfl ?_
    refine N_icmp_ge (tgt := 21) dX12_thousands_6 (by decide) (by decide) (by decide) (fun hc => absurd hc (by decide)) (fun _ => ?_)
    refine R_lload_n dX12_thousands_9 rfl rfl ?_
    refine R_ldc2 dX12_thousands_10 nX12_196 ?_
    refine R_lmul dX12_thousands_13 ?_
    refine R_lstore_n (lv' := [some (.int (nI 2)), some (.long (((1) * (1000)) * (1000))), none, some (.int (nI 1))]) dX12_thousands_14 rfl (by decide) rfl ?_
    refine N_iinc (d := 1) (lv' := [some (.int (nI 2)), some (.long (((1) * (1000)) * (1000))), none, some (.int (nI 2))]) dX12_thousands_15 rfl rfl ?_
    refine R_goto (tgt := 4) dX12_thousands_18 (by decide) ?_
    refine R_iload_n dX12_thousands_4 rfl rfl ?_
    refine R_iload_n dX12_thousands_5 rfl rfl ?_
    refine N_icmp_ge (tgt := 21) dX12_thousands_6 (by decide) (by decide) (by decide) (fun _ => ?_) (fun hc => absurd hc (by decide))
    refine R_lload_n dX12_thousands_21 rfl rfl ?_
    exact R_retl dX12_thousands_22 rfl rfl rfl ⟨by decide, rfl⟩
  · refine R_lconst (v := 1) dX12_thousands_0 (by decide) ?_
    refine R_lstore_n (lv' := [some (.int (nI 3)), some (.long (1)), none, none]) dX12_thousands_1 rfl (by decide) rfl ?_
    refine R_iconst (v := (nI 0)) dX12_thousands_2 (by decide) ?_
    refine R_istore_n (lv' := [some (.int (nI 3)), some (.long (1)), none, some (.int (nI 0))]) dX12_thousands_3 rfl (by decide) rfl ?_
    refine R_iload_n dX12_thousands_4 rfl rfl ?_
    refine R_iload_n dX12_thousands_5 rfl rfl ?_
    refine N_icmp_ge (tgt := 21) dX12_thousands_6 (by decide) (by decide) (by decide) (fun hc => absurd hc (by decide)) (fun _ => ?_)
    refine R_lload_n dX12_thousands_9 rfl rfl ?_
    refine R_ldc2 dX12_thousands_10 nX12_196 ?_
    refine R_lmul dX12_thousands_13 ?_
    refine R_lstore_n (lv' := [some (.int (nI 3)), some (.long ((1) * (1000))), none, some (.int (nI 0))]) dX12_thousands_14 rfl (by decide) rfl ?_
    refine N_iinc (d := 1) (lv' := [some (.int (nI 3)), some (.long ((1) * (1000))), none, some (.int (nI 1))]) dX12_thousands_15 rfl rfl ?_
    refine R_goto (tgt := 4) dX12_thousands_18 (by decide) ?_
    refine R_iload_n dX12_thousands_4 rfl rfl ?_
    refine R_iload_n dX12_thousands_5 rfl rfl ?_
    refine N_icmp_ge (tgt := 21) dX12_thousands_6 (by decide) (by decide) (by decide) (fun hc => absurd hc (by decide)) (fun _ => ?_)
    refine R_lload_n dX12_thousands_9 rfl rfl ?_
    refine R_ldc2 dX12_thousands_10 nX12_196 ?_
    refine R_lmul dX12_thousands_13 ?_
    refine R_lstore_n (lv' := [some (.int (nI 3)), some (.long (((1) * (1000)) * (1000))), none, some (.int (nI 1))]) dX12_thousands_14 rfl (by decide) rfl ?_
    refine N_iinc (d := 1) (lv' := [some (.int (nI 3)), some (.long (((1) * (1000)) * (1000))), none, some (.int (nI 2))]) dX12_thousands_15 rfl rfl ?_
    refine R_goto (tgt := 4) dX12_thousands_18 (by decide) ?_
    refine R_iload_n dX12_thousands_4 rfl rfl ?_
    refine R_iload_n dX12_thousands_5 rfl rfl ?_
    refine N_icmp_ge (tgt := 21) dX12_thousands_6 (by decide) (by decide) (by decide) (fun hc => absurd hc (by decide)) (fun _ => ?_)
    refine R_lload_n dX12_thousands_9 rfl rfl ?_
    refine R_ldc2 dX12_thousands_10 nX12_196 ?_
    refine R_lmul dX12_thousands_13 ?_
    refine R_lstore_n (lv' := [some (.int (nI 3)), some (.long ((((1) * (1000)) * (1000)) * (1000))), none, some (.int (nI 2))]) dX12_thousands_14 rfl (by decide) rfl ?_
    refine N_iinc (d := 1) (lv' := [some (.int (nI 3)), some (.long ((((1) * (1000)) * (1000)) * (1000))), none, some (.int (nI 3))]) dX12_thousands_15 rfl rfl ?_
    refine R_goto (tgt := 4) dX12_thousands_18 (by decide) ?_
    refine R_iload_n dX12_thousands_4 rfl rfl ?_
    refine R_iload_n dX12_thousands_5 rfl rfl ?_
    refine N_icmp_ge (tgt := 21) dX12_thousands_6 (by decide) (by decide) (by decide) (fun _ => ?_) (fun hc => absurd hc (by decide))
    refine R_lload_n dX12_thousands_21 rfl rfl ?_
    exact R_retl dX12_thousands_22 rfl rfl rfl ⟨by decide, rfl⟩
  · refine R_lconst (v := 1) dX12_thousands_0 (by decide) ?_
    refine R_lstore_n (lv' := [some (.int (nI 4)), some (.long (1)), none, none]) dX12_thousands_1 rfl (by decide) rfl ?_
    refine R_iconst (v := (nI 0)) dX12_thousands_2 (by decide) ?_
    refine R_istore_n (lv' := [some (.int (nI 4)), some (.long (1)), none, some (.int (nI 0))]) dX12_thousands_3 rfl (by decide) rfl ?_
    refine R_iload_n dX12_thousands_4 rfl rfl ?_
    refine R_iload_n dX12_thousands_5 rfl rfl ?_
    refine N_icmp_ge (tgt := 21) dX12_thousands_6 (by decide) (by decide) (by decide) (fun hc => absurd hc (by decide)) (fun _ => ?_)
    refine R_lload_n dX12_thousands_9 rfl rfl ?_
    refine R_ldc2 dX12_thousands_10 nX12_196 ?_
    refine R_lmul dX12_thousands_13 ?_
    refine R_lstore_n (lv' := [some (.int (nI 4)), some (.long ((1) * (1000))), none, some (.int (nI 0))]) dX12_thousands_14 rfl (by decide) rfl ?_
    refine N_iinc (d := 1) (lv' := [some (.int (nI 4)), some (.long ((1) * (1000))), none, some (.int (nI 1))]) dX12_thousands_15 rfl rfl ?_
    refine R_goto (tgt := 4) dX12_thousands_18 (by decide) ?_
    refine R_iload_n dX12_thousands_4 rfl rfl ?_
    refine R_iload_n dX12_thousands_5 rfl rfl ?_
    refine N_icmp_ge (tgt := 21) dX12_thousands_6 (by decide) (by decide) (by decide) (fun hc => absurd hc (by decide)) (fun _ => ?_)
    refine R_lload_n dX12_thousands_9 rfl rfl ?_
    refine R_ldc2 dX12_thousands_10 nX12_196 ?_
    refine R_lmul dX12_thousands_13 ?_
    refine R_lstore_n (lv' := [some (.int (nI 4)), some (.long (((1) * (1000)) * (1000))), none, some (.int (nI 1))]) dX12_thousands_14 rfl (by decide) rfl ?_
    refine N_iinc (d := 1) (lv' := [some (.int (nI 4)), some (.long (((1) * (1000)) * (1000))), none, some (.int (nI 2))]) dX12_thousands_15 rfl rfl ?_
    refine R_goto (tgt := 4) dX12_thousands_18 (by decide) ?_
    refine R_iload_n dX12_thousands_4 rfl rfl ?_
    refine R_iload_n dX12_thousands_5 rfl rfl ?_
    refine N_icmp_ge (tgt := 21) dX12_thousands_6 (by decide) (by decide) (by decide) (fun hc => absurd hc (by decide)) (fun _ => ?_)
    refine R_lload_n dX12_thousands_9 rfl rfl ?_
    refine R_ldc2 dX12_thousands_10 nX12_196 ?_
    refine R_lmul dX12_thousands_13 ?_
    refine R_lstore_n (lv' := [some (.int (nI 4)), some (.long ((((1) * (1000)) * (1000)) * (1000))), none, some (.int (nI 2))]) dX12_thousands_14 rfl (by decide) rfl ?_
    refine N_iinc (d := 1) (lv' := [some (.int (nI 4)), some (.long ((((1) * (1000)) * (1000)) * (1000))), none, some (.int (nI 3))]) dX12_thousands_15 rfl rfl ?_
    refine R_goto (tgt := 4) dX12_thousands_18 (by decide) ?_
    refine R_iload_n dX12_thousands_4 rfl rfl ?_
    refine R_iload_n dX12_thousands_5 rfl rfl ?_
    refine N_icmp_ge (tgt := 21) dX12_thousands_6 (by decide) (by decide) (by decide) (fun hc => absurd hc (by decide)) (fun _ => ?_)
    refine R_lload_n dX12_thousands_9 rfl rfl ?_
    refine R_ldc2 dX12_thousands_10 nX12_196 ?_
    refine R_lmul dX12_thousands_13 ?_
    refine R_lstore_n (lv' := [some (.int (nI 4)), some (.long (((((1) * (1000)) * (1000)) * (1000)) * (1000))), none, some (.int (nI 3))]) dX12_thousands_14 rfl (by decide) rfl ?_
    refine N_iinc (d := 1) (lv' := [some (.int (nI 4)), some (.long (((((1) * (1000)) * (1000)) * (1000)) * (1000))), none, some (.int (nI 4))]) dX12_thousands_15 rfl rfl ?_
    refine R_goto (tgt := 4) dX12_thousands_18 (by decide) ?_
    refine R_iload_n dX12_thousands_4 rfl rfl ?_
    refine R_iload_n dX12_thousands_5 rfl rfl ?_
    refine N_icmp_ge (tgt := 21) dX12_thousands_6 (by decide) (by decide) (by decide) (fun _ => ?_) (fun hc => absurd hc (by decide))
    refine R_lload_n dX12_thousands_21 rfl rfl ?_
    exact R_retl dX12_thousands_22 rfl rfl rfl ⟨by decide, rfl⟩
set_option maxRecDepth 100000 in
set_option maxHeartbeats 4000000 in
theorem r_cmd {ms : List Nat} {cs : List Nat} {sc un wd : Nat} {hs : List TP} {s0 s1 : Option TP} {os : List (Nat × Nat)} {ox : Nat} {ds : List Nat} {s2 u2 w2 g : Nat} (hg : g < 1000) (hM : MJ hp (ms, (cs, sc, un, wd), hs, s0, s1, os, ox)) (HT : RwAt hp 64 (ds, s2, u2, w2)) : SpI l X mX12_command [.ref 61, .int (nI (g / 100)), .int (nI (g % 100))] hp (fun r hp' => r = bz (cmdOk (ds, s2, u2, w2) g) ∧ MJ hp' (ms, (cs, sc, un, wd), hs, s0, s1, os, ox) ∧ (cmdOk (ds, s2, u2, w2) g = true → RwAt hp' 64 (cmdT (ds, s2, u2, w2) g)) ∧ Fr LM hp hp') := by
  obtain ⟨nx, tl, sl, st, M0, MM, MN, MT, MD, MK, MO, A70, A71, A72, A73, A74, A75, A76, A77⟩ := id hM
  obtain ⟨hL, hC3, hs1, hu1, hw1, hw2⟩ := HT.ok
  have hw : g % 100 < 100 := Nat.mod_lt _ (by decide)
  have hcs : g / 100 = 0 ∨ g / 100 = 1 ∨ g / 100 = 2 ∨ g / 100 = 3 ∨ g / 100 = 4 ∨ g / 100 = 5 ∨ g / 100 = 6 ∨ g / 100 = 7 ∨ g / 100 = 8 ∨ g / 100 = 9 := by omega
  refine SpI.of pnX12 (Nat.le_of_ble_eq_true rfl) rfl ?_
  have htl := txt_len u2 ds s2
  rcases hcs with hv | hv | hv | hv | hv | hv | hv | hv | hv | hv
  · rw [hv]
    refine R_iload_n dX12_command_0 rfl rfl ?_
    refine R_tableOut (tgt := 245) dX12_command_1 (by decide) (by decide) ?_
    have hok : cmdOk (ds, s2, u2, w2) g = false := by simp only [cmdOk, hv]; try rfl
    refine R_iconst (v := (nI 0)) dX12_command_245 (by decide) ?_
    exact R_retz dX12_command_246 rfl rfl rfl rfl ⟨by rw [hok]; rfl, ⟨_, _, _, _, M0, MM, MN, MT, MD, MK, MO, A70, A71, A72, A73, A74, A75, A76, A77⟩, (fun z9 => absurd z9 (by rw [hok]; decide)), (Fr.rf (L := LM) (hp := hp))⟩
  · rw [hv]
    refine R_iload_n dX12_command_0 rfl rfl ?_
    refine R_tableIn (off := 43) (tgt := 44) dX12_command_1 (by decide) (by decide) (by decide) (by decide) ?_
    obtain ⟨f, Ha, hR⟩ := id HT
    obtain ⟨h0, h1, h2, h3, hf, -⟩ := hR.to
    refine R_iload_n dX12_command_44 rfl rfl ?_
    refine R_bipush (v := (nI 32)) dX12_command_45 (by decide) ?_
    refine N_icmp_ge (tgt := 65) dX12_command_47 (by decide) (by omega) (by omega) (fun h32 => ?_) (fun h32 => ?_)
    · have hok : cmdOk (ds, s2, u2, w2) g = false := by simp only [cmdOk, hv]; rw [decide_eq_false (by omega)]; rfl
      refine R_iconst (v := (nI 0)) dX12_command_65 (by decide) ?_
      exact R_retz dX12_command_66 rfl rfl rfl rfl ⟨by rw [hok]; rfl, ⟨_, _, _, _, M0, MM, MN, MT, MD, MK, MO, A70, A71, A72, A73, A74, A75, A76, A77⟩, (fun z9 => absurd z9 (by rw [hok]; decide)), (Fr.rf (L := LM) (hp := hp))⟩
    · refine R_aload_n dX12_command_50 rfl rfl ?_
      refine R_getf dX12_command_51 gX12_16 M0 rfl ?_
      refine R_iload_n dX12_command_54 rfl rfl ?_
      refine R_stati (As := [.ref 64, .int (nI (g % 100))]) (st := []) kX12_put lX12_116 (r_put (by omega) HT) dX12_command_55 rfl rfl (Nat.le_of_ble_eq_true rfl) ⟨by decide, by decide⟩ zX12_put ⟨Nat.le_refl _, Nat.le_refl _⟩ (fun wr3 wp2 wq1 => ?_)
      obtain ⟨rfl, hq1, hq2⟩ := wq1
      have c4 := hq2.at (by decide) M0
      have c5 := MM.fr hq2 (by decide)
      have c6 := MN.fr hq2 (by decide)
      have c7 := MD.fr hq2 (by decide)
      have c8 := MK.fr hq2 (by decide) (by decide)
      have c9 := MO.fr hq2 (by decide) (by decide)
      have c10 := A70.fr hq2 (by decide)
      have c11 := A71.fr hq2 (by decide)
      have c12 := A72.fr hq2 (by decide)
      have c13 := A73.fr hq2 (by decide)
      have c14 := A74.fr hq2 (by decide)
      have c15 := A75.fr hq2 (by decide)
      have c16 := A76.fr hq2 (by decide)
      have c17 := A77.fr hq2 (by decide)
      have FF18 : Fr LM hp wp2 := (Fr.rf (L := LM) (hp := hp)).trans (hq2.mono (by decide))
      by_cases hl : ds.length < 96
      · rw [decide_eq_true hl]
        show PZ _ _ _ _ _ _ (.int (nI 1) :: _) _ _ _
        refine N_if_eq (tgt := 65) dX12_command_58 (by decide) (by decide) (fun hc => absurd hc (by decide)) (fun _ => ?_)
        rw [tk96 hl] at hq1
        have hct : cmdT (ds, s2, u2, w2) g = (ds ++ [g % 100], s2, u2, w2) := by unfold cmdT; rw [if_pos (by simp only [cmdOk, hv]; rw [decide_eq_true (by omega), decide_eq_true hl]; rfl)]; simp only [hv]
        have hok : cmdOk (ds, s2, u2, w2) g = true := by simp only [cmdOk, hv]; rw [decide_eq_true (by omega), decide_eq_true hl]; rfl
        refine R_iconst (v := (nI 1)) dX12_command_61 (by decide) ?_
        refine R_goto (tgt := 66) dX12_command_62 (by decide) ?_
        exact R_retz dX12_command_66 rfl rfl rfl rfl ⟨by rw [hok]; rfl, ⟨_, _, _, _, c4, c5, c6, hq1.ax, c7, c8, c9, c10, c11, c12, c13, c14, c15, c16, c17⟩, (fun _ => by rw [hct]; exact hq1), FF18⟩
      · rw [decide_eq_false hl]
        show PZ _ _ _ _ _ _ (.int (nI 0) :: _) _ _ _
        refine N_if_eq (tgt := 65) dX12_command_58 (by decide) (by decide) (fun _ => ?_) (fun hc => absurd hc (by decide))
        have hok : cmdOk (ds, s2, u2, w2) g = false := by simp only [cmdOk, hv]; rw [decide_eq_false hl, Bool.and_false]
        refine R_iconst (v := (nI 0)) dX12_command_65 (by decide) ?_
        exact R_retz dX12_command_66 rfl rfl rfl rfl ⟨by rw [hok]; rfl, ⟨_, _, _, _, c4, c5, c6, hq1.ax, c7, c8, c9, c10, c11, c12, c13, c14, c15, c16, c17⟩, (fun z9 => absurd z9 (by rw [hok]; decide)), FF18⟩
  · rw [hv]
    refine R_iload_n dX12_command_0 rfl rfl ?_
    refine R_tableIn (off := 66) (tgt := 67) dX12_command_1 (by decide) (by decide) (by decide) (by decide) ?_
    obtain ⟨f, Ha, hR⟩ := id HT
    obtain ⟨h0, h1, h2, h3, hf, -⟩ := hR.to
    refine R_iload_n dX12_command_67 rfl rfl ?_
    refine R_aload_n dX12_command_68 rfl rfl ?_
    refine R_getf dX12_command_69 gX12_16 M0 rfl ?_
    refine R_iconst (v := (nI 0)) dX12_command_72 (by decide) ?_
    refine N_iald (y := (nI (ds.length))) dX12_command_73 Ha (by decide) (by decide) h0 ?_
    refine N_icmp_lt (tgt := 79) dX12_command_74 (by decide) (by omega) (by omega) (fun hl => ?_) (fun hl => ?_)
    · refine R_aload_n dX12_command_79 rfl rfl ?_
      refine R_getf dX12_command_80 gX12_16 M0 rfl ?_
      refine R_iload_n dX12_command_83 rfl rfl ?_
      refine R_statv (As := [.ref 64, .int (nI (g % 100))]) (st := []) kX12_takeOut lX12_143 (r_tk hl HT) dX12_command_84 rfl rfl (Nat.le_of_ble_eq_true rfl) ⟨by decide, by decide⟩ zX12_takeOut ⟨Nat.le_refl _, Nat.le_refl _⟩ (fun wp20 wq19 => ?_)
      obtain ⟨hq1, hq2⟩ := wq19
      have c22 := hq2.at (by decide) M0
      have c23 := MM.fr hq2 (by decide)
      have c24 := MN.fr hq2 (by decide)
      have c25 := MD.fr hq2 (by decide)
      have c26 := MK.fr hq2 (by decide) (by decide)
      have c27 := MO.fr hq2 (by decide) (by decide)
      have c28 := A70.fr hq2 (by decide)
      have c29 := A71.fr hq2 (by decide)
      have c30 := A72.fr hq2 (by decide)
      have c31 := A73.fr hq2 (by decide)
      have c32 := A74.fr hq2 (by decide)
      have c33 := A75.fr hq2 (by decide)
      have c34 := A76.fr hq2 (by decide)
      have c35 := A77.fr hq2 (by decide)
      have FF36 : Fr LM hp wp20 := (Fr.rf (L := LM) (hp := hp)).trans (hq2.mono (by decide))
      have hct : cmdT (ds, s2, u2, w2) g = (ds.eraseIdx (g % 100), s2, u2, w2) := by unfold cmdT; rw [if_pos (by simp only [cmdOk, hv]; rw [decide_eq_true hl])]; simp only [hv]
      have hok : cmdOk (ds, s2, u2, w2) g = true := by simp only [cmdOk, hv]; rw [decide_eq_true hl]
      refine R_iconst (v := (nI 1)) dX12_command_87 (by decide) ?_
      exact R_retz dX12_command_88 rfl rfl rfl rfl ⟨by rw [hok]; rfl, ⟨_, _, _, _, c22, c23, c24, hq1.ax, c25, c26, c27, c28, c29, c30, c31, c32, c33, c34, c35⟩, (fun _ => by rw [hct]; exact hq1), FF36⟩
    · have hok : cmdOk (ds, s2, u2, w2) g = false := by simp only [cmdOk, hv]; rw [decide_eq_false (by omega)]
      refine R_iconst (v := (nI 0)) dX12_command_77 (by decide) ?_
      exact R_retz dX12_command_78 rfl rfl rfl rfl ⟨by rw [hok]; rfl, ⟨_, _, _, _, M0, MM, MN, MT, MD, MK, MO, A70, A71, A72, A73, A74, A75, A76, A77⟩, (fun z9 => absurd z9 (by rw [hok]; decide)), (Fr.rf (L := LM) (hp := hp))⟩
  · rw [hv]
    refine R_iload_n dX12_command_0 rfl rfl ?_
    refine R_tableIn (off := 88) (tgt := 89) dX12_command_1 (by decide) (by decide) (by decide) (by decide) ?_
    obtain ⟨f, Ha, hR⟩ := id HT
    obtain ⟨h0, h1, h2, h3, hf, -⟩ := hR.to
    refine R_aload_n dX12_command_89 rfl rfl ?_
    refine R_getf dX12_command_90 gX12_16 M0 rfl ?_
    refine R_iconst (v := (nI 2)) dX12_command_93 (by decide) ?_
    refine R_iload_n dX12_command_94 rfl rfl ?_
    refine R_iconst (v := (nI 2)) dX12_command_95 (by decide) ?_
    refine N_icmp_ge (tgt := 103) dX12_command_96 (by decide) (by omega) (by omega) (fun h2w => ?_) (fun h2w => ?_)
    · refine R_aload_n dX12_command_103 rfl rfl ?_
      refine R_getf dX12_command_104 gX12_16 M0 rfl ?_
      refine R_iconst (v := (nI 2)) dX12_command_107 (by decide) ?_
      refine N_iald (y := (nI u2)) dX12_command_108 Ha (by decide) (by decide) h2 ?_
      obtain ⟨g2, eg2⟩ : ∃ y, y = upd f 2 (nI u2) := ⟨_, rfl⟩
      refine W_iast (f' := g2) dX12_command_109 Ha (by decide) (by decide) eg2 (fun wp37 wH38 wE39 => ?_)
      have wH40 := (wE39 61 (by decide)).trans M0
      have wF41 : Fr [64] hp wp37 := Fr.one wE39 (by simp)
      refine R_iload_n dX12_command_110 rfl rfl ?_
      refine R_iconst (v := (nI 2)) dX12_command_111 (by decide) ?_
      refine N_icmp_ge (tgt := 119) dX12_command_112 (by decide) (by omega) (by omega) (fun _ => ?_) (fun hc => absurd hc (by omega))
      have hq1 : AX wp37 64 100 := ⟨g2, wH38⟩
      have c42 := wF41.at (by decide) M0
      have c43 := MM.fr wF41 (by decide)
      have c44 := MN.fr wF41 (by decide)
      have c45 := MD.fr wF41 (by decide)
      have c46 := MK.fr wF41 (by decide) (by decide)
      have c47 := MO.fr wF41 (by decide) (by decide)
      have c48 := A70.fr wF41 (by decide)
      have c49 := A71.fr wF41 (by decide)
      have c50 := A72.fr wF41 (by decide)
      have c51 := A73.fr wF41 (by decide)
      have c52 := A74.fr wF41 (by decide)
      have c53 := A75.fr wF41 (by decide)
      have c54 := A76.fr wF41 (by decide)
      have c55 := A77.fr wF41 (by decide)
      have FF56 : Fr LM hp wp37 := (Fr.rf (L := LM) (hp := hp)).trans (wF41.mono (by decide))
      have hok : cmdOk (ds, s2, u2, w2) g = false := by simp only [cmdOk, hv]; rw [decide_eq_false (by omega)]
      refine R_iconst (v := (nI 0)) dX12_command_119 (by decide) ?_
      exact R_retz dX12_command_120 rfl rfl rfl rfl ⟨by rw [hok]; rfl, ⟨_, _, _, _, c42, c43, c44, hq1, c45, c46, c47, c48, c49, c50, c51, c52, c53, c54, c55⟩, (fun z9 => absurd z9 (by rw [hok]; decide)), FF56⟩
    · refine R_iload_n dX12_command_99 rfl rfl ?_
      refine R_goto (tgt := 109) dX12_command_100 (by decide) ?_
      obtain ⟨g2, eg2⟩ : ∃ y, y = upd f 2 (nI (g % 100)) := ⟨_, rfl⟩
      refine W_iast (f' := g2) dX12_command_109 Ha (by decide) (by decide) eg2 (fun wp57 wH58 wE59 => ?_)
      have wH60 := (wE59 61 (by decide)).trans M0
      have wF61 : Fr [64] hp wp57 := Fr.one wE59 (by simp)
      refine R_iload_n dX12_command_110 rfl rfl ?_
      refine R_iconst (v := (nI 2)) dX12_command_111 (by decide) ?_
      refine N_icmp_ge (tgt := 119) dX12_command_112 (by decide) (by omega) (by omega) (fun hc => absurd hc (by omega)) (fun _ => ?_)
      have hq1 : RwAt wp57 64 (ds, s2, g % 100, w2) := ⟨g2, wH58, RwH.to ⟨by rw [eg2, upd_n (by omega)]; exact h0, by rw [eg2, upd_n (by omega)]; exact h1, by rw [eg2, upd_s], by rw [eg2, upd_n (by omega)]; exact h3, fun i hi => by rw [eg2, upd_n (by omega)]; exact hf i hi, hL, hC3, by omega, by omega, by omega, by omega⟩⟩
      have c62 := wF61.at (by decide) M0
      have c63 := MM.fr wF61 (by decide)
      have c64 := MN.fr wF61 (by decide)
      have c65 := MD.fr wF61 (by decide)
      have c66 := MK.fr wF61 (by decide) (by decide)
      have c67 := MO.fr wF61 (by decide) (by decide)
      have c68 := A70.fr wF61 (by decide)
      have c69 := A71.fr wF61 (by decide)
      have c70 := A72.fr wF61 (by decide)
      have c71 := A73.fr wF61 (by decide)
      have c72 := A74.fr wF61 (by decide)
      have c73 := A75.fr wF61 (by decide)
      have c74 := A76.fr wF61 (by decide)
      have c75 := A77.fr wF61 (by decide)
      have FF76 : Fr LM hp wp57 := (Fr.rf (L := LM) (hp := hp)).trans (wF61.mono (by decide))
      have hct : cmdT (ds, s2, u2, w2) g = (ds, s2, g % 100, w2) := by unfold cmdT; rw [if_pos (by simp only [cmdOk, hv]; rw [decide_eq_true (by omega)])]; simp only [hv]
      have hok : cmdOk (ds, s2, u2, w2) g = true := by simp only [cmdOk, hv]; rw [decide_eq_true (by omega)]
      refine R_iconst (v := (nI 1)) dX12_command_115 (by decide) ?_
      refine R_goto (tgt := 120) dX12_command_116 (by decide) ?_
      exact R_retz dX12_command_120 rfl rfl rfl rfl ⟨by rw [hok]; rfl, ⟨_, _, _, _, c62, c63, c64, hq1.ax, c65, c66, c67, c68, c69, c70, c71, c72, c73, c74, c75⟩, (fun _ => by rw [hct]; exact hq1), FF76⟩
  · rw [hv]
    refine R_iload_n dX12_command_0 rfl rfl ?_
    refine R_tableIn (off := 120) (tgt := 121) dX12_command_1 (by decide) (by decide) (by decide) (by decide) ?_
    obtain ⟨f, Ha, hR⟩ := id HT
    obtain ⟨h0, h1, h2, h3, hf, -⟩ := hR.to
    refine R_aload_n dX12_command_121 rfl rfl ?_
    refine R_getf dX12_command_122 gX12_16 M0 rfl ?_
    refine R_iconst (v := (nI 1)) dX12_command_125 (by decide) ?_
    refine R_iload_n dX12_command_126 rfl rfl ?_
    refine R_iconst (v := (nI 2)) dX12_command_127 (by decide) ?_
    refine N_icmp_ge (tgt := 135) dX12_command_128 (by decide) (by omega) (by omega) (fun h2w => ?_) (fun h2w => ?_)
    · refine R_aload_n dX12_command_135 rfl rfl ?_
      refine R_getf dX12_command_136 gX12_16 M0 rfl ?_
      refine R_iconst (v := (nI 1)) dX12_command_139 (by decide) ?_
      refine N_iald (y := (nI s2)) dX12_command_140 Ha (by decide) (by decide) h1 ?_
      obtain ⟨g2, eg2⟩ : ∃ y, y = upd f 1 (nI s2) := ⟨_, rfl⟩
      refine W_iast (f' := g2) dX12_command_141 Ha (by decide) (by decide) eg2 (fun wp77 wH78 wE79 => ?_)
      have wH80 := (wE79 61 (by decide)).trans M0
      have wF81 : Fr [64] hp wp77 := Fr.one wE79 (by simp)
      refine R_iload_n dX12_command_142 rfl rfl ?_
      refine R_iconst (v := (nI 2)) dX12_command_143 (by decide) ?_
      refine N_icmp_ge (tgt := 151) dX12_command_144 (by decide) (by omega) (by omega) (fun _ => ?_) (fun hc => absurd hc (by omega))
      have hq1 : AX wp77 64 100 := ⟨g2, wH78⟩
      have c82 := wF81.at (by decide) M0
      have c83 := MM.fr wF81 (by decide)
      have c84 := MN.fr wF81 (by decide)
      have c85 := MD.fr wF81 (by decide)
      have c86 := MK.fr wF81 (by decide) (by decide)
      have c87 := MO.fr wF81 (by decide) (by decide)
      have c88 := A70.fr wF81 (by decide)
      have c89 := A71.fr wF81 (by decide)
      have c90 := A72.fr wF81 (by decide)
      have c91 := A73.fr wF81 (by decide)
      have c92 := A74.fr wF81 (by decide)
      have c93 := A75.fr wF81 (by decide)
      have c94 := A76.fr wF81 (by decide)
      have c95 := A77.fr wF81 (by decide)
      have FF96 : Fr LM hp wp77 := (Fr.rf (L := LM) (hp := hp)).trans (wF81.mono (by decide))
      have hok : cmdOk (ds, s2, u2, w2) g = false := by simp only [cmdOk, hv]; rw [decide_eq_false (by omega)]
      refine R_iconst (v := (nI 0)) dX12_command_151 (by decide) ?_
      exact R_retz dX12_command_152 rfl rfl rfl rfl ⟨by rw [hok]; rfl, ⟨_, _, _, _, c82, c83, c84, hq1, c85, c86, c87, c88, c89, c90, c91, c92, c93, c94, c95⟩, (fun z9 => absurd z9 (by rw [hok]; decide)), FF96⟩
    · refine R_iload_n dX12_command_131 rfl rfl ?_
      refine R_goto (tgt := 141) dX12_command_132 (by decide) ?_
      obtain ⟨g2, eg2⟩ : ∃ y, y = upd f 1 (nI (g % 100)) := ⟨_, rfl⟩
      refine W_iast (f' := g2) dX12_command_141 Ha (by decide) (by decide) eg2 (fun wp97 wH98 wE99 => ?_)
      have wH100 := (wE99 61 (by decide)).trans M0
      have wF101 : Fr [64] hp wp97 := Fr.one wE99 (by simp)
      refine R_iload_n dX12_command_142 rfl rfl ?_
      refine R_iconst (v := (nI 2)) dX12_command_143 (by decide) ?_
      refine N_icmp_ge (tgt := 151) dX12_command_144 (by decide) (by omega) (by omega) (fun hc => absurd hc (by omega)) (fun _ => ?_)
      have hq1 : RwAt wp97 64 (ds, g % 100, u2, w2) := ⟨g2, wH98, RwH.to ⟨by rw [eg2, upd_n (by omega)]; exact h0, by rw [eg2, upd_s], by rw [eg2, upd_n (by omega)]; exact h2, by rw [eg2, upd_n (by omega)]; exact h3, fun i hi => by rw [eg2, upd_n (by omega)]; exact hf i hi, hL, hC3, by omega, by omega, by omega, by omega⟩⟩
      have c102 := wF101.at (by decide) M0
      have c103 := MM.fr wF101 (by decide)
      have c104 := MN.fr wF101 (by decide)
      have c105 := MD.fr wF101 (by decide)
      have c106 := MK.fr wF101 (by decide) (by decide)
      have c107 := MO.fr wF101 (by decide) (by decide)
      have c108 := A70.fr wF101 (by decide)
      have c109 := A71.fr wF101 (by decide)
      have c110 := A72.fr wF101 (by decide)
      have c111 := A73.fr wF101 (by decide)
      have c112 := A74.fr wF101 (by decide)
      have c113 := A75.fr wF101 (by decide)
      have c114 := A76.fr wF101 (by decide)
      have c115 := A77.fr wF101 (by decide)
      have FF116 : Fr LM hp wp97 := (Fr.rf (L := LM) (hp := hp)).trans (wF101.mono (by decide))
      have hct : cmdT (ds, s2, u2, w2) g = (ds, g % 100, u2, w2) := by unfold cmdT; rw [if_pos (by simp only [cmdOk, hv]; rw [decide_eq_true (by omega)])]; simp only [hv]
      have hok : cmdOk (ds, s2, u2, w2) g = true := by simp only [cmdOk, hv]; rw [decide_eq_true (by omega)]
      refine R_iconst (v := (nI 1)) dX12_command_147 (by decide) ?_
      refine R_goto (tgt := 152) dX12_command_148 (by decide) ?_
      exact R_retz dX12_command_152 rfl rfl rfl rfl ⟨by rw [hok]; rfl, ⟨_, _, _, _, c102, c103, c104, hq1.ax, c105, c106, c107, c108, c109, c110, c111, c112, c113, c114, c115⟩, (fun _ => by rw [hct]; exact hq1), FF116⟩
  · rw [hv]
    refine R_iload_n dX12_command_0 rfl rfl ?_
    refine R_tableIn (off := 152) (tgt := 153) dX12_command_1 (by decide) (by decide) (by decide) (by decide) ?_
    obtain ⟨f, Ha, hR⟩ := id HT
    obtain ⟨h0, h1, h2, h3, hf, -⟩ := hR.to
    refine R_aload_n dX12_command_153 rfl rfl ?_
    refine R_aload_n dX12_command_154 rfl rfl ?_
    refine R_getf dX12_command_155 gX12_16 M0 rfl ?_
    refine R_callv (As := [.ref 64]) (st := []) kX12_laySecond lX12_149 (r_ls M0 HT A72 A73 A75) rfl M0 dX12_command_158 rfl rfl (Nat.le_of_ble_eq_true rfl) ⟨by decide, by decide⟩ zX12_laySecond ⟨Nat.le_refl _, Nat.le_refl _⟩ (fun wp118 wq117 => ?_)
    obtain ⟨hk1, hk2, hk3⟩ := wq117
    have c120 := MM.fr hk3 (by decide)
    have c121 := MN.fr hk3 (by decide)
    have c122 := MT.fr hk3 (by decide)
    have c123 := MD.fr hk3 (by decide)
    have c124 := MK.fr hk3 (by decide) (by decide)
    have c125 := MO.fr hk3 (by decide) (by decide)
    have c126 := A70.fr hk3 (by decide)
    have c127 := A71.fr hk3 (by decide)
    have c128 := A74.fr hk3 (by decide)
    have c129 := A76.fr hk3 (by decide)
    have c130 := A77.fr hk3 (by decide)
    have FF131 : Fr LM hp wp118 := (Fr.rf (L := LM) (hp := hp)).trans (hk3.mono (by decide))
    have HT2 := HT.fr hk3 (by decide)
    obtain ⟨ga, wa, ta, -, H73, H75, -, hwa, hta⟩ := id hk2
    obtain ⟨f3, Ha3, hR3⟩ := id HT2
    refine R_aload_n dX12_command_161 rfl rfl ?_
    refine R_getf dX12_command_162 gX12_87 hk1 rfl ?_
    refine R_iload_n dX12_command_165 rfl rfl ?_
    refine N_icmp_ne (tgt := 173) dX12_command_166 (by decide) (by omega) (by omega) (fun he => ?_) (fun he => ?_)
    · have hok : cmdOk (ds, s2, u2, w2) g = false := by simp only [cmdOk, hv]; rw [decide_eq_false he]
      refine R_iconst (v := (nI 0)) dX12_command_173 (by decide) ?_
      exact R_retz dX12_command_174 rfl rfl rfl rfl ⟨by rw [hok]; rfl, ⟨_, _, _, _, hk1, c120, c121, c122, c123, c124, c125, c126, c127, hk2.x1, hk2.x2, c128, hk2.x3, c129, c130⟩, (fun z9 => absurd z9 (by rw [hok]; decide)), FF131⟩
    · have hct : cmdT (ds, s2, u2, w2) g = (ds, s2, u2, w2) := by unfold cmdT; rw [if_pos (by simp only [cmdOk, hv]; rw [decide_eq_true he])]; simp only [hv]
      have hok : cmdOk (ds, s2, u2, w2) g = true := by simp only [cmdOk, hv]; rw [decide_eq_true he]
      refine R_iconst (v := (nI 1)) dX12_command_169 (by decide) ?_
      refine R_goto (tgt := 174) dX12_command_170 (by decide) ?_
      exact R_retz dX12_command_174 rfl rfl rfl rfl ⟨by rw [hok]; rfl, ⟨_, _, _, _, hk1, c120, c121, c122, c123, c124, c125, c126, c127, hk2.x1, hk2.x2, c128, hk2.x3, c129, c130⟩, (fun _ => by rw [hct]; exact HT2), FF131⟩
  · rw [hv]
    refine R_iload_n dX12_command_0 rfl rfl ?_
    refine R_tableIn (off := 174) (tgt := 175) dX12_command_1 (by decide) (by decide) (by decide) (by decide) ?_
    obtain ⟨f, Ha, hR⟩ := id HT
    obtain ⟨h0, h1, h2, h3, hf, -⟩ := hR.to
    refine R_aload_n dX12_command_175 rfl rfl ?_
    refine R_aload_n dX12_command_176 rfl rfl ?_
    refine R_getf dX12_command_177 gX12_16 M0 rfl ?_
    refine R_callv (As := [.ref 64]) (st := []) kX12_laySecond lX12_149 (r_ls M0 HT A72 A73 A75) rfl M0 dX12_command_180 rfl rfl (Nat.le_of_ble_eq_true rfl) ⟨by decide, by decide⟩ zX12_laySecond ⟨Nat.le_refl _, Nat.le_refl _⟩ (fun wp133 wq132 => ?_)
    obtain ⟨hk1, hk2, hk3⟩ := wq132
    have c135 := MM.fr hk3 (by decide)
    have c136 := MN.fr hk3 (by decide)
    have c137 := MT.fr hk3 (by decide)
    have c138 := MD.fr hk3 (by decide)
    have c139 := MK.fr hk3 (by decide) (by decide)
    have c140 := MO.fr hk3 (by decide) (by decide)
    have c141 := A70.fr hk3 (by decide)
    have c142 := A71.fr hk3 (by decide)
    have c143 := A74.fr hk3 (by decide)
    have c144 := A76.fr hk3 (by decide)
    have c145 := A77.fr hk3 (by decide)
    have FF146 : Fr LM hp wp133 := (Fr.rf (L := LM) (hp := hp)).trans (hk3.mono (by decide))
    have HT2 := HT.fr hk3 (by decide)
    obtain ⟨ga, wa, ta, -, H73, H75, -, hwa, hta⟩ := id hk2
    obtain ⟨f3, Ha3, hR3⟩ := id HT2
    have hcl : cAt u2 s2 ds (g % 100) ≤ 1 := cAt_le hs1
    refine R_iload_n dX12_command_183 rfl rfl ?_
    refine R_aload_n dX12_command_184 rfl rfl ?_
    refine R_getf dX12_command_185 gX12_16 hk1 rfl ?_
    refine R_iconst (v := (nI 0)) dX12_command_188 (by decide) ?_
    refine N_iald (y := (nI (ds.length))) dX12_command_189 Ha3 (by decide) (by decide) hR3.to.1 ?_
    refine N_icmp_ge (tgt := 207) dX12_command_190 (by decide) (by omega) (by omega) (fun hl => ?_) (fun hl => ?_)
    · have hok : cmdOk (ds, s2, u2, w2) g = false := by simp only [cmdOk, hv]; rw [decide_eq_false (by omega)]; rfl
      refine R_iconst (v := (nI 0)) dX12_command_207 (by decide) ?_
      exact R_retz dX12_command_208 rfl rfl rfl rfl ⟨by rw [hok]; rfl, ⟨_, _, _, _, hk1, c135, c136, c137, c138, c139, c140, c141, c142, hk2.x1, hk2.x2, c143, hk2.x3, c144, c145⟩, (fun z9 => absurd z9 (by rw [hok]; decide)), FF146⟩
    · refine R_aload_n dX12_command_193 rfl rfl ?_
      refine R_getf dX12_command_194 gX12_44 hk1 rfl ?_
      refine R_iload_n dX12_command_197 rfl rfl ?_
      refine N_iald (y := (nI (cAt u2 s2 ds (g % 100)))) dX12_command_198 H73 (by omega) (by decide) (hwa _ (by omega)) ?_
      refine R_iconst (v := (nI 1)) dX12_command_199 (by decide) ?_
      refine N_icmp_ne (tgt := 207) dX12_command_200 (by decide) (by omega) (by omega) (fun he => ?_) (fun he => ?_)
      · have hok : cmdOk (ds, s2, u2, w2) g = false := by simp only [cmdOk, hv]; rw [decide_eq_false (p := cAt u2 s2 ds (g % 100) = 1) he, Bool.and_false]
        refine R_iconst (v := (nI 0)) dX12_command_207 (by decide) ?_
        exact R_retz dX12_command_208 rfl rfl rfl rfl ⟨by rw [hok]; rfl, ⟨_, _, _, _, hk1, c135, c136, c137, c138, c139, c140, c141, c142, hk2.x1, hk2.x2, c143, hk2.x3, c144, c145⟩, (fun z9 => absurd z9 (by rw [hok]; decide)), FF146⟩
      · have hct : cmdT (ds, s2, u2, w2) g = (ds, s2, u2, w2) := by unfold cmdT; rw [if_pos (by simp only [cmdOk, hv]; rw [decide_eq_true (by omega), decide_eq_true he]; rfl)]; simp only [hv]
        have hok : cmdOk (ds, s2, u2, w2) g = true := by simp only [cmdOk, hv]; rw [decide_eq_true (by omega), decide_eq_true he]; rfl
        refine R_iconst (v := (nI 1)) dX12_command_203 (by decide) ?_
        refine R_goto (tgt := 208) dX12_command_204 (by decide) ?_
        exact R_retz dX12_command_208 rfl rfl rfl rfl ⟨by rw [hok]; rfl, ⟨_, _, _, _, hk1, c135, c136, c137, c138, c139, c140, c141, c142, hk2.x1, hk2.x2, c143, hk2.x3, c144, c145⟩, (fun _ => by rw [hct]; exact HT2), FF146⟩
  · rw [hv]
    refine R_iload_n dX12_command_0 rfl rfl ?_
    refine R_tableIn (off := 208) (tgt := 209) dX12_command_1 (by decide) (by decide) (by decide) (by decide) ?_
    obtain ⟨f, Ha, hR⟩ := id HT
    obtain ⟨h0, h1, h2, h3, hf, -⟩ := hR.to
    refine R_aload_n dX12_command_209 rfl rfl ?_
    refine R_aload_n dX12_command_210 rfl rfl ?_
    refine R_getf dX12_command_211 gX12_16 M0 rfl ?_
    refine R_callv (As := [.ref 64]) (st := []) kX12_laySecond lX12_149 (r_ls M0 HT A72 A73 A75) rfl M0 dX12_command_214 rfl rfl (Nat.le_of_ble_eq_true rfl) ⟨by decide, by decide⟩ zX12_laySecond ⟨Nat.le_refl _, Nat.le_refl _⟩ (fun wp148 wq147 => ?_)
    obtain ⟨hk1, hk2, hk3⟩ := wq147
    have c150 := MM.fr hk3 (by decide)
    have c151 := MN.fr hk3 (by decide)
    have c152 := MT.fr hk3 (by decide)
    have c153 := MD.fr hk3 (by decide)
    have c154 := MK.fr hk3 (by decide) (by decide)
    have c155 := MO.fr hk3 (by decide) (by decide)
    have c156 := A70.fr hk3 (by decide)
    have c157 := A71.fr hk3 (by decide)
    have c158 := A74.fr hk3 (by decide)
    have c159 := A76.fr hk3 (by decide)
    have c160 := A77.fr hk3 (by decide)
    have FF161 : Fr LM hp wp148 := (Fr.rf (L := LM) (hp := hp)).trans (hk3.mono (by decide))
    have HT2 := HT.fr hk3 (by decide)
    obtain ⟨ga, wa, ta, -, H73, H75, -, hwa, hta⟩ := id hk2
    obtain ⟨f3, Ha3, hR3⟩ := id HT2
    refine R_aload_n dX12_command_217 rfl rfl ?_
    refine R_getf dX12_command_218 gX12_87 hk1 rfl ?_
    by_cases hz : 0 < (txt u2 s2 ds).length
    · refine R_if_le (tgt := 243) dX12_command_221 (by decide) (fun hc => absurd hc (nI_nle hz (by omega))) (fun _ => ?_)
      have hz1 : (txt u2 s2 ds).length - 1 < (txt u2 s2 ds).length := by omega
      have hch := txt_lt u2 ds s2 _ (List.getElem_mem hz1)
      refine R_aload_n dX12_command_224 rfl rfl ?_
      refine R_getf dX12_command_225 gX12_50 hk1 rfl ?_
      refine R_aload_n dX12_command_228 rfl rfl ?_
      refine R_getf dX12_command_229 gX12_87 hk1 rfl ?_
      refine R_iconst (v := (nI 1)) dX12_command_232 (by decide) ?_
      refine N_isub dX12_command_233 (by omega) ?_
      refine N_iald (y := (nI ((txt u2 s2 ds)[(txt u2 s2 ds).length - 1]))) dX12_command_234 H75 (by omega) (by decide) (hta _ (by omega)) ?_
      refine R_iload_n dX12_command_235 rfl rfl ?_
      refine N_icmp_ne (tgt := 243) dX12_command_236 (by decide) (by omega) (by omega) (fun he => ?_) (fun he => ?_)
      · have hok : cmdOk (ds, s2, u2, w2) g = false := by simp only [cmdOk, hv]; rw [gD hz1, decide_eq_false he, Bool.and_false]
        refine R_iconst (v := (nI 0)) dX12_command_243 (by decide) ?_
        exact R_retz dX12_command_244 rfl rfl rfl rfl ⟨by rw [hok]; rfl, ⟨_, _, _, _, hk1, c150, c151, c152, c153, c154, c155, c156, c157, hk2.x1, hk2.x2, c158, hk2.x3, c159, c160⟩, (fun z9 => absurd z9 (by rw [hok]; decide)), FF161⟩
      · have hct : cmdT (ds, s2, u2, w2) g = (ds, s2, u2, w2) := by unfold cmdT; rw [if_pos (by simp only [cmdOk, hv]; rw [gD hz1, decide_eq_true hz, decide_eq_true he]; rfl)]; simp only [hv]
        have hok : cmdOk (ds, s2, u2, w2) g = true := by simp only [cmdOk, hv]; rw [gD hz1, decide_eq_true hz, decide_eq_true he]; rfl
        refine R_iconst (v := (nI 1)) dX12_command_239 (by decide) ?_
        refine R_goto (tgt := 244) dX12_command_240 (by decide) ?_
        exact R_retz dX12_command_244 rfl rfl rfl rfl ⟨by rw [hok]; rfl, ⟨_, _, _, _, hk1, c150, c151, c152, c153, c154, c155, c156, c157, hk2.x1, hk2.x2, c158, hk2.x3, c159, c160⟩, (fun _ => by rw [hct]; exact HT2), FF161⟩
    · have hz0 : (txt u2 s2 ds).length = 0 := by omega
      refine R_if_le (tgt := 243) dX12_command_221 (by decide) (fun _ => ?_) (fun hc => absurd (show nI (txt u2 s2 ds).length ≤ 0 by rw [hz0]; decide) hc)
      have hok : cmdOk (ds, s2, u2, w2) g = false := by simp only [cmdOk, hv]; rw [decide_eq_false hz]; rfl
      refine R_iconst (v := (nI 0)) dX12_command_243 (by decide) ?_
      exact R_retz dX12_command_244 rfl rfl rfl rfl ⟨by rw [hok]; rfl, ⟨_, _, _, _, hk1, c150, c151, c152, c153, c154, c155, c156, c157, hk2.x1, hk2.x2, c158, hk2.x3, c159, c160⟩, (fun z9 => absurd z9 (by rw [hok]; decide)), FF161⟩
  · rw [hv]
    refine R_iload_n dX12_command_0 rfl rfl ?_
    refine R_tableOut (tgt := 245) dX12_command_1 (by decide) (by decide) ?_
    have hok : cmdOk (ds, s2, u2, w2) g = false := by simp only [cmdOk, hv]; try rfl
    refine R_iconst (v := (nI 0)) dX12_command_245 (by decide) ?_
    exact R_retz dX12_command_246 rfl rfl rfl rfl ⟨by rw [hok]; rfl, ⟨_, _, _, _, M0, MM, MN, MT, MD, MK, MO, A70, A71, A72, A73, A74, A75, A76, A77⟩, (fun z9 => absurd z9 (by rw [hok]; decide)), (Fr.rf (L := LM) (hp := hp))⟩
  · rw [hv]
    refine R_iload_n dX12_command_0 rfl rfl ?_
    refine R_tableOut (tgt := 245) dX12_command_1 (by decide) (by decide) ?_
    have hok : cmdOk (ds, s2, u2, w2) g = false := by simp only [cmdOk, hv]; try rfl
    refine R_iconst (v := (nI 0)) dX12_command_245 (by decide) ?_
    exact R_retz dX12_command_246 rfl rfl rfl rfl ⟨by rw [hok]; rfl, ⟨_, _, _, _, M0, MM, MN, MT, MD, MK, MO, A70, A71, A72, A73, A74, A75, A76, A77⟩, (fun z9 => absurd z9 (by rw [hok]; decide)), (Fr.rf (L := LM) (hp := hp))⟩
set_option maxRecDepth 100000 in
set_option maxHeartbeats 4000000 in
theorem r_rnL {ms : List Nat} {cs : List Nat} {sc un wd : Nat} {hs : List TP} {s0 s1 : Option TP} {os : List (Nat × Nat)} {ox : Nat} {q s : Nat} {R : Int32} (hsx : s < 2 ^ 63) (hq : q ≤ 4) : ∀ (d j : Nat) (hz : HPt) (T : TP) (lo : Option Value), j + d = q → MJ hz (ms, (cs, sc, un, wd), hs, s0, s1, os, ox) → RwAt hz 64 T → R = scrF T ((grp s q).drop j) j → Fr LM hp hz → PZ l X (MZi X mX12_runScript (fun r hp' => r = R ∧ MJ hp' (ms, (cs, sc, un, wd), hs, s0, s1, os, ox) ∧ Fr LM hp hp')) mX12_runScript 43 [some (.ref 61), some (.int (nI q)), some (.long (lN s)), none, some (.int (nI j)), lo] [] hz 0 0 := by
  have hgl : (grp s q).length = q := by unfold grp; simp
  intro d
  induction d with
  | zero =>
    intro j hz T lo hj hM HT hRR hF
    have hRe : R = -9 := by rw [hRR, List.drop_eq_nil_of_le (by omega)]; rfl
    subst hRe
    refine R_iload dX12_runScript_43 rfl ?_
    refine R_iload_n dX12_runScript_45 rfl rfl ?_
    refine N_icmp_ge (tgt := 93) dX12_runScript_46 (by decide) (by omega) (by omega) (fun _ => ?_) (fun hc => absurd hc (by omega))
    refine R_bipush (v := (-9)) dX12_runScript_93 (by decide) ?_
    exact R_reti dX12_runScript_95 rfl rfl rfl ⟨rfl, hM, hF⟩
  | succ d ih =>
    intro j hz T lo hj hM HT hRR hF
    obtain ⟨ds, s2, u2, w2⟩ := T
    obtain ⟨nx, tl, sl, st, M0, MM, MN, MT, MD, MK, MO, A70, A71, A72, A73, A74, A75, A76, A77⟩ := id hM
    have hg1 := grp_get (s := s) (n := q) (i := j) (by omega)
    rw [drop_c (cs := grp s q) (by omega), hg1] at hRR
    obtain ⟨g, eg⟩ : ∃ g, g = s / 1000 ^ (q - 1 - j) % 1000 := ⟨_, rfl⟩
    rw [← eg] at hRR
    have hg : g < 1000 := by rw [eg]; exact Nat.mod_lt _ (by decide)
    have hpw : 1000 ^ (q - 1 - j) ≤ 1000 ^ 4 := Nat.pow_le_pow_right (by decide) (by omega)
    have hpp : 0 < 1000 ^ (q - 1 - j) := Nat.pow_pos (by decide)
    have hd0 : s / 1000 ^ (q - 1 - j) < 2 ^ 63 := Nat.lt_of_le_of_lt (Nat.div_le_self _ _) hsx
    have e0 : lN s / lN (1000 ^ (q - 1 - j)) = lN (s / 1000 ^ (q - 1 - j)) := pk_lDiv hsx hpp (by omega)
    have e1 : lN (s / 1000 ^ (q - 1 - j)) - lN (s / 1000 ^ (q - 1 - j)) / 1000 * 1000 = lN g := by rw [eg]; exact pk_lRem hd0 (by decide) (by decide)
    refine R_iload dX12_runScript_43 rfl ?_
    refine R_iload_n dX12_runScript_45 rfl rfl ?_
    refine N_icmp_ge (tgt := 93) dX12_runScript_46 (by decide) (by omega) (by omega) (fun hc => absurd hc (by omega)) (fun _ => ?_)
    refine R_lload_n dX12_runScript_49 rfl rfl ?_
    refine R_iload_n dX12_runScript_50 rfl rfl ?_
    refine R_iconst (v := (nI 1)) dX12_runScript_51 (by decide) ?_
    refine N_isub dX12_runScript_52 (by omega) ?_
    refine R_iload dX12_runScript_53 rfl ?_
    refine N_isub dX12_runScript_55 (by omega) ?_
    refine R_statl (As := [.int (nI ((q - 1) - j))]) (st := [.long (lN s)]) kX12_thousands lX12_198 (r_th (by omega)) dX12_runScript_56 rfl rfl (Nat.le_of_ble_eq_true rfl) ⟨by decide, by decide⟩ zX12_thousands ⟨Nat.le_refl _, Nat.le_refl _⟩ (fun wr3 wp2 wq1 => ?_)
    obtain ⟨rfl, rfl⟩ : wr3 = _ ∧ hz = wp2 := ⟨wq1.1, wq1.2.symm⟩
    refine R_ldiv dX12_runScript_59 (fun z9 => by rw [show (0 : Int64) = lN 0 from rfl, pk_lEQ (by omega) (by omega)] at z9; omega) ?_
    rw [e0]
    refine R_ldc2 dX12_runScript_60 nX12_196 ?_
    refine R_lrem dX12_runScript_63 (by decide) ?_
    rw [e1]
    refine R_l2i dX12_runScript_64 ?_
    rw [lN_i]
    refine R_istore (lv' := [some (.ref 61), some (.int (nI q)), some (.long (lN s)), none, some (.int (nI j)), some (.int (nI g))]) dX12_runScript_65 (by decide) rfl ?_
    refine R_aload_n dX12_runScript_67 rfl rfl ?_
    refine R_iload dX12_runScript_68 rfl ?_
    refine R_bipush (v := (nI 100)) dX12_runScript_70 (by decide) ?_
    refine N_idiv dX12_runScript_72 (by omega) (by omega) (by omega) ?_
    refine R_iload dX12_runScript_73 rfl ?_
    refine R_bipush (v := (nI 100)) dX12_runScript_75 (by decide) ?_
    refine N_irem dX12_runScript_77 (by omega) (by omega) (by omega) ?_
    refine R_calli (As := [.int (nI (g / 100)), .int (nI (g % 100))]) (st := []) kX12_command lX12_202 (r_cmd hg hM HT) rfl M0 dX12_runScript_78 rfl rfl (Nat.le_of_ble_eq_true rfl) ⟨by decide, by decide⟩ zX12_command ⟨Nat.le_refl _, Nat.le_refl _⟩ (fun wr6 wp5 wq4 => ?_)
    obtain ⟨rfl, hq1, hq2, hq3⟩ := wq4
    cases hok : cmdOk (ds, s2, u2, w2) g with
    | false =>
      show PZ _ _ _ _ _ _ (.int (nI 0) :: _) _ _ _
      refine N_if_ne (tgt := 87) dX12_runScript_81 (by decide) (by decide) (fun hc => absurd hc (by decide)) (fun _ => ?_)
      refine R_iload dX12_runScript_84 rfl ?_
      exact R_reti dX12_runScript_86 rfl rfl rfl ⟨by rw [hRR]; simp only [scrF]; rw [if_neg (by rw [hok]; decide)], hq1, hF.trans hq3⟩
    | true =>
      show PZ _ _ _ _ _ _ (.int (nI 1) :: _) _ _ _
      refine N_if_ne (tgt := 87) dX12_runScript_81 (by decide) (by decide) (fun _ => ?_) (fun hc => absurd hc (by decide))
      refine N_iinc (d := 1) (lv' := [some (.ref 61), some (.int (nI q)), some (.long (lN s)), none, some (.int (nI (j + 1))), some (.int (nI g))]) dX12_runScript_87 rfl rfl ?_
      refine R_goto (tgt := 43) dX12_runScript_90 (by decide) ?_
      exact ih (j + 1) _ _ _ (by omega) hq1 (hq2 hok) (by rw [hRR]; simp only [scrF]; rw [if_pos hok]) (hF.trans hq3)
theorem th_i : ∀ q, q < 5 → (lN (1000 ^ q) - 1).toInt = ((1000 ^ q : Nat) : Int) - 1 := by decide +kernel
set_option maxRecDepth 100000 in
set_option maxHeartbeats 4000000 in
theorem y_run {ms : List Nat} {cs : List Nat} {sc un wd : Nat} {hs : List TP} {s0 s1 : Option TP} {os : List (Nat × Nat)} {ox : Nat} {n : Int32} {x : Int64} (hM : MJ hp (ms, (cs, sc, un, wd), hs, s0, s1, os, ox)) : SpI l X mX12_runScript [.ref 61, .int (n), .long (x)] hp (fun r hp' => r = (f_run (ms, (cs, sc, un, wd), hs, s0, s1, os, ox) n x).1 ∧ MJ hp' (f_run (ms, (cs, sc, un, wd), hs, s0, s1, os, ox) n x).2 ∧ Fr LM hp hp') := by
  obtain ⟨nx, tl, sl, st, M0, MM, MN, MT, MD, MK, MO, A70, A71, A72, A73, A74, A75, A76, A77⟩ := hM
  obtain ⟨hL, hC3, hs1, hu1, hw1, hw2⟩ := MN.ok
  obtain ⟨hmL, hmC⟩ := MM.ok
  obtain ⟨hnx0, hsl0⟩ := MD.ok
  obtain ⟨hol0, hox0⟩ := MO.ok
  refine SpI.of pnX12 (Nat.le_of_ble_eq_true rfl) rfl ?_
  have hM0 : MJ hp (ms, (cs, sc, un, wd), hs, s0, s1, os, ox) := ⟨_, _, _, _, M0, MM, MN, MT, MD, MK, MO, A70, A71, A72, A73, A74, A75, A76, A77⟩
  refine R_iload_n dX12_runScript_0 rfl rfl ?_
  refine R_i2l dX12_runScript_1 ?_
  refine R_lconst (v := 1) dX12_runScript_2 (by decide) ?_
  refine R_ldc2 dX12_runScript_3 nX12_147 ?_
  refine R_stati (As := [.long ((n).toInt64), .long (1), .long (4)]) (st := []) kX12_in lX12_67 (r_inW 1 4 rfl rfl (by decide) (by decide)) dX12_runScript_6 rfl rfl (Nat.le_of_ble_eq_true rfl) ⟨by decide, by decide⟩ zX12_in ⟨Nat.le_refl _, Nat.le_refl _⟩ (fun wr3 wp2 wq1 => ?_)
  obtain ⟨rfl, rfl⟩ : wr3 = _ ∧ hp = wp2 := ⟨wq1.1, wq1.2.symm⟩
  cases hw4 : inW n 1 4 with
  | false =>
    show PZ _ _ _ _ _ _ (.int (nI 0) :: _) _ _ _
    refine N_if_eq (tgt := 26) dX12_runScript_9 (by decide) (by decide) (fun _ => ?_) (fun hc => absurd hc (by decide))
    have hf : f_run (ms, (cs, sc, un, wd), hs, s0, s1, os, ox) n x = (-2, (ms, (cs, sc, un, wd), hs, s0, s1, os, ox)) := by unfold f_run; dsimp only; rw [if_neg (fun z9 => by rw [hw4] at z9; exact absurd z9.1 (by decide))]
    refine R_bipush (v := (-2)) dX12_runScript_26 (by decide) ?_
    rw [hf]
    exact R_reti dX12_runScript_28 rfl rfl rfl ⟨rfl, ⟨_, _, _, _, M0, MM, MN, MT, MD, MK, MO, A70, A71, A72, A73, A74, A75, A76, A77⟩, (Fr.rf (L := LM) (hp := hp))⟩
  | true =>
    show PZ _ _ _ _ _ _ (.int (nI 1) :: _) _ _ _
    obtain ⟨q, hq1, hq, rfl⟩ := inW_t (by decide) hw4
    refine N_if_eq (tgt := 26) dX12_runScript_9 (by decide) (by decide) (fun hc => absurd hc (by decide)) (fun _ => ?_)
    refine R_lload_n dX12_runScript_12 rfl rfl ?_
    refine R_lconst (v := 0) dX12_runScript_13 (by decide) ?_
    refine R_iload_n dX12_runScript_14 rfl rfl ?_
    refine R_statl (As := [.int (nI q)]) (st := [.long (0), .long (x)]) kX12_thousands lX12_198 (r_th (n := q) hq) dX12_runScript_15 rfl rfl (Nat.le_of_ble_eq_true rfl) ⟨by decide, by decide⟩ zX12_thousands ⟨Nat.le_refl _, Nat.le_refl _⟩ (fun wr7 wp6 wq5 => ?_)
    obtain ⟨rfl, rfl⟩ : wr7 = _ ∧ hp = wp6 := ⟨wq5.1, wq5.2.symm⟩
    refine R_lconst (v := 1) dX12_runScript_18 (by decide) ?_
    refine R_lsub dX12_runScript_19 ?_
    refine R_stati (As := [.long (x), .long (0), .long ((lN (1000 ^ q)) - (1))]) (st := []) kX12_in lX12_67 (r_in) dX12_runScript_20 rfl rfl (Nat.le_of_ble_eq_true rfl) ⟨by decide, by decide⟩ zX12_in ⟨Nat.le_refl _, Nat.le_refl _⟩ (fun wr10 wp9 wq8 => ?_)
    obtain ⟨rfl, rfl⟩ : wr10 = _ ∧ hp = wp9 := ⟨wq8.1, wq8.2.symm⟩
    have hti := th_i q (by omega)
    have hpp : 0 < 1000 ^ q := Nat.pow_pos (by decide)
    have z0 : (0 : Int64).toInt = 0 := by decide
    cases hx : (decide (0 ≤ x) && decide (x ≤ lN (1000 ^ q) - 1)) with
    | false =>
      show PZ _ _ _ _ _ _ (.int (nI 0) :: _) _ _ _
      refine N_if_ne (tgt := 29) dX12_runScript_23 (by decide) (by decide) (fun hc => absurd hc (by decide)) (fun _ => ?_)
      have hf : f_run (ms, (cs, sc, un, wd), hs, s0, s1, os, ox) (nI q) x = (-2, (ms, (cs, sc, un, wd), hs, s0, s1, os, ox)) := by
        unfold f_run; dsimp only
        rw [vN_n (by omega), if_neg (fun z9 => ?_)]
        rw [Bool.and_eq_false_iff, decide_eq_false_iff_not, decide_eq_false_iff_not, Int64.le_iff_toInt_le, Int64.le_iff_toInt_le, hti, z0] at hx
        have h1 := z9.2.1
        rw [Int64.lt_iff_toInt_lt, z0] at h1
        have h2 := z9.2.2
        omega
      refine R_bipush (v := (-2)) dX12_runScript_26 (by decide) ?_
      rw [hf]
      exact R_reti dX12_runScript_28 rfl rfl rfl ⟨rfl, ⟨_, _, _, _, M0, MM, MN, MT, MD, MK, MO, A70, A71, A72, A73, A74, A75, A76, A77⟩, (Fr.rf (L := LM) (hp := hp))⟩
    | true =>
      show PZ _ _ _ _ _ _ (.int (nI 1) :: _) _ _ _
      rw [Bool.and_eq_true, decide_eq_true_eq, decide_eq_true_eq, Int64.le_iff_toInt_le, Int64.le_iff_toInt_le, hti, z0] at hx
      have hpw : 1000 ^ q ≤ 1000 ^ 4 := Nat.pow_le_pow_right (by decide) (by omega)
      obtain ⟨s, hsy, rfl⟩ : ∃ s : Nat, s < 1000 ^ q ∧ x = lN s := ⟨x.toInt.toNat, by omega, by apply Int64.toInt_inj.mp; rw [pk_lT (by omega)]; omega⟩
      have hs9 : s < 2 ^ 63 := by omega
      have hsn : (lN s).toInt.toNat = s := by rw [pk_lT hs9]; rfl
      refine N_if_ne (tgt := 29) dX12_runScript_23 (by decide) (by decide) (fun _ => ?_) (fun hc => absurd hc (by decide))
      refine R_aload_n dX12_runScript_29 rfl rfl ?_
      refine R_getf dX12_runScript_30 gX12_13 M0 rfl ?_
      refine R_aload_n dX12_runScript_33 rfl rfl ?_
      refine R_getf dX12_runScript_34 gX12_16 M0 rfl ?_
      refine R_statv (As := [.ref 63, .ref 64]) (st := []) kX12_copy lX12_129 (r_cpR (by decide) MN MT) dX12_runScript_37 rfl rfl (Nat.le_of_ble_eq_true rfl) ⟨by decide, by decide⟩ zX12_copy ⟨Nat.le_refl _, Nat.le_refl _⟩ (fun wp12 wq11 => ?_)
      obtain ⟨hc1, hc2⟩ := wq11
      have c14 := hc2.at (by decide) M0
      have c15 := MM.fr hc2 (by decide)
      have c16 := MN.fr hc2 (by decide)
      have c17 := MD.fr hc2 (by decide)
      have c18 := MK.fr hc2 (by decide) (by decide)
      have c19 := MO.fr hc2 (by decide) (by decide)
      have c20 := A70.fr hc2 (by decide)
      have c21 := A71.fr hc2 (by decide)
      have c22 := A72.fr hc2 (by decide)
      have c23 := A73.fr hc2 (by decide)
      have c24 := A74.fr hc2 (by decide)
      have c25 := A75.fr hc2 (by decide)
      have c26 := A76.fr hc2 (by decide)
      have c27 := A77.fr hc2 (by decide)
      have FF28 : Fr LM hp wp12 := (Fr.rf (L := LM) (hp := hp)).trans (hc2.mono (by decide))
      refine R_iconst (v := (nI 0)) dX12_runScript_40 (by decide) ?_
      refine R_istore (lv' := [some (.ref 61), some (.int (nI q)), some (.long (lN s)), none, some (.int (nI 0)), none]) dX12_runScript_41 (by decide) rfl ?_
      have hf : f_run (ms, (cs, sc, un, wd), hs, s0, s1, os, ox) (nI q) (lN s) = (scrF (cs, sc, un, wd) (grp s q) 0, (ms, (cs, sc, un, wd), hs, s0, s1, os, ox)) := by unfold f_run; dsimp only; rw [vN_n (by omega), hsn, if_pos ⟨hw4, fun z9 => by rw [Int64.lt_iff_toInt_lt, z0] at z9; omega, hsy⟩]
      rw [hf]
      exact r_rnL hs9 hq q 0 _ (cs, sc, un, wd) none (by omega) ⟨_, _, _, _, c14, c15, c16, hc1.ax, c17, c18, c19, c20, c21, c22, c23, c24, c25, c26, c27⟩ hc1 rfl FF28
end R39
