/-! The reference's calls: noise, possible settings -/
theorem bor0 : ∀ s, s < 16 → nI s ||| nI 0 = nI s := by decide +kernel
section R36
variable {l : Launch} {X : EX} {hp : HPt}
set_option maxRecDepth 100000 in
set_option maxHeartbeats 4000000 in
theorem r_nzL {ms : List Nat} {cs : List Nat} {sc un wd : Nat} {hs : List TP} {s0 s1 : Option TP} {os : List (Nat × Nat)} {ox : Nat} {m : Nat} {x0 : Int64} (hm : m ≤ 60) (hpos : 0 < cs.length) : ∀ (d j : Nat) (hz : HPt) (es : List Nat) (x : Int64) (lo : Option Value), j + d = m → MJ hz (ms, (cs, sc, un, wd), hs, s0, s1, os, ox) → RwAt hz 64 (es, sc, un, wd) → es.length = cs.length → noi m x0 cs = noi d x es → Fr LM hp hz → PZ l X (MZi X mX12_noise (fun r hp' => r = nI (diffC un sc sc cs (noi m x0 cs)) ∧ MJ hp' (ms, (cs, sc, un, wd), hs, s0, s1, os, ox) ∧ Fr LM hp hp')) mX12_noise 47 [some (.ref 61), some (.long (x0)), none, some (.int (nI m)), some (.int (nI (cs.length))), some (.long (x)), none, some (.int (nI j)), lo] [] hz 0 0 := by
  intro d
  induction d with
  | zero =>
    intro j hz es x lo hj hM hT hl hR hF
    have hes : es = noi m x0 cs := by rw [hR]; rfl
    subst hes
    obtain ⟨nx, tl, sl, st, M0, MM, MN, MT, MD, MK, MO, A70, A71, A72, A73, A74, A75, A76, A77⟩ := id hM
    refine R_iload dX12_noise_47 rfl ?_
    refine R_iload_n dX12_noise_49 rfl rfl ?_
    refine N_icmp_ge (tgt := 103) dX12_noise_50 (by decide) (by omega) (by omega) (fun _ => ?_) (fun hc => absurd hc (by omega))
    refine R_aload_n dX12_noise_103 rfl rfl ?_
    refine R_calli (As := []) (st := []) kX12_unlike lX12_171 (r_unlike hl hM hT) rfl M0 dX12_noise_104 rfl rfl (Nat.le_of_ble_eq_true rfl) ⟨by decide, by decide⟩ zX12_unlike ⟨Nat.le_refl _, Nat.le_refl _⟩ (fun wr3 wp2 wq1 => ?_)
    obtain ⟨rfl, hu1, hu2⟩ := wq1
    exact R_reti dX12_noise_107 rfl rfl rfl ⟨rfl, hu1, hF.trans hu2⟩
  | succ d ih =>
    intro j hz es x lo hj hM hT hl hR hF
    obtain ⟨nx, tl, sl, st, M0, MM, MN, MT, MD, MK, MO, A70, A71, A72, A73, A74, A75, A76, A77⟩ := id hM
    obtain ⟨hL, hC3, -⟩ := hT.ok
    obtain ⟨f, Ha, hR9⟩ := id hT
    have hj9 : nzW (nzA x) % cs.length < es.length := by rw [hl]; exact Nat.mod_lt _ hpos
    have hcj := hC3 es[nzW (nzA x) % cs.length] (List.getElem_mem hj9)
    refine R_iload dX12_noise_47 rfl ?_
    refine R_iload_n dX12_noise_49 rfl rfl ?_
    refine N_icmp_ge (tgt := 103) dX12_noise_50 (by decide) (by omega) (by omega) (fun hc => absurd hc (by omega)) (fun _ => ?_)
    refine R_lload dX12_noise_53 rfl ?_
    refine R_ldc2 dX12_noise_55 nX12_215 ?_
    refine R_lmul dX12_noise_58 ?_
    refine R_ldc2 dX12_noise_59 nX12_217 ?_
    refine R_ladd dX12_noise_62 ?_
    refine R_lstore (lv' := [some (.ref 61), some (.long (x0)), none, some (.int (nI m)), some (.int (nI (cs.length))), some (.long (((x) * (6364136223846793005)) + (1442695040888963407))), none, some (.int (nI j)), lo]) dX12_noise_63 (by decide) rfl ?_
    refine R_lload dX12_noise_65 rfl ?_
    refine R_bipush (v := (nI 33)) dX12_noise_67 (by decide) ?_
    refine R_lushr dX12_noise_69 rfl ?_
    refine R_l2i dX12_noise_70 ?_
    have ew := nzW_I (nzA x)
    rw [show (x * 6364136223846793005 + 1442695040888963407) = nzA x from rfl, ew]
    refine R_istore (lv' := [some (.ref 61), some (.long (x0)), none, some (.int (nI m)), some (.int (nI (cs.length))), some (.long (nzA x)), none, some (.int (nI j)), some (.int (nI (nzW (nzA x))))]) dX12_noise_71 (by decide) rfl ?_
    refine R_aload_n dX12_noise_73 rfl rfl ?_
    refine R_getf dX12_noise_74 gX12_16 M0 rfl ?_
    refine R_iconst (v := (nI 4)) dX12_noise_77 (by decide) ?_
    refine R_iload dX12_noise_78 rfl ?_
    refine R_iload dX12_noise_80 rfl ?_
    refine N_irem dX12_noise_82 (nzW_lt _) hpos (by omega) ?_
    refine N_iadd dX12_noise_83 ?_
    refine R_dup2 dX12_noise_84 rfl rfl ?_
    refine N_iald (y := (nI (es[nzW (nzA x) % cs.length]))) dX12_noise_85 Ha (by omega) (by decide) (hR9.to.2.2.2.2.1 _ hj9) ?_
    refine R_iconst (v := (nI 1)) dX12_noise_86 (by decide) ?_
    refine R_iload dX12_noise_87 rfl ?_
    refine R_bipush (v := (nI 96)) dX12_noise_89 (by decide) ?_
    refine N_idiv dX12_noise_91 (nzW_lt _) (by omega) (by omega) ?_
    refine R_iconst (v := (nI 5)) dX12_noise_92 (by decide) ?_
    refine N_irem dX12_noise_93 (by have := nzW_lt (nzA x); omega) (by omega) (by omega) ?_
    refine R_ishl dX12_noise_94 ?_
    refine R_ixor dX12_noise_95 ?_
    rw [xor_I es[nzW (nzA x) % cs.length] hcj (nzW (nzA x) / 96 % 5) (Nat.mod_lt _ (by omega))]
    obtain ⟨g2, eg2⟩ : ∃ y, y = upd f (4 + ((nzW (nzA x)) % (cs.length))) (nI (es[nzW (nzA x) % cs.length] ^^^ 2 ^ (nzW (nzA x) / 96 % 5))) := ⟨_, rfl⟩
    refine W_iast (f' := g2) dX12_noise_96 Ha (by omega) (by decide) eg2 (fun wp4 wH5 wE6 => ?_)
    have wH7 := (wE6 61 (by decide)).trans M0
    have wF8 : Fr [64] hz wp4 := Fr.one wE6 (by simp)
    have hq3 : RwAt wp4 64 (es.set (nzW (nzA x) % cs.length) (es[nzW (nzA x) % cs.length] ^^^ 2 ^ (nzW (nzA x) / 96 % 5)), sc, un, wd) := ⟨g2, wH5, by rw [eg2]; exact hR9.st hj9 (xor_lt hcj (Nat.mod_lt _ (by omega)))⟩
    have c9 := wF8.at (by decide) M0
    have c10 := MM.fr wF8 (by decide)
    have c11 := MN.fr wF8 (by decide)
    have c12 := MD.fr wF8 (by decide)
    have c13 := MK.fr wF8 (by decide) (by decide)
    have c14 := MO.fr wF8 (by decide) (by decide)
    have c15 := A70.fr wF8 (by decide)
    have c16 := A71.fr wF8 (by decide)
    have c17 := A72.fr wF8 (by decide)
    have c18 := A73.fr wF8 (by decide)
    have c19 := A74.fr wF8 (by decide)
    have c20 := A75.fr wF8 (by decide)
    have c21 := A76.fr wF8 (by decide)
    have c22 := A77.fr wF8 (by decide)
    have FF23 : Fr LM hp wp4 := hF.trans (wF8.mono (by decide))
    refine N_iinc (d := 1) (lv' := [some (.ref 61), some (.long (x0)), none, some (.int (nI m)), some (.int (nI (cs.length))), some (.long (nzA x)), none, some (.int (nI (j + 1))), some (.int (nI (nzW (nzA x))))]) dX12_noise_97 rfl rfl ?_
    refine R_goto (tgt := 47) dX12_noise_100 (by decide) ?_
    refine ih (j + 1) _ _ _ _ (by omega) ⟨_, _, _, _, c9, c10, c11, hq3.ax, c12, c13, c14, c15, c16, c17, c18, c19, c20, c21, c22⟩ hq3 (by rw [List.length_set]; exact hl) ?_ FF23
    rw [hR]; simp only [noi]; rw [hl, gD hj9]
set_option maxRecDepth 100000 in
set_option maxHeartbeats 4000000 in
theorem y_noise {ms : List Nat} {cs : List Nat} {sc un wd : Nat} {hs : List TP} {s0 s1 : Option TP} {os : List (Nat × Nat)} {ox : Nat} {x : Int64} {m : Int32} (hM : MJ hp (ms, (cs, sc, un, wd), hs, s0, s1, os, ox)) : SpI l X mX12_noise [.ref 61, .long (x), .int (m)] hp (fun r hp' => r = (f_noise (ms, (cs, sc, un, wd), hs, s0, s1, os, ox) x m).1 ∧ MJ hp' (f_noise (ms, (cs, sc, un, wd), hs, s0, s1, os, ox) x m).2 ∧ Fr LM hp hp') := by
  obtain ⟨nx, tl, sl, st, M0, MM, MN, MT, MD, MK, MO, A70, A71, A72, A73, A74, A75, A76, A77⟩ := hM
  obtain ⟨hL, hC3, hs1, hu1, hw1, hw2⟩ := MN.ok
  obtain ⟨hmL, hmC⟩ := MM.ok
  obtain ⟨hnx0, hsl0⟩ := MD.ok
  obtain ⟨hol0, hox0⟩ := MO.ok
  refine SpI.of pnX12 (Nat.le_of_ble_eq_true rfl) rfl ?_
  refine R_iload_n dX12_noise_0 rfl rfl ?_
  refine R_i2l dX12_noise_1 ?_
  refine R_lconst (v := 1) dX12_noise_2 (by decide) ?_
  refine R_ldc2 dX12_noise_3 nX12_213 ?_
  refine R_stati (As := [.long ((m).toInt64), .long (1), .long (60)]) (st := []) kX12_in lX12_67 (r_inW 1 60 rfl rfl (by decide) (by decide)) dX12_noise_6 rfl rfl (Nat.le_of_ble_eq_true rfl) ⟨by decide, by decide⟩ zX12_in ⟨Nat.le_refl _, Nat.le_refl _⟩ (fun wr3 wp2 wq1 => ?_)
  obtain ⟨rfl, rfl⟩ : wr3 = _ ∧ hp = wp2 := ⟨wq1.1, wq1.2.symm⟩
  cases hw4 : inW m 1 60 with
  | false =>
    show PZ _ _ _ _ _ _ (.int (nI 0) :: _) _ _ _
    refine N_if_ne (tgt := 15) dX12_noise_9 (by decide) (by decide) (fun hc => absurd hc (by decide)) (fun _ => ?_)
    have hf : f_noise (ms, (cs, sc, un, wd), hs, s0, s1, os, ox) x m = (-2, (ms, (cs, sc, un, wd), hs, s0, s1, os, ox)) := by unfold f_noise; dsimp only; rw [hw4]; rfl
    refine R_bipush (v := (-2)) dX12_noise_12 (by decide) ?_
    rw [hf]
    exact R_reti dX12_noise_14 rfl rfl rfl ⟨rfl, ⟨_, _, _, _, M0, MM, MN, MT, MD, MK, MO, A70, A71, A72, A73, A74, A75, A76, A77⟩, (Fr.rf (L := LM) (hp := hp))⟩
  | true =>
    show PZ _ _ _ _ _ _ (.int (nI 1) :: _) _ _ _
    obtain ⟨j, -, hj, rfl⟩ := inW_t (by decide) hw4
    refine N_if_ne (tgt := 15) dX12_noise_9 (by decide) (by decide) (fun _ => ?_) (fun hc => absurd hc (by decide))
    obtain ⟨f, Ha, hR⟩ := id MN
    obtain ⟨h0, h1, h2, h3, hf, -⟩ := hR.to
    refine R_aload_n dX12_noise_15 rfl rfl ?_
    refine R_getf dX12_noise_16 gX12_13 M0 rfl ?_
    refine R_iconst (v := (nI 0)) dX12_noise_19 (by decide) ?_
    refine N_iald (y := (nI (cs.length))) dX12_noise_20 Ha (by decide) (by decide) h0 ?_
    refine R_istore (lv' := [some (.ref 61), some (.long (x)), none, some (.int (nI j)), some (.int (nI (cs.length))), none, none, none, none]) dX12_noise_21 (by decide) rfl ?_
    refine R_iload dX12_noise_23 rfl ?_
    refine N_if_ne (tgt := 30) dX12_noise_25 (by decide) (by omega) (fun hn => ?_) (fun hn => ?_)
    · refine R_aload_n dX12_noise_30 rfl rfl ?_
      refine R_getf dX12_noise_31 gX12_13 M0 rfl ?_
      refine R_aload_n dX12_noise_34 rfl rfl ?_
      refine R_getf dX12_noise_35 gX12_16 M0 rfl ?_
      refine R_statv (As := [.ref 63, .ref 64]) (st := []) kX12_copy lX12_129 (r_cpR (by decide) MN MT) dX12_noise_38 rfl rfl (Nat.le_of_ble_eq_true rfl) ⟨by decide, by decide⟩ zX12_copy ⟨Nat.le_refl _, Nat.le_refl _⟩ (fun wp6 wq5 => ?_)
      obtain ⟨hq1, hq2⟩ := wq5
      have c8 := hq2.at (by decide) M0
      have c9 := MM.fr hq2 (by decide)
      have c10 := MN.fr hq2 (by decide)
      have c11 := MD.fr hq2 (by decide)
      have c12 := MK.fr hq2 (by decide) (by decide)
      have c13 := MO.fr hq2 (by decide) (by decide)
      have c14 := A70.fr hq2 (by decide)
      have c15 := A71.fr hq2 (by decide)
      have c16 := A72.fr hq2 (by decide)
      have c17 := A73.fr hq2 (by decide)
      have c18 := A74.fr hq2 (by decide)
      have c19 := A75.fr hq2 (by decide)
      have c20 := A76.fr hq2 (by decide)
      have c21 := A77.fr hq2 (by decide)
      have FF22 : Fr LM hp wp6 := (Fr.rf (L := LM) (hp := hp)).trans (hq2.mono (by decide))
      refine R_lload_n dX12_noise_41 rfl rfl ?_
      refine R_lstore (lv' := [some (.ref 61), some (.long (x)), none, some (.int (nI j)), some (.int (nI (cs.length))), some (.long (x)), none, none, none]) dX12_noise_42 (by decide) rfl ?_
      refine R_iconst (v := (nI 0)) dX12_noise_44 (by decide) ?_
      refine R_istore (lv' := [some (.ref 61), some (.long (x)), none, some (.int (nI j)), some (.int (nI (cs.length))), some (.long (x)), none, some (.int (nI 0)), none]) dX12_noise_45 (by decide) rfl ?_
      have hf9 : f_noise (ms, (cs, sc, un, wd), hs, s0, s1, os, ox) x (nI j) = (nI (diffC un sc sc cs (noi j x cs)), (ms, (cs, sc, un, wd), hs, s0, s1, os, ox)) := by unfold f_noise; dsimp only; rw [hw4, if_pos rfl, if_neg hn, vN_n (by omega)]
      rw [hf9]
      exact r_nzL hj (Nat.pos_of_ne_zero hn) j 0 _ cs x none (by omega) ⟨_, _, _, _, c8, c9, c10, hq1.ax, c11, c12, c13, c14, c15, c16, c17, c18, c19, c20, c21⟩ hq1 rfl rfl FF22
    · have hn0 : cs = [] := List.length_eq_zero_iff.mp hn
      subst hn0
      refine R_iconst (v := (nI 0)) dX12_noise_28 (by decide) ?_
      have hf9 : f_noise (ms, ([], sc, un, wd), hs, s0, s1, os, ox) x (nI j) = (nI 0, (ms, ([], sc, un, wd), hs, s0, s1, os, ox)) := by unfold f_noise; dsimp only; rw [hw4]; rfl
      rw [hf9]
      exact R_reti dX12_noise_29 rfl rfl rfl ⟨rfl, ⟨_, _, _, _, M0, MM, MN, MT, MD, MK, MO, A70, A71, A72, A73, A74, A75, A76, A77⟩, (Fr.rf (L := LM) (hp := hp))⟩
set_option maxRecDepth 100000 in
set_option maxHeartbeats 4000000 in
theorem r_psI {Z : ZT} {ms cs : List Nat} {hs : List TP} {os : List (Nat × Nat)} {ox nx k : Nat} {ps tl st : Int32} {hz : HPt} (M0 : hz[61]? = some (ob 11 [.ref 62, .int (nI (ms.length)), .ref 63, .ref 64, .ref 65, .int (nI (hs.length)), .int (nI nx), .ref 66, .ref 67, .ref 68, .ref 69, .int (nI (os.length)), .int (nI ox), .ref 70, .ref 71, .ref 72, .ref 73, .ref 74, .int (tl), .ref 75, .int (nI ((txt (k / 2) (k % 2) cs).length)), .ref 76, .int (st), .ref 77])) (MO : ObA hz os ox) {t : Nat → Int32} (H75 : hz[75]? = some (ia 96 t)) (ht : ∀ (q : Nat) (hq : q < (txt (k / 2) (k % 2) cs).length), t q = nI (txt (k / 2) (k % 2) cs)[q]) (hcl : cs.length ≤ 96) (K : ∀ lo : Option Value, PZ l X Z mX12_possibleSettings 112 [some (.ref 61), some (.int (ps)), some (.int (nI k)), some (.int (bz (obsH (txt (k / 2) (k % 2) cs) os))), lo] [] hz 0 0) : ∀ (d j : Nat) (v : Bool), j + d = os.length → obsH (txt (k / 2) (k % 2) cs) os = (v && obsH (txt (k / 2) (k % 2) cs) (os.drop j)) → PZ l X Z mX12_possibleSettings 51 [some (.ref 61), some (.int (ps)), some (.int (nI k)), some (.int (bz v)), some (.int (nI j))] [] hz 0 0 := by
  obtain ⟨f, g, Hf, Hg, hfo, hoL, hox, hnl, hoC⟩ := MO
  have htl := txt_len (k / 2) cs (k % 2)
  intro d
  induction d with
  | zero =>
    intro j v hj hv
    have hve : obsH (txt (k / 2) (k % 2) cs) os = v := by rw [hv, List.drop_eq_nil_of_le (by omega)]; simp [obsH]
    refine R_iload dX12_possibleSettings_51 rfl ?_
    refine R_aload_n dX12_possibleSettings_53 rfl rfl ?_
    refine R_getf dX12_possibleSettings_54 gX12_210 M0 rfl ?_
    refine N_icmp_ge (tgt := 112) dX12_possibleSettings_57 (by decide) (by omega) (by omega) (fun _ => ?_) (fun hc => absurd hc (by omega))
    rw [← hve]
    exact K _
  | succ d ih =>
    intro j v hj hv
    have hoj := hoC os[j] (List.getElem_mem (by omega))
    have hcs : obsH (txt (k / 2) (k % 2) cs) (os.drop j) = (decide (os[j].1 < (txt (k / 2) (k % 2) cs).length ∧ (txt (k / 2) (k % 2) cs).getD os[j].1 0 = os[j].2) && obsH (txt (k / 2) (k % 2) cs) (os.drop (j + 1))) := by rw [drop_c (cs := os) (by omega)]; rfl
    refine R_iload dX12_possibleSettings_51 rfl ?_
    refine R_aload_n dX12_possibleSettings_53 rfl rfl ?_
    refine R_getf dX12_possibleSettings_54 gX12_210 M0 rfl ?_
    refine N_icmp_ge (tgt := 112) dX12_possibleSettings_57 (by decide) (by omega) (by omega) (fun hc => absurd hc (by omega)) (fun _ => ?_)
    refine R_iload_n dX12_possibleSettings_60 rfl rfl ?_
    cases v with
    | false =>
      show PZ _ _ _ _ _ _ (.int (nI 0) :: _) _ _ _
      refine N_if_eq (tgt := 104) dX12_possibleSettings_61 (by decide) (by decide) (fun _ => ?_) (fun hc => absurd hc (by decide))
      refine R_iconst (v := (nI 0)) dX12_possibleSettings_104 (by decide) ?_
      refine R_istore_n (lv' := [some (.ref 61), some (.int (ps)), some (.int (nI k)), some (.int (nI 0)), some (.int (nI j))]) dX12_possibleSettings_105 rfl (by decide) rfl ?_
      refine N_iinc (d := 1) (lv' := [some (.ref 61), some (.int (ps)), some (.int (nI k)), some (.int (nI 0)), some (.int (nI (j + 1)))]) dX12_possibleSettings_106 rfl rfl ?_
      refine R_goto (tgt := 51) dX12_possibleSettings_109 (by decide) ?_
      exact ih (j + 1) false (by omega) (by rw [hv]; rfl)
    | true =>
      show PZ _ _ _ _ _ _ (.int (nI 1) :: _) _ _ _
      refine N_if_eq (tgt := 104) dX12_possibleSettings_61 (by decide) (by decide) (fun hc => absurd hc (by decide)) (fun _ => ?_)
      refine R_aload_n dX12_possibleSettings_64 rfl rfl ?_
      refine R_getf dX12_possibleSettings_65 gX12_29 M0 rfl ?_
      refine R_iload dX12_possibleSettings_68 rfl ?_
      refine N_iald (y := (nI (os[j].1))) dX12_possibleSettings_70 Hf (by omega) (by decide) (hfo j (by omega)).1 ?_
      refine R_aload_n dX12_possibleSettings_71 rfl rfl ?_
      refine R_getf dX12_possibleSettings_72 gX12_87 M0 rfl ?_
      refine N_icmp_ge (tgt := 104) dX12_possibleSettings_75 (by decide) (by omega) (by omega) (fun hlt => ?_) (fun hlt => ?_)
      · refine R_iconst (v := (nI 0)) dX12_possibleSettings_104 (by decide) ?_
        refine R_istore_n (lv' := [some (.ref 61), some (.int (ps)), some (.int (nI k)), some (.int (nI 0)), some (.int (nI j))]) dX12_possibleSettings_105 rfl (by decide) rfl ?_
        refine N_iinc (d := 1) (lv' := [some (.ref 61), some (.int (ps)), some (.int (nI k)), some (.int (nI 0)), some (.int (nI (j + 1)))]) dX12_possibleSettings_106 rfl rfl ?_
        refine R_goto (tgt := 51) dX12_possibleSettings_109 (by decide) ?_
        exact ih (j + 1) false (by omega) (by rw [hv, hcs, decide_eq_false (fun z9 => absurd z9.1 (by omega))]; rfl)
      · have hlt2 : os[j].1 < (txt (k / 2) (k % 2) cs).length := by omega
        have hch := txt_lt (k / 2) cs (k % 2) (txt (k / 2) (k % 2) cs)[os[j].1] (List.getElem_mem hlt2)
        refine R_aload_n dX12_possibleSettings_78 rfl rfl ?_
        refine R_getf dX12_possibleSettings_79 gX12_50 M0 rfl ?_
        refine R_aload_n dX12_possibleSettings_82 rfl rfl ?_
        refine R_getf dX12_possibleSettings_83 gX12_29 M0 rfl ?_
        refine R_iload dX12_possibleSettings_86 rfl ?_
        refine N_iald (y := (nI (os[j].1))) dX12_possibleSettings_88 Hf (by omega) (by decide) (hfo j (by omega)).1 ?_
        refine N_iald (y := (nI ((txt (k / 2) (k % 2) cs)[os[j].1]))) dX12_possibleSettings_89 H75 (by omega) (by decide) (ht _ (by omega)) ?_
        refine R_aload_n dX12_possibleSettings_90 rfl rfl ?_
        refine R_getf dX12_possibleSettings_91 gX12_32 M0 rfl ?_
        refine R_iload dX12_possibleSettings_94 rfl ?_
        refine N_iald (y := (nI (os[j].2))) dX12_possibleSettings_96 Hg (by omega) (by decide) (hfo j (by omega)).2 ?_
        refine N_icmp_ne (tgt := 104) dX12_possibleSettings_97 (by decide) (by omega) (by omega) (fun heq => ?_) (fun heq => ?_)
        · refine R_iconst (v := (nI 0)) dX12_possibleSettings_104 (by decide) ?_
          refine R_istore_n (lv' := [some (.ref 61), some (.int (ps)), some (.int (nI k)), some (.int (nI 0)), some (.int (nI j))]) dX12_possibleSettings_105 rfl (by decide) rfl ?_
          refine N_iinc (d := 1) (lv' := [some (.ref 61), some (.int (ps)), some (.int (nI k)), some (.int (nI 0)), some (.int (nI (j + 1)))]) dX12_possibleSettings_106 rfl rfl ?_
          refine R_goto (tgt := 51) dX12_possibleSettings_109 (by decide) ?_
          exact ih (j + 1) false (by omega) (by rw [hv, hcs, decide_eq_false (fun z9 => heq (by rw [gD hlt2] at z9; exact z9.2))]; rfl)
        · refine R_iconst (v := (nI 1)) dX12_possibleSettings_100 (by decide) ?_
          refine R_goto (tgt := 105) dX12_possibleSettings_101 (by decide) ?_
          refine R_istore_n (lv' := [some (.ref 61), some (.int (ps)), some (.int (nI k)), some (.int (nI 1)), some (.int (nI j))]) dX12_possibleSettings_105 rfl (by decide) rfl ?_
          refine N_iinc (d := 1) (lv' := [some (.ref 61), some (.int (ps)), some (.int (nI k)), some (.int (nI 1)), some (.int (nI (j + 1)))]) dX12_possibleSettings_106 rfl rfl ?_
          refine R_goto (tgt := 51) dX12_possibleSettings_109 (by decide) ?_
          exact ih (j + 1) true (by omega) (by rw [hv, hcs, decide_eq_true ⟨hlt2, by rw [gD hlt2]; exact heq⟩]; rfl)
set_option maxRecDepth 100000 in
set_option maxHeartbeats 4000000 in
theorem r_psL {ms : List Nat} {cs : List Nat} {sc un wd : Nat} {hs : List TP} {s0 s1 : Option TP} {os : List (Nat × Nat)} {ox : Nat} : ∀ (d k : Nat) (hz : HPt) (la lb : Option Value), k + d = 4 → MJ hz (ms, (cs, sc, un, wd), hs, s0, s1, os, ox) → Fr LM hp hz → PZ l X (MZi X mX12_possibleSettings (fun r hp' => r = (f_poss (ms, (cs, sc, un, wd), hs, s0, s1, os, ox)).1 ∧ MJ hp' (f_poss (ms, (cs, sc, un, wd), hs, s0, s1, os, ox)).2 ∧ Fr LM hp hp')) mX12_possibleSettings 4 [some (.ref 61), some (.int (nI (psS os cs k))), some (.int (nI k)), la, lb] [] hz 0 0 := by
  intro d
  induction d with
  | zero =>
    intro k hz la lb hk hM hF
    have hke : k = 4 := by omega
    subst hke
    obtain ⟨nx, tl, sl, st, M0, MM, MN, MT, MD, MK, MO, A70, A71, A72, A73, A74, A75, A76, A77⟩ := hM
    refine R_iload_n dX12_possibleSettings_4 rfl rfl ?_
    refine R_iconst (v := (nI 4)) dX12_possibleSettings_5 (by decide) ?_
    refine N_icmp_ge (tgt := 132) dX12_possibleSettings_6 (by decide) (by omega) (by omega) (fun _ => ?_) (fun hc => absurd hc (by omega))
    refine R_iload_n dX12_possibleSettings_132 rfl rfl ?_
    exact R_reti dX12_possibleSettings_133 rfl rfl rfl ⟨by unfold f_poss; simp [psS], ⟨_, _, _, _, M0, MM, MN, MT, MD, MK, MO, A70, A71, A72, A73, A74, A75, A76, A77⟩, hF⟩
  | succ d ih =>
    intro k hz la lb hk hM hF
    obtain ⟨nx, tl, sl, st, M0, MM, MN, MT, MD, MK, MO, A70, A71, A72, A73, A74, A75, A76, A77⟩ := hM
    obtain ⟨hL, hC3, hs1, hu1, hw1, hw2⟩ := MN.ok
    have hps := psS_lt os cs k
    have hp16 : 2 ^ k ≤ 8 := by have : 2 ^ k ≤ 2 ^ 3 := Nat.pow_le_pow_right (by omega) (by omega); omega
    refine R_iload_n dX12_possibleSettings_4 rfl rfl ?_
    refine R_iconst (v := (nI 4)) dX12_possibleSettings_5 (by decide) ?_
    refine N_icmp_ge (tgt := 132) dX12_possibleSettings_6 (by decide) (by omega) (by omega) (fun hc => absurd hc (by omega)) (fun _ => ?_)
    refine R_aload_n dX12_possibleSettings_9 rfl rfl ?_
    refine R_getf dX12_possibleSettings_10 gX12_13 M0 rfl ?_
    refine R_aload_n dX12_possibleSettings_13 rfl rfl ?_
    refine R_getf dX12_possibleSettings_14 gX12_16 M0 rfl ?_
    refine R_statv (As := [.ref 63, .ref 64]) (st := []) kX12_copy lX12_129 (r_cpR (by decide) MN MT) dX12_possibleSettings_17 rfl rfl (Nat.le_of_ble_eq_true rfl) ⟨by decide, by decide⟩ zX12_copy ⟨Nat.le_refl _, Nat.le_refl _⟩ (fun wp2 wq1 => ?_)
    obtain ⟨hq1, hq2⟩ := wq1
    have c4 := hq2.at (by decide) M0
    have c5 := MM.fr hq2 (by decide)
    have c6 := MN.fr hq2 (by decide)
    have c7 := MD.fr hq2 (by decide)
    have c8 := MK.fr hq2 (by decide) (by decide)
    have c9 := MO.fr hq2 (by decide) (by decide)
    have c10 := A70.fr hq2 (by decide)
    have c11 := A71.fr hq2 (by decide)
    have c12 := A72.fr hq2 (by decide)
    have c13 := A73.fr hq2 (by decide)
    have c14 := A74.fr hq2 (by decide)
    have c15 := A75.fr hq2 (by decide)
    have c16 := A76.fr hq2 (by decide)
    have c17 := A77.fr hq2 (by decide)
    have FF18 : Fr LM hp wp2 := hF.trans (hq2.mono (by decide))
    obtain ⟨f, Ha, hR9⟩ := id hq1
    obtain ⟨h0, h1, h2, h3, hf, -⟩ := hR9.to
    refine R_aload_n dX12_possibleSettings_20 rfl rfl ?_
    refine R_getf dX12_possibleSettings_21 gX12_16 c4 rfl ?_
    refine R_iconst (v := (nI 1)) dX12_possibleSettings_24 (by decide) ?_
    refine R_iload_n dX12_possibleSettings_25 rfl rfl ?_
    refine R_iconst (v := (nI 2)) dX12_possibleSettings_26 (by decide) ?_
    refine N_irem dX12_possibleSettings_27 (by omega) (by omega) (by omega) ?_
    obtain ⟨g1, eg1⟩ : ∃ y, y = upd f 1 (nI (k % 2)) := ⟨_, rfl⟩
    refine W_iast (f' := g1) dX12_possibleSettings_28 Ha (by decide) (by decide) eg1 (fun wp19 wH20 wE21 => ?_)
    have wH22 := (wE21 61 (by decide)).trans c4
    have wF23 : Fr [64] wp2 wp19 := Fr.one wE21 (by simp)
    refine R_aload_n dX12_possibleSettings_29 rfl rfl ?_
    refine R_getf dX12_possibleSettings_30 gX12_16 wH22 rfl ?_
    refine R_iconst (v := (nI 2)) dX12_possibleSettings_33 (by decide) ?_
    refine R_iload_n dX12_possibleSettings_34 rfl rfl ?_
    refine R_iconst (v := (nI 2)) dX12_possibleSettings_35 (by decide) ?_
    refine N_idiv dX12_possibleSettings_36 (by omega) (by omega) (by omega) ?_
    obtain ⟨g2, eg2⟩ : ∃ y, y = upd g1 2 (nI (k / 2)) := ⟨_, rfl⟩
    refine W_iast (f' := g2) dX12_possibleSettings_37 wH20 (by decide) (by decide) eg2 (fun wp24 wH25 wE26 => ?_)
    have wH27 := (wE26 61 (by decide)).trans wH22
    have wF28 : Fr [64] wp2 wp24 := wF23.trans (Fr.one wE26 (by simp))
    have hq3 : RwAt wp24 64 (cs, k % 2, k / 2, wd) := ⟨g2, wH25, RwH.to ⟨by rw [eg2, upd_n (by omega), eg1, upd_n (by omega)]; exact h0, by rw [eg2, upd_n (by omega), eg1, upd_s], by rw [eg2, upd_s], by rw [eg2, upd_n (by omega), eg1, upd_n (by omega)]; exact h3, fun i hi => by rw [eg2, upd_n (by omega), eg1, upd_n (by omega)]; exact hf i hi, hL, hC3, by omega, by omega, hw1, hw2⟩⟩
    have c29 := wF28.at (by decide) c4
    have c30 := c5.fr wF28 (by decide)
    have c31 := c6.fr wF28 (by decide)
    have c32 := c7.fr wF28 (by decide)
    have c33 := c8.fr wF28 (by decide) (by decide)
    have c34 := c9.fr wF28 (by decide) (by decide)
    have c35 := c10.fr wF28 (by decide)
    have c36 := c11.fr wF28 (by decide)
    have c37 := c12.fr wF28 (by decide)
    have c38 := c13.fr wF28 (by decide)
    have c39 := c14.fr wF28 (by decide)
    have c40 := c15.fr wF28 (by decide)
    have c41 := c16.fr wF28 (by decide)
    have c42 := c17.fr wF28 (by decide)
    have FF43 : Fr LM hp wp24 := FF18.trans (wF28.mono (by decide))
    refine R_aload_n dX12_possibleSettings_38 rfl rfl ?_
    refine R_aload_n dX12_possibleSettings_39 rfl rfl ?_
    refine R_getf dX12_possibleSettings_40 gX12_16 c29 rfl ?_
    refine R_callv (As := [.ref 64]) (st := []) kX12_laySecond lX12_149 (r_ls c29 hq3 c37 c38 c40) rfl c29 dX12_possibleSettings_43 rfl rfl (Nat.le_of_ble_eq_true rfl) ⟨by decide, by decide⟩ zX12_laySecond ⟨Nat.le_refl _, Nat.le_refl _⟩ (fun wp45 wq44 => ?_)
    obtain ⟨hk1, hk2, hk3⟩ := wq44
    have c47 := c30.fr hk3 (by decide)
    have c48 := c31.fr hk3 (by decide)
    have c49 := hq3.ax.fr hk3 (by decide)
    have c50 := c32.fr hk3 (by decide)
    have c51 := c33.fr hk3 (by decide) (by decide)
    have c52 := c34.fr hk3 (by decide) (by decide)
    have c53 := c35.fr hk3 (by decide)
    have c54 := c36.fr hk3 (by decide)
    have c55 := c39.fr hk3 (by decide)
    have c56 := c41.fr hk3 (by decide)
    have c57 := c42.fr hk3 (by decide)
    have FF58 : Fr LM hp wp45 := FF43.trans (hk3.mono (by decide))
    obtain ⟨ga, wa, ta, -, -, H75, -, -, hta⟩ := id hk2
    refine R_iconst (v := (nI 1)) dX12_possibleSettings_46 (by decide) ?_
    refine R_istore_n (lv' := [some (.ref 61), some (.int (nI (psS os cs k))), some (.int (nI k)), some (.int (nI 1)), lb]) dX12_possibleSettings_47 rfl (by decide) rfl ?_
    refine R_iconst (v := (nI 0)) dX12_possibleSettings_48 (by decide) ?_
    refine R_istore (lv' := [some (.ref 61), some (.int (nI (psS os cs k))), some (.int (nI k)), some (.int (nI 1)), some (.int (nI 0))]) dX12_possibleSettings_49 (by decide) rfl ?_
    refine r_psI hk1 c52 H75 hta hL (fun lo => ?_) os.length 0 true (by omega) rfl
    refine R_iload_n dX12_possibleSettings_112 rfl rfl ?_
    refine R_iload_n dX12_possibleSettings_113 rfl rfl ?_
    cases hh : obsH (txt (k / 2) (k % 2) cs) os with
    | false =>
      show PZ _ _ _ _ _ _ (.int (nI 0) :: _) _ _ _
      refine N_if_eq (tgt := 123) dX12_possibleSettings_114 (by decide) (by decide) (fun _ => ?_) (fun hc => absurd hc (by decide))
      refine R_iconst (v := (nI 0)) dX12_possibleSettings_123 (by decide) ?_
      refine R_ior dX12_possibleSettings_124 ?_
      rw [bor0 _ (by omega)]
      refine R_istore_n (lv' := [some (.ref 61), some (.int (nI (psS os cs k))), some (.int (nI k)), some (.int (bz false)), lo]) dX12_possibleSettings_125 rfl (by decide) rfl ?_
      refine N_iinc (d := 1) (lv' := [some (.ref 61), some (.int (nI (psS os cs k))), some (.int (nI (k + 1))), some (.int (bz false)), lo]) dX12_possibleSettings_126 rfl rfl ?_
      refine R_goto (tgt := 4) dX12_possibleSettings_129 (by decide) ?_
      have hps2 : psS os cs (k + 1) = psS os cs k := by simp only [psS, psb]; rw [hh]; rfl
      have h9 := ih (k + 1) _ (some (.int (bz false))) lo (by omega) ⟨_, _, _, _, hk1, c47, c48, c49, c50, c51, c52, c53, c54, hk2.x1, hk2.x2, c55, hk2.x3, c56, c57⟩ FF58
      rw [hps2] at h9
      exact h9
    | true =>
      show PZ _ _ _ _ _ _ (.int (nI 1) :: _) _ _ _
      refine N_if_eq (tgt := 123) dX12_possibleSettings_114 (by decide) (by decide) (fun hc => absurd hc (by decide)) (fun _ => ?_)
      refine R_iconst (v := (nI 1)) dX12_possibleSettings_117 (by decide) ?_
      refine R_iload_n dX12_possibleSettings_118 rfl rfl ?_
      refine R_ishl dX12_possibleSettings_119 ?_
      refine R_goto (tgt := 124) dX12_possibleSettings_120 (by decide) ?_
      refine R_ior dX12_possibleSettings_124 ?_
      rw [b_or k (by omega) _ hps]
      refine R_istore_n (lv' := [some (.ref 61), some (.int (nI (psS os cs k + 2 ^ k))), some (.int (nI k)), some (.int (bz true)), lo]) dX12_possibleSettings_125 rfl (by decide) rfl ?_
      refine N_iinc (d := 1) (lv' := [some (.ref 61), some (.int (nI (psS os cs k + 2 ^ k))), some (.int (nI (k + 1))), some (.int (bz true)), lo]) dX12_possibleSettings_126 rfl rfl ?_
      refine R_goto (tgt := 4) dX12_possibleSettings_129 (by decide) ?_
      have hps2 : psS os cs (k + 1) = psS os cs k + 2 ^ k := by simp only [psS, psb]; rw [if_pos hh]
      have h9 := ih (k + 1) _ (some (.int (bz true))) lo (by omega) ⟨_, _, _, _, hk1, c47, c48, c49, c50, c51, c52, c53, c54, hk2.x1, hk2.x2, c55, hk2.x3, c56, c57⟩ FF58
      rw [hps2] at h9
      exact h9
set_option maxRecDepth 100000 in
set_option maxHeartbeats 4000000 in
theorem y_poss {ms : List Nat} {cs : List Nat} {sc un wd : Nat} {hs : List TP} {s0 s1 : Option TP} {os : List (Nat × Nat)} {ox : Nat} (hM : MJ hp (ms, (cs, sc, un, wd), hs, s0, s1, os, ox)) : SpI l X mX12_possibleSettings [.ref 61] hp (fun r hp' => r = (f_poss (ms, (cs, sc, un, wd), hs, s0, s1, os, ox)).1 ∧ MJ hp' (f_poss (ms, (cs, sc, un, wd), hs, s0, s1, os, ox)).2 ∧ Fr LM hp hp') := by
  obtain ⟨nx, tl, sl, st, M0, MM, MN, MT, MD, MK, MO, A70, A71, A72, A73, A74, A75, A76, A77⟩ := hM
  obtain ⟨hL, hC3, hs1, hu1, hw1, hw2⟩ := MN.ok
  obtain ⟨hmL, hmC⟩ := MM.ok
  obtain ⟨hnx0, hsl0⟩ := MD.ok
  obtain ⟨hol0, hox0⟩ := MO.ok
  refine SpI.of pnX12 (Nat.le_of_ble_eq_true rfl) rfl ?_
  refine R_iconst (v := (nI 0)) dX12_possibleSettings_0 (by decide) ?_
  refine R_istore_n (lv' := [some (.ref 61), some (.int (nI 0)), none, none, none]) dX12_possibleSettings_1 rfl (by decide) rfl ?_
  refine R_iconst (v := (nI 0)) dX12_possibleSettings_2 (by decide) ?_
  refine R_istore_n (lv' := [some (.ref 61), some (.int (nI 0)), some (.int (nI 0)), none, none]) dX12_possibleSettings_3 rfl (by decide) rfl ?_
  exact r_psL 4 0 hp none none (by omega) ⟨_, _, _, _, M0, MM, MN, MT, MD, MK, MO, A70, A71, A72, A73, A74, A75, A76, A77⟩ Fr.rf
end R36
