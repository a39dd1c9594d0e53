/-! The reference: the case if some shifts are lost -/
def hasB (s n : Nat) : Bool := decide (s / 2 ^ n % 2 = 1)
theorem has_tab : ∀ s, s < 512 → ∀ n, n < 10 → nI s >>> (nI n &&& 31) &&& nI 1 = nI (s / 2 ^ n % 2) := by decide +kernel
def cBs (un s : Nat) (q : Nat × Nat) (c : Nat) : Nat × Nat := if shB c = true then (if hasB s q.2 = true then (q.1, q.2 + 1) else (cAft un c q.1, q.2 + 1)) else (cAft un c q.1, q.2)
/-- the case and the count of shifts after a list, from a case and a count -/
def cBu (un s : Nat) (q : Nat × Nat) (L : List Nat) : Nat × Nat := L.foldl (cBs un s) q
theorem cBu_s {un s : Nat} {q : Nat × Nat} {cs : List Nat} {j : Nat} (h : j < cs.length) : cBu un s q (cs.take (j + 1)) = cBs un s (cBu un s q (cs.take j)) cs[j] := by unfold cBu; rw [take_s h, List.foldl_append]; rfl
theorem cBu_n (un s : Nat) : ∀ (L : List Nat) (q : Nat × Nat), (cBu un s q L).2 = q.2 + nsh L
  | [], q => rfl
  | c :: t, q => by
    have := cBu_n un s t (cBs un s q c)
    show (cBu un s (cBs un s q c) t).2 = _
    rw [this]; simp only [nsh]; unfold cBs
    by_cases h : shB c = true
    · rw [if_pos h, if_pos h]; split <;> (simp only []; omega)
    · rw [if_neg h, if_neg h]; simp only []; omega
theorem cBu_1 (un s : Nat) : ∀ (L : List Nat) (q : Nat × Nat), q.1 ≤ 1 → (cBu un s q L).1 ≤ 1
  | [], q, h => h
  | c :: t, q, h => by
    refine cBu_1 un s t (cBs un s q c) ?_
    unfold cBs
    split
    · split
      · exact h
      · exact cAft_le h
    · exact cAft_le h
theorem nsh_mono {cs : List Nat} {j i : Nat} (h : j ≤ i) : nsh (cs.take j) ≤ nsh (cs.take i) := by
  have e : cs.take i = cs.take j ++ (cs.drop j).take (i - j) := by
    rw [show i = j + (i - j) by omega, List.take_add]; congr 2; omega
  rw [e, nsh_app]; omega
section R45
variable {l : Launch} {X : EX} {hp : HPt}
set_option maxRecDepth 100000 in
set_option maxHeartbeats 4000000 in
theorem r_has {s n : Nat} (hs : s < 512) (hn : n < 10) : SpI l X mX12_has [.int (nI s), .int (nI n)] hp (fun r hp' => r = bz (hasB s n) ∧ hp' = hp) := by
  have ht := has_tab s hs n hn
  have hm : s / 2 ^ n % 2 < 2 := Nat.mod_lt _ (by decide)
  refine SpI.of pnX12 (Nat.le_of_ble_eq_true rfl) rfl ?_
  refine R_iload_n dX12_has_0 rfl rfl ?_
  refine R_iload_n dX12_has_1 rfl rfl ?_
  refine R_ishr dX12_has_2 ?_
  refine R_iconst (v := (nI 1)) dX12_has_3 (by decide) ?_
  refine R_iand dX12_has_4 ?_
  rw [ht]
  refine R_iconst (v := (nI 1)) dX12_has_5 (by decide) ?_
  refine N_icmp_ne (tgt := 13) dX12_has_6 (by decide) (by omega) (by omega) (fun h => ?_) (fun h => ?_)
  · refine R_iconst (v := (nI 0)) dX12_has_13 (by decide) ?_
    exact R_retz dX12_has_14 rfl rfl rfl rfl ⟨bz_c0 h, rfl⟩
  · refine R_iconst (v := (nI 1)) dX12_has_9 (by decide) ?_
    refine R_goto (tgt := 14) dX12_has_10 (by decide) ?_
    exact R_retz dX12_has_14 rfl rfl rfl rfl ⟨bz_c1 h, rfl⟩
set_option maxRecDepth 100000 in
set_option maxHeartbeats 4000000 in
theorem r_cbL {cs : List Nat} {sc un wd i s : Nat} {ln ac nxx sn sx tl sl st : Int32} (hi : i ≤ cs.length) (hs9 : s < 512) (hn9 : nsh (cs.take i) ≤ 9) (H0 : hp[61]? = some (ob 11 [.ref 62, .int (ln), .ref 63, .ref 64, .ref 65, .int (ac), .int (nxx), .ref 66, .ref 67, .ref 68, .ref 69, .int (sn), .int (sx), .ref 70, .ref 71, .ref 72, .ref 73, .ref 74, .int (tl), .ref 75, .int (sl), .ref 76, .int (st), .ref 77])) (H : RwAt hp 63 (cs, sc, un, wd)) : ∀ (d j : Nat) (la lb : Option Value), j + d = i → PZ l X (MZi X mX12_caseBut (fun r hp' => r = nI (cBu un s (sc, 0) (cs.take i)).1 ∧ hp' = hp)) mX12_caseBut 13 [some (.ref 61), some (.int (nI i)), some (.int (nI s)), some (.int (nI ((cBu un s (sc, 0) (cs.take j)).1))), some (.int (nI ((cBu un s (sc, 0) (cs.take j)).2))), some (.int (nI j)), la, lb] [] hp 0 0 := by
  obtain ⟨hL, hC3, hs1, hu1, -⟩ := H.ok
  obtain ⟨f, Ha, hR⟩ := H
  obtain ⟨h0, h1, h2, h3, hf, -⟩ := hR.to
  intro d
  induction d with
  | zero =>
    intro j la lb hj
    have hje : j = i := by omega
    subst hje
    refine R_iload dX12_caseBut_13 rfl ?_
    refine R_iload_n dX12_caseBut_15 rfl rfl ?_
    refine N_icmp_ge (tgt := 100) dX12_caseBut_16 (by decide) (by omega) (by omega) (fun _ => ?_) (fun hc => absurd hc (by omega))
    refine R_iload_n dX12_caseBut_100 rfl rfl ?_
    exact R_reti dX12_caseBut_101 rfl rfl rfl ⟨rfl, rfl⟩
  | succ d ih =>
    intro j la lb hj
    have hjl : j < cs.length := by omega
    have hc := hC3 cs[j] (List.getElem_mem hjl)
    have hst := cBu_s (un := un) (s := s) (q := (sc, 0)) hjl
    have hn2 := cBu_n un s (cs.take j) (sc, 0)
    have hp2 := cBu_1 un s (cs.take j) (sc, 0) hs1
    have hmo := nsh_mono (cs := cs) (j := j) (i := i) (by omega)
    obtain ⟨q, eq⟩ : ∃ q, q = cBu un s (sc, 0) (cs.take j) := ⟨_, rfl⟩
    rw [← eq] at hst hn2 hp2 ⊢
    have hq9 : q.2 ≤ 9 := by simp only [] at hn2; omega
    unfold cBs at hst
    refine R_iload dX12_caseBut_13 rfl ?_
    refine R_iload_n dX12_caseBut_15 rfl rfl ?_
    refine N_icmp_ge (tgt := 100) dX12_caseBut_16 (by decide) (by omega) (by omega) (fun hc => absurd hc (by omega)) (fun _ => ?_)
    refine R_aload_n dX12_caseBut_19 rfl rfl ?_
    refine R_getf dX12_caseBut_20 gX12_13 H0 rfl ?_
    refine R_iconst (v := (nI 4)) dX12_caseBut_23 (by decide) ?_
    refine R_iload dX12_caseBut_24 rfl ?_
    refine N_iadd dX12_caseBut_26 ?_
    refine N_iald (y := (nI (cs[j]))) dX12_caseBut_27 Ha (by omega) (by decide) (hf j hjl) ?_
    refine R_istore (lv' := [some (.ref 61), some (.int (nI i)), some (.int (nI s)), some (.int (nI (q.1))), some (.int (nI (q.2))), some (.int (nI j)), some (.int (nI (cs[j]))), lb]) dX12_caseBut_28 (by decide) rfl ?_
    refine R_iload dX12_caseBut_30 rfl ?_
    refine R_stati (As := [.int (nI (cs[j]))]) (st := []) kX12_isShift lX12_174 (r_ish hc) dX12_caseBut_32 rfl rfl (Nat.le_of_ble_eq_true rfl) ⟨by decide, by decide⟩ zX12_isShift ⟨Nat.le_refl _, Nat.le_refl _⟩ (fun wr3 wp2 wq1 => ?_)
    obtain ⟨rfl, rfl⟩ : wr3 = _ ∧ hp = wp2 := ⟨wq1.1, wq1.2.symm⟩
    cases hsh : shB cs[j] with
    | false =>
      show PZ _ _ _ _ _ _ (.int (nI 0) :: _) _ _ _
      rw [hsh, if_neg (by decide)] at hst
      refine N_if_eq (tgt := 51) dX12_caseBut_35 (by decide) (by decide) (fun _ => ?_) (fun hc => absurd hc (by decide))
      refine R_iconst (v := (nI 0)) dX12_caseBut_51 (by decide) ?_
      refine R_istore (lv' := [some (.ref 61), some (.int (nI i)), some (.int (nI s)), some (.int (nI (q.1))), some (.int (nI (q.2))), some (.int (nI j)), some (.int (nI (cs[j]))), some (.int (nI 0))]) dX12_caseBut_52 (by decide) rfl ?_
      refine R_iload dX12_caseBut_54 rfl ?_
      refine R_iload dX12_caseBut_56 rfl ?_
      refine R_stati (As := [.int (nI (cs[j]))]) (st := [.int (nI (q.2))]) kX12_isShift lX12_174 (r_ish hc) dX12_caseBut_58 rfl rfl (Nat.le_of_ble_eq_true rfl) ⟨by decide, by decide⟩ zX12_isShift ⟨Nat.le_refl _, Nat.le_refl _⟩ (fun wr6 wp5 wq4 => ?_)
      obtain ⟨rfl, rfl⟩ : wr6 = _ ∧ hp = wp5 := ⟨wq4.1, wq4.2.symm⟩
      rw [hsh]
      show PZ _ _ _ _ _ _ (.int (nI 0) :: _) _ _ _
      refine N_if_eq (tgt := 68) dX12_caseBut_61 (by decide) (by decide) (fun _ => ?_) (fun hc => absurd hc (by decide))
      refine R_iconst (v := (nI 0)) dX12_caseBut_68 (by decide) ?_
      refine N_iadd dX12_caseBut_69 ?_
      refine R_istore (lv' := [some (.ref 61), some (.int (nI i)), some (.int (nI s)), some (.int (nI (q.1))), some (.int (nI ((q.2) + 0))), some (.int (nI j)), some (.int (nI (cs[j]))), some (.int (nI 0))]) dX12_caseBut_70 (by decide) rfl ?_
      refine R_iload dX12_caseBut_72 rfl ?_
      refine N_if_eq (tgt := 81) dX12_caseBut_74 (by decide) (by decide) (fun _ => ?_) (fun hc => absurd hc (by decide))
      refine R_iload dX12_caseBut_81 rfl ?_
      refine R_iload_n dX12_caseBut_83 rfl rfl ?_
      refine R_aload_n dX12_caseBut_84 rfl rfl ?_
      refine R_getf dX12_caseBut_85 gX12_13 H0 rfl ?_
      refine R_iconst (v := (nI 2)) dX12_caseBut_88 (by decide) ?_
      refine N_iald (y := (nI un)) dX12_caseBut_89 Ha (by decide) (by decide) h2 ?_
      refine R_stati (As := [.int (nI (cs[j])), .int (nI (q.1)), .int (nI un)]) (st := []) kX12_caseAfter lX12_75 (r_aft hc hp2 hu1) dX12_caseBut_90 rfl rfl (Nat.le_of_ble_eq_true rfl) ⟨by decide, by decide⟩ zX12_caseAfter ⟨Nat.le_refl _, Nat.le_refl _⟩ (fun wr9 wp8 wq7 => ?_)
      obtain ⟨rfl, rfl⟩ : wr9 = _ ∧ hp = wp8 := ⟨wq7.1, wq7.2.symm⟩
      refine R_istore_n (lv' := [some (.ref 61), some (.int (nI i)), some (.int (nI s)), some (.int (nI (cAft un cs[j] q.1))), some (.int (nI ((q.2) + 0))), some (.int (nI j)), some (.int (nI (cs[j]))), some (.int (nI 0))]) dX12_caseBut_93 rfl (by decide) rfl ?_
      refine N_iinc (d := 1) (lv' := [some (.ref 61), some (.int (nI i)), some (.int (nI s)), some (.int (nI (cAft un cs[j] q.1))), some (.int (nI ((q.2) + 0))), some (.int (nI (j + 1))), some (.int (nI (cs[j]))), some (.int (nI 0))]) dX12_caseBut_94 rfl rfl ?_
      refine R_goto (tgt := 13) dX12_caseBut_97 (by decide) ?_
      have h9 := ih (j + 1) (some (.int (nI (cs[j])))) (some (.int (nI 0))) (by omega)
      rw [hst] at h9
      exact h9
    | true =>
      show PZ _ _ _ _ _ _ (.int (nI 1) :: _) _ _ _
      rw [hsh, if_pos rfl] at hst
      refine N_if_eq (tgt := 51) dX12_caseBut_35 (by decide) (by decide) (fun hc => absurd hc (by decide)) (fun _ => ?_)
      refine R_iload_n dX12_caseBut_38 rfl rfl ?_
      refine R_iload dX12_caseBut_39 rfl ?_
      refine R_stati (As := [.int (nI s), .int (nI (q.2))]) (st := []) kX12_has lX12_177 (r_has hs9 (by omega)) dX12_caseBut_41 rfl rfl (Nat.le_of_ble_eq_true rfl) ⟨by decide, by decide⟩ zX12_has ⟨Nat.le_refl _, Nat.le_refl _⟩ (fun wr12 wp11 wq10 => ?_)
      obtain ⟨rfl, rfl⟩ : wr12 = _ ∧ hp = wp11 := ⟨wq10.1, wq10.2.symm⟩
      cases hh : hasB s q.2 with
      | false =>
        show PZ _ _ _ _ _ _ (.int (nI 0) :: _) _ _ _
        rw [hh, if_neg (by decide)] at hst
        refine N_if_eq (tgt := 51) dX12_caseBut_44 (by decide) (by decide) (fun _ => ?_) (fun hc => absurd hc (by decide))
        refine R_iconst (v := (nI 0)) dX12_caseBut_51 (by decide) ?_
        refine R_istore (lv' := [some (.ref 61), some (.int (nI i)), some (.int (nI s)), some (.int (nI (q.1))), some (.int (nI (q.2))), some (.int (nI j)), some (.int (nI (cs[j]))), some (.int (nI 0))]) dX12_caseBut_52 (by decide) rfl ?_
        refine R_iload dX12_caseBut_54 rfl ?_
        refine R_iload dX12_caseBut_56 rfl ?_
        refine R_stati (As := [.int (nI (cs[j]))]) (st := [.int (nI (q.2))]) kX12_isShift lX12_174 (r_ish hc) dX12_caseBut_58 rfl rfl (Nat.le_of_ble_eq_true rfl) ⟨by decide, by decide⟩ zX12_isShift ⟨Nat.le_refl _, Nat.le_refl _⟩ (fun wr15 wp14 wq13 => ?_)
        obtain ⟨rfl, rfl⟩ : wr15 = _ ∧ hp = wp14 := ⟨wq13.1, wq13.2.symm⟩
        rw [hsh]
        show PZ _ _ _ _ _ _ (.int (nI 1) :: _) _ _ _
        refine N_if_eq (tgt := 68) dX12_caseBut_61 (by decide) (by decide) (fun hc => absurd hc (by decide)) (fun _ => ?_)
        refine R_iconst (v := (nI 1)) dX12_caseBut_64 (by decide) ?_
        refine R_goto (tgt := 69) dX12_caseBut_65 (by decide) ?_
        refine N_iadd dX12_caseBut_69 ?_
        refine R_istore (lv' := [some (.ref 61), some (.int (nI i)), some (.int (nI s)), some (.int (nI (q.1))), some (.int (nI ((q.2) + 1))), some (.int (nI j)), some (.int (nI (cs[j]))), some (.int (nI 0))]) dX12_caseBut_70 (by decide) rfl ?_
        refine R_iload dX12_caseBut_72 rfl ?_
        refine N_if_eq (tgt := 81) dX12_caseBut_74 (by decide) (by decide) (fun _ => ?_) (fun hc => absurd hc (by decide))
        refine R_iload dX12_caseBut_81 rfl ?_
        refine R_iload_n dX12_caseBut_83 rfl rfl ?_
        refine R_aload_n dX12_caseBut_84 rfl rfl ?_
        refine R_getf dX12_caseBut_85 gX12_13 H0 rfl ?_
        refine R_iconst (v := (nI 2)) dX12_caseBut_88 (by decide) ?_
        refine N_iald (y := (nI un)) dX12_caseBut_89 Ha (by decide) (by decide) h2 ?_
        refine R_stati (As := [.int (nI (cs[j])), .int (nI (q.1)), .int (nI un)]) (st := []) kX12_caseAfter lX12_75 (r_aft hc hp2 hu1) dX12_caseBut_90 rfl rfl (Nat.le_of_ble_eq_true rfl) ⟨by decide, by decide⟩ zX12_caseAfter ⟨Nat.le_refl _, Nat.le_refl _⟩ (fun wr18 wp17 wq16 => ?_)
        obtain ⟨rfl, rfl⟩ : wr18 = _ ∧ hp = wp17 := ⟨wq16.1, wq16.2.symm⟩
        refine R_istore_n (lv' := [some (.ref 61), some (.int (nI i)), some (.int (nI s)), some (.int (nI (cAft un cs[j] q.1))), some (.int (nI ((q.2) + 1))), some (.int (nI j)), some (.int (nI (cs[j]))), some (.int (nI 0))]) dX12_caseBut_93 rfl (by decide) rfl ?_
        refine N_iinc (d := 1) (lv' := [some (.ref 61), some (.int (nI i)), some (.int (nI s)), some (.int (nI (cAft un cs[j] q.1))), some (.int (nI ((q.2) + 1))), some (.int (nI (j + 1))), some (.int (nI (cs[j]))), some (.int (nI 0))]) dX12_caseBut_94 rfl rfl ?_
        refine R_goto (tgt := 13) dX12_caseBut_97 (by decide) ?_
        have h9 := ih (j + 1) (some (.int (nI (cs[j])))) (some (.int (nI 0))) (by omega)
        rw [hst] at h9
        exact h9
      | true =>
        show PZ _ _ _ _ _ _ (.int (nI 1) :: _) _ _ _
        rw [hh, if_pos rfl] at hst
        refine N_if_eq (tgt := 51) dX12_caseBut_44 (by decide) (by decide) (fun hc => absurd hc (by decide)) (fun _ => ?_)
        refine R_iconst (v := (nI 1)) dX12_caseBut_47 (by decide) ?_
        refine R_goto (tgt := 52) dX12_caseBut_48 (by decide) ?_
        refine R_istore (lv' := [some (.ref 61), some (.int (nI i)), some (.int (nI s)), some (.int (nI (q.1))), some (.int (nI (q.2))), some (.int (nI j)), some (.int (nI (cs[j]))), some (.int (nI 1))]) dX12_caseBut_52 (by decide) rfl ?_
        refine R_iload dX12_caseBut_54 rfl ?_
        refine R_iload dX12_caseBut_56 rfl ?_
        refine R_stati (As := [.int (nI (cs[j]))]) (st := [.int (nI (q.2))]) kX12_isShift lX12_174 (r_ish hc) dX12_caseBut_58 rfl rfl (Nat.le_of_ble_eq_true rfl) ⟨by decide, by decide⟩ zX12_isShift ⟨Nat.le_refl _, Nat.le_refl _⟩ (fun wr21 wp20 wq19 => ?_)
        obtain ⟨rfl, rfl⟩ : wr21 = _ ∧ hp = wp20 := ⟨wq19.1, wq19.2.symm⟩
        rw [hsh]
        show PZ _ _ _ _ _ _ (.int (nI 1) :: _) _ _ _
        refine N_if_eq (tgt := 68) dX12_caseBut_61 (by decide) (by decide) (fun hc => absurd hc (by decide)) (fun _ => ?_)
        refine R_iconst (v := (nI 1)) dX12_caseBut_64 (by decide) ?_
        refine R_goto (tgt := 69) dX12_caseBut_65 (by decide) ?_
        refine N_iadd dX12_caseBut_69 ?_
        refine R_istore (lv' := [some (.ref 61), some (.int (nI i)), some (.int (nI s)), some (.int (nI (q.1))), some (.int (nI ((q.2) + 1))), some (.int (nI j)), some (.int (nI (cs[j]))), some (.int (nI 1))]) dX12_caseBut_70 (by decide) rfl ?_
        refine R_iload dX12_caseBut_72 rfl ?_
        refine N_if_eq (tgt := 81) dX12_caseBut_74 (by decide) (by decide) (fun hc => absurd hc (by decide)) (fun _ => ?_)
        refine R_iload_n dX12_caseBut_77 rfl rfl ?_
        refine R_goto (tgt := 93) dX12_caseBut_78 (by decide) ?_
        refine R_istore_n (lv' := [some (.ref 61), some (.int (nI i)), some (.int (nI s)), some (.int (nI (q.1))), some (.int (nI ((q.2) + 1))), some (.int (nI j)), some (.int (nI (cs[j]))), some (.int (nI 1))]) dX12_caseBut_93 rfl (by decide) rfl ?_
        refine N_iinc (d := 1) (lv' := [some (.ref 61), some (.int (nI i)), some (.int (nI s)), some (.int (nI (q.1))), some (.int (nI ((q.2) + 1))), some (.int (nI (j + 1))), some (.int (nI (cs[j]))), some (.int (nI 1))]) dX12_caseBut_94 rfl rfl ?_
        refine R_goto (tgt := 13) dX12_caseBut_97 (by decide) ?_
        have h9 := ih (j + 1) (some (.int (nI (cs[j])))) (some (.int (nI 1))) (by omega)
        rw [hst] at h9
        exact h9
set_option maxRecDepth 100000 in
set_option maxHeartbeats 4000000 in
theorem r_cb {cs : List Nat} {sc un wd i s : Nat} {ln ac nxx sn sx tl sl st : Int32} (hi : i ≤ cs.length) (hs9 : s < 512) (hn9 : nsh (cs.take i) ≤ 9) (H0 : hp[61]? = some (ob 11 [.ref 62, .int (ln), .ref 63, .ref 64, .ref 65, .int (ac), .int (nxx), .ref 66, .ref 67, .ref 68, .ref 69, .int (sn), .int (sx), .ref 70, .ref 71, .ref 72, .ref 73, .ref 74, .int (tl), .ref 75, .int (sl), .ref 76, .int (st), .ref 77])) (H : RwAt hp 63 (cs, sc, un, wd)) : SpI l X mX12_caseBut [.ref 61, .int (nI i), .int (nI s)] hp (fun r hp' => r = nI (cBu un s (sc, 0) (cs.take i)).1 ∧ hp' = hp) := by
  obtain ⟨f, Ha, hR⟩ := id H
  refine SpI.of pnX12 (Nat.le_of_ble_eq_true rfl) rfl ?_
  refine R_aload_n dX12_caseBut_0 rfl rfl ?_
  refine R_getf dX12_caseBut_1 gX12_13 H0 rfl ?_
  refine R_iconst (v := (nI 1)) dX12_caseBut_4 (by decide) ?_
  refine N_iald (y := (nI sc)) dX12_caseBut_5 Ha (by decide) (by decide) hR.to.2.1 ?_
  refine R_istore_n (lv' := [some (.ref 61), some (.int (nI i)), some (.int (nI s)), some (.int (nI sc)), none, none, none, none]) dX12_caseBut_6 rfl (by decide) rfl ?_
  refine R_iconst (v := (nI 0)) dX12_caseBut_7 (by decide) ?_
  refine R_istore (lv' := [some (.ref 61), some (.int (nI i)), some (.int (nI s)), some (.int (nI sc)), some (.int (nI 0)), none, none, none]) dX12_caseBut_8 (by decide) rfl ?_
  refine R_iconst (v := (nI 0)) dX12_caseBut_10 (by decide) ?_
  refine R_istore (lv' := [some (.ref 61), some (.int (nI i)), some (.int (nI s)), some (.int (nI sc)), some (.int (nI 0)), some (.int (nI 0)), none, none]) dX12_caseBut_11 (by decide) rfl ?_
  exact r_cbL hi hs9 hn9 H0 H i 0 none none (by omega)
end R45
