/-! Script: commands on the copy (3, 4), with the text (47, 48, 49) -/
def cmdOk (T : TP) (g : Nat) : Bool := match T with
  | (cs, sc, un, _) => match g / 100 with
    | 1 => decide (g % 100 < 32) && decide (cs.length < 96)
    | 2 => decide (g % 100 < cs.length)
    | 3 => decide (g % 100 < 2)
    | 4 => decide (g % 100 < 2)
    | 5 => decide ((txt un sc cs).length = g % 100)
    | 6 => decide (g % 100 < cs.length) && decide (cAt un sc cs (g % 100) = 1)
    | 7 => decide (0 < (txt un sc cs).length) && decide ((txt un sc cs).getD ((txt un sc cs).length - 1) 0 = g % 100)
    | _ => false
def cmdT (T : TP) (g : Nat) : TP := if cmdOk T g = true then (match T with
  | (cs, sc, un, wd) => match g / 100 with
    | 1 => (cs ++ [g % 100], sc, un, wd)
    | 2 => (cs.eraseIdx (g % 100), sc, un, wd)
    | 3 => (cs, sc, g % 100, wd)
    | 4 => (cs, g % 100, un, wd)
    | _ => (cs, sc, un, wd)) else T
/-- the first command that fails: k counts on; none: -9 -/
def scrF : TP → List Nat → Nat → Int32
  | _, [], _ => -9
  | T, g :: t, k => if cmdOk T g = true then scrF (cmdT T g) t (k + 1) else nI k
section S22
variable {l : Launch} {X : EX} {hp : HPt} {cs : List Nat} {sc un wd : Nat}
set_option maxRecDepth 100000 in
set_option maxHeartbeats 4000000 in
theorem q_opt {v : Nat} (hv : v < 2) (hT : TpAt hp 3 4 (cs, sc, un, wd)) : SpI l X mX7_setsOption [.ref 3, .int (nI v)] hp (fun r hp' => r = nI 1 ∧ TpAt hp' 3 4 (cs, sc, v, wd) ∧ Fr [3, 4] hp hp') := by
  obtain ⟨f, Hh, Ha, hf, hL, hC, hs, hu, hw1, hw2⟩ := hT
  refine SpI.of pnX7 (Nat.le_of_ble_eq_true rfl) rfl ?_
  refine R_iload_n dX7_setsOption_0 rfl rfl ?_
  refine R_iconst (v := (nI 1)) dX7_setsOption_1 (by decide) ?_
  refine N_icmp_le (tgt := 7) dX7_setsOption_2 (by decide) (by omega) (by omega) (fun _ => ?_) (fun hc => absurd hc (by omega))
  refine R_aload_n dX7_setsOption_7 rfl rfl ?_
  refine R_iload_n dX7_setsOption_8 rfl rfl ?_
  refine W_puti (fs' := [.ref 4, .int (nI (cs.length)), .int (nI sc), .int (nI v), .int (nI wd)]) dX7_setsOption_9 pX7_60 Hh (Nat.le_of_ble_eq_true rfl) rfl (fun wp1 wH2 wE3 => ?_)
  have wH4 := (wE3 4 (by decide)).trans Ha
  have wF5 : Fr [3, 4] hp wp1 := Fr.one wE3 (by simp)
  refine R_iconst (v := (nI 1)) dX7_setsOption_12 (by decide) ?_
  exact R_retz dX7_setsOption_13 rfl rfl rfl rfl ⟨rfl, ⟨f, wH2, wH4, hf, hL, hC, hs, by omega, hw1, hw2⟩, wF5⟩
set_option maxRecDepth 100000 in
set_option maxHeartbeats 4000000 in
theorem q_optF {v : Nat} (hv : 2 ≤ v) (hb : v < 2 ^ 31) : SpI l X mX7_setsOption [.ref 3, .int (nI v)] hp (fun r hp' => r = nI 0 ∧ hp' = hp) := by
  refine SpI.of pnX7 (Nat.le_of_ble_eq_true rfl) rfl ?_
  refine R_iload_n dX7_setsOption_0 rfl rfl ?_
  refine R_iconst (v := (nI 1)) dX7_setsOption_1 (by decide) ?_
  refine N_icmp_le (tgt := 7) dX7_setsOption_2 (by decide) (by omega) (by omega) (fun hc => absurd hc (by omega)) (fun _ => ?_)
  refine R_iconst (v := (nI 0)) dX7_setsOption_5 (by decide) ?_
  exact R_retz dX7_setsOption_6 rfl rfl rfl rfl ⟨rfl, rfl⟩
set_option maxRecDepth 100000 in
set_option maxHeartbeats 4000000 in
theorem q_sta {v : Nat} (hv : v < 2) (hT : TpAt hp 3 4 (cs, sc, un, wd)) : SpI l X mX7_setsStartCase [.ref 3, .int (nI v)] hp (fun r hp' => r = nI 1 ∧ TpAt hp' 3 4 (cs, v, un, wd) ∧ Fr [3, 4] hp hp') := by
  obtain ⟨f, Hh, Ha, hf, hL, hC, hs, hu, hw1, hw2⟩ := hT
  refine SpI.of pnX7 (Nat.le_of_ble_eq_true rfl) rfl ?_
  refine R_iload_n dX7_setsStartCase_0 rfl rfl ?_
  refine R_iconst (v := (nI 1)) dX7_setsStartCase_1 (by decide) ?_
  refine N_icmp_le (tgt := 7) dX7_setsStartCase_2 (by decide) (by omega) (by omega) (fun _ => ?_) (fun hc => absurd hc (by omega))
  refine R_aload_n dX7_setsStartCase_7 rfl rfl ?_
  refine R_iload_n dX7_setsStartCase_8 rfl rfl ?_
  refine W_puti (fs' := [.ref 4, .int (nI (cs.length)), .int (nI v), .int (nI un), .int (nI wd)]) dX7_setsStartCase_9 pX7_63 Hh (Nat.le_of_ble_eq_true rfl) rfl (fun wp1 wH2 wE3 => ?_)
  have wH4 := (wE3 4 (by decide)).trans Ha
  have wF5 : Fr [3, 4] hp wp1 := Fr.one wE3 (by simp)
  refine R_iconst (v := (nI 1)) dX7_setsStartCase_12 (by decide) ?_
  exact R_retz dX7_setsStartCase_13 rfl rfl rfl rfl ⟨rfl, ⟨f, wH2, wH4, hf, hL, hC, by omega, hu, hw1, hw2⟩, wF5⟩
set_option maxRecDepth 100000 in
set_option maxHeartbeats 4000000 in
theorem q_staF {v : Nat} (hv : 2 ≤ v) (hb : v < 2 ^ 31) : SpI l X mX7_setsStartCase [.ref 3, .int (nI v)] hp (fun r hp' => r = nI 0 ∧ hp' = hp) := by
  refine SpI.of pnX7 (Nat.le_of_ble_eq_true rfl) rfl ?_
  refine R_iload_n dX7_setsStartCase_0 rfl rfl ?_
  refine R_iconst (v := (nI 1)) dX7_setsStartCase_1 (by decide) ?_
  refine N_icmp_le (tgt := 7) dX7_setsStartCase_2 (by decide) (by omega) (by omega) (fun hc => absurd hc (by omega)) (fun _ => ?_)
  refine R_iconst (v := (nI 0)) dX7_setsStartCase_5 (by decide) ?_
  exact R_retz dX7_setsStartCase_6 rfl rfl rfl rfl ⟨rfl, rfl⟩
set_option maxRecDepth 100000 in
set_option maxHeartbeats 4000000 in
theorem q_succ {g : Nat} {ts : List Nat} (hg : g < 1000) (hT : TpAt hp 3 4 (cs, sc, un, wd)) (hX : TxAt hp 47 48 49 ts) : SpI l X mX7_succeeds [.int (nI g), .ref 3, .ref 47] hp (fun r hp' => r = bz (cmdOk (cs, sc, un, wd) g) ∧ TpAt hp' 3 4 (cmdT (cs, sc, un, wd) g) ∧ (∃ ts, TxAt hp' 47 48 49 ts) ∧ Fr [3, 4, 47, 48] hp hp') := by
  have hT0 := hT
  have hX0 := hX
  obtain ⟨fx, gx, Hx, -⟩ := hX
  obtain ⟨f, Hh, Ha, hf, hL, hC, hs, hu, hw1, hw2⟩ := hT
  refine SpI.of pnX7 (Nat.le_of_ble_eq_true rfl) rfl ?_
  refine R_iload_n dX7_succeeds_0 rfl rfl ?_
  refine R_bipush (v := (nI 100)) dX7_succeeds_1 (by decide) ?_
  refine N_irem dX7_succeeds_3 (by omega) (by omega) (by omega) ?_
  refine R_istore_n (lv' := [some (.int (nI g)), some (.ref 3), some (.ref 47), some (.int (nI (g % 100)))]) dX7_succeeds_4 rfl (by decide) rfl ?_
  refine R_aload_n dX7_succeeds_5 rfl rfl ?_
  refine R_aload_n dX7_succeeds_6 rfl rfl ?_
  refine R_callv (As := [.ref 3]) (st := []) kX10_read lX7_25 (x_read hX0 hT0 (by decide) (by decide) (by decide) (by decide)) rfl Hx dX7_succeeds_7 rfl rfl (Nat.le_of_ble_eq_true rfl) ⟨by decide, by decide⟩ zX10_read ⟨Nat.le_refl _, Nat.le_refl _⟩ (fun wp2 wq1 => ?_)
  obtain ⟨hX1, hF1⟩ := wq1
  have hT1 := hT0.fr hF1 (by decide) (by decide)
  have hX2 := hX1
  obtain ⟨fy, gy, Hy, -, -, hyf, hyL, hyC⟩ := hX1
  have K3 := hF1.at (j := 3) (by decide) Hh
  have F1 : Fr [3, 4, 47, 48] hp wp2 := hF1.mono (by decide)
  refine R_iload_n dX7_succeeds_10 rfl rfl ?_
  refine R_bipush (v := (nI 100)) dX7_succeeds_11 (by decide) ?_
  refine N_idiv dX7_succeeds_13 (by omega) (by omega) (by omega) ?_
  have hv : g % 100 < 100 := Nat.mod_lt _ (by omega)
  generalize hvd : g % 100 = v at hv ⊢
  have hop : g / 100 < 10 := by omega
  have htl := txt_len un cs sc
  have hcT : ∀ T : TP, cmdOk T g = false → cmdT T g = T := fun T h => by unfold cmdT; rw [if_neg (by rw [h]; decide)]
  have hcs : g / 100 = 0 ∨ g / 100 = 1 ∨ g / 100 = 2 ∨ g / 100 = 3 ∨ g / 100 = 4 ∨ g / 100 = 5 ∨ g / 100 = 6 ∨ g / 100 = 7 ∨ g / 100 = 8 ∨ g / 100 = 9 := by omega
  rcases hcs with hq | hq | hq | hq | hq | hq | hq | hq | hq | hq
  · rw [hq]
    refine R_tableOut (tgt := 167) dX7_succeeds_14 (by decide) (by decide) ?_
    have hk : cmdOk (cs, sc, un, wd) g = false := by unfold cmdOk; dsimp only; rw [hq, hvd]; rfl
    refine R_iconst (v := (nI 0)) dX7_succeeds_167 (by decide) ?_
    exact R_retz dX7_succeeds_168 rfl rfl rfl rfl ⟨by rw [hk]; rfl, by rw [hcT _ hk]; exact hT1, ⟨_, hX2⟩, F1⟩
  · rw [hq]
    refine R_tableIn (off := 42) (tgt := 56) dX7_succeeds_14 (by decide) (by decide) (by decide) (by decide) ?_
    refine R_iload_n dX7_succeeds_56 rfl rfl ?_
    refine R_bipush (v := (nI 31)) dX7_succeeds_57 (by decide) ?_
    refine N_icmp_gt (tgt := 74) dX7_succeeds_59 (by decide) (by omega) (by omega) (fun h1 => ?_) (fun h1 => ?_)
    · have hk : cmdOk (cs, sc, un, wd) g = false := by unfold cmdOk; dsimp only; rw [hq, hvd]; show (decide (v < 32) && decide (cs.length < 96)) = _; rw [decide_eq_false (by omega)]; rfl
      refine R_iconst (v := (nI 0)) dX7_succeeds_74 (by decide) ?_
      exact R_retz dX7_succeeds_75 rfl rfl rfl rfl ⟨by rw [hk]; rfl, by rw [hcT _ hk]; exact hT1, ⟨_, hX2⟩, F1⟩
    · refine R_aload_n dX7_succeeds_62 rfl rfl ?_
      refine R_iload_n dX7_succeeds_63 rfl rfl ?_
      by_cases h2 : cs.length < 96
      · refine R_calli (As := [.int (nI v)]) (st := []) kX9_add lX7_33 (t_add (c := v) (by omega) h2 hT1) rfl K3 dX7_succeeds_64 rfl rfl (Nat.le_of_ble_eq_true rfl) ⟨by decide, by decide⟩ zX9_add ⟨Nat.le_refl _, Nat.le_refl _⟩ (fun wr6 wp5 wq4 => ?_)
        obtain ⟨rfl, hq1, hq2⟩ := wq4
        refine N_if_eq (tgt := 74) dX7_succeeds_67 (by decide) (by decide) (fun hc => absurd hc (by decide)) (fun _ => ?_)
        have hk : cmdOk (cs, sc, un, wd) g = true := by unfold cmdOk; dsimp only; rw [hq, hvd]; show (decide (v < 32) && decide (cs.length < 96)) = _; rw [decide_eq_true (show v < 32 by omega), decide_eq_true h2]; rfl
        have hcm : cmdT (cs, sc, un, wd) g = (cs ++ [v], sc, un, wd) := by unfold cmdT; rw [if_pos hk]; dsimp only; rw [hq, hvd]; rfl
        refine R_iconst (v := (nI 1)) dX7_succeeds_70 (by decide) ?_
        refine R_goto (tgt := 75) dX7_succeeds_71 (by decide) ?_
        exact R_retz dX7_succeeds_75 rfl rfl rfl rfl ⟨by rw [hk]; rfl, by rw [hcm]; exact hq1, ⟨_, hX2.fr hq2 (by decide) (by decide) (by decide)⟩, F1.trans (hq2.mono (by decide))⟩
      · refine R_calli (As := [.int (nI v)]) (st := []) kX9_add lX7_33 (t_addF (c := v) (by omega) hT1) rfl K3 dX7_succeeds_64 rfl rfl (Nat.le_of_ble_eq_true rfl) ⟨by decide, by decide⟩ zX9_add ⟨Nat.le_refl _, Nat.le_refl _⟩ (fun wr9 wp8 wq7 => ?_)
        obtain ⟨rfl, rfl⟩ : wr9 = _ ∧ wp2 = wp8 := ⟨wq7.1, wq7.2.symm⟩
        refine N_if_eq (tgt := 74) dX7_succeeds_67 (by decide) (by decide) (fun _ => ?_) (fun hc => absurd hc (by decide))
        have hk : cmdOk (cs, sc, un, wd) g = false := by unfold cmdOk; dsimp only; rw [hq, hvd]; show (decide (v < 32) && decide (cs.length < 96)) = _; rw [decide_eq_false h2, Bool.and_false]
        refine R_iconst (v := (nI 0)) dX7_succeeds_74 (by decide) ?_
        exact R_retz dX7_succeeds_75 rfl rfl rfl rfl ⟨by rw [hk]; rfl, by rw [hcT _ hk]; exact hT1, ⟨_, hX2⟩, F1⟩
  · rw [hq]
    refine R_tableIn (off := 62) (tgt := 76) dX7_succeeds_14 (by decide) (by decide) (by decide) (by decide) ?_
    refine R_aload_n dX7_succeeds_76 rfl rfl ?_
    refine R_iload_n dX7_succeeds_77 rfl rfl ?_
    by_cases h2 : v < cs.length
    · refine R_calli (As := [.int (nI v)]) (st := []) kX9_takeOut lX7_39 (t_takeOut h2 hT1) rfl K3 dX7_succeeds_78 rfl rfl (Nat.le_of_ble_eq_true rfl) ⟨by decide, by decide⟩ zX9_takeOut ⟨Nat.le_refl _, Nat.le_refl _⟩ (fun wr12 wp11 wq10 => ?_)
      obtain ⟨rfl, hq1, hq2⟩ := wq10
      have hcv := hC _ (List.getElem_mem h2)
      refine R_iconst (v := (-1)) dX7_succeeds_81 (by decide) ?_
      refine R_icmp_eq (tgt := 89) dX7_succeeds_82 (by decide) (fun hc => absurd hc (nI_m1 (by omega))) (fun _ => ?_)
      have hk : cmdOk (cs, sc, un, wd) g = true := by unfold cmdOk; dsimp only; rw [hq, hvd]; show decide (v < cs.length) = _; rw [decide_eq_true h2]
      have hcm : cmdT (cs, sc, un, wd) g = (cs.eraseIdx v, sc, un, wd) := by unfold cmdT; rw [if_pos hk]; dsimp only; rw [hq, hvd]; rfl
      refine R_iconst (v := (nI 1)) dX7_succeeds_85 (by decide) ?_
      refine R_goto (tgt := 90) dX7_succeeds_86 (by decide) ?_
      exact R_retz dX7_succeeds_90 rfl rfl rfl rfl ⟨by rw [hk]; rfl, by rw [hcm]; exact hq1, ⟨_, hX2.fr hq2 (by decide) (by decide) (by decide)⟩, F1.trans (hq2.mono (by decide))⟩
    · refine R_calli (As := [.int (nI v)]) (st := []) kX9_takeOut lX7_39 (t_takeOutN (j := v) (by omega) (by omega) hT1) rfl K3 dX7_succeeds_78 rfl rfl (Nat.le_of_ble_eq_true rfl) ⟨by decide, by decide⟩ zX9_takeOut ⟨Nat.le_refl _, Nat.le_refl _⟩ (fun wr15 wp14 wq13 => ?_)
      obtain ⟨rfl, rfl⟩ : wr15 = _ ∧ wp2 = wp14 := ⟨wq13.1, wq13.2.symm⟩
      refine R_iconst (v := (-1)) dX7_succeeds_81 (by decide) ?_
      refine R_icmp_eq (tgt := 89) dX7_succeeds_82 (by decide) (fun _ => ?_) (fun hc => absurd rfl hc)
      have hk : cmdOk (cs, sc, un, wd) g = false := by unfold cmdOk; dsimp only; rw [hq, hvd]; show decide (v < cs.length) = _; rw [decide_eq_false h2]
      refine R_iconst (v := (nI 0)) dX7_succeeds_89 (by decide) ?_
      exact R_retz dX7_succeeds_90 rfl rfl rfl rfl ⟨by rw [hk]; rfl, by rw [hcT _ hk]; exact hT1, ⟨_, hX2⟩, F1⟩
  · rw [hq]
    refine R_tableIn (off := 77) (tgt := 91) dX7_succeeds_14 (by decide) (by decide) (by decide) (by decide) ?_
    refine R_aload_n dX7_succeeds_91 rfl rfl ?_
    refine R_iload_n dX7_succeeds_92 rfl rfl ?_
    by_cases h2 : v < 2
    · refine R_stati (As := [.ref 3, .int (nI v)]) (st := []) kX7_setsOption lX7_43 (q_opt h2 hT1) dX7_succeeds_93 rfl rfl (Nat.le_of_ble_eq_true rfl) ⟨by decide, by decide⟩ zX7_setsOption ⟨Nat.le_refl _, Nat.le_refl _⟩ (fun wr18 wp17 wq16 => ?_)
      obtain ⟨rfl, hq1, hq2⟩ := wq16
      have hk : cmdOk (cs, sc, un, wd) g = true := by unfold cmdOk; dsimp only; rw [hq, hvd]; show decide (v < 2) = _; rw [decide_eq_true h2]
      have hcm : cmdT (cs, sc, un, wd) g = (cs, sc, v, wd) := by unfold cmdT; rw [if_pos hk]; dsimp only; rw [hq, hvd]; rfl
      exact R_retz dX7_succeeds_96 rfl rfl rfl rfl ⟨by rw [hk]; rfl, by rw [hcm]; exact hq1, ⟨_, hX2.fr hq2 (by decide) (by decide) (by decide)⟩, F1.trans (hq2.mono (by decide))⟩
    · refine R_stati (As := [.ref 3, .int (nI v)]) (st := []) kX7_setsOption lX7_43 (q_optF (v := v) (by omega) (by omega)) dX7_succeeds_93 rfl rfl (Nat.le_of_ble_eq_true rfl) ⟨by decide, by decide⟩ zX7_setsOption ⟨Nat.le_refl _, Nat.le_refl _⟩ (fun wr21 wp20 wq19 => ?_)
      obtain ⟨rfl, rfl⟩ : wr21 = _ ∧ wp2 = wp20 := ⟨wq19.1, wq19.2.symm⟩
      have hk : cmdOk (cs, sc, un, wd) g = false := by unfold cmdOk; dsimp only; rw [hq, hvd]; show decide (v < 2) = _; rw [decide_eq_false h2]
      exact R_retz dX7_succeeds_96 rfl rfl rfl rfl ⟨by rw [hk]; rfl, by rw [hcT _ hk]; exact hT1, ⟨_, hX2⟩, F1⟩
  · rw [hq]
    refine R_tableIn (off := 83) (tgt := 97) dX7_succeeds_14 (by decide) (by decide) (by decide) (by decide) ?_
    refine R_aload_n dX7_succeeds_97 rfl rfl ?_
    refine R_iload_n dX7_succeeds_98 rfl rfl ?_
    by_cases h2 : v < 2
    · refine R_stati (As := [.ref 3, .int (nI v)]) (st := []) kX7_setsStartCase lX7_47 (q_sta h2 hT1) dX7_succeeds_99 rfl rfl (Nat.le_of_ble_eq_true rfl) ⟨by decide, by decide⟩ zX7_setsStartCase ⟨Nat.le_refl _, Nat.le_refl _⟩ (fun wr24 wp23 wq22 => ?_)
      obtain ⟨rfl, hq1, hq2⟩ := wq22
      have hk : cmdOk (cs, sc, un, wd) g = true := by unfold cmdOk; dsimp only; rw [hq, hvd]; show decide (v < 2) = _; rw [decide_eq_true h2]
      have hcm : cmdT (cs, sc, un, wd) g = (cs, v, un, wd) := by unfold cmdT; rw [if_pos hk]; dsimp only; rw [hq, hvd]; rfl
      exact R_retz dX7_succeeds_102 rfl rfl rfl rfl ⟨by rw [hk]; rfl, by rw [hcm]; exact hq1, ⟨_, hX2.fr hq2 (by decide) (by decide) (by decide)⟩, F1.trans (hq2.mono (by decide))⟩
    · refine R_stati (As := [.ref 3, .int (nI v)]) (st := []) kX7_setsStartCase lX7_47 (q_staF (v := v) (by omega) (by omega)) dX7_succeeds_99 rfl rfl (Nat.le_of_ble_eq_true rfl) ⟨by decide, by decide⟩ zX7_setsStartCase ⟨Nat.le_refl _, Nat.le_refl _⟩ (fun wr27 wp26 wq25 => ?_)
      obtain ⟨rfl, rfl⟩ : wr27 = _ ∧ wp2 = wp26 := ⟨wq25.1, wq25.2.symm⟩
      have hk : cmdOk (cs, sc, un, wd) g = false := by unfold cmdOk; dsimp only; rw [hq, hvd]; show decide (v < 2) = _; rw [decide_eq_false h2]
      exact R_retz dX7_succeeds_102 rfl rfl rfl rfl ⟨by rw [hk]; rfl, by rw [hcT _ hk]; exact hT1, ⟨_, hX2⟩, F1⟩
  · rw [hq]
    refine R_tableIn (off := 89) (tgt := 103) dX7_succeeds_14 (by decide) (by decide) (by decide) (by decide) ?_
    refine R_aload_n dX7_succeeds_103 rfl rfl ?_
    refine R_getf dX7_succeeds_104 gX7_50 Hy rfl ?_
    refine R_iload_n dX7_succeeds_107 rfl rfl ?_
    refine N_icmp_ne (tgt := 115) dX7_succeeds_108 (by decide) (by omega) (by omega) (fun h1 => ?_) (fun h1 => ?_)
    · have hk : cmdOk (cs, sc, un, wd) g = false := by unfold cmdOk; dsimp only; rw [hq, hvd]; show decide ((txt un sc cs).length = v) = _; rw [decide_eq_false h1]
      refine R_iconst (v := (nI 0)) dX7_succeeds_115 (by decide) ?_
      exact R_retz dX7_succeeds_116 rfl rfl rfl rfl ⟨by rw [hk]; rfl, by rw [hcT _ hk]; exact hT1, ⟨_, hX2⟩, F1⟩
    · have hk : cmdOk (cs, sc, un, wd) g = true := by unfold cmdOk; dsimp only; rw [hq, hvd]; show decide ((txt un sc cs).length = v) = _; rw [decide_eq_true h1]
      have hcm : cmdT (cs, sc, un, wd) g = (cs, sc, un, wd) := by unfold cmdT; rw [if_pos hk]; dsimp only; rw [hq, hvd]; rfl
      refine R_iconst (v := (nI 1)) dX7_succeeds_111 (by decide) ?_
      refine R_goto (tgt := 116) dX7_succeeds_112 (by decide) ?_
      exact R_retz dX7_succeeds_116 rfl rfl rfl rfl ⟨by rw [hk]; rfl, by rw [hcm]; exact hT1, ⟨_, hX2⟩, F1⟩
  · rw [hq]
    refine R_tableIn (off := 103) (tgt := 117) dX7_succeeds_14 (by decide) (by decide) (by decide) (by decide) ?_
    refine R_aload_n dX7_succeeds_117 rfl rfl ?_
    refine R_iload_n dX7_succeeds_118 rfl rfl ?_
    refine R_calli (As := [.int (nI v)]) (st := []) kX9_has lX7_51 (t_has (i := nI v) hT1) rfl K3 dX7_succeeds_119 rfl rfl (Nat.le_of_ble_eq_true rfl) ⟨by decide, by decide⟩ zX9_has ⟨Nat.le_refl _, Nat.le_refl _⟩ (fun wr30 wp29 wq28 => ?_)
    obtain ⟨rfl, rfl⟩ : wr30 = _ ∧ wp2 = wp29 := ⟨wq28.1, wq28.2.symm⟩
    rw [inB_n (by omega)]
    by_cases h2 : v < cs.length
    · rw [decide_eq_true h2]
      show PZ _ _ _ _ _ _ [.int (nI 1)] _ _ _
      refine N_if_eq (tgt := 138) dX7_succeeds_122 (by decide) (by decide) (fun hc => absurd hc (by decide)) (fun _ => ?_)
      refine R_aload_n dX7_succeeds_125 rfl rfl ?_
      refine R_iload_n dX7_succeeds_126 rfl rfl ?_
      refine R_calli (As := [.int (nI v)]) (st := []) kX9_caseBefore lX7_54 (t_caseBefore (i := v) (by omega) hT1) rfl K3 dX7_succeeds_127 rfl rfl (Nat.le_of_ble_eq_true rfl) ⟨by decide, by decide⟩ zX9_caseBefore ⟨Nat.le_refl _, Nat.le_refl _⟩ (fun wr33 wp32 wq31 => ?_)
      obtain ⟨rfl, rfl⟩ : wr33 = _ ∧ wp2 = wp32 := ⟨wq31.1, wq31.2.symm⟩
      have hcl := cAt_le (un := un) (cs := cs) (i := v) hs
      refine R_iconst (v := (nI 1)) dX7_succeeds_130 (by decide) ?_
      refine N_icmp_ne (tgt := 138) dX7_succeeds_131 (by decide) (by omega) (by omega) (fun h3 => ?_) (fun h3 => ?_)
      · have hk : cmdOk (cs, sc, un, wd) g = false := by unfold cmdOk; dsimp only; rw [hq, hvd]; show (decide (v < cs.length) && decide (cAt un sc cs v = 1)) = _; rw [decide_eq_false h3, Bool.and_false]
        refine R_iconst (v := (nI 0)) dX7_succeeds_138 (by decide) ?_
        exact R_retz dX7_succeeds_139 rfl rfl rfl rfl ⟨by rw [hk]; rfl, by rw [hcT _ hk]; exact hT1, ⟨_, hX2⟩, F1⟩
      · have hk : cmdOk (cs, sc, un, wd) g = true := by unfold cmdOk; dsimp only; rw [hq, hvd]; show (decide (v < cs.length) && decide (cAt un sc cs v = 1)) = _; rw [decide_eq_true h2, decide_eq_true h3]; rfl
        have hcm : cmdT (cs, sc, un, wd) g = (cs, sc, un, wd) := by unfold cmdT; rw [if_pos hk]; dsimp only; rw [hq, hvd]; rfl
        refine R_iconst (v := (nI 1)) dX7_succeeds_134 (by decide) ?_
        refine R_goto (tgt := 139) dX7_succeeds_135 (by decide) ?_
        exact R_retz dX7_succeeds_139 rfl rfl rfl rfl ⟨by rw [hk]; rfl, by rw [hcm]; exact hT1, ⟨_, hX2⟩, F1⟩
    · rw [decide_eq_false h2]
      show PZ _ _ _ _ _ _ [.int (nI 0)] _ _ _
      refine N_if_eq (tgt := 138) dX7_succeeds_122 (by decide) (by decide) (fun _ => ?_) (fun hc => absurd hc (by decide))
      have hk : cmdOk (cs, sc, un, wd) g = false := by unfold cmdOk; dsimp only; rw [hq, hvd]; show (decide (v < cs.length) && decide (cAt un sc cs v = 1)) = _; rw [decide_eq_false h2]; rfl
      refine R_iconst (v := (nI 0)) dX7_succeeds_138 (by decide) ?_
      exact R_retz dX7_succeeds_139 rfl rfl rfl rfl ⟨by rw [hk]; rfl, by rw [hcT _ hk]; exact hT1, ⟨_, hX2⟩, F1⟩
  · rw [hq]
    refine R_tableIn (off := 126) (tgt := 140) dX7_succeeds_14 (by decide) (by decide) (by decide) (by decide) ?_
    refine R_aload_n dX7_succeeds_140 rfl rfl ?_
    refine R_getf dX7_succeeds_141 gX7_50 Hy rfl ?_
    by_cases h2 : 0 < (txt un sc cs).length
    · refine R_if_le (tgt := 165) dX7_succeeds_144 (by decide) (fun hc => absurd hc (nI_nle h2 (by omega))) (fun _ => ?_)
      refine R_aload_n dX7_succeeds_147 rfl rfl ?_
      refine R_aload_n dX7_succeeds_148 rfl rfl ?_
      refine R_getf dX7_succeeds_149 gX7_50 Hy rfl ?_
      refine R_iconst (v := (nI 1)) dX7_succeeds_152 (by decide) ?_
      refine N_isub dX7_succeeds_153 (by omega) ?_
      have h5 : (txt un sc cs).length - 1 < (txt un sc cs).length := by omega
      refine R_calli (As := [.int (nI (((txt un sc cs).length) - 1))]) (st := []) kX10_at lX7_57 (x_at h5 hX2) rfl Hy dX7_succeeds_154 rfl rfl (Nat.le_of_ble_eq_true rfl) ⟨by decide, by decide⟩ zX10_at ⟨Nat.le_refl _, Nat.le_refl _⟩ (fun wr36 wp35 wq34 => ?_)
      obtain ⟨rfl, rfl⟩ : wr36 = _ ∧ wp2 = wp35 := ⟨wq34.1, wq34.2.symm⟩
      have hcl := hyC _ (List.getElem_mem h5)
      refine R_iload_n dX7_succeeds_157 rfl rfl ?_
      refine N_icmp_ne (tgt := 165) dX7_succeeds_158 (by decide) (by omega) (by omega) (fun h3 => ?_) (fun h3 => ?_)
      · have hk : cmdOk (cs, sc, un, wd) g = false := by unfold cmdOk; dsimp only; rw [hq, hvd]; show (decide (0 < (txt un sc cs).length) && decide ((txt un sc cs).getD ((txt un sc cs).length - 1) 0 = v)) = _; rw [gD h5, decide_eq_false h3, Bool.and_false]
        refine R_iconst (v := (nI 0)) dX7_succeeds_165 (by decide) ?_
        exact R_retz dX7_succeeds_166 rfl rfl rfl rfl ⟨by rw [hk]; rfl, by rw [hcT _ hk]; exact hT1, ⟨_, hX2⟩, F1⟩
      · have hk : cmdOk (cs, sc, un, wd) g = true := by unfold cmdOk; dsimp only; rw [hq, hvd]; show (decide (0 < (txt un sc cs).length) && decide ((txt un sc cs).getD ((txt un sc cs).length - 1) 0 = v)) = _; rw [gD h5, decide_eq_true h2, decide_eq_true h3]; rfl
        have hcm : cmdT (cs, sc, un, wd) g = (cs, sc, un, wd) := by unfold cmdT; rw [if_pos hk]; dsimp only; rw [hq, hvd]; rfl
        refine R_iconst (v := (nI 1)) dX7_succeeds_161 (by decide) ?_
        refine R_goto (tgt := 166) dX7_succeeds_162 (by decide) ?_
        exact R_retz dX7_succeeds_166 rfl rfl rfl rfl ⟨by rw [hk]; rfl, by rw [hcm]; exact hT1, ⟨_, hX2⟩, F1⟩
    · refine R_if_le (tgt := 165) dX7_succeeds_144 (by decide) (fun _ => ?_) (fun hc => absurd (show nI (txt un sc cs).length ≤ 0 by rw [show (txt un sc cs).length = 0 by omega]; decide) hc)
      have hk : cmdOk (cs, sc, un, wd) g = false := by unfold cmdOk; dsimp only; rw [hq, hvd]; show (decide (0 < (txt un sc cs).length) && decide ((txt un sc cs).getD ((txt un sc cs).length - 1) 0 = v)) = _; rw [decide_eq_false h2]; rfl
      refine R_iconst (v := (nI 0)) dX7_succeeds_165 (by decide) ?_
      exact R_retz dX7_succeeds_166 rfl rfl rfl rfl ⟨by rw [hk]; rfl, by rw [hcT _ hk]; exact hT1, ⟨_, hX2⟩, F1⟩
  · rw [hq]
    refine R_tableOut (tgt := 167) dX7_succeeds_14 (by decide) (by decide) ?_
    have hk : cmdOk (cs, sc, un, wd) g = false := by unfold cmdOk; dsimp only; rw [hq, hvd]; rfl
    refine R_iconst (v := (nI 0)) dX7_succeeds_167 (by decide) ?_
    exact R_retz dX7_succeeds_168 rfl rfl rfl rfl ⟨by rw [hk]; rfl, by rw [hcT _ hk]; exact hT1, ⟨_, hX2⟩, F1⟩
  · rw [hq]
    refine R_tableOut (tgt := 167) dX7_succeeds_14 (by decide) (by decide) ?_
    have hk : cmdOk (cs, sc, un, wd) g = false := by unfold cmdOk; dsimp only; rw [hq, hvd]; rfl
    refine R_iconst (v := (nI 0)) dX7_succeeds_167 (by decide) ?_
    exact R_retz dX7_succeeds_168 rfl rfl rfl rfl ⟨by rw [hk]; rfl, by rw [hcT _ hk]; exact hT1, ⟨_, hX2⟩, F1⟩
theorem cmdT_ok {hp : HPt} {T : TP} : TpAt hp 3 4 T → True := fun _ => trivial
def ScrAt (hp : HPt) (gs : List Nat) : Prop := ∃ f : Nat → Int32, hp[59]? = some (ob 6 [.ref 60, .int (nI gs.length)]) ∧ hp[60]? = some (ia 4 f) ∧ (∀ (i : Nat) (hi : i < gs.length), f i = nI gs[i]) ∧ gs.length ≤ 4 ∧ ∀ g ∈ gs, g < 1000
def ScrX (hp : HPt) : Prop := ∃ (f : Nat → Int32) (c : Int32), hp[59]? = some (ob 6 [.ref 60, .int c]) ∧ hp[60]? = some (ia 4 f)
theorem ScrAt.fr {hp hp' : HPt} {gs L : List Nat} (H : ScrAt hp gs) (F : Fr L hp hp') (h1 : 59 ∉ L) (h2 : 60 ∉ L) : ScrAt hp' gs := by
  obtain ⟨f, A, B, r⟩ := H
  exact ⟨f, F.at h1 A, F.at h2 B, r⟩
set_option maxRecDepth 100000 in
set_option maxHeartbeats 4000000 in
theorem q_ffL {hp0 : HPt} {gs : List Nat} {R : Int32} : ∀ (d : Nat) (hp : HPt) (T : TP) (j : Nat), j + d = gs.length → ScrAt hp gs → TpAt hp 3 4 T → (∃ ts, TxAt hp 47 48 49 ts) → Fr [3, 4, 47, 48] hp0 hp → R = scrF T (gs.drop j) j → PZ l X (MZi X mX7_firstFailure (fun r hp' => r = R ∧ (∃ T, TpAt hp' 3 4 T) ∧ (∃ ts, TxAt hp' 47 48 49 ts) ∧ Fr [3, 4, 47, 48] hp0 hp')) mX7_firstFailure 2 [some (.ref 59), some (.ref 3), some (.ref 47), some (.int (nI j))] [] hp 0 0 := by
  intro d
  induction d with
  | zero =>
    intro hp T j hj hS hT hX hF hR
    obtain ⟨f, H1, H2, hf, hL, hC⟩ := hS
    refine R_iload_n dX7_firstFailure_2 rfl rfl ?_
    refine R_aload_n dX7_firstFailure_3 rfl rfl ?_
    refine R_getf dX7_firstFailure_4 gX7_15 H1 rfl ?_
    refine N_icmp_ge (tgt := 41) dX7_firstFailure_7 (by decide) (by omega) (by omega) (fun _ => ?_) (fun hc => absurd hc (by omega))
    refine R_bipush (v := (-9)) dX7_firstFailure_41 (by decide) ?_
    exact R_reti dX7_firstFailure_43 rfl rfl rfl ⟨by rw [hR, List.drop_eq_nil_of_le (by omega)]; rfl, ⟨_, hT⟩, hX, hF⟩
  | succ d ih =>
    intro hp T j hj hS hT hX hF hR
    have hS0 := hS
    obtain ⟨f, H1, H2, hf, hL, hC⟩ := hS
    obtain ⟨ts, hX⟩ := hX
    obtain ⟨cs, sc, un, wd⟩ := T
    have h1 : j < gs.length := by omega
    rw [drop_c h1] at hR; simp only [scrF] at hR
    refine R_iload_n dX7_firstFailure_2 rfl rfl ?_
    refine R_aload_n dX7_firstFailure_3 rfl rfl ?_
    refine R_getf dX7_firstFailure_4 gX7_15 H1 rfl ?_
    refine N_icmp_ge (tgt := 41) dX7_firstFailure_7 (by decide) (by omega) (by omega) (fun hc => absurd hc (by omega)) (fun _ => ?_)
    refine R_iload_n dX7_firstFailure_10 rfl rfl ?_
    refine R_aload_n dX7_firstFailure_11 rfl rfl ?_
    refine R_getf dX7_firstFailure_12 gX7_9 H1 rfl ?_
    refine R_alen (N := 0) (x := (nI 4)) dX7_firstFailure_15 H2 (by decide) rfl ?_
    refine N_icmp_ge (tgt := 41) dX7_firstFailure_16 (by decide) (by omega) (by omega) (fun hc => absurd hc (by omega)) (fun _ => ?_)
    refine R_aload_n dX7_firstFailure_19 rfl rfl ?_
    refine R_getf dX7_firstFailure_20 gX7_9 H1 rfl ?_
    refine R_iload_n dX7_firstFailure_23 rfl rfl ?_
    refine N_iald (y := (nI (gs[j]))) dX7_firstFailure_24 H2 (by omega) (by decide) (hf j h1) ?_
    refine R_aload_n dX7_firstFailure_25 rfl rfl ?_
    refine R_aload_n dX7_firstFailure_26 rfl rfl ?_
    refine R_stati (As := [.int (nI (gs[j])), .ref 3, .ref 47]) (st := []) kX7_succeeds lX7_21 (q_succ (hC _ (List.getElem_mem h1)) hT hX) dX7_firstFailure_27 rfl rfl (Nat.le_of_ble_eq_true rfl) ⟨by decide, by decide⟩ zX7_succeeds ⟨Nat.le_refl _, Nat.le_refl _⟩ (fun wr3 wp2 wq1 => ?_)
    obtain ⟨rfl, hT1, hX1, hF1⟩ := wq1
    by_cases hk : cmdOk (cs, sc, un, wd) gs[j] = true
    · rw [if_pos hk] at hR
      rw [hk]
      show PZ _ _ _ _ _ _ [.int (nI 1)] _ _ _
      refine N_if_ne (tgt := 35) dX7_firstFailure_30 (by decide) (by decide) (fun _ => ?_) (fun hc => absurd hc (by decide))
      refine N_iinc (d := 1) (lv' := [some (.ref 59), some (.ref 3), some (.ref 47), some (.int (nI (j + 1)))]) dX7_firstFailure_35 rfl rfl ?_
      refine R_goto (tgt := 2) dX7_firstFailure_38 (by decide) ?_
      exact ih _ _ (j + 1) (by omega) (hS0.fr hF1 (by decide) (by decide)) hT1 hX1 (hF.trans hF1) hR
    · rw [if_neg hk] at hR
      rw [Bool.eq_false_iff.mpr hk]
      show PZ _ _ _ _ _ _ [.int (nI 0)] _ _ _
      refine N_if_ne (tgt := 35) dX7_firstFailure_30 (by decide) (by decide) (fun hc => absurd hc (by decide)) (fun _ => ?_)
      refine R_iload_n dX7_firstFailure_33 rfl rfl ?_
      exact R_reti dX7_firstFailure_34 rfl rfl rfl ⟨by rw [hR], ⟨_, hT1⟩, hX1, hF.trans hF1⟩
set_option maxRecDepth 100000 in
set_option maxHeartbeats 4000000 in
theorem q_first {gs : List Nat} {T : TP} {ts : List Nat} (hS : ScrAt hp gs) (hT : TpAt hp 3 4 T) (hX : TxAt hp 47 48 49 ts) : SpI l X mX7_firstFailure [.ref 59, .ref 3, .ref 47] hp (fun r hp' => r = scrF T gs 0 ∧ (∃ T, TpAt hp' 3 4 T) ∧ (∃ ts, TxAt hp' 47 48 49 ts) ∧ Fr [3, 4, 47, 48] hp hp') := by
  refine SpI.of pnX7 (Nat.le_of_ble_eq_true rfl) rfl ?_
  refine R_iconst (v := (nI 0)) dX7_firstFailure_0 (by decide) ?_
  refine R_istore_n (lv' := [some (.ref 59), some (.ref 3), some (.ref 47), some (.int (nI 0))]) dX7_firstFailure_1 rfl (by decide) rfl ?_
  exact q_ffL gs.length hp T 0 (by omega) hS hT ⟨_, hX⟩ Fr.rf rfl
def grp (s n : Nat) : List Nat := (List.range n).map (fun k => s / 1000 ^ (n - 1 - k) % 1000)
theorem grp_get {s n i : Nat} (h : i < (grp s n).length) : (grp s n)[i] = s / 1000 ^ (n - 1 - i) % 1000 := by simp [grp]
theorem sub1_ (m : Nat) : nI m + Int32.ofInt (-1) = nI m - nI 1 := by
  rw [show Int32.ofInt (-1) = -(nI 1) by decide, Int32.sub_eq_add_neg]
theorem lcmp0_lt {x : Int64} : lg_cmp x 0 < 0 ↔ x < 0 := by
  unfold lg_cmp
  by_cases h1 : x > 0
  · rw [if_pos h1]
    constructor
    · intro h; exact absurd h (by decide)
    · intro h; exact absurd (Int64.lt_trans h h1) (fun z => Int64.lt_irrefl z)
  · rw [if_neg h1]
    by_cases h2 : x = 0
    · rw [if_pos h2]
      constructor
      · intro h; exact absurd h (by decide)
      · intro h; rw [h2] at h; exact absurd h (by decide)
    · rw [if_neg h2]
      constructor
      · intro _
        rcases Int64.lt_or_eq_of_le (Int64.not_lt.mp h1) with q | q
        · exact q
        · exact absurd q h2
      · intro _; decide
theorem lcmp0_eq {x : Int64} : lg_cmp x 0 = 0 ↔ x = 0 := by
  unfold lg_cmp
  by_cases h1 : x > 0
  · rw [if_pos h1]
    constructor
    · intro h; exact absurd h (by decide)
    · intro h; rw [h] at h1; exact absurd h1 (by decide)
  · rw [if_neg h1]
    by_cases h2 : x = 0
    · rw [if_pos h2]; exact ⟨fun _ => h2, fun _ => rfl⟩
    · rw [if_neg h2]
      constructor
      · intro h; exact absurd h (by decide)
      · intro h; exact absurd h h2
set_option maxRecDepth 100000 in
set_option maxHeartbeats 4000000 in
theorem q_splitN {n : Nat} {x : Int64} (hx : x < 0) : SpI l X mX7_split [.ref 59, .int (nI n), .long x] hp (fun r hp' => r = nI 0 ∧ hp' = hp) := by
  refine SpI.of pnX7 (Nat.le_of_ble_eq_true rfl) rfl ?_
  refine R_lload_n dX7_split_0 rfl rfl ?_
  refine R_lconst (v := 0) dX7_split_1 (by decide) ?_
  refine R_lcmp dX7_split_2 ?_
  refine R_if_lt (tgt := 11) dX7_split_3 (by decide) (fun _ => ?_) (fun hc => absurd (lcmp0_lt.mpr hx) hc)
  refine R_iconst (v := (nI 0)) dX7_split_11 (by decide) ?_
  exact R_retz dX7_split_12 rfl rfl rfl rfl ⟨rfl, rfl⟩
set_option maxRecDepth 100000 in
set_option maxHeartbeats 4000000 in
theorem q_spL {hp0 : HPt} {s n : Nat} {cv : Int32} (hs : s < 2 ^ 63) (hn : n ≤ 4) : ∀ (m : Nat) (hp : HPt) (f : Nat → Int32), m ≤ n → hp[59]? = some (ob 6 [.ref 60, .int cv]) → hp[60]? = some (ia 4 f) → (∀ k, m ≤ k → k < n → f k = nI (s / 1000 ^ (n - 1 - k) % 1000)) → Fr [59, 60] hp0 hp → PZ l X (MZi X mX7_split (fun r hp' => r = bz (decide (s < 1000 ^ n)) ∧ ScrAt hp' (grp s n) ∧ Fr [59, 60] hp0 hp')) mX7_split 21 [some (.ref 59), some (.int (nI n)), some (.long (lN s)), none, some (.long (lN (s / 1000 ^ (n - m)))), none, some (.int (nI m - nI 1))] [] hp 0 0 := by
  intro m
  induction m with
  | zero =>
    intro hp f hm H1 H2 hf hF
    refine R_iload dX7_split_21 rfl ?_
    refine R_if_lt (tgt := 54) dX7_split_23 (by decide) (fun _ => ?_) (fun hc => absurd (show nI 0 - nI 1 < 0 by decide) hc)
    refine R_aload_n dX7_split_54 rfl rfl ?_
    refine R_iload_n dX7_split_55 rfl rfl ?_
    refine W_puti (fs' := [.ref 60, .int (nI n)]) dX7_split_56 pX7_15 H1 (Nat.le_of_ble_eq_true rfl) rfl (fun wp1 wH2 wE3 => ?_)
    have wH4 := (wE3 60 (by decide)).trans H2
    have wF5 : Fr [59, 60] hp0 wp1 := hF.trans (Fr.one wE3 (by simp))
    refine R_lload dX7_split_59 rfl ?_
    refine R_lconst (v := 0) dX7_split_61 (by decide) ?_
    refine R_lcmp dX7_split_62 ?_
    have hd0 : s / 1000 ^ (n - 0) < 2 ^ 63 := Nat.lt_of_le_of_lt (Nat.div_le_self _ _) hs
    have hpp : 0 < 1000 ^ n := Nat.pow_pos (by decide)
    have hz : lN (s / 1000 ^ (n - 0)) = 0 ↔ s < 1000 ^ n := by
      rw [show (0 : Int64) = lN 0 from rfl, pk_lEQ hd0 (by omega), Nat.sub_zero]
      exact Nat.div_eq_zero_iff_lt hpp
    have hG : ScrAt wp1 (grp s n) := by
      have hl : (grp s n).length = n := by unfold grp; simp
      refine ⟨f, by rw [hl]; exact wH2, wH4, fun i hi => ?_, by omega, fun g hg => ?_⟩
      · rw [hf i (by omega) (by omega), grp_get hi]
      · unfold grp at hg; simp at hg; obtain ⟨k, -, rfl⟩ := hg; exact Nat.mod_lt _ (by decide)
    refine R_if_ne (tgt := 70) dX7_split_63 (by decide) (fun hq => ?_) (fun hq => ?_)
    · refine R_iconst (v := (nI 0)) dX7_split_70 (by decide) ?_
      exact R_retz dX7_split_71 rfl rfl rfl rfl ⟨by rw [decide_eq_false (fun z => hq (lcmp0_eq.mpr (hz.mpr z)))]; rfl, hG, wF5⟩
    · refine R_iconst (v := (nI 1)) dX7_split_66 (by decide) ?_
      refine R_goto (tgt := 71) dX7_split_67 (by decide) ?_
      exact R_retz dX7_split_71 rfl rfl rfl rfl ⟨by rw [decide_eq_true (hz.mp (lcmp0_eq.mp hq))]; rfl, hG, wF5⟩
  | succ m ih =>
    intro hp f hm H1 H2 hf hF
    rw [show nI (m + 1) - nI 1 = nI m from pk_sub (by omega)]
    have hd0 : s / 1000 ^ (n - (m + 1)) < 2 ^ 63 := Nat.lt_of_le_of_lt (Nat.div_le_self _ _) hs
    have e1 : lN (s / 1000 ^ (n - (m + 1))) - lN (s / 1000 ^ (n - (m + 1))) / 1000 * 1000 = lN (s / 1000 ^ (n - (m + 1)) % 1000) := pk_lRem hd0 (by decide) (by decide)
    have e2 : lN (s / 1000 ^ (n - (m + 1))) / 1000 = lN (s / 1000 ^ (n - m)) := by
      rw [show (1000 : Int64) = lN 1000 from rfl, pk_lDiv hd0 (by decide) (by decide), Nat.div_div_eq_div_mul, ← Nat.pow_succ, show (n - (m + 1)).succ = n - m by omega]
    refine R_iload dX7_split_21 rfl ?_
    refine R_if_lt (tgt := 54) dX7_split_23 (by decide) (fun hc => absurd hc (nI_pos (by omega))) (fun _ => ?_)
    refine R_aload_n dX7_split_26 rfl rfl ?_
    refine R_getf dX7_split_27 gX7_9 H1 rfl ?_
    refine R_iload dX7_split_30 rfl ?_
    refine R_lload dX7_split_32 rfl ?_
    refine R_ldc2 dX7_split_34 nX7_19 ?_
    refine R_lrem dX7_split_37 (by decide) ?_
    rw [e1]
    refine R_l2i dX7_split_38 ?_
    rw [lN_i]
    obtain ⟨wf6, ewf6⟩ : ∃ y, y = upd f m (nI (s / 1000 ^ (n - (m + 1)) % 1000)) := ⟨_, rfl⟩
    refine W_iast (f' := wf6) dX7_split_39 H2 (by omega) (by decide) ewf6 (fun wp7 wH8 wE9 => ?_)
    have wH10 := (wE9 59 (by decide)).trans H1
    have wF11 : Fr [59, 60] hp0 wp7 := hF.trans (Fr.one wE9 (by simp))
    refine R_lload dX7_split_40 rfl ?_
    refine R_ldc2 dX7_split_42 nX7_19 ?_
    refine R_ldiv dX7_split_45 (by decide) ?_
    rw [e2]
    refine R_lstore (lv' := [some (.ref 59), some (.int (nI n)), some (.long (lN s)), none, some (.long (lN (s / 1000 ^ (n - m)))), none, some (.int (nI m))]) dX7_split_46 (by decide) rfl ?_
    refine R_iinc (v := nI m - nI 1) (lv' := [some (.ref 59), some (.int (nI n)), some (.long (lN s)), none, some (.long (lN (s / 1000 ^ (n - m)))), none, some (.int (nI m - nI 1))]) dX7_split_48 rfl (sub1_ m) rfl ?_
    refine R_goto (tgt := 21) dX7_split_51 (by decide) ?_
    refine ih _ wf6 (by omega) wH10 wH8 (fun k h1 h2 => ?_) wF11
    rw [ewf6]
    by_cases hk : k = m
    · subst hk; rw [upd_s, show n - (k + 1) = n - 1 - k by omega]
    · rw [upd_n hk]; exact hf k (by omega) h2
set_option maxRecDepth 100000 in
set_option maxHeartbeats 4000000 in
theorem q_split {n s : Nat} (hs : s < 2 ^ 63) (h1 : 1 ≤ n) (hn : n ≤ 4) (hS : ScrX hp) : SpI l X mX7_split [.ref 59, .int (nI n), .long (lN s)] hp (fun r hp' => r = bz (decide (s < 1000 ^ n)) ∧ ScrAt hp' (grp s n) ∧ Fr [59, 60] hp hp') := by
  obtain ⟨f, cv, H1, H2⟩ := hS
  refine SpI.of pnX7 (Nat.le_of_ble_eq_true rfl) rfl ?_
  refine R_lload_n dX7_split_0 rfl rfl ?_
  refine R_lconst (v := 0) dX7_split_1 (by decide) ?_
  refine R_lcmp dX7_split_2 ?_
  refine R_if_lt (tgt := 11) dX7_split_3 (by decide) (fun hc => absurd hc (fun z => by have := lcmp0_lt.mp z; rw [show (0 : Int64) = lN 0 from rfl, pk_lLT hs (by omega)] at this; omega)) (fun _ => ?_)
  refine R_iload_n dX7_split_6 rfl rfl ?_
  refine R_iconst (v := (nI 4)) dX7_split_7 (by decide) ?_
  refine N_icmp_le (tgt := 13) dX7_split_8 (by decide) (by omega) (by omega) (fun _ => ?_) (fun hc => absurd hc (by omega))
  refine R_lload_n dX7_split_13 rfl rfl ?_
  refine R_lstore (lv' := [some (.ref 59), some (.int (nI n)), some (.long (lN s)), none, some (.long (lN s)), none, none]) dX7_split_14 (by decide) rfl ?_
  refine R_iload_n dX7_split_16 rfl rfl ?_
  refine R_iconst (v := (nI 1)) dX7_split_17 (by decide) ?_
  refine R_isub dX7_split_18 ?_
  refine R_istore (lv' := [some (.ref 59), some (.int (nI n)), some (.long (lN s)), none, some (.long (lN s)), none, some (.int ((nI n) - (nI 1)))]) dX7_split_19 (by decide) rfl ?_
  have h9 := q_spL (l := l) (X := X) hs hn n hp f (Nat.le_refl _) H1 H2 (fun k a b => by omega) Fr.rf
  rw [Nat.sub_self, Nat.pow_zero, Nat.div_one] at h9
  exact h9
end S22
