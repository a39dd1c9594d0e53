/-! The reference: repairing -/
def wtd (c x p : Nat) : Nat := if cof x = c then (if cfor x = 2 then p else cfor x) else 9
def cI (v : Nat) : Int32 := if v = 9 then -9 else nI v
theorem cf_tab : ∀ c, c < 29 → ∀ x, x < 256 → ∀ p, p < 2 → (if 26 ≤ c then (if ch c 0 = x then p else 9) else if ch c 0 = x then 0 else if ch c 1 = x then 1 else 9) = wtd c x p := by decide +kernel
theorem wtd_n {c x p : Nat} (hp : p ≤ 1) : wtd c x p = 9 ∨ wtd c x p ≤ 1 := by
  have := cfor_le x
  unfold wtd; split
  · split <;> omega
  · exact .inl rfl
/-- how many print -/
def npr : List Nat → Nat
  | [] => 0
  | c :: t => (if c < 29 then 1 else 0) + npr t
theorem txt_npr (un : Nat) : ∀ (cs : List Nat) (p : Nat), (txt un p cs).length = npr cs
  | [], _ => rfl
  | c :: t, p => by
    simp only [txt, npr]
    split
    · rw [List.length_cons, txt_npr un t]; omega
    · rw [txt_npr un t]; omega
theorem cAll1 {un p c : Nat} {V : List Nat} : cAll un p (V ++ [c]) = cAft un c (cAll un p V) := by rw [cAll_app]; rfl
section R41
variable {l : Launch} {X : EX} {hp : HPt}
set_option maxRecDepth 100000 in
set_option maxHeartbeats 4000000 in
theorem r_cf {c x p : Nat} (hc : c < 29) (hx : x < 256) (hp1 : p ≤ 1) : SpI l X mX12_caseFor [.int (nI c), .int (nI x), .int (nI p)] hp (fun r hp' => r = cI (wtd c x p) ∧ hp' = hp) := by
  have ht := cf_tab c hc x hx p (by omega)
  have hl0 := ch_lt (p := 0) hc
  have hl1 := ch_lt (p := 1) hc
  refine SpI.of pnX12 (Nat.le_of_ble_eq_true rfl) rfl ?_
  refine R_iload_n dX12_caseFor_0 rfl rfl ?_
  refine R_bipush (v := (nI 26)) dX12_caseFor_1 (by decide) ?_
  refine N_icmp_lt (tgt := 22) dX12_caseFor_3 (by decide) (by omega) (by omega) (fun h26 => ?_) (fun h26 => ?_)
  · rw [if_neg (by omega)] at ht
    refine R_iload_n dX12_caseFor_22 rfl rfl ?_
    refine R_iconst (v := (nI 0)) dX12_caseFor_23 (by decide) ?_
    refine R_stati (As := [.int (nI c), .int (nI 0)]) (st := []) kX12_printOf lX12_71 (r_print (by omega) (by decide)) dX12_caseFor_24 rfl rfl (Nat.le_of_ble_eq_true rfl) ⟨by decide, by decide⟩ zX12_printOf ⟨Nat.le_refl _, Nat.le_refl _⟩ (fun wr3 wp2 wq1 => ?_)
    obtain ⟨rfl, rfl⟩ : wr3 = _ ∧ hp = wp2 := ⟨wq1.1, wq1.2.symm⟩
    rw [prt_in hc]
    refine R_iload_n dX12_caseFor_27 rfl rfl ?_
    refine N_icmp_ne (tgt := 35) dX12_caseFor_28 (by decide) (by omega) (by omega) (fun h0 => ?_) (fun h0 => ?_)
    · rw [if_neg h0] at ht
      refine R_iload_n dX12_caseFor_35 rfl rfl ?_
      refine R_iconst (v := (nI 1)) dX12_caseFor_36 (by decide) ?_
      refine R_stati (As := [.int (nI c), .int (nI 1)]) (st := []) kX12_printOf lX12_71 (r_print (by omega) (by decide)) dX12_caseFor_37 rfl rfl (Nat.le_of_ble_eq_true rfl) ⟨by decide, by decide⟩ zX12_printOf ⟨Nat.le_refl _, Nat.le_refl _⟩ (fun wr6 wp5 wq4 => ?_)
      obtain ⟨rfl, rfl⟩ : wr6 = _ ∧ hp = wp5 := ⟨wq4.1, wq4.2.symm⟩
      rw [prt_in hc]
      refine R_iload_n dX12_caseFor_40 rfl rfl ?_
      refine N_icmp_ne (tgt := 48) dX12_caseFor_41 (by decide) (by omega) (by omega) (fun h1 => ?_) (fun h1 => ?_)
      · refine R_bipush (v := (-9)) dX12_caseFor_48 (by decide) ?_
        exact R_reti dX12_caseFor_50 rfl rfl rfl ⟨by rw [if_neg h1] at ht; rw [← ht]; rfl, rfl⟩
      · refine R_iconst (v := (nI 1)) dX12_caseFor_44 (by decide) ?_
        refine R_goto (tgt := 50) dX12_caseFor_45 (by decide) ?_
        exact R_reti dX12_caseFor_50 rfl rfl rfl ⟨by rw [if_pos h1] at ht; rw [← ht]; rfl, rfl⟩
    · refine R_iconst (v := (nI 0)) dX12_caseFor_31 (by decide) ?_
      refine R_goto (tgt := 50) dX12_caseFor_32 (by decide) ?_
      exact R_reti dX12_caseFor_50 rfl rfl rfl ⟨by rw [if_pos h0] at ht; rw [← ht]; rfl, rfl⟩
  · rw [if_pos (by omega)] at ht
    refine R_iload_n dX12_caseFor_6 rfl rfl ?_
    refine R_iconst (v := (nI 0)) dX12_caseFor_7 (by decide) ?_
    refine R_stati (As := [.int (nI c), .int (nI 0)]) (st := []) kX12_printOf lX12_71 (r_print (by omega) (by decide)) dX12_caseFor_8 rfl rfl (Nat.le_of_ble_eq_true rfl) ⟨by decide, by decide⟩ zX12_printOf ⟨Nat.le_refl _, Nat.le_refl _⟩ (fun wr9 wp8 wq7 => ?_)
    obtain ⟨rfl, rfl⟩ : wr9 = _ ∧ hp = wp8 := ⟨wq7.1, wq7.2.symm⟩
    rw [prt_in hc]
    refine R_iload_n dX12_caseFor_11 rfl rfl ?_
    refine N_icmp_ne (tgt := 19) dX12_caseFor_12 (by decide) (by omega) (by omega) (fun h0 => ?_) (fun h0 => ?_)
    · refine R_bipush (v := (-9)) dX12_caseFor_19 (by decide) ?_
      exact R_reti dX12_caseFor_21 rfl rfl rfl ⟨by rw [if_neg h0] at ht; rw [← ht]; rfl, rfl⟩
    · refine R_iload_n dX12_caseFor_15 rfl rfl ?_
      refine R_goto (tgt := 21) dX12_caseFor_16 (by decide) ?_
      exact R_reti dX12_caseFor_21 rfl rfl rfl ⟨by rw [if_pos h0] at ht; rw [← ht]; unfold cI; rw [if_neg (by omega)], rfl⟩
set_option maxRecDepth 100000 in
set_option maxHeartbeats 4000000 in
theorem r_rpF {ms : List Nat} {cs : List Nat} {sc un wd : Nat} {hs : List TP} {s0 s1 : Option TP} {os : List (Nat × Nat)} {ox : Nat} {V : List Nat} {mn kk p i c : Nat} {fv : Bool} {hz : HPt} {lo : Option Value} (hf9 : f_rep (ms, (cs, sc, un, wd), hs, s0, s1, os, ox) = (-3, (ms, (cs, sc, un, wd), hs, s0, s1, os, ox))) (hM : MJ hz (ms, (cs, sc, un, wd), hs, s0, s1, os, ox)) (HT : RwAt hz 64 (V, sc, un, wd)) (hc : c < 32) (hp1 : p ≤ 1) (hi : i < cs.length) (hF : Fr LM hp hz) : PZ l X (MZi X mX12_repair (fun r hp' => r = (f_rep (ms, (cs, sc, un, wd), hs, s0, s1, os, ox)).1 ∧ MJ hp' (f_rep (ms, (cs, sc, un, wd), hs, s0, s1, os, ox)).2 ∧ Fr LM hp hp')) mX12_repair 193 [some (.ref 61), some (.int (nI mn)), some (.int (nI kk)), some (.int (nI 0)), some (.int (bz fv)), some (.int (nI p)), some (.int (nI i)), some (.int (nI c)), lo] [] hz 0 0 := by
  obtain ⟨nx, tl, sl, st, M0, MM, MN, MT, MD, MK, MO, A70, A71, A72, A73, A74, A75, A76, A77⟩ := hM
  obtain ⟨hL, hC3, hs1, hu1, hw1, hw2⟩ := MN.ok
  refine R_aload_n dX12_repair_193 rfl rfl ?_
  refine R_getf dX12_repair_194 gX12_16 M0 rfl ?_
  refine R_iload dX12_repair_197 rfl ?_
  refine R_stati (As := [.ref 64, .int (nI c)]) (st := []) kX12_put lX12_116 (r_put hc HT) dX12_repair_199 rfl rfl (Nat.le_of_ble_eq_true rfl) ⟨by decide, by decide⟩ zX12_put ⟨Nat.le_refl _, Nat.le_refl _⟩ (fun wr3 wp2 wq1 => ?_)
  obtain ⟨rfl, hq1, hq2⟩ := wq1
  have c4 := hq2.at (by decide) M0
  have c5 := MM.fr hq2 (by decide)
  have c6 := MN.fr hq2 (by decide)
  have c7 := MD.fr hq2 (by decide)
  have c8 := MK.fr hq2 (by decide) (by decide)
  have c9 := MO.fr hq2 (by decide) (by decide)
  have c10 := A70.fr hq2 (by decide)
  have c11 := A71.fr hq2 (by decide)
  have c12 := A72.fr hq2 (by decide)
  have c13 := A73.fr hq2 (by decide)
  have c14 := A74.fr hq2 (by decide)
  have c15 := A75.fr hq2 (by decide)
  have c16 := A76.fr hq2 (by decide)
  have c17 := A77.fr hq2 (by decide)
  have FF18 : Fr LM hp wp2 := hF.trans (hq2.mono (by decide))
  obtain ⟨f, Ha, hR⟩ := id c6
  obtain ⟨h0, h1, h2, h3, hf, -⟩ := hR.to
  cases hd : decide (V.length < 96) with
  | false =>
    show PZ _ _ _ _ _ _ (.int (nI 0) :: _) _ _ _
    refine N_if_eq (tgt := 214) dX12_repair_202 (by decide) (by decide) (fun _ => ?_) (fun hc => absurd hc (by decide))
    refine R_iconst (v := (nI 0)) dX12_repair_214 (by decide) ?_
    refine R_istore (lv' := [some (.ref 61), some (.int (nI mn)), some (.int (nI kk)), some (.int (nI 0)), some (.int (nI 0)), some (.int (nI p)), some (.int (nI i)), some (.int (nI c)), lo]) dX12_repair_215 (by decide) rfl ?_
    refine R_iload dX12_repair_217 rfl ?_
    refine R_iload dX12_repair_219 rfl ?_
    refine R_aload_n dX12_repair_221 rfl rfl ?_
    refine R_getf dX12_repair_222 gX12_13 c4 rfl ?_
    refine R_iconst (v := (nI 2)) dX12_repair_225 (by decide) ?_
    refine N_iald (y := (nI un)) dX12_repair_226 Ha (by decide) (by decide) h2 ?_
    refine R_stati (As := [.int (nI c), .int (nI p), .int (nI un)]) (st := []) kX12_caseAfter lX12_75 (r_aft hc hp1 hu1) dX12_repair_227 rfl rfl (Nat.le_of_ble_eq_true rfl) ⟨by decide, by decide⟩ zX12_caseAfter ⟨Nat.le_refl _, Nat.le_refl _⟩ (fun wr21 wp20 wq19 => ?_)
    obtain ⟨rfl, rfl⟩ : wr21 = _ ∧ wp2 = wp20 := ⟨wq19.1, wq19.2.symm⟩
    refine R_istore (lv' := [some (.ref 61), some (.int (nI mn)), some (.int (nI kk)), some (.int (nI 0)), some (.int (nI 0)), some (.int (nI (cAft un c p))), some (.int (nI i)), some (.int (nI c)), lo]) dX12_repair_230 (by decide) rfl ?_
    refine N_iinc (d := 1) (lv' := [some (.ref 61), some (.int (nI mn)), some (.int (nI kk)), some (.int (nI 0)), some (.int (nI 0)), some (.int (nI (cAft un c p))), some (.int (nI (i + 1))), some (.int (nI c)), lo]) dX12_repair_232 rfl rfl ?_
    refine R_goto (tgt := 63) dX12_repair_235 (by decide) ?_
    refine R_iload dX12_repair_63 rfl ?_
    refine R_aload_n dX12_repair_65 rfl rfl ?_
    refine R_getf dX12_repair_66 gX12_13 c4 rfl ?_
    refine R_iconst (v := (nI 0)) dX12_repair_69 (by decide) ?_
    refine N_iald (y := (nI (cs.length))) dX12_repair_70 Ha (by decide) (by decide) h0 ?_
    refine N_icmp_ge (tgt := 238) dX12_repair_71 (by decide) (by omega) (by omega) (fun hil => ?_) (fun hil => ?_)
    · refine R_iload_n dX12_repair_238 rfl rfl ?_
      refine N_if_eq (tgt := 250) dX12_repair_239 (by decide) (by decide) (fun _ => ?_) (fun hc => absurd hc (by decide))
      refine R_bipush (v := (-3)) dX12_repair_250 (by decide) ?_
      rw [hf9]
      exact R_reti dX12_repair_252 rfl rfl rfl ⟨rfl, ⟨_, _, _, _, c4, c5, c6, hq1.ax, c7, c8, c9, c10, c11, c12, c13, c14, c15, c16, c17⟩, FF18⟩
    · refine R_iload_n dX12_repair_74 rfl rfl ?_
      refine N_if_eq (tgt := 238) dX12_repair_75 (by decide) (by decide) (fun _ => ?_) (fun hc => absurd hc (by decide))
      refine R_iload_n dX12_repair_238 rfl rfl ?_
      refine N_if_eq (tgt := 250) dX12_repair_239 (by decide) (by decide) (fun _ => ?_) (fun hc => absurd hc (by decide))
      refine R_bipush (v := (-3)) dX12_repair_250 (by decide) ?_
      rw [hf9]
      exact R_reti dX12_repair_252 rfl rfl rfl ⟨rfl, ⟨_, _, _, _, c4, c5, c6, hq1.ax, c7, c8, c9, c10, c11, c12, c13, c14, c15, c16, c17⟩, FF18⟩
  | true =>
    show PZ _ _ _ _ _ _ (.int (nI 1) :: _) _ _ _
    refine N_if_eq (tgt := 214) dX12_repair_202 (by decide) (by decide) (fun hc => absurd hc (by decide)) (fun _ => ?_)
    refine R_iload dX12_repair_205 rfl ?_
    cases fv with
    | false =>
      show PZ _ _ _ _ _ _ (.int (nI 0) :: _) _ _ _
      refine N_if_eq (tgt := 214) dX12_repair_207 (by decide) (by decide) (fun _ => ?_) (fun hc => absurd hc (by decide))
      refine R_iconst (v := (nI 0)) dX12_repair_214 (by decide) ?_
      refine R_istore (lv' := [some (.ref 61), some (.int (nI mn)), some (.int (nI kk)), some (.int (nI 0)), some (.int (nI 0)), some (.int (nI p)), some (.int (nI i)), some (.int (nI c)), lo]) dX12_repair_215 (by decide) rfl ?_
      refine R_iload dX12_repair_217 rfl ?_
      refine R_iload dX12_repair_219 rfl ?_
      refine R_aload_n dX12_repair_221 rfl rfl ?_
      refine R_getf dX12_repair_222 gX12_13 c4 rfl ?_
      refine R_iconst (v := (nI 2)) dX12_repair_225 (by decide) ?_
      refine N_iald (y := (nI un)) dX12_repair_226 Ha (by decide) (by decide) h2 ?_
      refine R_stati (As := [.int (nI c), .int (nI p), .int (nI un)]) (st := []) kX12_caseAfter lX12_75 (r_aft hc hp1 hu1) dX12_repair_227 rfl rfl (Nat.le_of_ble_eq_true rfl) ⟨by decide, by decide⟩ zX12_caseAfter ⟨Nat.le_refl _, Nat.le_refl _⟩ (fun wr24 wp23 wq22 => ?_)
      obtain ⟨rfl, rfl⟩ : wr24 = _ ∧ wp2 = wp23 := ⟨wq22.1, wq22.2.symm⟩
      refine R_istore (lv' := [some (.ref 61), some (.int (nI mn)), some (.int (nI kk)), some (.int (nI 0)), some (.int (nI 0)), some (.int (nI (cAft un c p))), some (.int (nI i)), some (.int (nI c)), lo]) dX12_repair_230 (by decide) rfl ?_
      refine N_iinc (d := 1) (lv' := [some (.ref 61), some (.int (nI mn)), some (.int (nI kk)), some (.int (nI 0)), some (.int (nI 0)), some (.int (nI (cAft un c p))), some (.int (nI (i + 1))), some (.int (nI c)), lo]) dX12_repair_232 rfl rfl ?_
      refine R_goto (tgt := 63) dX12_repair_235 (by decide) ?_
      refine R_iload dX12_repair_63 rfl ?_
      refine R_aload_n dX12_repair_65 rfl rfl ?_
      refine R_getf dX12_repair_66 gX12_13 c4 rfl ?_
      refine R_iconst (v := (nI 0)) dX12_repair_69 (by decide) ?_
      refine N_iald (y := (nI (cs.length))) dX12_repair_70 Ha (by decide) (by decide) h0 ?_
      refine N_icmp_ge (tgt := 238) dX12_repair_71 (by decide) (by omega) (by omega) (fun hil => ?_) (fun hil => ?_)
      · refine R_iload_n dX12_repair_238 rfl rfl ?_
        refine N_if_eq (tgt := 250) dX12_repair_239 (by decide) (by decide) (fun _ => ?_) (fun hc => absurd hc (by decide))
        refine R_bipush (v := (-3)) dX12_repair_250 (by decide) ?_
        rw [hf9]
        exact R_reti dX12_repair_252 rfl rfl rfl ⟨rfl, ⟨_, _, _, _, c4, c5, c6, hq1.ax, c7, c8, c9, c10, c11, c12, c13, c14, c15, c16, c17⟩, FF18⟩
      · refine R_iload_n dX12_repair_74 rfl rfl ?_
        refine N_if_eq (tgt := 238) dX12_repair_75 (by decide) (by decide) (fun _ => ?_) (fun hc => absurd hc (by decide))
        refine R_iload_n dX12_repair_238 rfl rfl ?_
        refine N_if_eq (tgt := 250) dX12_repair_239 (by decide) (by decide) (fun _ => ?_) (fun hc => absurd hc (by decide))
        refine R_bipush (v := (-3)) dX12_repair_250 (by decide) ?_
        rw [hf9]
        exact R_reti dX12_repair_252 rfl rfl rfl ⟨rfl, ⟨_, _, _, _, c4, c5, c6, hq1.ax, c7, c8, c9, c10, c11, c12, c13, c14, c15, c16, c17⟩, FF18⟩
    | true =>
      show PZ _ _ _ _ _ _ (.int (nI 1) :: _) _ _ _
      refine N_if_eq (tgt := 214) dX12_repair_207 (by decide) (by decide) (fun hc => absurd hc (by decide)) (fun _ => ?_)
      refine R_iconst (v := (nI 1)) dX12_repair_210 (by decide) ?_
      refine R_goto (tgt := 215) dX12_repair_211 (by decide) ?_
      refine R_istore (lv' := [some (.ref 61), some (.int (nI mn)), some (.int (nI kk)), some (.int (nI 0)), some (.int (nI 1)), some (.int (nI p)), some (.int (nI i)), some (.int (nI c)), lo]) dX12_repair_215 (by decide) rfl ?_
      refine R_iload dX12_repair_217 rfl ?_
      refine R_iload dX12_repair_219 rfl ?_
      refine R_aload_n dX12_repair_221 rfl rfl ?_
      refine R_getf dX12_repair_222 gX12_13 c4 rfl ?_
      refine R_iconst (v := (nI 2)) dX12_repair_225 (by decide) ?_
      refine N_iald (y := (nI un)) dX12_repair_226 Ha (by decide) (by decide) h2 ?_
      refine R_stati (As := [.int (nI c), .int (nI p), .int (nI un)]) (st := []) kX12_caseAfter lX12_75 (r_aft hc hp1 hu1) dX12_repair_227 rfl rfl (Nat.le_of_ble_eq_true rfl) ⟨by decide, by decide⟩ zX12_caseAfter ⟨Nat.le_refl _, Nat.le_refl _⟩ (fun wr27 wp26 wq25 => ?_)
      obtain ⟨rfl, rfl⟩ : wr27 = _ ∧ wp2 = wp26 := ⟨wq25.1, wq25.2.symm⟩
      refine R_istore (lv' := [some (.ref 61), some (.int (nI mn)), some (.int (nI kk)), some (.int (nI 0)), some (.int (nI 1)), some (.int (nI (cAft un c p))), some (.int (nI i)), some (.int (nI c)), lo]) dX12_repair_230 (by decide) rfl ?_
      refine N_iinc (d := 1) (lv' := [some (.ref 61), some (.int (nI mn)), some (.int (nI kk)), some (.int (nI 0)), some (.int (nI 1)), some (.int (nI (cAft un c p))), some (.int (nI (i + 1))), some (.int (nI c)), lo]) dX12_repair_232 rfl rfl ?_
      refine R_goto (tgt := 63) dX12_repair_235 (by decide) ?_
      refine R_iload dX12_repair_63 rfl ?_
      refine R_aload_n dX12_repair_65 rfl rfl ?_
      refine R_getf dX12_repair_66 gX12_13 c4 rfl ?_
      refine R_iconst (v := (nI 0)) dX12_repair_69 (by decide) ?_
      refine N_iald (y := (nI (cs.length))) dX12_repair_70 Ha (by decide) (by decide) h0 ?_
      refine N_icmp_ge (tgt := 238) dX12_repair_71 (by decide) (by omega) (by omega) (fun hil => ?_) (fun hil => ?_)
      · refine R_iload_n dX12_repair_238 rfl rfl ?_
        refine N_if_eq (tgt := 250) dX12_repair_239 (by decide) (by decide) (fun _ => ?_) (fun hc => absurd hc (by decide))
        refine R_bipush (v := (-3)) dX12_repair_250 (by decide) ?_
        rw [hf9]
        exact R_reti dX12_repair_252 rfl rfl rfl ⟨rfl, ⟨_, _, _, _, c4, c5, c6, hq1.ax, c7, c8, c9, c10, c11, c12, c13, c14, c15, c16, c17⟩, FF18⟩
      · refine R_iload_n dX12_repair_74 rfl rfl ?_
        refine N_if_eq (tgt := 238) dX12_repair_75 (by decide) (by decide) (fun _ => ?_) (fun hc => absurd hc (by decide))
        refine R_iload_n dX12_repair_238 rfl rfl ?_
        refine N_if_eq (tgt := 250) dX12_repair_239 (by decide) (by decide) (fun _ => ?_) (fun hc => absurd hc (by decide))
        refine R_bipush (v := (-3)) dX12_repair_250 (by decide) ?_
        rw [hf9]
        exact R_reti dX12_repair_252 rfl rfl rfl ⟨rfl, ⟨_, _, _, _, c4, c5, c6, hq1.ax, c7, c8, c9, c10, c11, c12, c13, c14, c15, c16, c17⟩, FF18⟩
set_option maxRecDepth 100000 in
set_option maxHeartbeats 4000000 in
theorem r_rpZ {Z : ZT} {ln ac nxx sn sx tl sl st : Int32} {mn kk p sc un wd : Nat} {V : List Nat} {la lb : Option Value} (K : ∀ (hz : HPt) (g : Nat → Int32), hz[61]? = some (ob 11 [.ref 62, .int (ln), .ref 63, .ref 64, .ref 65, .int (ac), .int (nxx), .ref 66, .ref 67, .ref 68, .ref 69, .int (sn), .int (sx), .ref 70, .ref 71, .ref 72, .ref 73, .ref 74, .int (tl), .ref 75, .int (sl), .ref 76, .int (st), .ref 77]) → hz[64]? = some (ia 100 g) → RwF g 0 (V, sc, un, wd) → Fr [64] hp hz → PZ l X Z mX12_repair 292 [some (.ref 61), some (.int (nI mn)), some (.int (nI kk)), some (.int (nI 1)), some (.int (nI 1)), some (.int (nI p)), some (.int (nI 96)), la, lb] [] hz 0 0) : ∀ (d j : Nat) (hz : HPt) (g : Nat → Int32), j + d = 96 → V.length ≤ j → hz[61]? = some (ob 11 [.ref 62, .int (ln), .ref 63, .ref 64, .ref 65, .int (ac), .int (nxx), .ref 66, .ref 67, .ref 68, .ref 69, .int (sn), .int (sx), .ref 70, .ref 71, .ref 72, .ref 73, .ref 74, .int (tl), .ref 75, .int (sl), .ref 76, .int (st), .ref 77]) → hz[64]? = some (ia 100 g) → RwF g 0 (V, sc, un, wd) → Fr [64] hp hz → PZ l X Z mX12_repair 269 [some (.ref 61), some (.int (nI mn)), some (.int (nI kk)), some (.int (nI 1)), some (.int (nI 1)), some (.int (nI p)), some (.int (nI j)), la, lb] [] hz 0 0 := by
  intro d
  induction d with
  | zero =>
    intro j hz g hj hVj H0 Hg hR hF
    have hje : j = 96 := by omega
    subst hje
    refine R_iload dX12_repair_269 rfl ?_
    refine R_bipush (v := (nI 96)) dX12_repair_271 (by decide) ?_
    refine N_icmp_ge (tgt := 292) dX12_repair_273 (by decide) (by omega) (by omega) (fun _ => ?_) (fun hc => absurd hc (by omega))
    exact K hz g H0 Hg hR hF
  | succ d ih =>
    intro j hz g hj hVj H0 Hg hR hF
    refine R_iload dX12_repair_269 rfl ?_
    refine R_bipush (v := (nI 96)) dX12_repair_271 (by decide) ?_
    refine N_icmp_ge (tgt := 292) dX12_repair_273 (by decide) (by omega) (by omega) (fun hc => absurd hc (by omega)) (fun _ => ?_)
    refine R_aload_n dX12_repair_276 rfl rfl ?_
    refine R_getf dX12_repair_277 gX12_16 H0 rfl ?_
    refine R_iconst (v := (nI 4)) dX12_repair_280 (by decide) ?_
    refine R_iload dX12_repair_281 rfl ?_
    refine N_iadd dX12_repair_283 ?_
    refine R_iconst (v := (nI 0)) dX12_repair_284 (by decide) ?_
    obtain ⟨g2, eg2⟩ : ∃ y, y = upd g (4 + j) (nI 0) := ⟨_, rfl⟩
    refine W_iast (f' := g2) dX12_repair_285 Hg (by omega) (by decide) eg2 (fun wp1 wH2 wE3 => ?_)
    have wH4 := (wE3 61 (by decide)).trans H0
    have wF5 : Fr [64] hp wp1 := hF.trans (Fr.one wE3 (by simp))
    refine N_iinc (d := 1) (lv' := [some (.ref 61), some (.int (nI mn)), some (.int (nI kk)), some (.int (nI 1)), some (.int (nI 1)), some (.int (nI p)), some (.int (nI (j + 1))), la, lb]) dX12_repair_286 rfl rfl ?_
    refine R_goto (tgt := 269) dX12_repair_289 (by decide) ?_
    obtain ⟨h0, h1, h2, h3, hf, r⟩ := hR.to
    exact ih (j + 1) _ g2 (by omega) (by omega) wH4 wH2 (RwH.to ⟨by rw [eg2, upd_n (by omega)]; exact h0, by rw [eg2, upd_n (by omega)]; exact h1, by rw [eg2, upd_n (by omega)]; exact h2, by rw [eg2, upd_n (by omega)]; exact h3, fun i hi => by rw [eg2, upd_n (by omega)]; exact hf i hi, r⟩) wF5
set_option maxRecDepth 100000 in
set_option maxHeartbeats 4000000 in
theorem r_rpL {ms : List Nat} {cs : List Nat} {sc un wd : Nat} {hs : List TP} {s0 s1 : Option TP} {os : List (Nat × Nat)} {ox : Nat} : ∀ (d i : Nat) (hz : HPt) (V : List Nat) (mn kk : Nat) (la lb : Option Value), i + d = cs.length → kk ≤ i → mn + i = V.length → mn ≤ i → MJ hz (ms, (cs, sc, un, wd), hs, s0, s1, os, ox) → RwAt hz 64 (V.take 96, sc, un, wd) → npr cs = kk + npr (cs.drop i) → rdG ms cs 0 = rdG ms (cs.drop i) kk → rprN un sc ms cs 0 [] = rprN un sc ms (cs.drop i) kk V → Fr LM hp hz → PZ l X (MZi X mX12_repair (fun r hp' => r = (f_rep (ms, (cs, sc, un, wd), hs, s0, s1, os, ox)).1 ∧ MJ hp' (f_rep (ms, (cs, sc, un, wd), hs, s0, s1, os, ox)).2 ∧ Fr LM hp hp')) mX12_repair 63 [some (.ref 61), some (.int (nI mn)), some (.int (nI kk)), some (.int (nI 1)), some (.int (bz (decide (V.length ≤ 96)))), some (.int (nI (cAll un sc V))), some (.int (nI i)), la, lb] [] hz 0 0 := by
  intro d
  induction d with
  | zero =>
    intro i hz V mn kk la lb hi hki hmn hmi hM HT hN hG hV hF
    rw [List.drop_eq_nil_of_le (by omega)] at hN hG hV
    have htx := txt_npr un cs sc
    simp only [npr, rdG, rprN] at hN hG hV
    obtain ⟨nx, tl, sl, st, M0, MM, MN, MT, MD, MK, MO, A70, A71, A72, A73, A74, A75, A76, A77⟩ := hM
    obtain ⟨hL, hC3, hs1, hu1, hw1, hw2⟩ := MN.ok
    have hmL := MM.ok.1
    obtain ⟨f, Ha, hR⟩ := id MN
    obtain ⟨h0, h1, h2, h3, hf, -⟩ := hR.to
    refine R_iload dX12_repair_63 rfl ?_
    refine R_aload_n dX12_repair_65 rfl rfl ?_
    refine R_getf dX12_repair_66 gX12_13 M0 rfl ?_
    refine R_iconst (v := (nI 0)) dX12_repair_69 (by decide) ?_
    refine N_iald (y := (nI (cs.length))) dX12_repair_70 Ha (by decide) (by decide) h0 ?_
    refine N_icmp_ge (tgt := 238) dX12_repair_71 (by decide) (by omega) (by omega) (fun _ => ?_) (fun hc => absurd hc (by omega))
    refine R_iload_n dX12_repair_238 rfl rfl ?_
    refine N_if_eq (tgt := 250) dX12_repair_239 (by decide) (by decide) (fun hc => absurd hc (by decide)) (fun _ => ?_)
    refine R_iload_n dX12_repair_242 rfl rfl ?_
    refine R_aload_n dX12_repair_243 rfl rfl ?_
    refine R_getf dX12_repair_244 gX12_92 M0 rfl ?_
    refine N_icmp_eq (tgt := 253) dX12_repair_247 (by decide) (by omega) (by omega) (fun hkl => ?_) (fun hkl => ?_)
    · have hcd : (decide ((txt un sc cs).length = ms.length) && rdG ms cs 0) = true := by rw [hG, decide_eq_true (by omega)]; rfl
      refine R_iload dX12_repair_253 rfl ?_
      by_cases hl : V.length ≤ 96
      · rw [decide_eq_true hl]
        show PZ _ _ _ _ _ _ (.int (nI 1) :: _) _ _ _
        refine N_if_ne (tgt := 261) dX12_repair_255 (by decide) (by decide) (fun _ => ?_) (fun hc => absurd hc (by decide))
        rw [tk_id hl] at HT
        obtain ⟨g, Hg, hRg⟩ := id HT
        refine R_aload_n dX12_repair_261 rfl rfl ?_
        refine R_getf dX12_repair_262 gX12_16 M0 rfl ?_
        refine R_iconst (v := (nI 0)) dX12_repair_265 (by decide) ?_
        refine N_iald (y := (nI (V.length))) dX12_repair_266 Hg (by decide) (by decide) hRg.to.1 ?_
        refine R_istore (lv' := [some (.ref 61), some (.int (nI mn)), some (.int (nI kk)), some (.int (nI 1)), some (.int (nI 1)), some (.int (nI (cAll un sc V))), some (.int (nI (V.length))), la, lb]) dX12_repair_267 (by decide) rfl ?_
        refine r_rpZ (fun hy g2 K0 K1 K2 hF2 => ?_) (96 - V.length) V.length _ g (by omega) (Nat.le_refl _) M0 Hg hRg Fr.rf
        have hq1 : RwAt hy 64 (V, sc, un, wd) := ⟨g2, K1, K2⟩
        have c1 := MM.fr hF2 (by decide)
        have c2 := MN.fr hF2 (by decide)
        have c3 := MD.fr hF2 (by decide)
        have c4 := MK.fr hF2 (by decide) (by decide)
        have c5 := MO.fr hF2 (by decide) (by decide)
        have c6 := A70.fr hF2 (by decide)
        have c7 := A71.fr hF2 (by decide)
        have c8 := A72.fr hF2 (by decide)
        have c9 := A73.fr hF2 (by decide)
        have c10 := A74.fr hF2 (by decide)
        have c11 := A75.fr hF2 (by decide)
        have c12 := A76.fr hF2 (by decide)
        have c13 := A77.fr hF2 (by decide)
        have FF14 : Fr LM hp hy := hF.trans (hF2.mono (by decide))
        refine R_aload_n dX12_repair_292 rfl rfl ?_
        refine R_callv (As := []) (st := []) kX12_note lX12_122 (r_note K0 c2 c3) rfl K0 dX12_repair_293 rfl rfl (Nat.le_of_ble_eq_true rfl) ⟨by decide, by decide⟩ zX12_note ⟨Nat.le_refl _, Nat.le_refl _⟩ (fun wp16 wq15 => ?_)
        obtain ⟨hn1, hn2, hn3⟩ := wq15
        have c18 := c1.fr hn3 (by decide)
        have c19 := c2.fr hn3 (by decide)
        have c20 := hq1.ax.fr hn3 (by decide)
        have c21 := c4.fr hn3 (by decide) (by decide)
        have c22 := c5.fr hn3 (by decide) (by decide)
        have c23 := c6.fr hn3 (by decide)
        have c24 := c7.fr hn3 (by decide)
        have c25 := c8.fr hn3 (by decide)
        have c26 := c9.fr hn3 (by decide)
        have c27 := c10.fr hn3 (by decide)
        have c28 := c11.fr hn3 (by decide)
        have c29 := c12.fr hn3 (by decide)
        have c30 := c13.fr hn3 (by decide)
        have FF31 : Fr LM hp wp16 := FF14.trans (hn3.mono (by decide))
        have hq2 := hq1.fr hn3 (by decide)
        refine R_aload_n dX12_repair_296 rfl rfl ?_
        refine R_getf dX12_repair_297 gX12_16 hn1 rfl ?_
        refine R_aload_n dX12_repair_300 rfl rfl ?_
        refine R_getf dX12_repair_301 gX12_13 hn1 rfl ?_
        refine R_statv (As := [.ref 64, .ref 63]) (st := []) kX12_copy lX12_129 (r_cpR (by decide) hq2 c19.ax) dX12_repair_304 rfl rfl (Nat.le_of_ble_eq_true rfl) ⟨by decide, by decide⟩ zX12_copy ⟨Nat.le_refl _, Nat.le_refl _⟩ (fun wp33 wq32 => ?_)
        obtain ⟨hq3, hq4⟩ := wq32
        have c35 := hq4.at (by decide) hn1
        have c36 := c18.fr hq4 (by decide)
        have c37 := c20.fr hq4 (by decide)
        have c38 := hn2.fr hq4 (by decide)
        have c39 := c21.fr hq4 (by decide) (by decide)
        have c40 := c22.fr hq4 (by decide) (by decide)
        have c41 := c23.fr hq4 (by decide)
        have c42 := c24.fr hq4 (by decide)
        have c43 := c25.fr hq4 (by decide)
        have c44 := c26.fr hq4 (by decide)
        have c45 := c27.fr hq4 (by decide)
        have c46 := c28.fr hq4 (by decide)
        have c47 := c29.fr hq4 (by decide)
        have c48 := c30.fr hq4 (by decide)
        have FF49 : Fr LM hp wp33 := FF31.trans (hq4.mono (by decide))
        refine R_iload_n dX12_repair_307 rfl rfl ?_
        have hf9 : f_rep (ms, (cs, sc, un, wd), hs, s0, s1, os, ox) = (nI mn, psh (ms, (cs, sc, un, wd), hs, s0, s1, os, ox) (V, sc, un, wd)) := by unfold f_rep; dsimp only; rw [if_pos hcd, hV]; unfold f_take; dsimp only; rw [if_pos hl, pk_sub (by omega), show V.length - cs.length = mn by omega]
        rw [hf9]
        exact R_reti dX12_repair_308 rfl rfl rfl ⟨rfl, ⟨_, _, _, _, c35, c36, hq3, c37, c38, c39, c40, c41, c42, c43, c44, c45, c46, c47, c48⟩, FF49⟩
      · rw [decide_eq_false hl]
        show PZ _ _ _ _ _ _ (.int (nI 0) :: _) _ _ _
        refine N_if_ne (tgt := 261) dX12_repair_255 (by decide) (by decide) (fun hc => absurd hc (by decide)) (fun _ => ?_)
        have hf9 : f_rep (ms, (cs, sc, un, wd), hs, s0, s1, os, ox) = (-4, (ms, (cs, sc, un, wd), hs, s0, s1, os, ox)) := by unfold f_rep; dsimp only; rw [if_pos hcd, hV]; unfold f_take; dsimp only; rw [if_neg hl]
        refine R_bipush (v := (-4)) dX12_repair_258 (by decide) ?_
        rw [hf9]
        exact R_reti dX12_repair_260 rfl rfl rfl ⟨rfl, ⟨_, _, _, _, M0, MM, MN, MT, MD, MK, MO, A70, A71, A72, A73, A74, A75, A76, A77⟩, hF⟩
    · have hf9 : f_rep (ms, (cs, sc, un, wd), hs, s0, s1, os, ox) = (-3, (ms, (cs, sc, un, wd), hs, s0, s1, os, ox)) := by unfold f_rep; dsimp only; rw [decide_eq_false (by omega)]; rfl
      refine R_bipush (v := (-3)) dX12_repair_250 (by decide) ?_
      rw [hf9]
      exact R_reti dX12_repair_252 rfl rfl rfl ⟨rfl, ⟨_, _, _, _, M0, MM, MN, MT, MD, MK, MO, A70, A71, A72, A73, A74, A75, A76, A77⟩, hF⟩
  | succ d ih =>
    intro i hz V mn kk la lb hi hki hmn hmi hM HT hN hG hV hF
    obtain ⟨nx, tl, sl, st, M0, MM, MN, MT, MD, MK, MO, A70, A71, A72, A73, A74, A75, A76, A77⟩ := id hM
    obtain ⟨hL, hC3, hs1, hu1, hw1, hw2⟩ := MN.ok
    obtain ⟨hmL, hmC⟩ := MM.ok
    obtain ⟨f, Ha, hR⟩ := id MN
    obtain ⟨h0, h1, h2, h3, hf, -⟩ := hR.to
    obtain ⟨fm, Hm, hfm, -⟩ := id MM
    have htx := txt_npr un cs sc
    have hil2 : i < cs.length := by omega
    have hc3 := hC3 cs[i] (List.getElem_mem hil2)
    have hpl : cAll un sc V ≤ 1 := cAll_le V hs1
    rw [drop_c hil2] at hN hG hV
    simp only [npr, rdG, rprN] at hN hG hV
    have htl : (V.take 96).length = min 96 V.length := List.length_take
    refine R_iload dX12_repair_63 rfl ?_
    refine R_aload_n dX12_repair_65 rfl rfl ?_
    refine R_getf dX12_repair_66 gX12_13 M0 rfl ?_
    refine R_iconst (v := (nI 0)) dX12_repair_69 (by decide) ?_
    refine N_iald (y := (nI (cs.length))) dX12_repair_70 Ha (by decide) (by decide) h0 ?_
    refine N_icmp_ge (tgt := 238) dX12_repair_71 (by decide) (by omega) (by omega) (fun hc => absurd hc (by omega)) (fun _ => ?_)
    refine R_iload_n dX12_repair_74 rfl rfl ?_
    refine N_if_eq (tgt := 238) dX12_repair_75 (by decide) (by decide) (fun hc => absurd hc (by decide)) (fun _ => ?_)
    refine R_aload_n dX12_repair_78 rfl rfl ?_
    refine R_getf dX12_repair_79 gX12_13 M0 rfl ?_
    refine R_iconst (v := (nI 4)) dX12_repair_82 (by decide) ?_
    refine R_iload dX12_repair_83 rfl ?_
    refine N_iadd dX12_repair_85 ?_
    refine N_iald (y := (nI (cs[i]))) dX12_repair_86 Ha (by omega) (by decide) (hf i (by omega)) ?_
    refine R_istore (lv' := [some (.ref 61), some (.int (nI mn)), some (.int (nI kk)), some (.int (nI 1)), some (.int (bz (decide (V.length ≤ 96)))), some (.int (nI (cAll un sc V))), some (.int (nI i)), some (.int (nI (cs[i]))), lb]) dX12_repair_87 (by decide) rfl ?_
    refine R_iload dX12_repair_89 rfl ?_
    refine R_bipush (v := (nI 29)) dX12_repair_91 (by decide) ?_
    refine N_icmp_ge (tgt := 193) dX12_repair_93 (by decide) (by omega) (by omega) (fun h29 => ?_) (fun h29 => ?_)
    · refine R_aload_n dX12_repair_193 rfl rfl ?_
      refine R_getf dX12_repair_194 gX12_16 M0 rfl ?_
      refine R_iload dX12_repair_197 rfl ?_
      refine R_stati (As := [.ref 64, .int (nI (cs[i]))]) (st := []) kX12_put lX12_116 (r_put hc3 HT) dX12_repair_199 rfl rfl (Nat.le_of_ble_eq_true rfl) ⟨by decide, by decide⟩ zX12_put ⟨Nat.le_refl _, Nat.le_refl _⟩ (fun wr52 wp51 wq50 => ?_)
      obtain ⟨rfl, hp1, hp2⟩ := wq50
      have c53 := hp2.at (by decide) M0
      have c54 := MM.fr hp2 (by decide)
      have c55 := MN.fr hp2 (by decide)
      have c56 := MD.fr hp2 (by decide)
      have c57 := MK.fr hp2 (by decide) (by decide)
      have c58 := MO.fr hp2 (by decide) (by decide)
      have c59 := A70.fr hp2 (by decide)
      have c60 := A71.fr hp2 (by decide)
      have c61 := A72.fr hp2 (by decide)
      have c62 := A73.fr hp2 (by decide)
      have c63 := A74.fr hp2 (by decide)
      have c64 := A75.fr hp2 (by decide)
      have c65 := A76.fr hp2 (by decide)
      have c66 := A77.fr hp2 (by decide)
      have FF67 : Fr LM hp wp51 := hF.trans (hp2.mono (by decide))
      have hlw : (((V)).take 96).length = min 96 (V).length := List.length_take
      have hrow : RwAt wp51 64 (((V) ++ [cs[i]]).take 96, sc, un, wd) := by
        by_cases h9 : (V).length < 96
        · rw [tk_id (V := V) (by omega), tk96 h9] at hp1; rw [tk96 h9]; exact hp1
        · rw [tkn (V := V) (by omega)]
          have e9 : ((V).take 96 ++ [cs[i]]).take 96 = (V).take 96 := by rw [tkn (by omega), List.take_take, Nat.min_self]
          rw [e9] at hp1; exact hp1
      by_cases hlt : (V).length < 96
      · rw [decide_eq_true (show ((V).take 96).length < 96 by omega)]
        show PZ _ _ _ _ _ _ (.int (nI 1) :: _) _ _ _
        refine N_if_eq (tgt := 214) dX12_repair_202 (by decide) (by decide) (fun hc => absurd hc (by decide)) (fun _ => ?_)
        refine R_iload dX12_repair_205 rfl ?_
        rw [decide_eq_true (p := V.length ≤ 96) (by omega)]
        show PZ _ _ _ _ _ _ (.int (nI 1) :: _) _ _ _
        refine N_if_eq (tgt := 214) dX12_repair_207 (by decide) (by decide) (fun hc => absurd hc (by decide)) (fun _ => ?_)
        obtain ⟨fz, Haz, hRz⟩ := id c55
        obtain ⟨h0z, h1z, h2z, h3z, hfz, -⟩ := hRz.to
        refine R_iconst (v := (nI 1)) dX12_repair_210 (by decide) ?_
        refine R_goto (tgt := 215) dX12_repair_211 (by decide) ?_
        refine R_istore (lv' := [some (.ref 61), some (.int (nI mn)), some (.int (nI kk)), some (.int (nI 1)), some (.int (nI 1)), some (.int (nI (cAll un sc V))), some (.int (nI i)), some (.int (nI (cs[i]))), lb]) dX12_repair_215 (by decide) rfl ?_
        refine R_iload dX12_repair_217 rfl ?_
        refine R_iload dX12_repair_219 rfl ?_
        refine R_aload_n dX12_repair_221 rfl rfl ?_
        refine R_getf dX12_repair_222 gX12_13 c53 rfl ?_
        refine R_iconst (v := (nI 2)) dX12_repair_225 (by decide) ?_
        refine N_iald (y := (nI un)) dX12_repair_226 Haz (by decide) (by decide) h2z ?_
        refine R_stati (As := [.int (nI (cs[i])), .int (nI (cAll un sc V)), .int (nI un)]) (st := []) kX12_caseAfter lX12_75 (r_aft hc3 (cAll_le (V) hs1) hu1) dX12_repair_227 rfl rfl (Nat.le_of_ble_eq_true rfl) ⟨by decide, by decide⟩ zX12_caseAfter ⟨Nat.le_refl _, Nat.le_refl _⟩ (fun wr70 wp69 wq68 => ?_)
        obtain ⟨rfl, rfl⟩ : wr70 = _ ∧ wp51 = wp69 := ⟨wq68.1, wq68.2.symm⟩
        refine R_istore (lv' := [some (.ref 61), some (.int (nI mn)), some (.int (nI kk)), some (.int (nI 1)), some (.int (nI 1)), some (.int (nI (cAft un cs[i] (cAll un sc (V))))), some (.int (nI i)), some (.int (nI (cs[i]))), lb]) dX12_repair_230 (by decide) rfl ?_
        refine N_iinc (d := 1) (lv' := [some (.ref 61), some (.int (nI mn)), some (.int (nI kk)), some (.int (nI 1)), some (.int (nI 1)), some (.int (nI (cAft un cs[i] (cAll un sc (V))))), some (.int (nI (i + 1))), some (.int (nI (cs[i]))), lb]) dX12_repair_232 rfl rfl ?_
        refine R_goto (tgt := 63) dX12_repair_235 (by decide) ?_
        have hfl : decide (((V) ++ [cs[i]]).length ≤ 96) = true := by rw [len1]; exact decide_eq_true (by omega)
        have h9 := ih (i + 1) _ ((V) ++ [cs[i]]) (mn) (kk) (some (.int (nI (cs[i])))) lb (by omega) (by omega) (by rw [len1]; omega) (by omega) ⟨_, _, _, _, c53, c54, c55, hp1.ax, c56, c57, c58, c59, c60, c61, c62, c63, c64, c65, c66⟩ hrow (by rw [hN, if_neg (by omega)]; omega) (by rw [hG, if_pos h29]) (by rw [hV, if_pos h29]) FF67
        rw [cAll1, hfl] at h9
        exact h9
      · rw [decide_eq_false (show ¬ ((V).take 96).length < 96 by omega)]
        show PZ _ _ _ _ _ _ (.int (nI 0) :: _) _ _ _
        refine N_if_eq (tgt := 214) dX12_repair_202 (by decide) (by decide) (fun _ => ?_) (fun hc => absurd hc (by decide))
        obtain ⟨fz, Haz, hRz⟩ := id c55
        obtain ⟨h0z, h1z, h2z, h3z, hfz, -⟩ := hRz.to
        refine R_iconst (v := (nI 0)) dX12_repair_214 (by decide) ?_
        refine R_istore (lv' := [some (.ref 61), some (.int (nI mn)), some (.int (nI kk)), some (.int (nI 1)), some (.int (nI 0)), some (.int (nI (cAll un sc V))), some (.int (nI i)), some (.int (nI (cs[i]))), lb]) dX12_repair_215 (by decide) rfl ?_
        refine R_iload dX12_repair_217 rfl ?_
        refine R_iload dX12_repair_219 rfl ?_
        refine R_aload_n dX12_repair_221 rfl rfl ?_
        refine R_getf dX12_repair_222 gX12_13 c53 rfl ?_
        refine R_iconst (v := (nI 2)) dX12_repair_225 (by decide) ?_
        refine N_iald (y := (nI un)) dX12_repair_226 Haz (by decide) (by decide) h2z ?_
        refine R_stati (As := [.int (nI (cs[i])), .int (nI (cAll un sc V)), .int (nI un)]) (st := []) kX12_caseAfter lX12_75 (r_aft hc3 (cAll_le (V) hs1) hu1) dX12_repair_227 rfl rfl (Nat.le_of_ble_eq_true rfl) ⟨by decide, by decide⟩ zX12_caseAfter ⟨Nat.le_refl _, Nat.le_refl _⟩ (fun wr73 wp72 wq71 => ?_)
        obtain ⟨rfl, rfl⟩ : wr73 = _ ∧ wp51 = wp72 := ⟨wq71.1, wq71.2.symm⟩
        refine R_istore (lv' := [some (.ref 61), some (.int (nI mn)), some (.int (nI kk)), some (.int (nI 1)), some (.int (nI 0)), some (.int (nI (cAft un cs[i] (cAll un sc (V))))), some (.int (nI i)), some (.int (nI (cs[i]))), lb]) dX12_repair_230 (by decide) rfl ?_
        refine N_iinc (d := 1) (lv' := [some (.ref 61), some (.int (nI mn)), some (.int (nI kk)), some (.int (nI 1)), some (.int (nI 0)), some (.int (nI (cAft un cs[i] (cAll un sc (V))))), some (.int (nI (i + 1))), some (.int (nI (cs[i]))), lb]) dX12_repair_232 rfl rfl ?_
        refine R_goto (tgt := 63) dX12_repair_235 (by decide) ?_
        have hfl : decide (((V) ++ [cs[i]]).length ≤ 96) = false := by rw [len1]; exact decide_eq_false (by omega)
        have h9 := ih (i + 1) _ ((V) ++ [cs[i]]) (mn) (kk) (some (.int (nI (cs[i])))) lb (by omega) (by omega) (by rw [len1]; omega) (by omega) ⟨_, _, _, _, c53, c54, c55, hp1.ax, c56, c57, c58, c59, c60, c61, c62, c63, c64, c65, c66⟩ hrow (by rw [hN, if_neg (by omega)]; omega) (by rw [hG, if_pos h29]) (by rw [hV, if_pos h29]) FF67
        rw [cAll1, hfl] at h9
        exact h9
    · rw [if_pos (by omega)] at hN
      rw [if_neg (show ¬ 29 ≤ cs[i] by omega)] at hG hV
      refine R_iload_n dX12_repair_96 rfl rfl ?_
      refine R_aload_n dX12_repair_97 rfl rfl ?_
      refine R_getf dX12_repair_98 gX12_92 M0 rfl ?_
      refine N_icmp_ge (tgt := 120) dX12_repair_101 (by decide) (by omega) (by omega) (fun hkm => ?_) (fun hkm => ?_)
      · have hf9 : f_rep (ms, (cs, sc, un, wd), hs, s0, s1, os, ox) = (-3, (ms, (cs, sc, un, wd), hs, s0, s1, os, ox)) := by unfold f_rep; dsimp only; rw [decide_eq_false (by omega)]; rfl
        refine R_bipush (v := (-9)) dX12_repair_120 (by decide) ?_
        refine R_istore (lv' := [some (.ref 61), some (.int (nI mn)), some (.int (nI kk)), some (.int (nI 1)), some (.int (bz (decide (V.length ≤ 96)))), some (.int (nI (cAll un sc V))), some (.int (nI i)), some (.int (nI (cs[i]))), some (.int (-9))]) dX12_repair_122 (by decide) rfl ?_
        refine N_iinc (d := 1) (lv' := [some (.ref 61), some (.int (nI mn)), some (.int (nI (kk + 1))), some (.int (nI 1)), some (.int (bz (decide (V.length ≤ 96)))), some (.int (nI (cAll un sc V))), some (.int (nI i)), some (.int (nI (cs[i]))), some (.int (-9))]) dX12_repair_124 rfl rfl ?_
        refine R_iload dX12_repair_127 rfl ?_
        refine R_bipush (v := (-9)) dX12_repair_129 (by decide) ?_
        refine R_icmp_eq (tgt := 138) dX12_repair_131 (by decide) (fun _ => ?_) (fun hc => absurd rfl hc)
        refine R_iconst (v := (nI 0)) dX12_repair_138 (by decide) ?_
        refine R_istore_n (lv' := [some (.ref 61), some (.int (nI mn)), some (.int (nI (kk + 1))), some (.int (nI 0)), some (.int (bz (decide (V.length ≤ 96)))), some (.int (nI (cAll un sc V))), some (.int (nI i)), some (.int (nI (cs[i]))), some (.int (-9))]) dX12_repair_139 rfl (by decide) rfl ?_
        refine R_iload_n dX12_repair_140 rfl rfl ?_
        refine N_if_eq (tgt := 193) dX12_repair_141 (by decide) (by decide) (fun _ => ?_) (fun hc => absurd hc (by decide))
        exact r_rpF hf9 hM HT hc3 hpl hil2 hF
      · have hx := hmC ms[kk] (List.getElem_mem (by omega))
        rw [gD (by omega)] at hG hV
        refine R_iload dX12_repair_104 rfl ?_
        refine R_aload_n dX12_repair_106 rfl rfl ?_
        refine R_getf dX12_repair_107 gX12_7 M0 rfl ?_
        refine R_iload_n dX12_repair_110 rfl rfl ?_
        refine N_iald (y := (nI (ms[kk]))) dX12_repair_111 Hm (by omega) (by decide) (hfm kk (by omega)) ?_
        refine R_iload dX12_repair_112 rfl ?_
        refine R_stati (As := [.int (nI (cs[i])), .int (nI (ms[kk])), .int (nI (cAll un sc V))]) (st := []) kX12_caseFor lX12_156 (r_cf (by omega) hx hpl) dX12_repair_114 rfl rfl (Nat.le_of_ble_eq_true rfl) ⟨by decide, by decide⟩ zX12_caseFor ⟨Nat.le_refl _, Nat.le_refl _⟩ (fun wr76 wp75 wq74 => ?_)
        obtain ⟨rfl, rfl⟩ : wr76 = _ ∧ hz = wp75 := ⟨wq74.1, wq74.2.symm⟩
        refine R_goto (tgt := 122) dX12_repair_117 (by decide) ?_
        refine R_istore (lv' := [some (.ref 61), some (.int (nI mn)), some (.int (nI kk)), some (.int (nI 1)), some (.int (bz (decide (V.length ≤ 96)))), some (.int (nI (cAll un sc V))), some (.int (nI i)), some (.int (nI (cs[i]))), some (.int (cI (wtd cs[i] ms[kk] (cAll un sc V))))]) dX12_repair_122 (by decide) rfl ?_
        refine N_iinc (d := 1) (lv' := [some (.ref 61), some (.int (nI mn)), some (.int (nI (kk + 1))), some (.int (nI 1)), some (.int (bz (decide (V.length ≤ 96)))), some (.int (nI (cAll un sc V))), some (.int (nI i)), some (.int (nI (cs[i]))), some (.int (cI (wtd cs[i] ms[kk] (cAll un sc V))))]) dX12_repair_124 rfl rfl ?_
        refine R_iload dX12_repair_127 rfl ?_
        refine R_bipush (v := (-9)) dX12_repair_129 (by decide) ?_
        by_cases hcf : cof ms[kk] = cs[i]
        · have hcI : cofI ms[kk] = nI cs[i] := by rw [cofI_t (by omega), hcf]
          rw [decide_eq_true hcI, Bool.true_and] at hG
          have hwv : wtd cs[i] ms[kk] (cAll un sc V) = (if cfor ms[kk] = 2 then cAll un sc V else cfor ms[kk]) := by unfold wtd; rw [if_pos hcf]
          have hcl := cfor_le ms[kk]
          obtain ⟨w, ew⟩ : ∃ w, w = wtd cs[i] ms[kk] (cAll un sc V) := ⟨_, rfl⟩
          have hw1x : w ≤ 1 := by rw [ew, hwv]; split <;> omega
          rw [← ew] at hwv ⊢
          have hci : cI w = nI w := by unfold cI; rw [if_neg (by omega)]
          rw [hci]
          refine R_icmp_eq (tgt := 138) dX12_repair_131 (by decide) (fun hc => absurd hc (nI_m9 (by omega))) (fun _ => ?_)
          refine R_iconst (v := (nI 1)) dX12_repair_134 (by decide) ?_
          refine R_goto (tgt := 139) dX12_repair_135 (by decide) ?_
          refine R_istore_n (lv' := [some (.ref 61), some (.int (nI mn)), some (.int (nI (kk + 1))), some (.int (nI 1)), some (.int (bz (decide (V.length ≤ 96)))), some (.int (nI (cAll un sc V))), some (.int (nI i)), some (.int (nI (cs[i]))), some (.int (nI w))]) dX12_repair_139 rfl (by decide) rfl ?_
          refine R_iload_n dX12_repair_140 rfl rfl ?_
          refine N_if_eq (tgt := 193) dX12_repair_141 (by decide) (by decide) (fun hc => absurd hc (by decide)) (fun _ => ?_)
          refine R_iload dX12_repair_144 rfl ?_
          refine R_iload dX12_repair_146 rfl ?_
          refine N_icmp_eq (tgt := 193) dX12_repair_148 (by decide) (by omega) (by omega) (fun hwp => ?_) (fun hwp => ?_)
          · have hsh : shfV un sc V ms[kk] = V := by unfold shfV; rw [if_pos (by by_cases h2 : cfor ms[kk] = 2; exact .inl h2; rw [if_neg h2] at hwv; exact .inr (by omega))]
            rw [hsh] at hV
            refine R_aload_n dX12_repair_193 rfl rfl ?_
            refine R_getf dX12_repair_194 gX12_16 M0 rfl ?_
            refine R_iload dX12_repair_197 rfl ?_
            refine R_stati (As := [.ref 64, .int (nI (cs[i]))]) (st := []) kX12_put lX12_116 (r_put hc3 HT) dX12_repair_199 rfl rfl (Nat.le_of_ble_eq_true rfl) ⟨by decide, by decide⟩ zX12_put ⟨Nat.le_refl _, Nat.le_refl _⟩ (fun wr79 wp78 wq77 => ?_)
            obtain ⟨rfl, hp1, hp2⟩ := wq77
            have c80 := hp2.at (by decide) M0
            have c81 := MM.fr hp2 (by decide)
            have c82 := MN.fr hp2 (by decide)
            have c83 := MD.fr hp2 (by decide)
            have c84 := MK.fr hp2 (by decide) (by decide)
            have c85 := MO.fr hp2 (by decide) (by decide)
            have c86 := A70.fr hp2 (by decide)
            have c87 := A71.fr hp2 (by decide)
            have c88 := A72.fr hp2 (by decide)
            have c89 := A73.fr hp2 (by decide)
            have c90 := A74.fr hp2 (by decide)
            have c91 := A75.fr hp2 (by decide)
            have c92 := A76.fr hp2 (by decide)
            have c93 := A77.fr hp2 (by decide)
            have FF94 : Fr LM hp wp78 := hF.trans (hp2.mono (by decide))
            have hlw : (((V)).take 96).length = min 96 (V).length := List.length_take
            have hrow : RwAt wp78 64 (((V) ++ [cs[i]]).take 96, sc, un, wd) := by
              by_cases h9 : (V).length < 96
              · rw [tk_id (V := V) (by omega), tk96 h9] at hp1; rw [tk96 h9]; exact hp1
              · rw [tkn (V := V) (by omega)]
                have e9 : ((V).take 96 ++ [cs[i]]).take 96 = (V).take 96 := by rw [tkn (by omega), List.take_take, Nat.min_self]
                rw [e9] at hp1; exact hp1
            by_cases hlt : (V).length < 96
            · rw [decide_eq_true (show ((V).take 96).length < 96 by omega)]
              show PZ _ _ _ _ _ _ (.int (nI 1) :: _) _ _ _
              refine N_if_eq (tgt := 214) dX12_repair_202 (by decide) (by decide) (fun hc => absurd hc (by decide)) (fun _ => ?_)
              refine R_iload dX12_repair_205 rfl ?_
              rw [decide_eq_true (p := V.length ≤ 96) (by omega)]
              show PZ _ _ _ _ _ _ (.int (nI 1) :: _) _ _ _
              refine N_if_eq (tgt := 214) dX12_repair_207 (by decide) (by decide) (fun hc => absurd hc (by decide)) (fun _ => ?_)
              obtain ⟨fz, Haz, hRz⟩ := id c82
              obtain ⟨h0z, h1z, h2z, h3z, hfz, -⟩ := hRz.to
              refine R_iconst (v := (nI 1)) dX12_repair_210 (by decide) ?_
              refine R_goto (tgt := 215) dX12_repair_211 (by decide) ?_
              refine R_istore (lv' := [some (.ref 61), some (.int (nI mn)), some (.int (nI (kk + 1))), some (.int (nI 1)), some (.int (nI 1)), some (.int (nI (cAll un sc V))), some (.int (nI i)), some (.int (nI (cs[i]))), some (.int (nI w))]) dX12_repair_215 (by decide) rfl ?_
              refine R_iload dX12_repair_217 rfl ?_
              refine R_iload dX12_repair_219 rfl ?_
              refine R_aload_n dX12_repair_221 rfl rfl ?_
              refine R_getf dX12_repair_222 gX12_13 c80 rfl ?_
              refine R_iconst (v := (nI 2)) dX12_repair_225 (by decide) ?_
              refine N_iald (y := (nI un)) dX12_repair_226 Haz (by decide) (by decide) h2z ?_
              refine R_stati (As := [.int (nI (cs[i])), .int (nI (cAll un sc V)), .int (nI un)]) (st := []) kX12_caseAfter lX12_75 (r_aft hc3 (cAll_le (V) hs1) hu1) dX12_repair_227 rfl rfl (Nat.le_of_ble_eq_true rfl) ⟨by decide, by decide⟩ zX12_caseAfter ⟨Nat.le_refl _, Nat.le_refl _⟩ (fun wr97 wp96 wq95 => ?_)
              obtain ⟨rfl, rfl⟩ : wr97 = _ ∧ wp78 = wp96 := ⟨wq95.1, wq95.2.symm⟩
              refine R_istore (lv' := [some (.ref 61), some (.int (nI mn)), some (.int (nI (kk + 1))), some (.int (nI 1)), some (.int (nI 1)), some (.int (nI (cAft un cs[i] (cAll un sc (V))))), some (.int (nI i)), some (.int (nI (cs[i]))), some (.int (nI w))]) dX12_repair_230 (by decide) rfl ?_
              refine N_iinc (d := 1) (lv' := [some (.ref 61), some (.int (nI mn)), some (.int (nI (kk + 1))), some (.int (nI 1)), some (.int (nI 1)), some (.int (nI (cAft un cs[i] (cAll un sc (V))))), some (.int (nI (i + 1))), some (.int (nI (cs[i]))), some (.int (nI w))]) dX12_repair_232 rfl rfl ?_
              refine R_goto (tgt := 63) dX12_repair_235 (by decide) ?_
              have hfl : decide (((V) ++ [cs[i]]).length ≤ 96) = true := by rw [len1]; exact decide_eq_true (by omega)
              have h9 := ih (i + 1) _ ((V) ++ [cs[i]]) (mn) (kk + 1) (some (.int (nI (cs[i])))) (some (.int (nI w))) (by omega) (by omega) (by rw [len1]; omega) (by omega) ⟨_, _, _, _, c80, c81, c82, hp1.ax, c83, c84, c85, c86, c87, c88, c89, c90, c91, c92, c93⟩ hrow (by omega) hG hV FF94
              rw [cAll1, hfl] at h9
              exact h9
            · rw [decide_eq_false (show ¬ ((V).take 96).length < 96 by omega)]
              show PZ _ _ _ _ _ _ (.int (nI 0) :: _) _ _ _
              refine N_if_eq (tgt := 214) dX12_repair_202 (by decide) (by decide) (fun _ => ?_) (fun hc => absurd hc (by decide))
              obtain ⟨fz, Haz, hRz⟩ := id c82
              obtain ⟨h0z, h1z, h2z, h3z, hfz, -⟩ := hRz.to
              refine R_iconst (v := (nI 0)) dX12_repair_214 (by decide) ?_
              refine R_istore (lv' := [some (.ref 61), some (.int (nI mn)), some (.int (nI (kk + 1))), some (.int (nI 1)), some (.int (nI 0)), some (.int (nI (cAll un sc V))), some (.int (nI i)), some (.int (nI (cs[i]))), some (.int (nI w))]) dX12_repair_215 (by decide) rfl ?_
              refine R_iload dX12_repair_217 rfl ?_
              refine R_iload dX12_repair_219 rfl ?_
              refine R_aload_n dX12_repair_221 rfl rfl ?_
              refine R_getf dX12_repair_222 gX12_13 c80 rfl ?_
              refine R_iconst (v := (nI 2)) dX12_repair_225 (by decide) ?_
              refine N_iald (y := (nI un)) dX12_repair_226 Haz (by decide) (by decide) h2z ?_
              refine R_stati (As := [.int (nI (cs[i])), .int (nI (cAll un sc V)), .int (nI un)]) (st := []) kX12_caseAfter lX12_75 (r_aft hc3 (cAll_le (V) hs1) hu1) dX12_repair_227 rfl rfl (Nat.le_of_ble_eq_true rfl) ⟨by decide, by decide⟩ zX12_caseAfter ⟨Nat.le_refl _, Nat.le_refl _⟩ (fun wr100 wp99 wq98 => ?_)
              obtain ⟨rfl, rfl⟩ : wr100 = _ ∧ wp78 = wp99 := ⟨wq98.1, wq98.2.symm⟩
              refine R_istore (lv' := [some (.ref 61), some (.int (nI mn)), some (.int (nI (kk + 1))), some (.int (nI 1)), some (.int (nI 0)), some (.int (nI (cAft un cs[i] (cAll un sc (V))))), some (.int (nI i)), some (.int (nI (cs[i]))), some (.int (nI w))]) dX12_repair_230 (by decide) rfl ?_
              refine N_iinc (d := 1) (lv' := [some (.ref 61), some (.int (nI mn)), some (.int (nI (kk + 1))), some (.int (nI 1)), some (.int (nI 0)), some (.int (nI (cAft un cs[i] (cAll un sc (V))))), some (.int (nI (i + 1))), some (.int (nI (cs[i]))), some (.int (nI w))]) dX12_repair_232 rfl rfl ?_
              refine R_goto (tgt := 63) dX12_repair_235 (by decide) ?_
              have hfl : decide (((V) ++ [cs[i]]).length ≤ 96) = false := by rw [len1]; exact decide_eq_false (by omega)
              have h9 := ih (i + 1) _ ((V) ++ [cs[i]]) (mn) (kk + 1) (some (.int (nI (cs[i])))) (some (.int (nI w))) (by omega) (by omega) (by rw [len1]; omega) (by omega) ⟨_, _, _, _, c80, c81, c82, hp1.ax, c83, c84, c85, c86, c87, c88, c89, c90, c91, c92, c93⟩ hrow (by omega) hG hV FF94
              rw [cAll1, hfl] at h9
              exact h9
          · have h2 : cfor ms[kk] ≠ 2 := fun z9 => by rw [if_pos z9] at hwv; exact hwp hwv
            rw [if_neg h2] at hwv
            obtain ⟨sh, esh⟩ : ∃ sh, sh = if cfor ms[kk] = 1 then 29 else 30 := ⟨_, rfl⟩
            have hsh : shfV un sc V ms[kk] = V ++ [sh] := by unfold shfV; rw [if_neg (by omega), esh]
            rw [hsh] at hV
            have hall : cAll un sc (V ++ [sh]) = w := by rw [cAll1, esh, hwv]; by_cases h1 : cfor ms[kk] = 1; rw [if_pos h1, h1]; rfl; rw [if_neg h1]; show 0 = _; omega
            refine R_aload_n dX12_repair_151 rfl rfl ?_
            refine R_getf dX12_repair_152 gX12_16 M0 rfl ?_
            refine R_iload dX12_repair_155 rfl ?_
            refine R_iconst (v := (nI 1)) dX12_repair_157 (by decide) ?_
            refine N_icmp_ne (tgt := 166) dX12_repair_158 (by decide) (by omega) (by omega) (fun hw1y => ?_) (fun hw1y => ?_)
            · have hsv : sh = 30 := by rw [esh]; split <;> omega
              rw [hsv] at hV hall
              refine R_bipush (v := (nI 30)) dX12_repair_166 (by decide) ?_
              refine R_stati (As := [.ref 64, .int (nI 30)]) (st := []) kX12_put lX12_116 (r_put (c := 30) (by decide) HT) dX12_repair_168 rfl rfl (Nat.le_of_ble_eq_true rfl) ⟨by decide, by decide⟩ zX12_put ⟨Nat.le_refl _, Nat.le_refl _⟩ (fun wr103 wp102 wq101 => ?_)
              obtain ⟨rfl, hs2, hs3⟩ := wq101
              have c104 := hs3.at (by decide) M0
              have c105 := MM.fr hs3 (by decide)
              have c106 := MN.fr hs3 (by decide)
              have c107 := MD.fr hs3 (by decide)
              have c108 := MK.fr hs3 (by decide) (by decide)
              have c109 := MO.fr hs3 (by decide) (by decide)
              have c110 := A70.fr hs3 (by decide)
              have c111 := A71.fr hs3 (by decide)
              have c112 := A72.fr hs3 (by decide)
              have c113 := A73.fr hs3 (by decide)
              have c114 := A74.fr hs3 (by decide)
              have c115 := A75.fr hs3 (by decide)
              have c116 := A76.fr hs3 (by decide)
              have c117 := A77.fr hs3 (by decide)
              have FF118 : Fr LM hp wp102 := hF.trans (hs3.mono (by decide))
              have hrw : RwAt wp102 64 ((V ++ [30]).take 96, sc, un, wd) := by
                by_cases h9 : V.length < 96
                · rw [tk_id (V := V) (by omega), tk96 h9] at hs2; rw [tk96 h9]; exact hs2
                · rw [tkn (V := V) (by omega)]
                  have e9 : (V.take 96 ++ [30]).take 96 = V.take 96 := by rw [tkn (by omega), List.take_take, Nat.min_self]
                  rw [e9] at hs2; exact hs2
              by_cases hlv : V.length < 96
              · rw [decide_eq_true (p := (V.take 96).length < 96) (by omega)]
                show PZ _ _ _ _ _ _ (.int (nI 1) :: _) _ _ _
                refine N_if_eq (tgt := 183) dX12_repair_171 (by decide) (by decide) (fun hc => absurd hc (by decide)) (fun _ => ?_)
                refine R_iload dX12_repair_174 rfl ?_
                rw [decide_eq_true (p := V.length ≤ 96) (by omega)]
                show PZ _ _ _ _ _ _ (.int (nI 1) :: _) _ _ _
                refine N_if_eq (tgt := 183) dX12_repair_176 (by decide) (by decide) (fun hc => absurd hc (by decide)) (fun _ => ?_)
                refine R_iconst (v := (nI 1)) dX12_repair_179 (by decide) ?_
                refine R_goto (tgt := 184) dX12_repair_180 (by decide) ?_
                refine R_istore (lv' := [some (.ref 61), some (.int (nI mn)), some (.int (nI (kk + 1))), some (.int (nI 1)), some (.int (nI 1)), some (.int (nI (cAll un sc V))), some (.int (nI i)), some (.int (nI (cs[i]))), some (.int (nI w))]) dX12_repair_184 (by decide) rfl ?_
                refine R_iload dX12_repair_186 rfl ?_
                refine R_istore (lv' := [some (.ref 61), some (.int (nI mn)), some (.int (nI (kk + 1))), some (.int (nI 1)), some (.int (nI 1)), some (.int (nI w)), some (.int (nI i)), some (.int (nI (cs[i]))), some (.int (nI w))]) dX12_repair_188 (by decide) rfl ?_
                refine N_iinc (d := 1) (lv' := [some (.ref 61), some (.int (nI (mn + 1))), some (.int (nI (kk + 1))), some (.int (nI 1)), some (.int (nI 1)), some (.int (nI w)), some (.int (nI i)), some (.int (nI (cs[i]))), some (.int (nI w))]) dX12_repair_190 rfl rfl ?_
                rw [← hall]
                refine R_aload_n dX12_repair_193 rfl rfl ?_
                refine R_getf dX12_repair_194 gX12_16 c104 rfl ?_
                refine R_iload dX12_repair_197 rfl ?_
                refine R_stati (As := [.ref 64, .int (nI (cs[i]))]) (st := []) kX12_put lX12_116 (r_put hc3 hrw) dX12_repair_199 rfl rfl (Nat.le_of_ble_eq_true rfl) ⟨by decide, by decide⟩ zX12_put ⟨Nat.le_refl _, Nat.le_refl _⟩ (fun wr121 wp120 wq119 => ?_)
                obtain ⟨rfl, hp1, hp2⟩ := wq119
                have c122 := hp2.at (by decide) c104
                have c123 := c105.fr hp2 (by decide)
                have c124 := c106.fr hp2 (by decide)
                have c125 := c107.fr hp2 (by decide)
                have c126 := c108.fr hp2 (by decide) (by decide)
                have c127 := c109.fr hp2 (by decide) (by decide)
                have c128 := c110.fr hp2 (by decide)
                have c129 := c111.fr hp2 (by decide)
                have c130 := c112.fr hp2 (by decide)
                have c131 := c113.fr hp2 (by decide)
                have c132 := c114.fr hp2 (by decide)
                have c133 := c115.fr hp2 (by decide)
                have c134 := c116.fr hp2 (by decide)
                have c135 := c117.fr hp2 (by decide)
                have FF136 : Fr LM hp wp120 := FF118.trans (hp2.mono (by decide))
                have hlw : ((((V ++ [30] : List Nat))).take 96).length = min 96 ((V ++ [30] : List Nat)).length := List.length_take
                have hrow : RwAt wp120 64 ((((V ++ [30] : List Nat)) ++ [cs[i]]).take 96, sc, un, wd) := by
                  by_cases h9 : ((V ++ [30] : List Nat)).length < 96
                  · rw [tk_id (V := (V ++ [30] : List Nat)) (by omega), tk96 h9] at hp1; rw [tk96 h9]; exact hp1
                  · rw [tkn (V := (V ++ [30] : List Nat)) (by omega)]
                    have e9 : (((V ++ [30] : List Nat)).take 96 ++ [cs[i]]).take 96 = ((V ++ [30] : List Nat)).take 96 := by rw [tkn (by omega), List.take_take, Nat.min_self]
                    rw [e9] at hp1; exact hp1
                by_cases hlt : ((V ++ [30] : List Nat)).length < 96
                · rw [decide_eq_true (show (((V ++ [30] : List Nat)).take 96).length < 96 by omega)]
                  show PZ _ _ _ _ _ _ (.int (nI 1) :: _) _ _ _
                  refine N_if_eq (tgt := 214) dX12_repair_202 (by decide) (by decide) (fun hc => absurd hc (by decide)) (fun _ => ?_)
                  refine R_iload dX12_repair_205 rfl ?_
                  refine N_if_eq (tgt := 214) dX12_repair_207 (by decide) (by decide) (fun hc => absurd hc (by decide)) (fun _ => ?_)
                  obtain ⟨fz, Haz, hRz⟩ := id c124
                  obtain ⟨h0z, h1z, h2z, h3z, hfz, -⟩ := hRz.to
                  refine R_iconst (v := (nI 1)) dX12_repair_210 (by decide) ?_
                  refine R_goto (tgt := 215) dX12_repair_211 (by decide) ?_
                  refine R_istore (lv' := [some (.ref 61), some (.int (nI (mn + 1))), some (.int (nI (kk + 1))), some (.int (nI 1)), some (.int (nI 1)), some (.int (nI (cAll un sc (V ++ [30])))), some (.int (nI i)), some (.int (nI (cs[i]))), some (.int (nI (cAll un sc (V ++ [30]))))]) dX12_repair_215 (by decide) rfl ?_
                  refine R_iload dX12_repair_217 rfl ?_
                  refine R_iload dX12_repair_219 rfl ?_
                  refine R_aload_n dX12_repair_221 rfl rfl ?_
                  refine R_getf dX12_repair_222 gX12_13 c122 rfl ?_
                  refine R_iconst (v := (nI 2)) dX12_repair_225 (by decide) ?_
                  refine N_iald (y := (nI un)) dX12_repair_226 Haz (by decide) (by decide) h2z ?_
                  refine R_stati (As := [.int (nI (cs[i])), .int (nI (cAll un sc (V ++ [30]))), .int (nI un)]) (st := []) kX12_caseAfter lX12_75 (r_aft hc3 (cAll_le ((V ++ [30] : List Nat)) hs1) hu1) dX12_repair_227 rfl rfl (Nat.le_of_ble_eq_true rfl) ⟨by decide, by decide⟩ zX12_caseAfter ⟨Nat.le_refl _, Nat.le_refl _⟩ (fun wr139 wp138 wq137 => ?_)
                  obtain ⟨rfl, rfl⟩ : wr139 = _ ∧ wp120 = wp138 := ⟨wq137.1, wq137.2.symm⟩
                  refine R_istore (lv' := [some (.ref 61), some (.int (nI (mn + 1))), some (.int (nI (kk + 1))), some (.int (nI 1)), some (.int (nI 1)), some (.int (nI (cAft un cs[i] (cAll un sc ((V ++ [30] : List Nat)))))), some (.int (nI i)), some (.int (nI (cs[i]))), some (.int (nI (cAll un sc (V ++ [30]))))]) dX12_repair_230 (by decide) rfl ?_
                  refine N_iinc (d := 1) (lv' := [some (.ref 61), some (.int (nI (mn + 1))), some (.int (nI (kk + 1))), some (.int (nI 1)), some (.int (nI 1)), some (.int (nI (cAft un cs[i] (cAll un sc ((V ++ [30] : List Nat)))))), some (.int (nI (i + 1))), some (.int (nI (cs[i]))), some (.int (nI (cAll un sc (V ++ [30]))))]) dX12_repair_232 rfl rfl ?_
                  refine R_goto (tgt := 63) dX12_repair_235 (by decide) ?_
                  have hfl : decide ((((V ++ [30] : List Nat)) ++ [cs[i]]).length ≤ 96) = true := by rw [len1]; exact decide_eq_true (by omega)
                  have h9 := ih (i + 1) _ (((V ++ [30] : List Nat)) ++ [cs[i]]) (mn + 1) (kk + 1) (some (.int (nI (cs[i])))) (some (.int (nI (cAll un sc (V ++ [30]))))) (by omega) (by omega) (by rw [len1]; rw [len1]; omega) (by omega) ⟨_, _, _, _, c122, c123, c124, hp1.ax, c125, c126, c127, c128, c129, c130, c131, c132, c133, c134, c135⟩ hrow (by omega) hG hV FF136
                  rw [cAll1, hfl] at h9
                  exact h9
                · rw [decide_eq_false (show ¬ (((V ++ [30] : List Nat)).take 96).length < 96 by omega)]
                  show PZ _ _ _ _ _ _ (.int (nI 0) :: _) _ _ _
                  refine N_if_eq (tgt := 214) dX12_repair_202 (by decide) (by decide) (fun _ => ?_) (fun hc => absurd hc (by decide))
                  obtain ⟨fz, Haz, hRz⟩ := id c124
                  obtain ⟨h0z, h1z, h2z, h3z, hfz, -⟩ := hRz.to
                  refine R_iconst (v := (nI 0)) dX12_repair_214 (by decide) ?_
                  refine R_istore (lv' := [some (.ref 61), some (.int (nI (mn + 1))), some (.int (nI (kk + 1))), some (.int (nI 1)), some (.int (nI 0)), some (.int (nI (cAll un sc (V ++ [30])))), some (.int (nI i)), some (.int (nI (cs[i]))), some (.int (nI (cAll un sc (V ++ [30]))))]) dX12_repair_215 (by decide) rfl ?_
                  refine R_iload dX12_repair_217 rfl ?_
                  refine R_iload dX12_repair_219 rfl ?_
                  refine R_aload_n dX12_repair_221 rfl rfl ?_
                  refine R_getf dX12_repair_222 gX12_13 c122 rfl ?_
                  refine R_iconst (v := (nI 2)) dX12_repair_225 (by decide) ?_
                  refine N_iald (y := (nI un)) dX12_repair_226 Haz (by decide) (by decide) h2z ?_
                  refine R_stati (As := [.int (nI (cs[i])), .int (nI (cAll un sc (V ++ [30]))), .int (nI un)]) (st := []) kX12_caseAfter lX12_75 (r_aft hc3 (cAll_le ((V ++ [30] : List Nat)) hs1) hu1) dX12_repair_227 rfl rfl (Nat.le_of_ble_eq_true rfl) ⟨by decide, by decide⟩ zX12_caseAfter ⟨Nat.le_refl _, Nat.le_refl _⟩ (fun wr142 wp141 wq140 => ?_)
                  obtain ⟨rfl, rfl⟩ : wr142 = _ ∧ wp120 = wp141 := ⟨wq140.1, wq140.2.symm⟩
                  refine R_istore (lv' := [some (.ref 61), some (.int (nI (mn + 1))), some (.int (nI (kk + 1))), some (.int (nI 1)), some (.int (nI 0)), some (.int (nI (cAft un cs[i] (cAll un sc ((V ++ [30] : List Nat)))))), some (.int (nI i)), some (.int (nI (cs[i]))), some (.int (nI (cAll un sc (V ++ [30]))))]) dX12_repair_230 (by decide) rfl ?_
                  refine N_iinc (d := 1) (lv' := [some (.ref 61), some (.int (nI (mn + 1))), some (.int (nI (kk + 1))), some (.int (nI 1)), some (.int (nI 0)), some (.int (nI (cAft un cs[i] (cAll un sc ((V ++ [30] : List Nat)))))), some (.int (nI (i + 1))), some (.int (nI (cs[i]))), some (.int (nI (cAll un sc (V ++ [30]))))]) dX12_repair_232 rfl rfl ?_
                  refine R_goto (tgt := 63) dX12_repair_235 (by decide) ?_
                  have hfl : decide ((((V ++ [30] : List Nat)) ++ [cs[i]]).length ≤ 96) = false := by rw [len1]; exact decide_eq_false (by omega)
                  have h9 := ih (i + 1) _ (((V ++ [30] : List Nat)) ++ [cs[i]]) (mn + 1) (kk + 1) (some (.int (nI (cs[i])))) (some (.int (nI (cAll un sc (V ++ [30]))))) (by omega) (by omega) (by rw [len1]; rw [len1]; omega) (by omega) ⟨_, _, _, _, c122, c123, c124, hp1.ax, c125, c126, c127, c128, c129, c130, c131, c132, c133, c134, c135⟩ hrow (by omega) hG hV FF136
                  rw [cAll1, hfl] at h9
                  exact h9
              · rw [decide_eq_false (p := (V.take 96).length < 96) (by omega)]
                show PZ _ _ _ _ _ _ (.int (nI 0) :: _) _ _ _
                refine N_if_eq (tgt := 183) dX12_repair_171 (by decide) (by decide) (fun _ => ?_) (fun hc => absurd hc (by decide))
                refine R_iconst (v := (nI 0)) dX12_repair_183 (by decide) ?_
                refine R_istore (lv' := [some (.ref 61), some (.int (nI mn)), some (.int (nI (kk + 1))), some (.int (nI 1)), some (.int (nI 0)), some (.int (nI (cAll un sc V))), some (.int (nI i)), some (.int (nI (cs[i]))), some (.int (nI w))]) dX12_repair_184 (by decide) rfl ?_
                refine R_iload dX12_repair_186 rfl ?_
                refine R_istore (lv' := [some (.ref 61), some (.int (nI mn)), some (.int (nI (kk + 1))), some (.int (nI 1)), some (.int (nI 0)), some (.int (nI w)), some (.int (nI i)), some (.int (nI (cs[i]))), some (.int (nI w))]) dX12_repair_188 (by decide) rfl ?_
                refine N_iinc (d := 1) (lv' := [some (.ref 61), some (.int (nI (mn + 1))), some (.int (nI (kk + 1))), some (.int (nI 1)), some (.int (nI 0)), some (.int (nI w)), some (.int (nI i)), some (.int (nI (cs[i]))), some (.int (nI w))]) dX12_repair_190 rfl rfl ?_
                rw [← hall]
                refine R_aload_n dX12_repair_193 rfl rfl ?_
                refine R_getf dX12_repair_194 gX12_16 c104 rfl ?_
                refine R_iload dX12_repair_197 rfl ?_
                refine R_stati (As := [.ref 64, .int (nI (cs[i]))]) (st := []) kX12_put lX12_116 (r_put hc3 hrw) dX12_repair_199 rfl rfl (Nat.le_of_ble_eq_true rfl) ⟨by decide, by decide⟩ zX12_put ⟨Nat.le_refl _, Nat.le_refl _⟩ (fun wr145 wp144 wq143 => ?_)
                obtain ⟨rfl, hp1, hp2⟩ := wq143
                have c146 := hp2.at (by decide) c104
                have c147 := c105.fr hp2 (by decide)
                have c148 := c106.fr hp2 (by decide)
                have c149 := c107.fr hp2 (by decide)
                have c150 := c108.fr hp2 (by decide) (by decide)
                have c151 := c109.fr hp2 (by decide) (by decide)
                have c152 := c110.fr hp2 (by decide)
                have c153 := c111.fr hp2 (by decide)
                have c154 := c112.fr hp2 (by decide)
                have c155 := c113.fr hp2 (by decide)
                have c156 := c114.fr hp2 (by decide)
                have c157 := c115.fr hp2 (by decide)
                have c158 := c116.fr hp2 (by decide)
                have c159 := c117.fr hp2 (by decide)
                have FF160 : Fr LM hp wp144 := FF118.trans (hp2.mono (by decide))
                have hlw : ((((V ++ [30] : List Nat))).take 96).length = min 96 ((V ++ [30] : List Nat)).length := List.length_take
                have hrow : RwAt wp144 64 ((((V ++ [30] : List Nat)) ++ [cs[i]]).take 96, sc, un, wd) := by
                  by_cases h9 : ((V ++ [30] : List Nat)).length < 96
                  · rw [tk_id (V := (V ++ [30] : List Nat)) (by omega), tk96 h9] at hp1; rw [tk96 h9]; exact hp1
                  · rw [tkn (V := (V ++ [30] : List Nat)) (by omega)]
                    have e9 : (((V ++ [30] : List Nat)).take 96 ++ [cs[i]]).take 96 = ((V ++ [30] : List Nat)).take 96 := by rw [tkn (by omega), List.take_take, Nat.min_self]
                    rw [e9] at hp1; exact hp1
                by_cases hlt : ((V ++ [30] : List Nat)).length < 96
                · exact absurd hlt (by rw [len1]; omega)
                · rw [decide_eq_false (show ¬ (((V ++ [30] : List Nat)).take 96).length < 96 by omega)]
                  show PZ _ _ _ _ _ _ (.int (nI 0) :: _) _ _ _
                  refine N_if_eq (tgt := 214) dX12_repair_202 (by decide) (by decide) (fun _ => ?_) (fun hc => absurd hc (by decide))
                  obtain ⟨fz, Haz, hRz⟩ := id c148
                  obtain ⟨h0z, h1z, h2z, h3z, hfz, -⟩ := hRz.to
                  refine R_iconst (v := (nI 0)) dX12_repair_214 (by decide) ?_
                  refine R_istore (lv' := [some (.ref 61), some (.int (nI (mn + 1))), some (.int (nI (kk + 1))), some (.int (nI 1)), some (.int (nI 0)), some (.int (nI (cAll un sc (V ++ [30])))), some (.int (nI i)), some (.int (nI (cs[i]))), some (.int (nI (cAll un sc (V ++ [30]))))]) dX12_repair_215 (by decide) rfl ?_
                  refine R_iload dX12_repair_217 rfl ?_
                  refine R_iload dX12_repair_219 rfl ?_
                  refine R_aload_n dX12_repair_221 rfl rfl ?_
                  refine R_getf dX12_repair_222 gX12_13 c146 rfl ?_
                  refine R_iconst (v := (nI 2)) dX12_repair_225 (by decide) ?_
                  refine N_iald (y := (nI un)) dX12_repair_226 Haz (by decide) (by decide) h2z ?_
                  refine R_stati (As := [.int (nI (cs[i])), .int (nI (cAll un sc (V ++ [30]))), .int (nI un)]) (st := []) kX12_caseAfter lX12_75 (r_aft hc3 (cAll_le ((V ++ [30] : List Nat)) hs1) hu1) dX12_repair_227 rfl rfl (Nat.le_of_ble_eq_true rfl) ⟨by decide, by decide⟩ zX12_caseAfter ⟨Nat.le_refl _, Nat.le_refl _⟩ (fun wr163 wp162 wq161 => ?_)
                  obtain ⟨rfl, rfl⟩ : wr163 = _ ∧ wp144 = wp162 := ⟨wq161.1, wq161.2.symm⟩
                  refine R_istore (lv' := [some (.ref 61), some (.int (nI (mn + 1))), some (.int (nI (kk + 1))), some (.int (nI 1)), some (.int (nI 0)), some (.int (nI (cAft un cs[i] (cAll un sc ((V ++ [30] : List Nat)))))), some (.int (nI i)), some (.int (nI (cs[i]))), some (.int (nI (cAll un sc (V ++ [30]))))]) dX12_repair_230 (by decide) rfl ?_
                  refine N_iinc (d := 1) (lv' := [some (.ref 61), some (.int (nI (mn + 1))), some (.int (nI (kk + 1))), some (.int (nI 1)), some (.int (nI 0)), some (.int (nI (cAft un cs[i] (cAll un sc ((V ++ [30] : List Nat)))))), some (.int (nI (i + 1))), some (.int (nI (cs[i]))), some (.int (nI (cAll un sc (V ++ [30]))))]) dX12_repair_232 rfl rfl ?_
                  refine R_goto (tgt := 63) dX12_repair_235 (by decide) ?_
                  have hfl : decide ((((V ++ [30] : List Nat)) ++ [cs[i]]).length ≤ 96) = false := by rw [len1]; exact decide_eq_false (by omega)
                  have h9 := ih (i + 1) _ (((V ++ [30] : List Nat)) ++ [cs[i]]) (mn + 1) (kk + 1) (some (.int (nI (cs[i])))) (some (.int (nI (cAll un sc (V ++ [30]))))) (by omega) (by omega) (by rw [len1]; rw [len1]; omega) (by omega) ⟨_, _, _, _, c146, c147, c148, hp1.ax, c149, c150, c151, c152, c153, c154, c155, c156, c157, c158, c159⟩ hrow (by omega) hG hV FF160
                  rw [cAll1, hfl] at h9
                  exact h9
            · have hsv : sh = 29 := by rw [esh]; split <;> omega
              rw [hsv] at hV hall
              refine R_bipush (v := (nI 29)) dX12_repair_161 (by decide) ?_
              refine R_goto (tgt := 168) dX12_repair_163 (by decide) ?_
              refine R_stati (As := [.ref 64, .int (nI 29)]) (st := []) kX12_put lX12_116 (r_put (c := 29) (by decide) HT) dX12_repair_168 rfl rfl (Nat.le_of_ble_eq_true rfl) ⟨by decide, by decide⟩ zX12_put ⟨Nat.le_refl _, Nat.le_refl _⟩ (fun wr166 wp165 wq164 => ?_)
              obtain ⟨rfl, hs2, hs3⟩ := wq164
              have c167 := hs3.at (by decide) M0
              have c168 := MM.fr hs3 (by decide)
              have c169 := MN.fr hs3 (by decide)
              have c170 := MD.fr hs3 (by decide)
              have c171 := MK.fr hs3 (by decide) (by decide)
              have c172 := MO.fr hs3 (by decide) (by decide)
              have c173 := A70.fr hs3 (by decide)
              have c174 := A71.fr hs3 (by decide)
              have c175 := A72.fr hs3 (by decide)
              have c176 := A73.fr hs3 (by decide)
              have c177 := A74.fr hs3 (by decide)
              have c178 := A75.fr hs3 (by decide)
              have c179 := A76.fr hs3 (by decide)
              have c180 := A77.fr hs3 (by decide)
              have FF181 : Fr LM hp wp165 := hF.trans (hs3.mono (by decide))
              have hrw : RwAt wp165 64 ((V ++ [29]).take 96, sc, un, wd) := by
                by_cases h9 : V.length < 96
                · rw [tk_id (V := V) (by omega), tk96 h9] at hs2; rw [tk96 h9]; exact hs2
                · rw [tkn (V := V) (by omega)]
                  have e9 : (V.take 96 ++ [29]).take 96 = V.take 96 := by rw [tkn (by omega), List.take_take, Nat.min_self]
                  rw [e9] at hs2; exact hs2
              by_cases hlv : V.length < 96
              · rw [decide_eq_true (p := (V.take 96).length < 96) (by omega)]
                show PZ _ _ _ _ _ _ (.int (nI 1) :: _) _ _ _
                refine N_if_eq (tgt := 183) dX12_repair_171 (by decide) (by decide) (fun hc => absurd hc (by decide)) (fun _ => ?_)
                refine R_iload dX12_repair_174 rfl ?_
                rw [decide_eq_true (p := V.length ≤ 96) (by omega)]
                show PZ _ _ _ _ _ _ (.int (nI 1) :: _) _ _ _
                refine N_if_eq (tgt := 183) dX12_repair_176 (by decide) (by decide) (fun hc => absurd hc (by decide)) (fun _ => ?_)
                refine R_iconst (v := (nI 1)) dX12_repair_179 (by decide) ?_
                refine R_goto (tgt := 184) dX12_repair_180 (by decide) ?_
                refine R_istore (lv' := [some (.ref 61), some (.int (nI mn)), some (.int (nI (kk + 1))), some (.int (nI 1)), some (.int (nI 1)), some (.int (nI (cAll un sc V))), some (.int (nI i)), some (.int (nI (cs[i]))), some (.int (nI w))]) dX12_repair_184 (by decide) rfl ?_
                refine R_iload dX12_repair_186 rfl ?_
                refine R_istore (lv' := [some (.ref 61), some (.int (nI mn)), some (.int (nI (kk + 1))), some (.int (nI 1)), some (.int (nI 1)), some (.int (nI w)), some (.int (nI i)), some (.int (nI (cs[i]))), some (.int (nI w))]) dX12_repair_188 (by decide) rfl ?_
                refine N_iinc (d := 1) (lv' := [some (.ref 61), some (.int (nI (mn + 1))), some (.int (nI (kk + 1))), some (.int (nI 1)), some (.int (nI 1)), some (.int (nI w)), some (.int (nI i)), some (.int (nI (cs[i]))), some (.int (nI w))]) dX12_repair_190 rfl rfl ?_
                rw [← hall]
                refine R_aload_n dX12_repair_193 rfl rfl ?_
                refine R_getf dX12_repair_194 gX12_16 c167 rfl ?_
                refine R_iload dX12_repair_197 rfl ?_
                refine R_stati (As := [.ref 64, .int (nI (cs[i]))]) (st := []) kX12_put lX12_116 (r_put hc3 hrw) dX12_repair_199 rfl rfl (Nat.le_of_ble_eq_true rfl) ⟨by decide, by decide⟩ zX12_put ⟨Nat.le_refl _, Nat.le_refl _⟩ (fun wr184 wp183 wq182 => ?_)
                obtain ⟨rfl, hp1, hp2⟩ := wq182
                have c185 := hp2.at (by decide) c167
                have c186 := c168.fr hp2 (by decide)
                have c187 := c169.fr hp2 (by decide)
                have c188 := c170.fr hp2 (by decide)
                have c189 := c171.fr hp2 (by decide) (by decide)
                have c190 := c172.fr hp2 (by decide) (by decide)
                have c191 := c173.fr hp2 (by decide)
                have c192 := c174.fr hp2 (by decide)
                have c193 := c175.fr hp2 (by decide)
                have c194 := c176.fr hp2 (by decide)
                have c195 := c177.fr hp2 (by decide)
                have c196 := c178.fr hp2 (by decide)
                have c197 := c179.fr hp2 (by decide)
                have c198 := c180.fr hp2 (by decide)
                have FF199 : Fr LM hp wp183 := FF181.trans (hp2.mono (by decide))
                have hlw : ((((V ++ [29] : List Nat))).take 96).length = min 96 ((V ++ [29] : List Nat)).length := List.length_take
                have hrow : RwAt wp183 64 ((((V ++ [29] : List Nat)) ++ [cs[i]]).take 96, sc, un, wd) := by
                  by_cases h9 : ((V ++ [29] : List Nat)).length < 96
                  · rw [tk_id (V := (V ++ [29] : List Nat)) (by omega), tk96 h9] at hp1; rw [tk96 h9]; exact hp1
                  · rw [tkn (V := (V ++ [29] : List Nat)) (by omega)]
                    have e9 : (((V ++ [29] : List Nat)).take 96 ++ [cs[i]]).take 96 = ((V ++ [29] : List Nat)).take 96 := by rw [tkn (by omega), List.take_take, Nat.min_self]
                    rw [e9] at hp1; exact hp1
                by_cases hlt : ((V ++ [29] : List Nat)).length < 96
                · rw [decide_eq_true (show (((V ++ [29] : List Nat)).take 96).length < 96 by omega)]
                  show PZ _ _ _ _ _ _ (.int (nI 1) :: _) _ _ _
                  refine N_if_eq (tgt := 214) dX12_repair_202 (by decide) (by decide) (fun hc => absurd hc (by decide)) (fun _ => ?_)
                  refine R_iload dX12_repair_205 rfl ?_
                  refine N_if_eq (tgt := 214) dX12_repair_207 (by decide) (by decide) (fun hc => absurd hc (by decide)) (fun _ => ?_)
                  obtain ⟨fz, Haz, hRz⟩ := id c187
                  obtain ⟨h0z, h1z, h2z, h3z, hfz, -⟩ := hRz.to
                  refine R_iconst (v := (nI 1)) dX12_repair_210 (by decide) ?_
                  refine R_goto (tgt := 215) dX12_repair_211 (by decide) ?_
                  refine R_istore (lv' := [some (.ref 61), some (.int (nI (mn + 1))), some (.int (nI (kk + 1))), some (.int (nI 1)), some (.int (nI 1)), some (.int (nI (cAll un sc (V ++ [29])))), some (.int (nI i)), some (.int (nI (cs[i]))), some (.int (nI (cAll un sc (V ++ [29]))))]) dX12_repair_215 (by decide) rfl ?_
                  refine R_iload dX12_repair_217 rfl ?_
                  refine R_iload dX12_repair_219 rfl ?_
                  refine R_aload_n dX12_repair_221 rfl rfl ?_
                  refine R_getf dX12_repair_222 gX12_13 c185 rfl ?_
                  refine R_iconst (v := (nI 2)) dX12_repair_225 (by decide) ?_
                  refine N_iald (y := (nI un)) dX12_repair_226 Haz (by decide) (by decide) h2z ?_
                  refine R_stati (As := [.int (nI (cs[i])), .int (nI (cAll un sc (V ++ [29]))), .int (nI un)]) (st := []) kX12_caseAfter lX12_75 (r_aft hc3 (cAll_le ((V ++ [29] : List Nat)) hs1) hu1) dX12_repair_227 rfl rfl (Nat.le_of_ble_eq_true rfl) ⟨by decide, by decide⟩ zX12_caseAfter ⟨Nat.le_refl _, Nat.le_refl _⟩ (fun wr202 wp201 wq200 => ?_)
                  obtain ⟨rfl, rfl⟩ : wr202 = _ ∧ wp183 = wp201 := ⟨wq200.1, wq200.2.symm⟩
                  refine R_istore (lv' := [some (.ref 61), some (.int (nI (mn + 1))), some (.int (nI (kk + 1))), some (.int (nI 1)), some (.int (nI 1)), some (.int (nI (cAft un cs[i] (cAll un sc ((V ++ [29] : List Nat)))))), some (.int (nI i)), some (.int (nI (cs[i]))), some (.int (nI (cAll un sc (V ++ [29]))))]) dX12_repair_230 (by decide) rfl ?_
                  refine N_iinc (d := 1) (lv' := [some (.ref 61), some (.int (nI (mn + 1))), some (.int (nI (kk + 1))), some (.int (nI 1)), some (.int (nI 1)), some (.int (nI (cAft un cs[i] (cAll un sc ((V ++ [29] : List Nat)))))), some (.int (nI (i + 1))), some (.int (nI (cs[i]))), some (.int (nI (cAll un sc (V ++ [29]))))]) dX12_repair_232 rfl rfl ?_
                  refine R_goto (tgt := 63) dX12_repair_235 (by decide) ?_
                  have hfl : decide ((((V ++ [29] : List Nat)) ++ [cs[i]]).length ≤ 96) = true := by rw [len1]; exact decide_eq_true (by omega)
                  have h9 := ih (i + 1) _ (((V ++ [29] : List Nat)) ++ [cs[i]]) (mn + 1) (kk + 1) (some (.int (nI (cs[i])))) (some (.int (nI (cAll un sc (V ++ [29]))))) (by omega) (by omega) (by rw [len1]; rw [len1]; omega) (by omega) ⟨_, _, _, _, c185, c186, c187, hp1.ax, c188, c189, c190, c191, c192, c193, c194, c195, c196, c197, c198⟩ hrow (by omega) hG hV FF199
                  rw [cAll1, hfl] at h9
                  exact h9
                · rw [decide_eq_false (show ¬ (((V ++ [29] : List Nat)).take 96).length < 96 by omega)]
                  show PZ _ _ _ _ _ _ (.int (nI 0) :: _) _ _ _
                  refine N_if_eq (tgt := 214) dX12_repair_202 (by decide) (by decide) (fun _ => ?_) (fun hc => absurd hc (by decide))
                  obtain ⟨fz, Haz, hRz⟩ := id c187
                  obtain ⟨h0z, h1z, h2z, h3z, hfz, -⟩ := hRz.to
                  refine R_iconst (v := (nI 0)) dX12_repair_214 (by decide) ?_
                  refine R_istore (lv' := [some (.ref 61), some (.int (nI (mn + 1))), some (.int (nI (kk + 1))), some (.int (nI 1)), some (.int (nI 0)), some (.int (nI (cAll un sc (V ++ [29])))), some (.int (nI i)), some (.int (nI (cs[i]))), some (.int (nI (cAll un sc (V ++ [29]))))]) dX12_repair_215 (by decide) rfl ?_
                  refine R_iload dX12_repair_217 rfl ?_
                  refine R_iload dX12_repair_219 rfl ?_
                  refine R_aload_n dX12_repair_221 rfl rfl ?_
                  refine R_getf dX12_repair_222 gX12_13 c185 rfl ?_
                  refine R_iconst (v := (nI 2)) dX12_repair_225 (by decide) ?_
                  refine N_iald (y := (nI un)) dX12_repair_226 Haz (by decide) (by decide) h2z ?_
                  refine R_stati (As := [.int (nI (cs[i])), .int (nI (cAll un sc (V ++ [29]))), .int (nI un)]) (st := []) kX12_caseAfter lX12_75 (r_aft hc3 (cAll_le ((V ++ [29] : List Nat)) hs1) hu1) dX12_repair_227 rfl rfl (Nat.le_of_ble_eq_true rfl) ⟨by decide, by decide⟩ zX12_caseAfter ⟨Nat.le_refl _, Nat.le_refl _⟩ (fun wr205 wp204 wq203 => ?_)
                  obtain ⟨rfl, rfl⟩ : wr205 = _ ∧ wp183 = wp204 := ⟨wq203.1, wq203.2.symm⟩
                  refine R_istore (lv' := [some (.ref 61), some (.int (nI (mn + 1))), some (.int (nI (kk + 1))), some (.int (nI 1)), some (.int (nI 0)), some (.int (nI (cAft un cs[i] (cAll un sc ((V ++ [29] : List Nat)))))), some (.int (nI i)), some (.int (nI (cs[i]))), some (.int (nI (cAll un sc (V ++ [29]))))]) dX12_repair_230 (by decide) rfl ?_
                  refine N_iinc (d := 1) (lv' := [some (.ref 61), some (.int (nI (mn + 1))), some (.int (nI (kk + 1))), some (.int (nI 1)), some (.int (nI 0)), some (.int (nI (cAft un cs[i] (cAll un sc ((V ++ [29] : List Nat)))))), some (.int (nI (i + 1))), some (.int (nI (cs[i]))), some (.int (nI (cAll un sc (V ++ [29]))))]) dX12_repair_232 rfl rfl ?_
                  refine R_goto (tgt := 63) dX12_repair_235 (by decide) ?_
                  have hfl : decide ((((V ++ [29] : List Nat)) ++ [cs[i]]).length ≤ 96) = false := by rw [len1]; exact decide_eq_false (by omega)
                  have h9 := ih (i + 1) _ (((V ++ [29] : List Nat)) ++ [cs[i]]) (mn + 1) (kk + 1) (some (.int (nI (cs[i])))) (some (.int (nI (cAll un sc (V ++ [29]))))) (by omega) (by omega) (by rw [len1]; rw [len1]; omega) (by omega) ⟨_, _, _, _, c185, c186, c187, hp1.ax, c188, c189, c190, c191, c192, c193, c194, c195, c196, c197, c198⟩ hrow (by omega) hG hV FF199
                  rw [cAll1, hfl] at h9
                  exact h9
              · rw [decide_eq_false (p := (V.take 96).length < 96) (by omega)]
                show PZ _ _ _ _ _ _ (.int (nI 0) :: _) _ _ _
                refine N_if_eq (tgt := 183) dX12_repair_171 (by decide) (by decide) (fun _ => ?_) (fun hc => absurd hc (by decide))
                refine R_iconst (v := (nI 0)) dX12_repair_183 (by decide) ?_
                refine R_istore (lv' := [some (.ref 61), some (.int (nI mn)), some (.int (nI (kk + 1))), some (.int (nI 1)), some (.int (nI 0)), some (.int (nI (cAll un sc V))), some (.int (nI i)), some (.int (nI (cs[i]))), some (.int (nI w))]) dX12_repair_184 (by decide) rfl ?_
                refine R_iload dX12_repair_186 rfl ?_
                refine R_istore (lv' := [some (.ref 61), some (.int (nI mn)), some (.int (nI (kk + 1))), some (.int (nI 1)), some (.int (nI 0)), some (.int (nI w)), some (.int (nI i)), some (.int (nI (cs[i]))), some (.int (nI w))]) dX12_repair_188 (by decide) rfl ?_
                refine N_iinc (d := 1) (lv' := [some (.ref 61), some (.int (nI (mn + 1))), some (.int (nI (kk + 1))), some (.int (nI 1)), some (.int (nI 0)), some (.int (nI w)), some (.int (nI i)), some (.int (nI (cs[i]))), some (.int (nI w))]) dX12_repair_190 rfl rfl ?_
                rw [← hall]
                refine R_aload_n dX12_repair_193 rfl rfl ?_
                refine R_getf dX12_repair_194 gX12_16 c167 rfl ?_
                refine R_iload dX12_repair_197 rfl ?_
                refine R_stati (As := [.ref 64, .int (nI (cs[i]))]) (st := []) kX12_put lX12_116 (r_put hc3 hrw) dX12_repair_199 rfl rfl (Nat.le_of_ble_eq_true rfl) ⟨by decide, by decide⟩ zX12_put ⟨Nat.le_refl _, Nat.le_refl _⟩ (fun wr208 wp207 wq206 => ?_)
                obtain ⟨rfl, hp1, hp2⟩ := wq206
                have c209 := hp2.at (by decide) c167
                have c210 := c168.fr hp2 (by decide)
                have c211 := c169.fr hp2 (by decide)
                have c212 := c170.fr hp2 (by decide)
                have c213 := c171.fr hp2 (by decide) (by decide)
                have c214 := c172.fr hp2 (by decide) (by decide)
                have c215 := c173.fr hp2 (by decide)
                have c216 := c174.fr hp2 (by decide)
                have c217 := c175.fr hp2 (by decide)
                have c218 := c176.fr hp2 (by decide)
                have c219 := c177.fr hp2 (by decide)
                have c220 := c178.fr hp2 (by decide)
                have c221 := c179.fr hp2 (by decide)
                have c222 := c180.fr hp2 (by decide)
                have FF223 : Fr LM hp wp207 := FF181.trans (hp2.mono (by decide))
                have hlw : ((((V ++ [29] : List Nat))).take 96).length = min 96 ((V ++ [29] : List Nat)).length := List.length_take
                have hrow : RwAt wp207 64 ((((V ++ [29] : List Nat)) ++ [cs[i]]).take 96, sc, un, wd) := by
                  by_cases h9 : ((V ++ [29] : List Nat)).length < 96
                  · rw [tk_id (V := (V ++ [29] : List Nat)) (by omega), tk96 h9] at hp1; rw [tk96 h9]; exact hp1
                  · rw [tkn (V := (V ++ [29] : List Nat)) (by omega)]
                    have e9 : (((V ++ [29] : List Nat)).take 96 ++ [cs[i]]).take 96 = ((V ++ [29] : List Nat)).take 96 := by rw [tkn (by omega), List.take_take, Nat.min_self]
                    rw [e9] at hp1; exact hp1
                by_cases hlt : ((V ++ [29] : List Nat)).length < 96
                · exact absurd hlt (by rw [len1]; omega)
                · rw [decide_eq_false (show ¬ (((V ++ [29] : List Nat)).take 96).length < 96 by omega)]
                  show PZ _ _ _ _ _ _ (.int (nI 0) :: _) _ _ _
                  refine N_if_eq (tgt := 214) dX12_repair_202 (by decide) (by decide) (fun _ => ?_) (fun hc => absurd hc (by decide))
                  obtain ⟨fz, Haz, hRz⟩ := id c211
                  obtain ⟨h0z, h1z, h2z, h3z, hfz, -⟩ := hRz.to
                  refine R_iconst (v := (nI 0)) dX12_repair_214 (by decide) ?_
                  refine R_istore (lv' := [some (.ref 61), some (.int (nI (mn + 1))), some (.int (nI (kk + 1))), some (.int (nI 1)), some (.int (nI 0)), some (.int (nI (cAll un sc (V ++ [29])))), some (.int (nI i)), some (.int (nI (cs[i]))), some (.int (nI (cAll un sc (V ++ [29]))))]) dX12_repair_215 (by decide) rfl ?_
                  refine R_iload dX12_repair_217 rfl ?_
                  refine R_iload dX12_repair_219 rfl ?_
                  refine R_aload_n dX12_repair_221 rfl rfl ?_
                  refine R_getf dX12_repair_222 gX12_13 c209 rfl ?_
                  refine R_iconst (v := (nI 2)) dX12_repair_225 (by decide) ?_
                  refine N_iald (y := (nI un)) dX12_repair_226 Haz (by decide) (by decide) h2z ?_
                  refine R_stati (As := [.int (nI (cs[i])), .int (nI (cAll un sc (V ++ [29]))), .int (nI un)]) (st := []) kX12_caseAfter lX12_75 (r_aft hc3 (cAll_le ((V ++ [29] : List Nat)) hs1) hu1) dX12_repair_227 rfl rfl (Nat.le_of_ble_eq_true rfl) ⟨by decide, by decide⟩ zX12_caseAfter ⟨Nat.le_refl _, Nat.le_refl _⟩ (fun wr226 wp225 wq224 => ?_)
                  obtain ⟨rfl, rfl⟩ : wr226 = _ ∧ wp207 = wp225 := ⟨wq224.1, wq224.2.symm⟩
                  refine R_istore (lv' := [some (.ref 61), some (.int (nI (mn + 1))), some (.int (nI (kk + 1))), some (.int (nI 1)), some (.int (nI 0)), some (.int (nI (cAft un cs[i] (cAll un sc ((V ++ [29] : List Nat)))))), some (.int (nI i)), some (.int (nI (cs[i]))), some (.int (nI (cAll un sc (V ++ [29]))))]) dX12_repair_230 (by decide) rfl ?_
                  refine N_iinc (d := 1) (lv' := [some (.ref 61), some (.int (nI (mn + 1))), some (.int (nI (kk + 1))), some (.int (nI 1)), some (.int (nI 0)), some (.int (nI (cAft un cs[i] (cAll un sc ((V ++ [29] : List Nat)))))), some (.int (nI (i + 1))), some (.int (nI (cs[i]))), some (.int (nI (cAll un sc (V ++ [29]))))]) dX12_repair_232 rfl rfl ?_
                  refine R_goto (tgt := 63) dX12_repair_235 (by decide) ?_
                  have hfl : decide ((((V ++ [29] : List Nat)) ++ [cs[i]]).length ≤ 96) = false := by rw [len1]; exact decide_eq_false (by omega)
                  have h9 := ih (i + 1) _ (((V ++ [29] : List Nat)) ++ [cs[i]]) (mn + 1) (kk + 1) (some (.int (nI (cs[i])))) (some (.int (nI (cAll un sc (V ++ [29]))))) (by omega) (by omega) (by rw [len1]; rw [len1]; omega) (by omega) ⟨_, _, _, _, c209, c210, c211, hp1.ax, c212, c213, c214, c215, c216, c217, c218, c219, c220, c221, c222⟩ hrow (by omega) hG hV FF223
                  rw [cAll1, hfl] at h9
                  exact h9
        · have hw9 : wtd cs[i] ms[kk] (cAll un sc V) = 9 := by unfold wtd; rw [if_neg hcf]
          rw [hw9]
          have hcI : ¬ cofI ms[kk] = nI cs[i] := fun z9 => by
            by_cases h255 : cof ms[kk] = 255
            · rw [cofI_f h255] at z9; exact nI_m1 (by omega) z9.symm
            · rw [cofI_t h255] at z9
              have := cof_lt h255
              have h8 := congrArg Int32.toInt z9
              rw [nI_toInt (by omega), nI_toInt (by omega)] at h8
              exact hcf (by omega)
          have hf9 : f_rep (ms, (cs, sc, un, wd), hs, s0, s1, os, ox) = (-3, (ms, (cs, sc, un, wd), hs, s0, s1, os, ox)) := by unfold f_rep; dsimp only; rw [hG, decide_eq_false hcI, Bool.false_and, Bool.and_false]; rfl
          refine R_icmp_eq (tgt := 138) dX12_repair_131 (by decide) (fun _ => ?_) (fun hc => absurd rfl hc)
          refine R_iconst (v := (nI 0)) dX12_repair_138 (by decide) ?_
          refine R_istore_n (lv' := [some (.ref 61), some (.int (nI mn)), some (.int (nI (kk + 1))), some (.int (nI 0)), some (.int (bz (decide (V.length ≤ 96)))), some (.int (nI (cAll un sc V))), some (.int (nI i)), some (.int (nI (cs[i]))), some (.int (-9))]) dX12_repair_139 rfl (by decide) rfl ?_
          refine R_iload_n dX12_repair_140 rfl rfl ?_
          refine N_if_eq (tgt := 193) dX12_repair_141 (by decide) (by decide) (fun _ => ?_) (fun hc => absurd hc (by decide))
          exact r_rpF hf9 hM HT hc3 hpl hil2 hF
set_option maxRecDepth 100000 in
set_option maxHeartbeats 4000000 in
theorem y_rep {ms : List Nat} {cs : List Nat} {sc un wd : Nat} {hs : List TP} {s0 s1 : Option TP} {os : List (Nat × Nat)} {ox : Nat} (hM : MJ hp (ms, (cs, sc, un, wd), hs, s0, s1, os, ox)) : SpI l X mX12_repair [.ref 61] hp (fun r hp' => r = (f_rep (ms, (cs, sc, un, wd), hs, s0, s1, os, ox)).1 ∧ MJ hp' (f_rep (ms, (cs, sc, un, wd), hs, s0, s1, os, ox)).2 ∧ Fr LM hp hp') := by
  obtain ⟨nx, tl, sl, st, M0, MM, MN, MT, MD, MK, MO, A70, A71, A72, A73, A74, A75, A76, A77⟩ := hM
  obtain ⟨hL, hC3, hs1, hu1, hw1, hw2⟩ := MN.ok
  obtain ⟨hmL, hmC⟩ := MM.ok
  obtain ⟨hnx0, hsl0⟩ := MD.ok
  obtain ⟨hol0, hox0⟩ := MO.ok
  refine SpI.of pnX12 (Nat.le_of_ble_eq_true rfl) rfl ?_
  obtain ⟨f, Ha, hR⟩ := id MN
  obtain ⟨h0, h1, h2, h3, hf, -⟩ := hR.to
  obtain ⟨ft, Htr⟩ := id MT
  refine R_aload_n dX12_repair_0 rfl rfl ?_
  refine R_getf dX12_repair_1 gX12_16 M0 rfl ?_
  refine R_iconst (v := (nI 0)) dX12_repair_4 (by decide) ?_
  refine R_iconst (v := (nI 0)) dX12_repair_5 (by decide) ?_
  obtain ⟨t0, et0⟩ : ∃ y, y = upd ft 0 (nI 0) := ⟨_, rfl⟩
  refine W_iast (f' := t0) dX12_repair_6 Htr (by decide) (by decide) et0 (fun wp1 wH2 wE3 => ?_)
  have wH4 := (wE3 61 (by decide)).trans M0
  have wH5 := (wE3 63 (by decide)).trans Ha
  have wF6 : Fr [64] hp wp1 := Fr.one wE3 (by simp)
  refine R_aload_n dX12_repair_7 rfl rfl ?_
  refine R_getf dX12_repair_8 gX12_16 wH4 rfl ?_
  refine R_iconst (v := (nI 1)) dX12_repair_11 (by decide) ?_
  refine R_aload_n dX12_repair_12 rfl rfl ?_
  refine R_getf dX12_repair_13 gX12_13 wH4 rfl ?_
  refine R_iconst (v := (nI 1)) dX12_repair_16 (by decide) ?_
  refine N_iald (y := (nI sc)) dX12_repair_17 wH5 (by decide) (by decide) h1 ?_
  obtain ⟨t1, et1⟩ : ∃ y, y = upd t0 1 (nI sc) := ⟨_, rfl⟩
  refine W_iast (f' := t1) dX12_repair_18 wH2 (by decide) (by decide) et1 (fun wp7 wH8 wE9 => ?_)
  have wH10 := (wE9 61 (by decide)).trans wH4
  have wH11 := (wE9 63 (by decide)).trans wH5
  have wF12 : Fr [64] hp wp7 := wF6.trans (Fr.one wE9 (by simp))
  refine R_aload_n dX12_repair_19 rfl rfl ?_
  refine R_getf dX12_repair_20 gX12_16 wH10 rfl ?_
  refine R_iconst (v := (nI 2)) dX12_repair_23 (by decide) ?_
  refine R_aload_n dX12_repair_24 rfl rfl ?_
  refine R_getf dX12_repair_25 gX12_13 wH10 rfl ?_
  refine R_iconst (v := (nI 2)) dX12_repair_28 (by decide) ?_
  refine N_iald (y := (nI un)) dX12_repair_29 wH11 (by decide) (by decide) h2 ?_
  obtain ⟨t2, et2⟩ : ∃ y, y = upd t1 2 (nI un) := ⟨_, rfl⟩
  refine W_iast (f' := t2) dX12_repair_30 wH8 (by decide) (by decide) et2 (fun wp13 wH14 wE15 => ?_)
  have wH16 := (wE15 61 (by decide)).trans wH10
  have wH17 := (wE15 63 (by decide)).trans wH11
  have wF18 : Fr [64] hp wp13 := wF12.trans (Fr.one wE15 (by simp))
  refine R_aload_n dX12_repair_31 rfl rfl ?_
  refine R_getf dX12_repair_32 gX12_16 wH16 rfl ?_
  refine R_iconst (v := (nI 3)) dX12_repair_35 (by decide) ?_
  refine R_aload_n dX12_repair_36 rfl rfl ?_
  refine R_getf dX12_repair_37 gX12_13 wH16 rfl ?_
  refine R_iconst (v := (nI 3)) dX12_repair_40 (by decide) ?_
  refine N_iald (y := (nI wd)) dX12_repair_41 wH17 (by decide) (by decide) h3 ?_
  obtain ⟨t3, et3⟩ : ∃ y, y = upd t2 3 (nI wd) := ⟨_, rfl⟩
  refine W_iast (f' := t3) dX12_repair_42 wH14 (by decide) (by decide) et3 (fun wp19 wH20 wE21 => ?_)
  have wH22 := (wE21 61 (by decide)).trans wH16
  have wH23 := (wE21 63 (by decide)).trans wH17
  have wF24 : Fr [64] hp wp19 := wF18.trans (Fr.one wE21 (by simp))
  have hq1 : RwAt wp19 64 ([], sc, un, wd) := ⟨t3, wH20, RwH.to ⟨by rw [et3, upd_n (by omega), et2, upd_n (by omega), et1, upd_n (by omega), et0, upd_s]; rfl, by rw [et3, upd_n (by omega), et2, upd_n (by omega), et1, upd_s], by rw [et3, upd_n (by omega), et2, upd_s], by rw [et3, upd_s], fun i hi => absurd hi (by simp), by simp, fun x hx => by simp at hx, hs1, hu1, hw1, hw2⟩⟩
  have c25 := wF24.at (by decide) M0
  have c26 := MM.fr wF24 (by decide)
  have c27 := MN.fr wF24 (by decide)
  have c28 := MD.fr wF24 (by decide)
  have c29 := MK.fr wF24 (by decide) (by decide)
  have c30 := MO.fr wF24 (by decide) (by decide)
  have c31 := A70.fr wF24 (by decide)
  have c32 := A71.fr wF24 (by decide)
  have c33 := A72.fr wF24 (by decide)
  have c34 := A73.fr wF24 (by decide)
  have c35 := A74.fr wF24 (by decide)
  have c36 := A75.fr wF24 (by decide)
  have c37 := A76.fr wF24 (by decide)
  have c38 := A77.fr wF24 (by decide)
  have FF39 : Fr LM hp wp19 := (Fr.rf (L := LM) (hp := hp)).trans (wF24.mono (by decide))
  refine R_iconst (v := (nI 0)) dX12_repair_43 (by decide) ?_
  refine R_istore_n (lv' := [some (.ref 61), some (.int (nI 0)), none, none, none, none, none, none, none]) dX12_repair_44 rfl (by decide) rfl ?_
  refine R_iconst (v := (nI 0)) dX12_repair_45 (by decide) ?_
  refine R_istore_n (lv' := [some (.ref 61), some (.int (nI 0)), some (.int (nI 0)), none, none, none, none, none, none]) dX12_repair_46 rfl (by decide) rfl ?_
  refine R_iconst (v := (nI 1)) dX12_repair_47 (by decide) ?_
  refine R_istore_n (lv' := [some (.ref 61), some (.int (nI 0)), some (.int (nI 0)), some (.int (nI 1)), none, none, none, none, none]) dX12_repair_48 rfl (by decide) rfl ?_
  refine R_iconst (v := (nI 1)) dX12_repair_49 (by decide) ?_
  refine R_istore (lv' := [some (.ref 61), some (.int (nI 0)), some (.int (nI 0)), some (.int (nI 1)), some (.int (nI 1)), none, none, none, none]) dX12_repair_50 (by decide) rfl ?_
  refine R_aload_n dX12_repair_52 rfl rfl ?_
  refine R_getf dX12_repair_53 gX12_13 c25 rfl ?_
  refine R_iconst (v := (nI 1)) dX12_repair_56 (by decide) ?_
  refine N_iald (y := (nI sc)) dX12_repair_57 wH23 (by decide) (by decide) h1 ?_
  refine R_istore (lv' := [some (.ref 61), some (.int (nI 0)), some (.int (nI 0)), some (.int (nI 1)), some (.int (nI 1)), some (.int (nI sc)), none, none, none]) dX12_repair_58 (by decide) rfl ?_
  refine R_iconst (v := (nI 0)) dX12_repair_60 (by decide) ?_
  refine R_istore (lv' := [some (.ref 61), some (.int (nI 0)), some (.int (nI 0)), some (.int (nI 1)), some (.int (nI 1)), some (.int (nI sc)), some (.int (nI 0)), none, none]) dX12_repair_61 (by decide) rfl ?_
  exact r_rpL cs.length 0 _ [] 0 0 none none (by omega) (by omega) rfl (by omega) ⟨_, _, _, _, c25, c26, c27, hq1.ax, c28, c29, c30, c31, c32, c33, c34, c35, c36, c37, c38⟩ hq1 (by simp) rfl rfl FF39
end R41
