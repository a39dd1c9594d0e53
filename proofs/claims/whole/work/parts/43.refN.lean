/-! The reference: wrapped encoding, the loops -/
section R43
variable {l : Launch} {X : EX} {hp : HPt}
set_option maxRecDepth 100000 in
set_option maxHeartbeats 4000000 in
theorem r_ewR {Z : ZT} {ms : List Nat} {cs : List Nat} {sc un wd : Nat} {hs : List TP} {s0 s1 : Option TP} {os : List (Nat × Nat)} {ox : Nat} {W : List Nat} {u e : Nat} (he : e ≤ ms.length) (hE : aEnc ms = true) (K : ∀ hz, MJ hz (ms, (cs, sc, un, wd), hs, s0, s1, os, ox) → (W.length ≤ 96 → RwAt hz 64 (W, sc, un, wd)) → Fr LM hp hz → PZ l X Z mX12_encodeWrapped 232 [some (.ref 61), some (.int (bz (decide ((W).length ≤ 96)))), some (.int (nI 0)), some (.int (nI u)), some (.int (nI e)), some (.int (nI e))] [] hz 0 0) : ∀ (d j : Nat) (hz : HPt) (V : List Nat), j + d = e → MJ hz (ms, (cs, sc, un, wd), hs, s0, s1, os, ox) → (V.length ≤ 96 → RwAt hz 64 (V, sc, un, wd)) → Fr LM hp hz → W = encR un sc V ((ms.drop j).take (e - j)) → PZ l X Z mX12_encodeWrapped 192 [some (.ref 61), some (.int (bz (decide ((V).length ≤ 96)))), some (.int (nI 0)), some (.int (nI u)), some (.int (nI j)), some (.int (nI e))] [] hz 0 0 := by
  intro d
  induction d with
  | zero =>
    intro j hz V hj hM hV hF hW
    have hje : j = e := by omega
    subst hje
    have hWe : W = V := by rw [hW, Nat.sub_self, List.take_zero]; rfl
    subst hWe
    have hmL : ms.length ≤ 60 := by
      obtain ⟨nx, tl, sl, st, M0, MM, r⟩ := id hM
      exact MM.ok.1
    refine R_iload dX12_encodeWrapped_192 rfl ?_
    refine R_iload dX12_encodeWrapped_194 rfl ?_
    refine N_icmp_ge (tgt := 232) dX12_encodeWrapped_196 (by decide) (by omega) (by omega) (fun _ => ?_) (fun hc => absurd hc (by omega))
    exact K hz hM hV hF
  | succ d ih =>
    intro j hz V hj hM hV hF hW
    obtain ⟨nx, tl, sl, st, M0, MM, MN, MT, MD, MK, MO, A70, A71, A72, A73, A74, A75, A76, A77⟩ := id hM
    obtain ⟨hmL, hmC⟩ := MM.ok
    obtain ⟨fm, Hm, hfm, -⟩ := id MM
    have hjl : j < ms.length := by omega
    have hx := hmC ms[j] (List.getElem_mem hjl)
    have hce := aEnc_at hE (List.getElem_mem (l := ms) (n := j) hjl)
    have hW2 : W = encR un sc (encV un sc V ms[j]) ((ms.drop (j + 1)).take (e - (j + 1))) := by rw [hW, drop_c hjl, show e - j = (e - (j + 1)) + 1 by omega, List.take_succ_cons]; rfl
    have hel := encV_len un sc V ms[j]
    refine R_iload dX12_encodeWrapped_192 rfl ?_
    refine R_iload dX12_encodeWrapped_194 rfl ?_
    refine N_icmp_ge (tgt := 232) dX12_encodeWrapped_196 (by decide) (by omega) (by omega) (fun hc => absurd hc (by omega)) (fun _ => ?_)
    refine R_iload_n dX12_encodeWrapped_199 rfl rfl ?_
    by_cases hl : V.length ≤ 96
    · rw [decide_eq_true hl]
      show PZ _ _ _ _ _ _ (.int (nI 1) :: _) _ _ _
      refine N_if_eq (tgt := 224) dX12_encodeWrapped_200 (by decide) (by decide) (fun hc => absurd hc (by decide)) (fun _ => ?_)
      refine R_aload_n dX12_encodeWrapped_203 rfl rfl ?_
      refine R_getf dX12_encodeWrapped_204 gX12_16 M0 rfl ?_
      refine R_aload_n dX12_encodeWrapped_207 rfl rfl ?_
      refine R_getf dX12_encodeWrapped_208 gX12_7 M0 rfl ?_
      refine R_iload dX12_encodeWrapped_211 rfl ?_
      refine N_iald (y := (nI (ms[j]))) dX12_encodeWrapped_213 Hm (by omega) (by decide) (hfm j hjl) ?_
      refine R_stati (As := [.ref 64, .int (nI (ms[j]))]) (st := []) kX12_encode lX12_133 (r_enc hce hx (hV hl)) dX12_encodeWrapped_214 rfl rfl (Nat.le_of_ble_eq_true rfl) ⟨by decide, by decide⟩ zX12_encode ⟨Nat.le_refl _, Nat.le_refl _⟩ (fun wr3 wp2 wq1 => ?_)
      obtain ⟨rfl, hq1, hq2⟩ := wq1
      have c4 := hq2.at (by decide) M0
      have c5 := MM.fr hq2 (by decide)
      have c6 := MN.fr hq2 (by decide)
      have c7 := MD.fr hq2 (by decide)
      have c8 := MK.fr hq2 (by decide) (by decide)
      have c9 := MO.fr hq2 (by decide) (by decide)
      have c10 := A70.fr hq2 (by decide)
      have c11 := A71.fr hq2 (by decide)
      have c12 := A72.fr hq2 (by decide)
      have c13 := A73.fr hq2 (by decide)
      have c14 := A74.fr hq2 (by decide)
      have c15 := A75.fr hq2 (by decide)
      have c16 := A76.fr hq2 (by decide)
      have c17 := A77.fr hq2 (by decide)
      have FF18 : Fr LM hp wp2 := hF.trans (hq2.mono (by decide))
      by_cases hl2 : (encV un sc V ms[j]).length ≤ 96
      · rw [decide_eq_true hl2]
        show PZ _ _ _ _ _ _ (.int (nI 1) :: _) _ _ _
        refine N_if_eq (tgt := 224) dX12_encodeWrapped_217 (by decide) (by decide) (fun hc => absurd hc (by decide)) (fun _ => ?_)
        refine R_iconst (v := (nI 1)) dX12_encodeWrapped_220 (by decide) ?_
        refine R_goto (tgt := 225) dX12_encodeWrapped_221 (by decide) ?_
        refine R_istore_n (lv' := [some (.ref 61), some (.int (nI 1)), some (.int (nI 0)), some (.int (nI u)), some (.int (nI j)), some (.int (nI e))]) dX12_encodeWrapped_225 rfl (by decide) rfl ?_
        refine N_iinc (d := 1) (lv' := [some (.ref 61), some (.int (nI 1)), some (.int (nI 0)), some (.int (nI u)), some (.int (nI (j + 1))), some (.int (nI e))]) dX12_encodeWrapped_226 rfl rfl ?_
        refine R_goto (tgt := 192) dX12_encodeWrapped_229 (by decide) ?_
        have h9 := ih (j + 1) _ (encV un sc V ms[j]) (by omega) ⟨_, _, _, _, c4, c5, c6, hq1.ax, c7, c8, c9, c10, c11, c12, c13, c14, c15, c16, c17⟩ (fun h => by rw [tk_id h] at hq1; exact hq1) FF18 hW2
        rw [decide_eq_true hl2] at h9
        exact h9
      · rw [decide_eq_false hl2]
        show PZ _ _ _ _ _ _ (.int (nI 0) :: _) _ _ _
        refine N_if_eq (tgt := 224) dX12_encodeWrapped_217 (by decide) (by decide) (fun _ => ?_) (fun hc => absurd hc (by decide))
        refine R_iconst (v := (nI 0)) dX12_encodeWrapped_224 (by decide) ?_
        refine R_istore_n (lv' := [some (.ref 61), some (.int (nI 0)), some (.int (nI 0)), some (.int (nI u)), some (.int (nI j)), some (.int (nI e))]) dX12_encodeWrapped_225 rfl (by decide) rfl ?_
        refine N_iinc (d := 1) (lv' := [some (.ref 61), some (.int (nI 0)), some (.int (nI 0)), some (.int (nI u)), some (.int (nI (j + 1))), some (.int (nI e))]) dX12_encodeWrapped_226 rfl rfl ?_
        refine R_goto (tgt := 192) dX12_encodeWrapped_229 (by decide) ?_
        have h9 := ih (j + 1) _ (encV un sc V ms[j]) (by omega) ⟨_, _, _, _, c4, c5, c6, hq1.ax, c7, c8, c9, c10, c11, c12, c13, c14, c15, c16, c17⟩ (fun h => by rw [tk_id h] at hq1; exact hq1) FF18 hW2
        rw [decide_eq_false hl2] at h9
        exact h9
    · rw [decide_eq_false hl]
      show PZ _ _ _ _ _ _ (.int (nI 0) :: _) _ _ _
      refine N_if_eq (tgt := 224) dX12_encodeWrapped_200 (by decide) (by decide) (fun _ => ?_) (fun hc => absurd hc (by decide))
      refine R_iconst (v := (nI 0)) dX12_encodeWrapped_224 (by decide) ?_
      refine R_istore_n (lv' := [some (.ref 61), some (.int (nI 0)), some (.int (nI 0)), some (.int (nI u)), some (.int (nI j)), some (.int (nI e))]) dX12_encodeWrapped_225 rfl (by decide) rfl ?_
      refine N_iinc (d := 1) (lv' := [some (.ref 61), some (.int (nI 0)), some (.int (nI 0)), some (.int (nI u)), some (.int (nI (j + 1))), some (.int (nI e))]) dX12_encodeWrapped_226 rfl rfl ?_
      refine R_goto (tgt := 192) dX12_encodeWrapped_229 (by decide) ?_
      have h9 := ih (j + 1) hz (encV un sc V ms[j]) (by omega) hM (fun h => absurd h (by omega)) hF hW2
      rw [decide_eq_false (show ¬ (encV un sc V ms[j]).length ≤ 96 by omega)] at h9
      exact h9
set_option maxRecDepth 100000 in
set_option maxHeartbeats 4000000 in
theorem r_ewL {ms : List Nat} {cs : List Nat} {sc un wd : Nat} {hs : List TP} {s0 s1 : Option TP} {os : List (Nat × Nat)} {ox : Nat} (hE : aEnc ms = true) : ∀ (d k : Nat) (hz : HPt) (V : List Nat) (u : Nat) (lo : Option Value), ms.length ≤ k + d → k ≤ ms.length → u ≤ 1000 → MJ hz (ms, (cs, sc, un, wd), hs, s0, s1, os, ox) → (V.length ≤ 96 → RwAt hz 64 (V, sc, un, wd)) → (k = 0 ∨ bwN ms (k - 1) = true ∨ bwN ms k = true) → wrpN un sc wd ms ms.length 0 cs 0 = wrpN un sc wd ms (ms.length - k) k V u → Fr LM hp hz → PZ l X (MZi X mX12_encodeWrapped (fun r hp' => r = (f_wrap (ms, (cs, sc, un, wd), hs, s0, s1, os, ox)).1 ∧ MJ hp' (f_wrap (ms, (cs, sc, un, wd), hs, s0, s1, os, ox)).2 ∧ Fr LM hp hp')) mX12_encodeWrapped 32 [some (.ref 61), some (.int (bz (decide ((V).length ≤ 96)))), some (.int (bz (decide (u = 0)))), some (.int (nI u)), some (.int (nI k)), lo] [] hz 0 0 := by
  intro d
  induction d with
  | zero =>
    intro k hz V u lo hd hk hu hM hV hb hRR hF
    obtain ⟨nx, tl, sl, st, M0, MM, MN, MT, MD, MK, MO, A70, A71, A72, A73, A74, A75, A76, A77⟩ := hM
    have hmL := MM.ok.1
    have hVt : wrpN un sc wd ms ms.length 0 cs 0 = V := by rw [hRR, show ms.length - k = 0 by omega]; rfl
    refine R_iload dX12_encodeWrapped_32 rfl ?_
    refine R_aload_n dX12_encodeWrapped_34 rfl rfl ?_
    refine R_getf dX12_encodeWrapped_35 gX12_92 M0 rfl ?_
    refine N_icmp_ge (tgt := 235) dX12_encodeWrapped_38 (by decide) (by omega) (by omega) (fun _ => ?_) (fun hc => absurd hc (by omega))
    refine R_aload_n dX12_encodeWrapped_235 rfl rfl ?_
    refine R_iload_n dX12_encodeWrapped_236 rfl rfl ?_
    refine R_calli (As := [.int (bz (decide ((V).length ≤ 96)))]) (st := []) kX12_take lX12_136 (r_take (V := V) (sc := sc) (un := un) (wd := wd) (b := decide (V.length ≤ 96)) M0 MN MT (fun h => hV (of_decide_eq_true h)) MD) rfl M0 dX12_encodeWrapped_237 rfl rfl (Nat.le_of_ble_eq_true rfl) ⟨by decide, by decide⟩ zX12_take ⟨Nat.le_refl _, Nat.le_refl _⟩ (fun wr3 wp2 wq1 => ?_)
    obtain ⟨ht1, ht2⟩ := wq1
    by_cases hl : V.length ≤ 96
    · rw [if_pos (decide_eq_true hl)] at ht1
      obtain ⟨rfl, ht3, ht4, ht5⟩ := ht1
      have c4 := MM.fr ht2 (by decide)
      have c5 := MT.fr ht2 (by decide)
      have c6 := MK.fr ht2 (by decide) (by decide)
      have c7 := MO.fr ht2 (by decide) (by decide)
      have c8 := A70.fr ht2 (by decide)
      have c9 := A71.fr ht2 (by decide)
      have c10 := A72.fr ht2 (by decide)
      have c11 := A73.fr ht2 (by decide)
      have c12 := A74.fr ht2 (by decide)
      have c13 := A75.fr ht2 (by decide)
      have c14 := A76.fr ht2 (by decide)
      have c15 := A77.fr ht2 (by decide)
      have FF16 : Fr LM hp wp2 := hF.trans (ht2.mono (by decide))
      have hf : f_wrap (ms, (cs, sc, un, wd), hs, s0, s1, os, ox) = (nI V.length, psh (ms, (cs, sc, un, wd), hs, s0, s1, os, ox) (V, sc, un, wd)) := by unfold f_wrap; dsimp only; rw [hE, if_pos rfl]; unfold f_take; dsimp only; rw [hVt, if_pos hl]
      rw [hf]
      exact R_reti dX12_encodeWrapped_240 rfl rfl rfl ⟨rfl, ⟨_, _, _, _, ht3, c4, ht4, c5, ht5, c6, c7, c8, c9, c10, c11, c12, c13, c14, c15⟩, FF16⟩
    · rw [if_neg (by rw [decide_eq_false hl]; decide)] at ht1
      obtain ⟨rfl, rfl⟩ := ht1
      have hf : f_wrap (ms, (cs, sc, un, wd), hs, s0, s1, os, ox) = (-4, (ms, (cs, sc, un, wd), hs, s0, s1, os, ox)) := by unfold f_wrap; dsimp only; rw [hE, if_pos rfl]; unfold f_take; dsimp only; rw [hVt, if_neg hl]
      rw [hf]
      exact R_reti dX12_encodeWrapped_240 rfl rfl rfl ⟨rfl, ⟨_, _, _, _, M0, MM, MN, MT, MD, MK, MO, A70, A71, A72, A73, A74, A75, A76, A77⟩, hF⟩
  | succ d ih =>
    intro k hz V u lo hd hk hu hM hV hb hRR hF
    obtain ⟨nx, tl, sl, st, M0, MM, MN, MT, MD, MK, MO, A70, A71, A72, A73, A74, A75, A76, A77⟩ := id hM
    have hmL := MM.ok.1
    obtain ⟨hL, hC3, hs1, hu1, hw1, hw2⟩ := MN.ok
    refine R_iload dX12_encodeWrapped_32 rfl ?_
    refine R_aload_n dX12_encodeWrapped_34 rfl rfl ?_
    refine R_getf dX12_encodeWrapped_35 gX12_92 M0 rfl ?_
    refine N_icmp_ge (tgt := 235) dX12_encodeWrapped_38 (by decide) (by omega) (by omega) (fun hkl => ?_) (fun hkl => ?_)
    · have hVt : wrpN un sc wd ms ms.length 0 cs 0 = V := by rw [hRR, show ms.length - k = 0 by omega]; rfl
      refine R_aload_n dX12_encodeWrapped_235 rfl rfl ?_
      refine R_iload_n dX12_encodeWrapped_236 rfl rfl ?_
      refine R_calli (As := [.int (bz (decide ((V).length ≤ 96)))]) (st := []) kX12_take lX12_136 (r_take (V := V) (sc := sc) (un := un) (wd := wd) (b := decide (V.length ≤ 96)) M0 MN MT (fun h => hV (of_decide_eq_true h)) MD) rfl M0 dX12_encodeWrapped_237 rfl rfl (Nat.le_of_ble_eq_true rfl) ⟨by decide, by decide⟩ zX12_take ⟨Nat.le_refl _, Nat.le_refl _⟩ (fun wr19 wp18 wq17 => ?_)
      obtain ⟨ht1, ht2⟩ := wq17
      by_cases hl : V.length ≤ 96
      · rw [if_pos (decide_eq_true hl)] at ht1
        obtain ⟨rfl, ht3, ht4, ht5⟩ := ht1
        have c20 := MM.fr ht2 (by decide)
        have c21 := MT.fr ht2 (by decide)
        have c22 := MK.fr ht2 (by decide) (by decide)
        have c23 := MO.fr ht2 (by decide) (by decide)
        have c24 := A70.fr ht2 (by decide)
        have c25 := A71.fr ht2 (by decide)
        have c26 := A72.fr ht2 (by decide)
        have c27 := A73.fr ht2 (by decide)
        have c28 := A74.fr ht2 (by decide)
        have c29 := A75.fr ht2 (by decide)
        have c30 := A76.fr ht2 (by decide)
        have c31 := A77.fr ht2 (by decide)
        have FF32 : Fr LM hp wp18 := hF.trans (ht2.mono (by decide))
        have hf : f_wrap (ms, (cs, sc, un, wd), hs, s0, s1, os, ox) = (nI V.length, psh (ms, (cs, sc, un, wd), hs, s0, s1, os, ox) (V, sc, un, wd)) := by unfold f_wrap; dsimp only; rw [hE, if_pos rfl]; unfold f_take; dsimp only; rw [hVt, if_pos hl]
        rw [hf]
        exact R_reti dX12_encodeWrapped_240 rfl rfl rfl ⟨rfl, ⟨_, _, _, _, ht3, c20, ht4, c21, ht5, c22, c23, c24, c25, c26, c27, c28, c29, c30, c31⟩, FF32⟩
      · rw [if_neg (by rw [decide_eq_false hl]; decide)] at ht1
        obtain ⟨rfl, rfl⟩ := ht1
        have hf : f_wrap (ms, (cs, sc, un, wd), hs, s0, s1, os, ox) = (-4, (ms, (cs, sc, un, wd), hs, s0, s1, os, ox)) := by unfold f_wrap; dsimp only; rw [hE, if_pos rfl]; unfold f_take; dsimp only; rw [hVt, if_neg hl]
        rw [hf]
        exact R_reti dX12_encodeWrapped_240 rfl rfl rfl ⟨rfl, ⟨_, _, _, _, M0, MM, MN, MT, MD, MK, MO, A70, A71, A72, A73, A74, A75, A76, A77⟩, hF⟩
    · have hkm : k < ms.length := by omega
      refine R_iload_n dX12_encodeWrapped_41 rfl rfl ?_
      by_cases hl : V.length ≤ 96
      · rw [decide_eq_true hl]
        show PZ _ _ _ _ _ _ (.int (nI 1) :: _) _ _ _
        refine N_if_eq (tgt := 235) dX12_encodeWrapped_42 (by decide) (by decide) (fun hc => absurd hc (by decide)) (fun _ => ?_)
        refine R_aload_n dX12_encodeWrapped_45 rfl rfl ?_
        refine R_iload dX12_encodeWrapped_46 rfl ?_
        refine R_calli (As := [.int (nI k)]) (st := []) kX12_isBlank lX12_140 (r_blank hkm M0 MM) rfl M0 dX12_encodeWrapped_48 rfl rfl (Nat.le_of_ble_eq_true rfl) ⟨by decide, by decide⟩ zX12_isBlank ⟨Nat.le_refl _, Nat.le_refl _⟩ (fun wr35 wp34 wq33 => ?_)
        obtain ⟨rfl, rfl⟩ : wr35 = _ ∧ hz = wp34 := ⟨wq33.1, wq33.2.symm⟩
        have hbw := bw_in (ms := ms) hkm
        cases hsp : isSep ms[k] with
        | false =>
          show PZ _ _ _ _ _ _ (.int (nI 0) :: _) _ _ _
          rw [hsp] at hbw
          refine N_if_eq (tgt := 60) dX12_encodeWrapped_51 (by decide) (by decide) (fun _ => ?_) (fun hc => absurd hc (by decide))
          refine R_iload dX12_encodeWrapped_60 rfl ?_
          refine R_istore (lv' := [some (.ref 61), some (.int (bz true)), some (.int (bz (decide (u = 0)))), some (.int (nI u)), some (.int (nI k)), some (.int (nI k))]) dX12_encodeWrapped_62 (by decide) rfl ?_
          have hbg := bg_yes hbw (hb.elim .inl (fun h => h.elim .inr (fun h => by rw [hbw] at h; exact absurd h (by decide))))
          refine r_ewE M0 MM (fun e hke hee hq hqe => ?_) (ms.length - k) k (by omega) (Nat.le_refl _) (fun q h h1 h2 => absurd h1 (by omega))
          have hlt : k < e := by
            rcases Nat.lt_or_ge k e with h | h
            · exact h
            · have h8 : e = k := by omega
              subst h8
              have := hqe hkm
              rw [hsp] at this; exact absurd this (by decide)
          have hw9 := wr_word (un := un) (sc := sc) (wd := wd) (V := V) (u := u) hlt hee hbg (fun q h1 h2 => by rw [bw_in (by omega)]; exact hq q (by omega) h1 h2) (eow_of hke hee hq hqe)
          rw [hw9] at hRR
          have hbe : e = 0 ∨ bwN ms (e - 1) = true ∨ bwN ms e = true := by
            refine .inr (.inr ?_)
            by_cases h : e < ms.length
            · rw [bw_in h]; exact hqe h
            · unfold bwN; rw [decide_eq_true (by omega)]; rfl
          refine R_iload_n dX12_encodeWrapped_88 rfl rfl ?_
          by_cases hu0 : u = 0
          · rw [decide_eq_true hu0]
            show PZ _ _ _ _ _ _ (.int (nI 1) :: _) _ _ _
            refine N_if_eq (tgt := 101) dX12_encodeWrapped_89 (by decide) (by decide) (fun hc => absurd hc (by decide)) (fun _ => ?_)
            refine R_iload dX12_encodeWrapped_92 rfl ?_
            refine R_iload dX12_encodeWrapped_94 rfl ?_
            refine N_isub dX12_encodeWrapped_96 (by omega) ?_
            refine R_istore_n (lv' := [some (.ref 61), some (.int (bz true)), some (.int (bz true)), some (.int (nI (e - k))), some (.int (nI k)), some (.int (nI e))]) dX12_encodeWrapped_97 rfl (by decide) rfl ?_
            refine R_goto (tgt := 190) dX12_encodeWrapped_98 (by decide) ?_
            refine R_iconst (v := (nI 0)) dX12_encodeWrapped_190 (by decide) ?_
            refine R_istore_n (lv' := [some (.ref 61), some (.int (bz true)), some (.int (nI 0)), some (.int (nI (e - k))), some (.int (nI k)), some (.int (nI e))]) dX12_encodeWrapped_191 rfl (by decide) rfl ?_
            have hPV : plcV un sc wd V u (e - k) = V := by unfold plcV; rw [if_pos hu0]
            have hPU : plcU wd u (e - k) = e - k := by unfold plcU; rw [if_pos hu0]
            rw [hPV, hPU] at hRR
            have h9 := r_ewR (l := l) (X := X) (hp := hp) (Z := MZi X mX12_encodeWrapped (fun r hp' => r = (f_wrap (ms, (cs, sc, un, wd), hs, s0, s1, os, ox)).1 ∧ MJ hp' (f_wrap (ms, (cs, sc, un, wd), hs, s0, s1, os, ox)).2 ∧ Fr LM hp hp')) (W := encR un sc (V) ((ms.drop k).take (e - k))) (u := e - k) (e := e) hee hE (fun hy hM9 hV9 hF9 => ?_) (e - k) k _ (V) (by omega) ⟨_, _, _, _, M0, MM, MN, MT, MD, MK, MO, A70, A71, A72, A73, A74, A75, A76, A77⟩ hV hF rfl
            · rw [decide_eq_true hl] at h9
              exact h9
            · refine R_goto (tgt := 32) dX12_encodeWrapped_232 (by decide) ?_
              have h8 := ih e hy _ (e - k) (some (.int (nI e))) (by omega) hee (by omega) hM9 hV9 hbe hRR hF9
              rw [decide_eq_false (show ¬ e - k = 0 by omega)] at h8
              exact h8
          · rw [decide_eq_false hu0]
            show PZ _ _ _ _ _ _ (.int (nI 0) :: _) _ _ _
            refine N_if_eq (tgt := 101) dX12_encodeWrapped_89 (by decide) (by decide) (fun _ => ?_) (fun hc => absurd hc (by decide))
            obtain ⟨f, Ha, hR⟩ := id MN
            obtain ⟨h0, h1, h2, h3, hf, -⟩ := hR.to
            refine R_iload_n dX12_encodeWrapped_101 rfl rfl ?_
            refine R_iconst (v := (nI 1)) dX12_encodeWrapped_102 (by decide) ?_
            refine N_iadd dX12_encodeWrapped_103 ?_
            refine R_iload dX12_encodeWrapped_104 rfl ?_
            refine N_iadd dX12_encodeWrapped_106 ?_
            refine R_iload dX12_encodeWrapped_107 rfl ?_
            refine N_isub dX12_encodeWrapped_109 (by omega) ?_
            refine R_aload_n dX12_encodeWrapped_110 rfl rfl ?_
            refine R_getf dX12_encodeWrapped_111 gX12_13 M0 rfl ?_
            refine R_iconst (v := (nI 3)) dX12_encodeWrapped_114 (by decide) ?_
            refine N_iald (y := (nI wd)) dX12_encodeWrapped_115 Ha (by decide) (by decide) h3 ?_
            refine N_icmp_gt (tgt := 142) dX12_encodeWrapped_116 (by decide) (by omega) (by omega) (fun hwid => ?_) (fun hwid => ?_)
            · refine R_iload dX12_encodeWrapped_142 rfl ?_
              refine R_iload dX12_encodeWrapped_144 rfl ?_
              refine N_isub dX12_encodeWrapped_146 (by omega) ?_
              refine R_istore_n (lv' := [some (.ref 61), some (.int (bz true)), some (.int (bz false)), some (.int (nI (e - k))), some (.int (nI k)), some (.int (nI e))]) dX12_encodeWrapped_147 rfl (by decide) rfl ?_
              refine R_aload_n dX12_encodeWrapped_148 rfl rfl ?_
              refine R_getf dX12_encodeWrapped_149 gX12_16 M0 rfl ?_
              refine R_bipush (v := (nI 28)) dX12_encodeWrapped_152 (by decide) ?_
              refine R_stati (As := [.ref 64, .int (nI 28)]) (st := []) kX12_put lX12_116 (r_put (c := 28) (by decide) (hV hl)) dX12_encodeWrapped_154 rfl rfl (Nat.le_of_ble_eq_true rfl) ⟨by decide, by decide⟩ zX12_put ⟨Nat.le_refl _, Nat.le_refl _⟩ (fun wr38 wp37 wq36 => ?_)
              obtain ⟨rfl, hq1, hp1⟩ := wq36
              have c39 := hp1.at (by decide) M0
              have c40 := MM.fr hp1 (by decide)
              have c41 := MN.fr hp1 (by decide)
              have c42 := MD.fr hp1 (by decide)
              have c43 := MK.fr hp1 (by decide) (by decide)
              have c44 := MO.fr hp1 (by decide) (by decide)
              have c45 := A70.fr hp1 (by decide)
              have c46 := A71.fr hp1 (by decide)
              have c47 := A72.fr hp1 (by decide)
              have c48 := A73.fr hp1 (by decide)
              have c49 := A74.fr hp1 (by decide)
              have c50 := A75.fr hp1 (by decide)
              have c51 := A76.fr hp1 (by decide)
              have c52 := A77.fr hp1 (by decide)
              have FF53 : Fr LM hp wp37 := hF.trans (hp1.mono (by decide))
              by_cases ha : V.length < 96
              · rw [decide_eq_true ha]
                show PZ _ _ _ _ _ _ (.int (nI 1) :: _) _ _ _
                refine N_if_eq (tgt := 188) dX12_encodeWrapped_157 (by decide) (by decide) (fun hc => absurd hc (by decide)) (fun _ => ?_)
                rw [tk96 ha] at hq1
                refine R_aload_n dX12_encodeWrapped_160 rfl rfl ?_
                refine R_getf dX12_encodeWrapped_161 gX12_16 c39 rfl ?_
                refine R_bipush (v := (nI 27)) dX12_encodeWrapped_164 (by decide) ?_
                refine R_stati (As := [.ref 64, .int (nI 27)]) (st := []) kX12_put lX12_116 (r_put (c := 27) (by decide) hq1) dX12_encodeWrapped_166 rfl rfl (Nat.le_of_ble_eq_true rfl) ⟨by decide, by decide⟩ zX12_put ⟨Nat.le_refl _, Nat.le_refl _⟩ (fun wr56 wp55 wq54 => ?_)
                obtain ⟨rfl, hq2, hp2⟩ := wq54
                have c57 := hp2.at (by decide) c39
                have c58 := c40.fr hp2 (by decide)
                have c59 := c41.fr hp2 (by decide)
                have c60 := c42.fr hp2 (by decide)
                have c61 := c43.fr hp2 (by decide) (by decide)
                have c62 := c44.fr hp2 (by decide) (by decide)
                have c63 := c45.fr hp2 (by decide)
                have c64 := c46.fr hp2 (by decide)
                have c65 := c47.fr hp2 (by decide)
                have c66 := c48.fr hp2 (by decide)
                have c67 := c49.fr hp2 (by decide)
                have c68 := c50.fr hp2 (by decide)
                have c69 := c51.fr hp2 (by decide)
                have c70 := c52.fr hp2 (by decide)
                have FF71 : Fr LM hp wp55 := FF53.trans (hp2.mono (by decide))
                by_cases hb2 : (V ++ [28] : List Nat).length < 96
                · rw [decide_eq_true hb2]
                  show PZ _ _ _ _ _ _ (.int (nI 1) :: _) _ _ _
                  refine N_if_eq (tgt := 188) dX12_encodeWrapped_169 (by decide) (by decide) (fun hc => absurd hc (by decide)) (fun _ => ?_)
                  rw [tk96 hb2] at hq2
                  refine R_aload_n dX12_encodeWrapped_172 rfl rfl ?_
                  refine R_getf dX12_encodeWrapped_173 gX12_16 c57 rfl ?_
                  refine R_bipush (v := (nI 30)) dX12_encodeWrapped_176 (by decide) ?_
                  refine R_stati (As := [.ref 64, .int (nI 30)]) (st := []) kX12_put lX12_116 (r_put (c := 30) (by decide) hq2) dX12_encodeWrapped_178 rfl rfl (Nat.le_of_ble_eq_true rfl) ⟨by decide, by decide⟩ zX12_put ⟨Nat.le_refl _, Nat.le_refl _⟩ (fun wr74 wp73 wq72 => ?_)
                  obtain ⟨rfl, hq3, hp3⟩ := wq72
                  have c75 := hp3.at (by decide) c57
                  have c76 := c58.fr hp3 (by decide)
                  have c77 := c59.fr hp3 (by decide)
                  have c78 := c60.fr hp3 (by decide)
                  have c79 := c61.fr hp3 (by decide) (by decide)
                  have c80 := c62.fr hp3 (by decide) (by decide)
                  have c81 := c63.fr hp3 (by decide)
                  have c82 := c64.fr hp3 (by decide)
                  have c83 := c65.fr hp3 (by decide)
                  have c84 := c66.fr hp3 (by decide)
                  have c85 := c67.fr hp3 (by decide)
                  have c86 := c68.fr hp3 (by decide)
                  have c87 := c69.fr hp3 (by decide)
                  have c88 := c70.fr hp3 (by decide)
                  have FF89 : Fr LM hp wp73 := FF71.trans (hp3.mono (by decide))
                  by_cases hc2 : (V ++ [28] ++ [27] : List Nat).length < 96
                  · rw [decide_eq_true hc2]
                    show PZ _ _ _ _ _ _ (.int (nI 1) :: _) _ _ _
                    refine N_if_eq (tgt := 188) dX12_encodeWrapped_181 (by decide) (by decide) (fun hc => absurd hc (by decide)) (fun _ => ?_)
                    rw [tk96 hc2] at hq3
                    refine R_iconst (v := (nI 1)) dX12_encodeWrapped_184 (by decide) ?_
                    refine R_goto (tgt := 189) dX12_encodeWrapped_185 (by decide) ?_
                    refine R_istore_n (lv' := [some (.ref 61), some (.int (nI 1)), some (.int (bz false)), some (.int (nI (e - k))), some (.int (nI k)), some (.int (nI e))]) dX12_encodeWrapped_189 rfl (by decide) rfl ?_
                    refine R_iconst (v := (nI 0)) dX12_encodeWrapped_190 (by decide) ?_
                    refine R_istore_n (lv' := [some (.ref 61), some (.int (nI 1)), some (.int (nI 0)), some (.int (nI (e - k))), some (.int (nI k)), some (.int (nI e))]) dX12_encodeWrapped_191 rfl (by decide) rfl ?_
                    have hPV : plcV un sc wd V u (e - k) = V ++ [28] ++ [27] ++ [30] := by unfold plcV; rw [if_neg hu0, if_neg (by omega)]
                    have hPU : plcU wd u (e - k) = e - k := by unfold plcU; rw [if_neg hu0, if_neg (by omega)]
                    rw [hPV, hPU] at hRR
                    have h9 := r_ewR (l := l) (X := X) (hp := hp) (Z := MZi X mX12_encodeWrapped (fun r hp' => r = (f_wrap (ms, (cs, sc, un, wd), hs, s0, s1, os, ox)).1 ∧ MJ hp' (f_wrap (ms, (cs, sc, un, wd), hs, s0, s1, os, ox)).2 ∧ Fr LM hp hp')) (W := encR un sc (V ++ [28] ++ [27] ++ [30]) ((ms.drop k).take (e - k))) (u := e - k) (e := e) hee hE (fun hy hM9 hV9 hF9 => ?_) (e - k) k _ (V ++ [28] ++ [27] ++ [30]) (by omega) ⟨_, _, _, _, c75, c76, c77, hq3.ax, c78, c79, c80, c81, c82, c83, c84, c85, c86, c87, c88⟩ (fun _ => hq3) FF89 rfl
                    · rw [decide_eq_true (show (V ++ [28] ++ [27] ++ [30] : List Nat).length ≤ 96 by rw [len1]; omega)] at h9
                      exact h9
                    · refine R_goto (tgt := 32) dX12_encodeWrapped_232 (by decide) ?_
                      have h8 := ih e hy _ (e - k) (some (.int (nI e))) (by omega) hee (by omega) hM9 hV9 hbe hRR hF9
                      rw [decide_eq_false (show ¬ e - k = 0 by omega)] at h8
                      exact h8
                  · rw [decide_eq_false hc2]
                    show PZ _ _ _ _ _ _ (.int (nI 0) :: _) _ _ _
                    refine N_if_eq (tgt := 188) dX12_encodeWrapped_181 (by decide) (by decide) (fun _ => ?_) (fun hc => absurd hc (by decide))
                    rw [len1, len1] at hc2
                    refine R_iconst (v := (nI 0)) dX12_encodeWrapped_188 (by decide) ?_
                    refine R_istore_n (lv' := [some (.ref 61), some (.int (nI 0)), some (.int (bz false)), some (.int (nI (e - k))), some (.int (nI k)), some (.int (nI e))]) dX12_encodeWrapped_189 rfl (by decide) rfl ?_
                    refine R_iconst (v := (nI 0)) dX12_encodeWrapped_190 (by decide) ?_
                    refine R_istore_n (lv' := [some (.ref 61), some (.int (nI 0)), some (.int (nI 0)), some (.int (nI (e - k))), some (.int (nI k)), some (.int (nI e))]) dX12_encodeWrapped_191 rfl (by decide) rfl ?_
                    have hPV : plcV un sc wd V u (e - k) = V ++ [28] ++ [27] ++ [30] := by unfold plcV; rw [if_neg hu0, if_neg (by omega)]
                    have hPU : plcU wd u (e - k) = e - k := by unfold plcU; rw [if_neg hu0, if_neg (by omega)]
                    rw [hPV, hPU] at hRR
                    have h9 := r_ewR (l := l) (X := X) (hp := hp) (Z := MZi X mX12_encodeWrapped (fun r hp' => r = (f_wrap (ms, (cs, sc, un, wd), hs, s0, s1, os, ox)).1 ∧ MJ hp' (f_wrap (ms, (cs, sc, un, wd), hs, s0, s1, os, ox)).2 ∧ Fr LM hp hp')) (W := encR un sc (V ++ [28] ++ [27] ++ [30]) ((ms.drop k).take (e - k))) (u := e - k) (e := e) hee hE (fun hy hM9 hV9 hF9 => ?_) (e - k) k _ (V ++ [28] ++ [27] ++ [30]) (by omega) ⟨_, _, _, _, c75, c76, c77, hq3.ax, c78, c79, c80, c81, c82, c83, c84, c85, c86, c87, c88⟩ (fun h => absurd h (by rw [len1, len1, len1]; omega)) FF89 rfl
                    · rw [decide_eq_false (show ¬ (V ++ [28] ++ [27] ++ [30] : List Nat).length ≤ 96 by rw [len1, len1, len1]; omega)] at h9
                      exact h9
                    · refine R_goto (tgt := 32) dX12_encodeWrapped_232 (by decide) ?_
                      have h8 := ih e hy _ (e - k) (some (.int (nI e))) (by omega) hee (by omega) hM9 hV9 hbe hRR hF9
                      rw [decide_eq_false (show ¬ e - k = 0 by omega)] at h8
                      exact h8
                · rw [decide_eq_false hb2]
                  show PZ _ _ _ _ _ _ (.int (nI 0) :: _) _ _ _
                  refine N_if_eq (tgt := 188) dX12_encodeWrapped_169 (by decide) (by decide) (fun _ => ?_) (fun hc => absurd hc (by decide))
                  rw [len1] at hb2
                  refine R_iconst (v := (nI 0)) dX12_encodeWrapped_188 (by decide) ?_
                  refine R_istore_n (lv' := [some (.ref 61), some (.int (nI 0)), some (.int (bz false)), some (.int (nI (e - k))), some (.int (nI k)), some (.int (nI e))]) dX12_encodeWrapped_189 rfl (by decide) rfl ?_
                  refine R_iconst (v := (nI 0)) dX12_encodeWrapped_190 (by decide) ?_
                  refine R_istore_n (lv' := [some (.ref 61), some (.int (nI 0)), some (.int (nI 0)), some (.int (nI (e - k))), some (.int (nI k)), some (.int (nI e))]) dX12_encodeWrapped_191 rfl (by decide) rfl ?_
                  have hPV : plcV un sc wd V u (e - k) = V ++ [28] ++ [27] ++ [30] := by unfold plcV; rw [if_neg hu0, if_neg (by omega)]
                  have hPU : plcU wd u (e - k) = e - k := by unfold plcU; rw [if_neg hu0, if_neg (by omega)]
                  rw [hPV, hPU] at hRR
                  have h9 := r_ewR (l := l) (X := X) (hp := hp) (Z := MZi X mX12_encodeWrapped (fun r hp' => r = (f_wrap (ms, (cs, sc, un, wd), hs, s0, s1, os, ox)).1 ∧ MJ hp' (f_wrap (ms, (cs, sc, un, wd), hs, s0, s1, os, ox)).2 ∧ Fr LM hp hp')) (W := encR un sc (V ++ [28] ++ [27] ++ [30]) ((ms.drop k).take (e - k))) (u := e - k) (e := e) hee hE (fun hy hM9 hV9 hF9 => ?_) (e - k) k _ (V ++ [28] ++ [27] ++ [30]) (by omega) ⟨_, _, _, _, c57, c58, c59, hq2.ax, c60, c61, c62, c63, c64, c65, c66, c67, c68, c69, c70⟩ (fun h => absurd h (by rw [len1, len1, len1]; omega)) FF71 rfl
                  · rw [decide_eq_false (show ¬ (V ++ [28] ++ [27] ++ [30] : List Nat).length ≤ 96 by rw [len1, len1, len1]; omega)] at h9
                    exact h9
                  · refine R_goto (tgt := 32) dX12_encodeWrapped_232 (by decide) ?_
                    have h8 := ih e hy _ (e - k) (some (.int (nI e))) (by omega) hee (by omega) hM9 hV9 hbe hRR hF9
                    rw [decide_eq_false (show ¬ e - k = 0 by omega)] at h8
                    exact h8
              · rw [decide_eq_false ha]
                show PZ _ _ _ _ _ _ (.int (nI 0) :: _) _ _ _
                refine N_if_eq (tgt := 188) dX12_encodeWrapped_157 (by decide) (by decide) (fun _ => ?_) (fun hc => absurd hc (by decide))
                refine R_iconst (v := (nI 0)) dX12_encodeWrapped_188 (by decide) ?_
                refine R_istore_n (lv' := [some (.ref 61), some (.int (nI 0)), some (.int (bz false)), some (.int (nI (e - k))), some (.int (nI k)), some (.int (nI e))]) dX12_encodeWrapped_189 rfl (by decide) rfl ?_
                refine R_iconst (v := (nI 0)) dX12_encodeWrapped_190 (by decide) ?_
                refine R_istore_n (lv' := [some (.ref 61), some (.int (nI 0)), some (.int (nI 0)), some (.int (nI (e - k))), some (.int (nI k)), some (.int (nI e))]) dX12_encodeWrapped_191 rfl (by decide) rfl ?_
                have hPV : plcV un sc wd V u (e - k) = V ++ [28] ++ [27] ++ [30] := by unfold plcV; rw [if_neg hu0, if_neg (by omega)]
                have hPU : plcU wd u (e - k) = e - k := by unfold plcU; rw [if_neg hu0, if_neg (by omega)]
                rw [hPV, hPU] at hRR
                have h9 := r_ewR (l := l) (X := X) (hp := hp) (Z := MZi X mX12_encodeWrapped (fun r hp' => r = (f_wrap (ms, (cs, sc, un, wd), hs, s0, s1, os, ox)).1 ∧ MJ hp' (f_wrap (ms, (cs, sc, un, wd), hs, s0, s1, os, ox)).2 ∧ Fr LM hp hp')) (W := encR un sc (V ++ [28] ++ [27] ++ [30]) ((ms.drop k).take (e - k))) (u := e - k) (e := e) hee hE (fun hy hM9 hV9 hF9 => ?_) (e - k) k _ (V ++ [28] ++ [27] ++ [30]) (by omega) ⟨_, _, _, _, c39, c40, c41, hq1.ax, c42, c43, c44, c45, c46, c47, c48, c49, c50, c51, c52⟩ (fun h => absurd h (by rw [len1, len1, len1]; omega)) FF53 rfl
                · rw [decide_eq_false (show ¬ (V ++ [28] ++ [27] ++ [30] : List Nat).length ≤ 96 by rw [len1, len1, len1]; omega)] at h9
                  exact h9
                · refine R_goto (tgt := 32) dX12_encodeWrapped_232 (by decide) ?_
                  have h8 := ih e hy _ (e - k) (some (.int (nI e))) (by omega) hee (by omega) hM9 hV9 hbe hRR hF9
                  rw [decide_eq_false (show ¬ e - k = 0 by omega)] at h8
                  exact h8
            · refine R_iload_n dX12_encodeWrapped_119 rfl rfl ?_
              refine R_iconst (v := (nI 1)) dX12_encodeWrapped_120 (by decide) ?_
              refine R_iload dX12_encodeWrapped_121 rfl ?_
              refine N_iadd dX12_encodeWrapped_123 ?_
              refine R_iload dX12_encodeWrapped_124 rfl ?_
              refine N_isub dX12_encodeWrapped_126 (by omega) ?_
              refine N_iadd dX12_encodeWrapped_127 ?_
              rw [show u + (1 + e - k) = u + 1 + (e - k) by omega]
              refine R_istore_n (lv' := [some (.ref 61), some (.int (bz true)), some (.int (bz false)), some (.int (nI (u + 1 + (e - k)))), some (.int (nI k)), some (.int (nI e))]) dX12_encodeWrapped_128 rfl (by decide) rfl ?_
              refine R_aload_n dX12_encodeWrapped_129 rfl rfl ?_
              refine R_getf dX12_encodeWrapped_130 gX12_16 M0 rfl ?_
              refine R_bipush (v := (nI 32)) dX12_encodeWrapped_133 (by decide) ?_
              refine R_stati (As := [.ref 64, .int (nI 32)]) (st := []) kX12_encode lX12_133 (r_enc (x := 32) (by decide) (by decide) (hV hl)) dX12_encodeWrapped_135 rfl rfl (Nat.le_of_ble_eq_true rfl) ⟨by decide, by decide⟩ zX12_encode ⟨Nat.le_refl _, Nat.le_refl _⟩ (fun wr92 wp91 wq90 => ?_)
              obtain ⟨rfl, hq1, hp1⟩ := wq90
              have c93 := hp1.at (by decide) M0
              have c94 := MM.fr hp1 (by decide)
              have c95 := MN.fr hp1 (by decide)
              have c96 := MD.fr hp1 (by decide)
              have c97 := MK.fr hp1 (by decide) (by decide)
              have c98 := MO.fr hp1 (by decide) (by decide)
              have c99 := A70.fr hp1 (by decide)
              have c100 := A71.fr hp1 (by decide)
              have c101 := A72.fr hp1 (by decide)
              have c102 := A73.fr hp1 (by decide)
              have c103 := A74.fr hp1 (by decide)
              have c104 := A75.fr hp1 (by decide)
              have c105 := A76.fr hp1 (by decide)
              have c106 := A77.fr hp1 (by decide)
              have FF107 : Fr LM hp wp91 := hF.trans (hp1.mono (by decide))
              refine R_istore_n (lv' := [some (.ref 61), some (.int (bz (decide ((encV un sc V 32).length ≤ 96)))), some (.int (bz false)), some (.int (nI (u + 1 + (e - k)))), some (.int (nI k)), some (.int (nI e))]) dX12_encodeWrapped_138 rfl (by decide) rfl ?_
              refine R_goto (tgt := 190) dX12_encodeWrapped_139 (by decide) ?_
              refine R_iconst (v := (nI 0)) dX12_encodeWrapped_190 (by decide) ?_
              refine R_istore_n (lv' := [some (.ref 61), some (.int (bz (decide ((encV un sc V 32).length ≤ 96)))), some (.int (nI 0)), some (.int (nI (u + 1 + (e - k)))), some (.int (nI k)), some (.int (nI e))]) dX12_encodeWrapped_191 rfl (by decide) rfl ?_
              have hPV : plcV un sc wd V u (e - k) = encV un sc V 32 := by unfold plcV; rw [if_neg hu0, if_pos (by omega)]
              have hPU : plcU wd u (e - k) = u + 1 + (e - k) := by unfold plcU; rw [if_neg hu0, if_pos (by omega)]
              rw [hPV, hPU] at hRR
              refine r_ewR (W := encR un sc (encV un sc V 32) ((ms.drop k).take (e - k))) hee hE (fun hy hM9 hV9 hF9 => ?_) (e - k) k _ (encV un sc V 32) (by omega) ⟨_, _, _, _, c93, c94, c95, hq1.ax, c96, c97, c98, c99, c100, c101, c102, c103, c104, c105, c106⟩ (fun h => by rw [tk_id h] at hq1; exact hq1) FF107 rfl
              refine R_goto (tgt := 32) dX12_encodeWrapped_232 (by decide) ?_
              have h8 := ih e hy _ (u + 1 + (e - k)) (some (.int (nI e))) (by omega) hee (by omega) hM9 hV9 hbe hRR hF9
              rw [decide_eq_false (show ¬ u + 1 + (e - k) = 0 by omega)] at h8
              exact h8
        | true =>
          show PZ _ _ _ _ _ _ (.int (nI 1) :: _) _ _ _
          rw [hsp] at hbw
          refine N_if_eq (tgt := 60) dX12_encodeWrapped_51 (by decide) (by decide) (fun hc => absurd hc (by decide)) (fun _ => ?_)
          refine N_iinc (d := 1) (lv' := [some (.ref 61), some (.int (bz true)), some (.int (bz (decide (u = 0)))), some (.int (nI u)), some (.int (nI (k + 1))), lo]) dX12_encodeWrapped_54 rfl rfl ?_
          refine R_goto (tgt := 32) dX12_encodeWrapped_57 (by decide) ?_
          have h9 := ih (k + 1) hz V u lo (by omega) (by omega) hu hM hV (.inr (.inl hbw)) (by rw [hRR, show ms.length - k = (ms.length - (k + 1)) + 1 by omega, wr_skip (bg_sep hbw)]) hF
          rw [decide_eq_true hl] at h9
          exact h9
      · rw [decide_eq_false hl]
        show PZ _ _ _ _ _ _ (.int (nI 0) :: _) _ _ _
        refine N_if_eq (tgt := 235) dX12_encodeWrapped_42 (by decide) (by decide) (fun _ => ?_) (fun hc => absurd hc (by decide))
        refine R_aload_n dX12_encodeWrapped_235 rfl rfl ?_
        refine R_iload_n dX12_encodeWrapped_236 rfl rfl ?_
        refine R_calli (As := [.int (bz false)]) (st := []) kX12_take lX12_136 (r_take (V := V) (sc := sc) (un := un) (wd := wd) (b := false) M0 MN MT (fun h => Bool.noConfusion h) MD) rfl M0 dX12_encodeWrapped_237 rfl rfl (Nat.le_of_ble_eq_true rfl) ⟨by decide, by decide⟩ zX12_take ⟨Nat.le_refl _, Nat.le_refl _⟩ (fun wr110 wp109 wq108 => ?_)
        obtain ⟨⟨rfl, rfl⟩, ht2⟩ := wq108
        have hf : f_wrap (ms, (cs, sc, un, wd), hs, s0, s1, os, ox) = (-4, (ms, (cs, sc, un, wd), hs, s0, s1, os, ox)) := by unfold f_wrap; dsimp only; rw [hE, if_pos rfl]; unfold f_take; dsimp only; rw [if_neg (by rw [hRR]; have := wr_len un sc wd ms (ms.length - k) k V u; omega)]
        rw [hf]
        exact R_reti dX12_encodeWrapped_240 rfl rfl rfl ⟨rfl, ⟨_, _, _, _, M0, MM, MN, MT, MD, MK, MO, A70, A71, A72, A73, A74, A75, A76, A77⟩, hF⟩
set_option maxRecDepth 100000 in
set_option maxHeartbeats 4000000 in
theorem y_wrap {ms : List Nat} {cs : List Nat} {sc un wd : Nat} {hs : List TP} {s0 s1 : Option TP} {os : List (Nat × Nat)} {ox : Nat} (hM : MJ hp (ms, (cs, sc, un, wd), hs, s0, s1, os, ox)) : SpI l X mX12_encodeWrapped [.ref 61] hp (fun r hp' => r = (f_wrap (ms, (cs, sc, un, wd), hs, s0, s1, os, ox)).1 ∧ MJ hp' (f_wrap (ms, (cs, sc, un, wd), hs, s0, s1, os, ox)).2 ∧ Fr LM hp hp') := by
  obtain ⟨nx, tl, sl, st, M0, MM, MN, MT, MD, MK, MO, A70, A71, A72, A73, A74, A75, A76, A77⟩ := hM
  obtain ⟨hL, hC3, hs1, hu1, hw1, hw2⟩ := MN.ok
  obtain ⟨hmL, hmC⟩ := MM.ok
  obtain ⟨hnx0, hsl0⟩ := MD.ok
  obtain ⟨hol0, hox0⟩ := MO.ok
  refine SpI.of pnX12 (Nat.le_of_ble_eq_true rfl) rfl ?_
  refine R_aload_n dX12_encodeWrapped_0 rfl rfl ?_
  refine R_calli (As := []) (st := []) kX12_errorPosition lX12_125 (r_err M0 MM) rfl M0 dX12_encodeWrapped_1 rfl rfl (Nat.le_of_ble_eq_true rfl) ⟨by decide, by decide⟩ zX12_errorPosition ⟨Nat.le_refl _, Nat.le_refl _⟩ (fun wr3 wp2 wq1 => ?_)
  obtain ⟨rfl, rfl⟩ : wr3 = _ ∧ hp = wp2 := ⟨wq1.1, wq1.2.symm⟩
  refine R_bipush (v := (-9)) dX12_encodeWrapped_4 (by decide) ?_
  cases hE : aEnc ms with
  | false =>
    refine R_icmp_eq (tgt := 12) dX12_encodeWrapped_6 (by decide) (fun hc => absurd hc (errG_f ms 0 (by omega) hE)) (fun _ => ?_)
    refine R_bipush (v := (-3)) dX12_encodeWrapped_9 (by decide) ?_
    have hf : f_wrap (ms, (cs, sc, un, wd), hs, s0, s1, os, ox) = (-3, (ms, (cs, sc, un, wd), hs, s0, s1, os, ox)) := by unfold f_wrap; dsimp only; rw [hE]; rfl
    rw [hf]
    exact R_reti dX12_encodeWrapped_11 rfl rfl rfl ⟨rfl, ⟨_, _, _, _, M0, MM, MN, MT, MD, MK, MO, A70, A71, A72, A73, A74, A75, A76, A77⟩, (Fr.rf (L := LM) (hp := hp))⟩
  | true =>
    refine R_icmp_eq (tgt := 12) dX12_encodeWrapped_6 (by decide) (fun _ => ?_) (fun hc => (hc (errG_t ms 0 hE)).elim)
    refine R_aload_n dX12_encodeWrapped_12 rfl rfl ?_
    refine R_getf dX12_encodeWrapped_13 gX12_13 M0 rfl ?_
    refine R_aload_n dX12_encodeWrapped_16 rfl rfl ?_
    refine R_getf dX12_encodeWrapped_17 gX12_16 M0 rfl ?_
    refine R_statv (As := [.ref 63, .ref 64]) (st := []) kX12_copy lX12_129 (r_cpR (by decide) MN MT) dX12_encodeWrapped_20 rfl rfl (Nat.le_of_ble_eq_true rfl) ⟨by decide, by decide⟩ zX12_copy ⟨Nat.le_refl _, Nat.le_refl _⟩ (fun wp5 wq4 => ?_)
    obtain ⟨hq1, hq2⟩ := wq4
    have c7 := hq2.at (by decide) M0
    have c8 := MM.fr hq2 (by decide)
    have c9 := MN.fr hq2 (by decide)
    have c10 := MD.fr hq2 (by decide)
    have c11 := MK.fr hq2 (by decide) (by decide)
    have c12 := MO.fr hq2 (by decide) (by decide)
    have c13 := A70.fr hq2 (by decide)
    have c14 := A71.fr hq2 (by decide)
    have c15 := A72.fr hq2 (by decide)
    have c16 := A73.fr hq2 (by decide)
    have c17 := A74.fr hq2 (by decide)
    have c18 := A75.fr hq2 (by decide)
    have c19 := A76.fr hq2 (by decide)
    have c20 := A77.fr hq2 (by decide)
    have FF21 : Fr LM hp wp5 := (Fr.rf (L := LM) (hp := hp)).trans (hq2.mono (by decide))
    refine R_iconst (v := (nI 1)) dX12_encodeWrapped_23 (by decide) ?_
    refine R_istore_n (lv' := [some (.ref 61), some (.int (nI 1)), none, none, none, none]) dX12_encodeWrapped_24 rfl (by decide) rfl ?_
    refine R_iconst (v := (nI 1)) dX12_encodeWrapped_25 (by decide) ?_
    refine R_istore_n (lv' := [some (.ref 61), some (.int (nI 1)), some (.int (nI 1)), none, none, none]) dX12_encodeWrapped_26 rfl (by decide) rfl ?_
    refine R_iconst (v := (nI 0)) dX12_encodeWrapped_27 (by decide) ?_
    refine R_istore_n (lv' := [some (.ref 61), some (.int (nI 1)), some (.int (nI 1)), some (.int (nI 0)), none, none]) dX12_encodeWrapped_28 rfl (by decide) rfl ?_
    refine R_iconst (v := (nI 0)) dX12_encodeWrapped_29 (by decide) ?_
    refine R_istore (lv' := [some (.ref 61), some (.int (nI 1)), some (.int (nI 1)), some (.int (nI 0)), some (.int (nI 0)), none]) dX12_encodeWrapped_30 (by decide) rfl ?_
    have h9 := r_ewL (l := l) (X := X) (hp := hp) hE ms.length 0 _ cs 0 none (by omega) (by omega) (by omega) ⟨_, _, _, _, c7, c8, c9, hq1.ax, c10, c11, c12, c13, c14, c15, c16, c17, c18, c19, c20⟩ (fun _ => hq1) (.inl rfl) rfl FF21
    rw [decide_eq_true hL] at h9
    exact h9
end R43
