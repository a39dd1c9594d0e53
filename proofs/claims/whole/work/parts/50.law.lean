/-! THE LAW: its loop -/
theorem CI.fr {hp hp' : HPt} {A : AS} {L : List Nat} (H : CI hp A) (F : Fr L hp hp') (h : ∀ i ∈ LC, i ∉ L) : CI hp' A := by
  obtain ⟨ms, ⟨cs, sc, un, wd⟩, hs, s0, s1, os, ox⟩ := A
  obtain ⟨nx, C0, CT, ⟨T3, C3⟩, CP, CM, CH, CS, ⟨tx, CX⟩, ⟨ty, CY⟩, CG, CO, CF, CR⟩ := H
  exact ⟨nx, F.at (h _ (by decide)) C0, CT.fr F (h _ (by decide)) (h _ (by decide)), ⟨_, C3.fr F (h _ (by decide)) (h _ (by decide))⟩, CP.fr F (h _ (by decide)) (h _ (by decide)) (h _ (by decide)), CM.fr F (h _ (by decide)) (h _ (by decide)), CH.fr F (h _ (by decide)) (fun i hi => h i ((by decide : ∀ i ∈ LHis, i ∈ LC) i hi)), CS.fr F (fun i hi => h i ((by decide : ∀ i ∈ [40, 41, 42, 43, 44, 45, 46], i ∈ LC) i hi)), ⟨_, CX.fr F (h _ (by decide)) (h _ (by decide)) (h _ (by decide))⟩, ⟨_, CY.fr F (h _ (by decide)) (h _ (by decide)) (h _ (by decide))⟩, CG.fr F (h _ (by decide)) (h _ (by decide)), CO.fr F (h _ (by decide)) (h _ (by decide)) (h _ (by decide)), CF.fr F (h _ (by decide)), CR.fr F (h _ (by decide)) (h _ (by decide))⟩
theorem MJ.fr {hp hp' : HPt} {A : AS} {L : List Nat} (H : MJ hp A) (F : Fr L hp hp') (h : ∀ i ∈ LM, i ∉ L) : MJ hp' A := by
  obtain ⟨ms, ⟨cs, sc, un, wd⟩, hs, s0, s1, os, ox⟩ := A
  obtain ⟨nx, tl, sl, st, M0, MM, MN, MT, MD, MK, MO, A70, A71, A72, A73, A74, A75, A76, A77⟩ := H
  exact ⟨nx, tl, sl, st, F.at (h _ (by decide)) M0, MM.fr F (h _ (by decide)), MN.fr F (h _ (by decide)), MT.fr F (h _ (by decide)), MD.fr F (h _ (by decide)), MK.fr F (h _ (by decide)) (h _ (by decide)), MO.fr F (h _ (by decide)) (h _ (by decide)), A70.fr F (h _ (by decide)), A71.fr F (h _ (by decide)), A72.fr F (h _ (by decide)), A73.fr F (h _ (by decide)), A74.fr F (h _ (by decide)), A75.fr F (h _ (by decide)), A76.fr F (h _ (by decide)), A77.fr F (h _ (by decide))⟩
theorem LM_C : ∀ i ∈ LM, i ∉ LC := by decide
theorem LC_M : ∀ i ∈ LC, i ∉ LM := by decide
theorem law_gt {L i : Nat} (hL : L ≤ 2048) (hi : i ≤ L) (h : L < i + 4) : nI L - nI 4 < nI i := by
  rw [Int32.lt_iff_toInt_lt, pk_sub_toInt (by omega) (by omega), nI_toInt (by omega)]; omega
theorem law_le {L i : Nat} (hL : L ≤ 2048) (hi : i ≤ L) (h : ¬ nI L - nI 4 < nI i) : i + 4 ≤ L := by
  rw [Int32.lt_iff_toInt_lt, pk_sub_toInt (by omega) (by omega), nI_toInt (by omega)] at h; omega
section L50
variable {l : Launch} {X : EX} {Z : ZT} {hp : HPt}
set_option maxRecDepth 100000 in
set_option maxHeartbeats 4000000 in
theorem law_append {ms : List Nat} {cs : List Nat} {sc un wd : Nat} {hs : List TP} {s0 s1 : Option TP} {os : List (Nat × Nat)} {ox : Nat} {i : Nat} (hL : xL X ≤ 2048) (hi : i + 4 ≤ xL X) (hC : CI hp (ms, (cs, sc, un, wd), hs, s0, s1, os, ox)) (hM : MJ hp (ms, (cs, sc, un, wd), hs, s0, s1, os, ox)) (K : ∀ (hp' : HPt) (A' : AS), CI hp' A' → MJ hp' A' → PZ l X Z mL_law 942 [some (.retAddr 0), some (.ref 0), some (.ref 61), some (.int (nI i))] [] hp' 78 5654) : PZ l X Z mL_law 176 [some (.retAddr 0), some (.ref 0), some (.ref 61), some (.int (nI i))] [] hp 78 5654 := by
  obtain ⟨nx, C0, -⟩ := id hC
  refine R_aload_n dL_law_176 rfl rfl ?_
  refine R_xload_n dL_law_177 rfl rfl ?_
  refine R_iload_n dL_law_178 rfl rfl ?_
  refine R_iconst (v := (nI 1)) dL_law_179 (by decide) ?_
  refine N_iadd dL_law_180 ?_
  refine R_sload dL_law_181 (vp_in_nI (by omega) (by omega)) ?_
  refine R_calli (As := [.int (xs X (nI (i + 1)).toNatClampNeg)]) (st := []) kX11_append lL_13 (x_append hC) rfl C0 dL_law_182 rfl rfl (Nat.le_of_ble_eq_true rfl) ⟨by decide, by decide⟩ zX11_append ⟨Nat.le_of_ble_eq_true rfl, Nat.le_of_ble_eq_true rfl⟩ (fun wr3 wp2 wq1 => ?_)
  obtain ⟨rfl, hc1, hf1⟩ := wq1
  have hm1 := hM.fr hf1 LM_C
  obtain ⟨nx2, t1, t2, t3, M0, -⟩ := id hm1
  refine R_aload_n dL_law_185 rfl rfl ?_
  refine R_xload_n dL_law_186 rfl rfl ?_
  refine R_iload_n dL_law_187 rfl rfl ?_
  refine R_iconst (v := (nI 1)) dL_law_188 (by decide) ?_
  refine N_iadd dL_law_189 ?_
  refine R_sload dL_law_190 (vp_in_nI (by omega) (by omega)) ?_
  refine R_calli (As := [.int (xs X (nI (i + 1)).toNatClampNeg)]) (st := [.int ((f_append (ms, (cs, sc, un, wd), hs, s0, s1, os, ox) (xs X (nI (i + 1)).toNatClampNeg)).1)]) kX12_append lL_17 (y_append hm1) rfl M0 dL_law_191 rfl rfl (Nat.le_of_ble_eq_true rfl) ⟨by decide, by decide⟩ zX12_append ⟨Nat.le_of_ble_eq_true rfl, Nat.le_of_ble_eq_true rfl⟩ (fun wr6 wp5 wq4 => ?_)
  obtain ⟨rfl, hm2, hf2⟩ := wq4
  refine R_icmp_eq (tgt := 942) dL_law_194 (by decide) (fun _ => ?_) (fun hc => absurd rfl hc)
  exact K _ _ (hc1.fr hf2 LC_M) hm2
set_option maxRecDepth 100000 in
set_option maxHeartbeats 4000000 in
theorem law_clear {ms : List Nat} {cs : List Nat} {sc un wd : Nat} {hs : List TP} {s0 s1 : Option TP} {os : List (Nat × Nat)} {ox : Nat} {i : Nat} (hL : xL X ≤ 2048) (hi : i + 4 ≤ xL X) (hC : CI hp (ms, (cs, sc, un, wd), hs, s0, s1, os, ox)) (hM : MJ hp (ms, (cs, sc, un, wd), hs, s0, s1, os, ox)) (K : ∀ (hp' : HPt) (A' : AS), CI hp' A' → MJ hp' A' → PZ l X Z mL_law 942 [some (.retAddr 0), some (.ref 0), some (.ref 61), some (.int (nI i))] [] hp' 78 5654) : PZ l X Z mL_law 199 [some (.retAddr 0), some (.ref 0), some (.ref 61), some (.int (nI i))] [] hp 78 5654 := by
  obtain ⟨nx, C0, -⟩ := id hC
  refine R_aload_n dL_law_199 rfl rfl ?_
  refine R_calli (As := []) (st := []) kX11_clearMessage lL_18 (x_clear hC) rfl C0 dL_law_200 rfl rfl (Nat.le_of_ble_eq_true rfl) ⟨by decide, by decide⟩ zX11_clearMessage ⟨Nat.le_of_ble_eq_true rfl, Nat.le_of_ble_eq_true rfl⟩ (fun wr3 wp2 wq1 => ?_)
  obtain ⟨rfl, hc1, hf1⟩ := wq1
  have hm1 := hM.fr hf1 LM_C
  obtain ⟨nx2, t1, t2, t3, M0, -⟩ := id hm1
  refine R_aload_n dL_law_203 rfl rfl ?_
  refine R_calli (As := []) (st := [.int ((f_clear (ms, (cs, sc, un, wd), hs, s0, s1, os, ox)).1)]) kX12_clearMessage lL_22 (y_clear hm1) rfl M0 dL_law_204 rfl rfl (Nat.le_of_ble_eq_true rfl) ⟨by decide, by decide⟩ zX12_clearMessage ⟨Nat.le_of_ble_eq_true rfl, Nat.le_of_ble_eq_true rfl⟩ (fun wr6 wp5 wq4 => ?_)
  obtain ⟨rfl, hm2, hf2⟩ := wq4
  refine R_icmp_eq (tgt := 942) dL_law_207 (by decide) (fun _ => ?_) (fun hc => absurd rfl hc)
  exact K _ _ (hc1.fr hf2 LC_M) hm2
set_option maxRecDepth 100000 in
set_option maxHeartbeats 4000000 in
theorem law_err {ms : List Nat} {cs : List Nat} {sc un wd : Nat} {hs : List TP} {s0 s1 : Option TP} {os : List (Nat × Nat)} {ox : Nat} {i : Nat} (hL : xL X ≤ 2048) (hi : i + 4 ≤ xL X) (hC : CI hp (ms, (cs, sc, un, wd), hs, s0, s1, os, ox)) (hM : MJ hp (ms, (cs, sc, un, wd), hs, s0, s1, os, ox)) (K : ∀ (hp' : HPt) (A' : AS), CI hp' A' → MJ hp' A' → PZ l X Z mL_law 942 [some (.retAddr 0), some (.ref 0), some (.ref 61), some (.int (nI i))] [] hp' 78 5654) : PZ l X Z mL_law 212 [some (.retAddr 0), some (.ref 0), some (.ref 61), some (.int (nI i))] [] hp 78 5654 := by
  obtain ⟨nx, C0, -⟩ := id hC
  refine R_aload_n dL_law_212 rfl rfl ?_
  refine R_calli (As := []) (st := []) kX11_errorPosition lL_23 (x_err hC) rfl C0 dL_law_213 rfl rfl (Nat.le_of_ble_eq_true rfl) ⟨by decide, by decide⟩ zX11_errorPosition ⟨Nat.le_of_ble_eq_true rfl, Nat.le_of_ble_eq_true rfl⟩ (fun wr3 wp2 wq1 => ?_)
  obtain ⟨rfl, hc1, hf1⟩ := wq1
  have hm1 := hM.fr hf1 LM_C
  obtain ⟨nx2, t1, t2, t3, M0, -⟩ := id hm1
  refine R_aload_n dL_law_216 rfl rfl ?_
  refine R_calli (As := []) (st := [.int ((f_err (ms, (cs, sc, un, wd), hs, s0, s1, os, ox)).1)]) kX12_errorPosition lL_26 (y_err hm1) rfl M0 dL_law_217 rfl rfl (Nat.le_of_ble_eq_true rfl) ⟨by decide, by decide⟩ zX12_errorPosition ⟨Nat.le_of_ble_eq_true rfl, Nat.le_of_ble_eq_true rfl⟩ (fun wr6 wp5 wq4 => ?_)
  obtain ⟨rfl, hm2, hf2⟩ := wq4
  refine R_icmp_eq (tgt := 942) dL_law_220 (by decide) (fun _ => ?_) (fun hc => absurd rfl hc)
  exact K _ _ (hc1.fr hf2 LC_M) hm2
set_option maxRecDepth 100000 in
set_option maxHeartbeats 4000000 in
theorem law_len {ms : List Nat} {cs : List Nat} {sc un wd : Nat} {hs : List TP} {s0 s1 : Option TP} {os : List (Nat × Nat)} {ox : Nat} {i : Nat} (hL : xL X ≤ 2048) (hi : i + 4 ≤ xL X) (hC : CI hp (ms, (cs, sc, un, wd), hs, s0, s1, os, ox)) (hM : MJ hp (ms, (cs, sc, un, wd), hs, s0, s1, os, ox)) (K : ∀ (hp' : HPt) (A' : AS), CI hp' A' → MJ hp' A' → PZ l X Z mL_law 942 [some (.retAddr 0), some (.ref 0), some (.ref 61), some (.int (nI i))] [] hp' 78 5654) : PZ l X Z mL_law 225 [some (.retAddr 0), some (.ref 0), some (.ref 61), some (.int (nI i))] [] hp 78 5654 := by
  obtain ⟨nx, C0, -⟩ := id hC
  refine R_aload_n dL_law_225 rfl rfl ?_
  refine R_calli (As := []) (st := []) kX11_length lL_27 (x_len hC) rfl C0 dL_law_226 rfl rfl (Nat.le_of_ble_eq_true rfl) ⟨by decide, by decide⟩ zX11_length ⟨Nat.le_of_ble_eq_true rfl, Nat.le_of_ble_eq_true rfl⟩ (fun wr3 wp2 wq1 => ?_)
  obtain ⟨rfl, hc1, hf1⟩ := wq1
  have hm1 := hM.fr hf1 LM_C
  obtain ⟨nx2, t1, t2, t3, M0, -⟩ := id hm1
  refine R_aload_n dL_law_229 rfl rfl ?_
  refine R_calli (As := []) (st := [.int ((f_len (ms, (cs, sc, un, wd), hs, s0, s1, os, ox)).1)]) kX12_length lL_30 (y_len hm1) rfl M0 dL_law_230 rfl rfl (Nat.le_of_ble_eq_true rfl) ⟨by decide, by decide⟩ zX12_length ⟨Nat.le_of_ble_eq_true rfl, Nat.le_of_ble_eq_true rfl⟩ (fun wr6 wp5 wq4 => ?_)
  obtain ⟨rfl, hm2, hf2⟩ := wq4
  refine R_icmp_eq (tgt := 942) dL_law_233 (by decide) (fun _ => ?_) (fun hc => absurd rfl hc)
  exact K _ _ (hc1.fr hf2 LC_M) hm2
set_option maxRecDepth 100000 in
set_option maxHeartbeats 4000000 in
theorem law_code {ms : List Nat} {cs : List Nat} {sc un wd : Nat} {hs : List TP} {s0 s1 : Option TP} {os : List (Nat × Nat)} {ox : Nat} {i : Nat} (hL : xL X ≤ 2048) (hi : i + 4 ≤ xL X) (hC : CI hp (ms, (cs, sc, un, wd), hs, s0, s1, os, ox)) (hM : MJ hp (ms, (cs, sc, un, wd), hs, s0, s1, os, ox)) (K : ∀ (hp' : HPt) (A' : AS), CI hp' A' → MJ hp' A' → PZ l X Z mL_law 942 [some (.retAddr 0), some (.ref 0), some (.ref 61), some (.int (nI i))] [] hp' 78 5654) : PZ l X Z mL_law 238 [some (.retAddr 0), some (.ref 0), some (.ref 61), some (.int (nI i))] [] hp 78 5654 := by
  obtain ⟨nx, C0, -⟩ := id hC
  refine R_aload_n dL_law_238 rfl rfl ?_
  refine R_xload_n dL_law_239 rfl rfl ?_
  refine R_iload_n dL_law_240 rfl rfl ?_
  refine R_iconst (v := (nI 1)) dL_law_241 (by decide) ?_
  refine N_iadd dL_law_242 ?_
  refine R_sload dL_law_243 (vp_in_nI (by omega) (by omega)) ?_
  refine R_calli (As := [.int (xs X (nI (i + 1)).toNatClampNeg)]) (st := []) kX11_codeAt lL_31 (x_code hC) rfl C0 dL_law_244 rfl rfl (Nat.le_of_ble_eq_true rfl) ⟨by decide, by decide⟩ zX11_codeAt ⟨Nat.le_of_ble_eq_true rfl, Nat.le_of_ble_eq_true rfl⟩ (fun wr3 wp2 wq1 => ?_)
  obtain ⟨rfl, hc1, hf1⟩ := wq1
  have hm1 := hM.fr hf1 LM_C
  obtain ⟨nx2, t1, t2, t3, M0, -⟩ := id hm1
  refine R_aload_n dL_law_247 rfl rfl ?_
  refine R_xload_n dL_law_248 rfl rfl ?_
  refine R_iload_n dL_law_249 rfl rfl ?_
  refine R_iconst (v := (nI 1)) dL_law_250 (by decide) ?_
  refine N_iadd dL_law_251 ?_
  refine R_sload dL_law_252 (vp_in_nI (by omega) (by omega)) ?_
  refine R_calli (As := [.int (xs X (nI (i + 1)).toNatClampNeg)]) (st := [.int ((f_code (ms, (cs, sc, un, wd), hs, s0, s1, os, ox) (xs X (nI (i + 1)).toNatClampNeg)).1)]) kX12_codeAt lL_34 (y_code hm1) rfl M0 dL_law_253 rfl rfl (Nat.le_of_ble_eq_true rfl) ⟨by decide, by decide⟩ zX12_codeAt ⟨Nat.le_of_ble_eq_true rfl, Nat.le_of_ble_eq_true rfl⟩ (fun wr6 wp5 wq4 => ?_)
  obtain ⟨rfl, hm2, hf2⟩ := wq4
  refine R_icmp_eq (tgt := 942) dL_law_256 (by decide) (fun _ => ?_) (fun hc => absurd rfl hc)
  exact K _ _ (hc1.fr hf2 LC_M) hm2
set_option maxRecDepth 100000 in
set_option maxHeartbeats 4000000 in
theorem law_case {ms : List Nat} {cs : List Nat} {sc un wd : Nat} {hs : List TP} {s0 s1 : Option TP} {os : List (Nat × Nat)} {ox : Nat} {i : Nat} (hL : xL X ≤ 2048) (hi : i + 4 ≤ xL X) (hC : CI hp (ms, (cs, sc, un, wd), hs, s0, s1, os, ox)) (hM : MJ hp (ms, (cs, sc, un, wd), hs, s0, s1, os, ox)) (K : ∀ (hp' : HPt) (A' : AS), CI hp' A' → MJ hp' A' → PZ l X Z mL_law 942 [some (.retAddr 0), some (.ref 0), some (.ref 61), some (.int (nI i))] [] hp' 78 5654) : PZ l X Z mL_law 261 [some (.retAddr 0), some (.ref 0), some (.ref 61), some (.int (nI i))] [] hp 78 5654 := by
  obtain ⟨nx, C0, -⟩ := id hC
  refine R_aload_n dL_law_261 rfl rfl ?_
  refine R_xload_n dL_law_262 rfl rfl ?_
  refine R_iload_n dL_law_263 rfl rfl ?_
  refine R_iconst (v := (nI 1)) dL_law_264 (by decide) ?_
  refine N_iadd dL_law_265 ?_
  refine R_sload dL_law_266 (vp_in_nI (by omega) (by omega)) ?_
  refine R_calli (As := [.int (xs X (nI (i + 1)).toNatClampNeg)]) (st := []) kX11_caseAt lL_35 (x_case hC) rfl C0 dL_law_267 rfl rfl (Nat.le_of_ble_eq_true rfl) ⟨by decide, by decide⟩ zX11_caseAt ⟨Nat.le_of_ble_eq_true rfl, Nat.le_of_ble_eq_true rfl⟩ (fun wr3 wp2 wq1 => ?_)
  obtain ⟨rfl, hc1, hf1⟩ := wq1
  have hm1 := hM.fr hf1 LM_C
  obtain ⟨nx2, t1, t2, t3, M0, -⟩ := id hm1
  refine R_aload_n dL_law_270 rfl rfl ?_
  refine R_xload_n dL_law_271 rfl rfl ?_
  refine R_iload_n dL_law_272 rfl rfl ?_
  refine R_iconst (v := (nI 1)) dL_law_273 (by decide) ?_
  refine N_iadd dL_law_274 ?_
  refine R_sload dL_law_275 (vp_in_nI (by omega) (by omega)) ?_
  refine R_calli (As := [.int (xs X (nI (i + 1)).toNatClampNeg)]) (st := [.int ((f_case (ms, (cs, sc, un, wd), hs, s0, s1, os, ox) (xs X (nI (i + 1)).toNatClampNeg)).1)]) kX12_caseAt lL_38 (y_case hm1) rfl M0 dL_law_276 rfl rfl (Nat.le_of_ble_eq_true rfl) ⟨by decide, by decide⟩ zX12_caseAt ⟨Nat.le_of_ble_eq_true rfl, Nat.le_of_ble_eq_true rfl⟩ (fun wr6 wp5 wq4 => ?_)
  obtain ⟨rfl, hm2, hf2⟩ := wq4
  refine R_icmp_eq (tgt := 942) dL_law_279 (by decide) (fun _ => ?_) (fun hc => absurd rfl hc)
  exact K _ _ (hc1.fr hf2 LC_M) hm2
set_option maxRecDepth 100000 in
set_option maxHeartbeats 4000000 in
theorem law_plen {ms : List Nat} {cs : List Nat} {sc un wd : Nat} {hs : List TP} {s0 s1 : Option TP} {os : List (Nat × Nat)} {ox : Nat} {i : Nat} (hL : xL X ≤ 2048) (hi : i + 4 ≤ xL X) (hC : CI hp (ms, (cs, sc, un, wd), hs, s0, s1, os, ox)) (hM : MJ hp (ms, (cs, sc, un, wd), hs, s0, s1, os, ox)) (K : ∀ (hp' : HPt) (A' : AS), CI hp' A' → MJ hp' A' → PZ l X Z mL_law 942 [some (.retAddr 0), some (.ref 0), some (.ref 61), some (.int (nI i))] [] hp' 78 5654) : PZ l X Z mL_law 284 [some (.retAddr 0), some (.ref 0), some (.ref 61), some (.int (nI i))] [] hp 78 5654 := by
  obtain ⟨nx, C0, -⟩ := id hC
  refine R_aload_n dL_law_284 rfl rfl ?_
  refine R_calli (As := []) (st := []) kX11_printedLength lL_39 (x_plen hC) rfl C0 dL_law_285 rfl rfl (Nat.le_of_ble_eq_true rfl) ⟨by decide, by decide⟩ zX11_printedLength ⟨Nat.le_of_ble_eq_true rfl, Nat.le_of_ble_eq_true rfl⟩ (fun wr3 wp2 wq1 => ?_)
  obtain ⟨rfl, hc1, hf1⟩ := wq1
  have hm1 := hM.fr hf1 LM_C
  obtain ⟨nx2, t1, t2, t3, M0, -⟩ := id hm1
  refine R_aload_n dL_law_288 rfl rfl ?_
  refine R_calli (As := []) (st := [.int ((f_plen (ms, (cs, sc, un, wd), hs, s0, s1, os, ox)).1)]) kX12_printedLength lL_42 (y_plen hm1) rfl M0 dL_law_289 rfl rfl (Nat.le_of_ble_eq_true rfl) ⟨by decide, by decide⟩ zX12_printedLength ⟨Nat.le_of_ble_eq_true rfl, Nat.le_of_ble_eq_true rfl⟩ (fun wr6 wp5 wq4 => ?_)
  obtain ⟨rfl, hm2, hf2⟩ := wq4
  refine R_icmp_eq (tgt := 942) dL_law_292 (by decide) (fun _ => ?_) (fun hc => absurd rfl hc)
  exact K _ _ (hc1.fr hf2 LC_M) hm2
set_option maxRecDepth 100000 in
set_option maxHeartbeats 4000000 in
theorem law_pat {ms : List Nat} {cs : List Nat} {sc un wd : Nat} {hs : List TP} {s0 s1 : Option TP} {os : List (Nat × Nat)} {ox : Nat} {i : Nat} (hL : xL X ≤ 2048) (hi : i + 4 ≤ xL X) (hC : CI hp (ms, (cs, sc, un, wd), hs, s0, s1, os, ox)) (hM : MJ hp (ms, (cs, sc, un, wd), hs, s0, s1, os, ox)) (K : ∀ (hp' : HPt) (A' : AS), CI hp' A' → MJ hp' A' → PZ l X Z mL_law 942 [some (.retAddr 0), some (.ref 0), some (.ref 61), some (.int (nI i))] [] hp' 78 5654) : PZ l X Z mL_law 297 [some (.retAddr 0), some (.ref 0), some (.ref 61), some (.int (nI i))] [] hp 78 5654 := by
  obtain ⟨nx, C0, -⟩ := id hC
  refine R_aload_n dL_law_297 rfl rfl ?_
  refine R_xload_n dL_law_298 rfl rfl ?_
  refine R_iload_n dL_law_299 rfl rfl ?_
  refine R_iconst (v := (nI 1)) dL_law_300 (by decide) ?_
  refine N_iadd dL_law_301 ?_
  refine R_sload dL_law_302 (vp_in_nI (by omega) (by omega)) ?_
  refine R_calli (As := [.int (xs X (nI (i + 1)).toNatClampNeg)]) (st := []) kX11_printedAt lL_43 (x_pat hC) rfl C0 dL_law_303 rfl rfl (Nat.le_of_ble_eq_true rfl) ⟨by decide, by decide⟩ zX11_printedAt ⟨Nat.le_of_ble_eq_true rfl, Nat.le_of_ble_eq_true rfl⟩ (fun wr3 wp2 wq1 => ?_)
  obtain ⟨rfl, hc1, hf1⟩ := wq1
  have hm1 := hM.fr hf1 LM_C
  obtain ⟨nx2, t1, t2, t3, M0, -⟩ := id hm1
  refine R_aload_n dL_law_306 rfl rfl ?_
  refine R_xload_n dL_law_307 rfl rfl ?_
  refine R_iload_n dL_law_308 rfl rfl ?_
  refine R_iconst (v := (nI 1)) dL_law_309 (by decide) ?_
  refine N_iadd dL_law_310 ?_
  refine R_sload dL_law_311 (vp_in_nI (by omega) (by omega)) ?_
  refine R_calli (As := [.int (xs X (nI (i + 1)).toNatClampNeg)]) (st := [.int ((f_pat (ms, (cs, sc, un, wd), hs, s0, s1, os, ox) (xs X (nI (i + 1)).toNatClampNeg)).1)]) kX12_printedAt lL_46 (y_pat hm1) rfl M0 dL_law_312 rfl rfl (Nat.le_of_ble_eq_true rfl) ⟨by decide, by decide⟩ zX12_printedAt ⟨Nat.le_of_ble_eq_true rfl, Nat.le_of_ble_eq_true rfl⟩ (fun wr6 wp5 wq4 => ?_)
  obtain ⟨rfl, hm2, hf2⟩ := wq4
  refine R_icmp_eq (tgt := 942) dL_law_315 (by decide) (fun _ => ?_) (fun hc => absurd rfl hc)
  exact K _ _ (hc1.fr hf2 LC_M) hm2
set_option maxRecDepth 100000 in
set_option maxHeartbeats 4000000 in
theorem law_punch {ms : List Nat} {cs : List Nat} {sc un wd : Nat} {hs : List TP} {s0 s1 : Option TP} {os : List (Nat × Nat)} {ox : Nat} {i : Nat} (hL : xL X ≤ 2048) (hi : i + 4 ≤ xL X) (hC : CI hp (ms, (cs, sc, un, wd), hs, s0, s1, os, ox)) (hM : MJ hp (ms, (cs, sc, un, wd), hs, s0, s1, os, ox)) (K : ∀ (hp' : HPt) (A' : AS), CI hp' A' → MJ hp' A' → PZ l X Z mL_law 942 [some (.retAddr 0), some (.ref 0), some (.ref 61), some (.int (nI i))] [] hp' 78 5654) : PZ l X Z mL_law 320 [some (.retAddr 0), some (.ref 0), some (.ref 61), some (.int (nI i))] [] hp 78 5654 := by
  obtain ⟨nx, C0, -⟩ := id hC
  refine R_aload_n dL_law_320 rfl rfl ?_
  refine R_xload_n dL_law_321 rfl rfl ?_
  refine R_iload_n dL_law_322 rfl rfl ?_
  refine R_iconst (v := (nI 1)) dL_law_323 (by decide) ?_
  refine N_iadd dL_law_324 ?_
  refine R_sload dL_law_325 (vp_in_nI (by omega) (by omega)) ?_
  refine R_calli (As := [.int (xs X (nI (i + 1)).toNatClampNeg)]) (st := []) kX11_punch lL_47 (x_punch hC) rfl C0 dL_law_326 rfl rfl (Nat.le_of_ble_eq_true rfl) ⟨by decide, by decide⟩ zX11_punch ⟨Nat.le_of_ble_eq_true rfl, Nat.le_of_ble_eq_true rfl⟩ (fun wr3 wp2 wq1 => ?_)
  obtain ⟨rfl, hc1, hf1⟩ := wq1
  have hm1 := hM.fr hf1 LM_C
  obtain ⟨nx2, t1, t2, t3, M0, -⟩ := id hm1
  refine R_aload_n dL_law_329 rfl rfl ?_
  refine R_xload_n dL_law_330 rfl rfl ?_
  refine R_iload_n dL_law_331 rfl rfl ?_
  refine R_iconst (v := (nI 1)) dL_law_332 (by decide) ?_
  refine N_iadd dL_law_333 ?_
  refine R_sload dL_law_334 (vp_in_nI (by omega) (by omega)) ?_
  refine R_calli (As := [.int (xs X (nI (i + 1)).toNatClampNeg)]) (st := [.int ((f_punch (ms, (cs, sc, un, wd), hs, s0, s1, os, ox) (xs X (nI (i + 1)).toNatClampNeg)).1)]) kX12_punch lL_50 (y_punch hm1) rfl M0 dL_law_335 rfl rfl (Nat.le_of_ble_eq_true rfl) ⟨by decide, by decide⟩ zX12_punch ⟨Nat.le_of_ble_eq_true rfl, Nat.le_of_ble_eq_true rfl⟩ (fun wr6 wp5 wq4 => ?_)
  obtain ⟨rfl, hm2, hf2⟩ := wq4
  refine R_icmp_eq (tgt := 942) dL_law_338 (by decide) (fun _ => ?_) (fun hc => absurd rfl hc)
  exact K _ _ (hc1.fr hf2 LC_M) hm2
set_option maxRecDepth 100000 in
set_option maxHeartbeats 4000000 in
theorem law_enc {ms : List Nat} {cs : List Nat} {sc un wd : Nat} {hs : List TP} {s0 s1 : Option TP} {os : List (Nat × Nat)} {ox : Nat} {i : Nat} (hL : xL X ≤ 2048) (hi : i + 4 ≤ xL X) (hC : CI hp (ms, (cs, sc, un, wd), hs, s0, s1, os, ox)) (hM : MJ hp (ms, (cs, sc, un, wd), hs, s0, s1, os, ox)) (K : ∀ (hp' : HPt) (A' : AS), CI hp' A' → MJ hp' A' → PZ l X Z mL_law 942 [some (.retAddr 0), some (.ref 0), some (.ref 61), some (.int (nI i))] [] hp' 78 5654) : PZ l X Z mL_law 343 [some (.retAddr 0), some (.ref 0), some (.ref 61), some (.int (nI i))] [] hp 78 5654 := by
  obtain ⟨nx, C0, -⟩ := id hC
  refine R_aload_n dL_law_343 rfl rfl ?_
  refine R_calli (As := []) (st := []) kX11_encodeMessage lL_51 (x_enc hC) rfl C0 dL_law_344 rfl rfl (Nat.le_of_ble_eq_true rfl) ⟨by decide, by decide⟩ zX11_encodeMessage ⟨Nat.le_of_ble_eq_true rfl, Nat.le_of_ble_eq_true rfl⟩ (fun wr3 wp2 wq1 => ?_)
  obtain ⟨rfl, hc1, hf1⟩ := wq1
  have hm1 := hM.fr hf1 LM_C
  obtain ⟨nx2, t1, t2, t3, M0, -⟩ := id hm1
  refine R_aload_n dL_law_347 rfl rfl ?_
  refine R_calli (As := []) (st := [.int ((f_enc (ms, (cs, sc, un, wd), hs, s0, s1, os, ox)).1)]) kX12_encodeMessage lL_54 (y_enc hm1) rfl M0 dL_law_348 rfl rfl (Nat.le_of_ble_eq_true rfl) ⟨by decide, by decide⟩ zX12_encodeMessage ⟨Nat.le_of_ble_eq_true rfl, Nat.le_of_ble_eq_true rfl⟩ (fun wr6 wp5 wq4 => ?_)
  obtain ⟨rfl, hm2, hf2⟩ := wq4
  refine R_icmp_eq (tgt := 942) dL_law_351 (by decide) (fun _ => ?_) (fun hc => absurd rfl hc)
  exact K _ _ (hc1.fr hf2 LC_M) hm2
set_option maxRecDepth 100000 in
set_option maxHeartbeats 4000000 in
theorem law_wrap {ms : List Nat} {cs : List Nat} {sc un wd : Nat} {hs : List TP} {s0 s1 : Option TP} {os : List (Nat × Nat)} {ox : Nat} {i : Nat} (hL : xL X ≤ 2048) (hi : i + 4 ≤ xL X) (hC : CI hp (ms, (cs, sc, un, wd), hs, s0, s1, os, ox)) (hM : MJ hp (ms, (cs, sc, un, wd), hs, s0, s1, os, ox)) (K : ∀ (hp' : HPt) (A' : AS), CI hp' A' → MJ hp' A' → PZ l X Z mL_law 942 [some (.retAddr 0), some (.ref 0), some (.ref 61), some (.int (nI i))] [] hp' 78 5654) : PZ l X Z mL_law 356 [some (.retAddr 0), some (.ref 0), some (.ref 61), some (.int (nI i))] [] hp 78 5654 := by
  obtain ⟨nx, C0, -⟩ := id hC
  refine R_aload_n dL_law_356 rfl rfl ?_
  refine R_calli (As := []) (st := []) kX11_encodeWrapped lL_55 (x_wrap hC) rfl C0 dL_law_357 rfl rfl (Nat.le_of_ble_eq_true rfl) ⟨by decide, by decide⟩ zX11_encodeWrapped ⟨Nat.le_of_ble_eq_true rfl, Nat.le_of_ble_eq_true rfl⟩ (fun wr3 wp2 wq1 => ?_)
  obtain ⟨rfl, hc1, hf1⟩ := wq1
  have hm1 := hM.fr hf1 LM_C
  obtain ⟨nx2, t1, t2, t3, M0, -⟩ := id hm1
  refine R_aload_n dL_law_360 rfl rfl ?_
  refine R_calli (As := []) (st := [.int ((f_wrap (ms, (cs, sc, un, wd), hs, s0, s1, os, ox)).1)]) kX12_encodeWrapped lL_58 (y_wrap hm1) rfl M0 dL_law_361 rfl rfl (Nat.le_of_ble_eq_true rfl) ⟨by decide, by decide⟩ zX12_encodeWrapped ⟨Nat.le_of_ble_eq_true rfl, Nat.le_of_ble_eq_true rfl⟩ (fun wr6 wp5 wq4 => ?_)
  obtain ⟨rfl, hm2, hf2⟩ := wq4
  refine R_icmp_eq (tgt := 942) dL_law_364 (by decide) (fun _ => ?_) (fun hc => absurd rfl hc)
  exact K _ _ (hc1.fr hf2 LC_M) hm2
set_option maxRecDepth 100000 in
set_option maxHeartbeats 4000000 in
theorem law_rem {ms : List Nat} {cs : List Nat} {sc un wd : Nat} {hs : List TP} {s0 s1 : Option TP} {os : List (Nat × Nat)} {ox : Nat} {i : Nat} (hL : xL X ≤ 2048) (hi : i + 4 ≤ xL X) (hC : CI hp (ms, (cs, sc, un, wd), hs, s0, s1, os, ox)) (hM : MJ hp (ms, (cs, sc, un, wd), hs, s0, s1, os, ox)) (K : ∀ (hp' : HPt) (A' : AS), CI hp' A' → MJ hp' A' → PZ l X Z mL_law 942 [some (.retAddr 0), some (.ref 0), some (.ref 61), some (.int (nI i))] [] hp' 78 5654) : PZ l X Z mL_law 369 [some (.retAddr 0), some (.ref 0), some (.ref 61), some (.int (nI i))] [] hp 78 5654 := by
  obtain ⟨nx, C0, -⟩ := id hC
  refine R_aload_n dL_law_369 rfl rfl ?_
  refine R_xload_n dL_law_370 rfl rfl ?_
  refine R_iload_n dL_law_371 rfl rfl ?_
  refine R_iconst (v := (nI 1)) dL_law_372 (by decide) ?_
  refine N_iadd dL_law_373 ?_
  refine R_sload dL_law_374 (vp_in_nI (by omega) (by omega)) ?_
  refine R_calli (As := [.int (xs X (nI (i + 1)).toNatClampNeg)]) (st := []) kX11_remove lL_59 (x_rem hC) rfl C0 dL_law_375 rfl rfl (Nat.le_of_ble_eq_true rfl) ⟨by decide, by decide⟩ zX11_remove ⟨Nat.le_of_ble_eq_true rfl, Nat.le_of_ble_eq_true rfl⟩ (fun wr3 wp2 wq1 => ?_)
  obtain ⟨rfl, hc1, hf1⟩ := wq1
  have hm1 := hM.fr hf1 LM_C
  obtain ⟨nx2, t1, t2, t3, M0, -⟩ := id hm1
  refine R_aload_n dL_law_378 rfl rfl ?_
  refine R_xload_n dL_law_379 rfl rfl ?_
  refine R_iload_n dL_law_380 rfl rfl ?_
  refine R_iconst (v := (nI 1)) dL_law_381 (by decide) ?_
  refine N_iadd dL_law_382 ?_
  refine R_sload dL_law_383 (vp_in_nI (by omega) (by omega)) ?_
  refine R_calli (As := [.int (xs X (nI (i + 1)).toNatClampNeg)]) (st := [.int ((f_rem (ms, (cs, sc, un, wd), hs, s0, s1, os, ox) (xs X (nI (i + 1)).toNatClampNeg)).1)]) kX12_remove lL_62 (y_rem hm1) rfl M0 dL_law_384 rfl rfl (Nat.le_of_ble_eq_true rfl) ⟨by decide, by decide⟩ zX12_remove ⟨Nat.le_of_ble_eq_true rfl, Nat.le_of_ble_eq_true rfl⟩ (fun wr6 wp5 wq4 => ?_)
  obtain ⟨rfl, hm2, hf2⟩ := wq4
  refine R_icmp_eq (tgt := 942) dL_law_387 (by decide) (fun _ => ?_) (fun hc => absurd rfl hc)
  exact K _ _ (hc1.fr hf2 LC_M) hm2
set_option maxRecDepth 100000 in
set_option maxHeartbeats 4000000 in
theorem law_flip {ms : List Nat} {cs : List Nat} {sc un wd : Nat} {hs : List TP} {s0 s1 : Option TP} {os : List (Nat × Nat)} {ox : Nat} {i : Nat} (hL : xL X ≤ 2048) (hi : i + 4 ≤ xL X) (hC : CI hp (ms, (cs, sc, un, wd), hs, s0, s1, os, ox)) (hM : MJ hp (ms, (cs, sc, un, wd), hs, s0, s1, os, ox)) (K : ∀ (hp' : HPt) (A' : AS), CI hp' A' → MJ hp' A' → PZ l X Z mL_law 942 [some (.retAddr 0), some (.ref 0), some (.ref 61), some (.int (nI i))] [] hp' 78 5654) : PZ l X Z mL_law 392 [some (.retAddr 0), some (.ref 0), some (.ref 61), some (.int (nI i))] [] hp 78 5654 := by
  obtain ⟨nx, C0, -⟩ := id hC
  refine R_aload_n dL_law_392 rfl rfl ?_
  refine R_xload_n dL_law_393 rfl rfl ?_
  refine R_iload_n dL_law_394 rfl rfl ?_
  refine R_iconst (v := (nI 1)) dL_law_395 (by decide) ?_
  refine N_iadd dL_law_396 ?_
  refine R_sload dL_law_397 (vp_in_nI (by omega) (by omega)) ?_
  refine R_xload_n dL_law_398 rfl rfl ?_
  refine R_iload_n dL_law_399 rfl rfl ?_
  refine R_iconst (v := (nI 2)) dL_law_400 (by decide) ?_
  refine N_iadd dL_law_401 ?_
  refine R_sload dL_law_402 (vp_in_nI (by omega) (by omega)) ?_
  refine R_calli (As := [.int (xs X (nI (i + 1)).toNatClampNeg), .int (xs X (nI (i + 2)).toNatClampNeg)]) (st := []) kX11_flip lL_63 (x_flip hC) rfl C0 dL_law_403 rfl rfl (Nat.le_of_ble_eq_true rfl) ⟨by decide, by decide⟩ zX11_flip ⟨Nat.le_of_ble_eq_true rfl, Nat.le_of_ble_eq_true rfl⟩ (fun wr3 wp2 wq1 => ?_)
  obtain ⟨rfl, hc1, hf1⟩ := wq1
  have hm1 := hM.fr hf1 LM_C
  obtain ⟨nx2, t1, t2, t3, M0, -⟩ := id hm1
  refine R_aload_n dL_law_406 rfl rfl ?_
  refine R_xload_n dL_law_407 rfl rfl ?_
  refine R_iload_n dL_law_408 rfl rfl ?_
  refine R_iconst (v := (nI 1)) dL_law_409 (by decide) ?_
  refine N_iadd dL_law_410 ?_
  refine R_sload dL_law_411 (vp_in_nI (by omega) (by omega)) ?_
  refine R_xload_n dL_law_412 rfl rfl ?_
  refine R_iload_n dL_law_413 rfl rfl ?_
  refine R_iconst (v := (nI 2)) dL_law_414 (by decide) ?_
  refine N_iadd dL_law_415 ?_
  refine R_sload dL_law_416 (vp_in_nI (by omega) (by omega)) ?_
  refine R_calli (As := [.int (xs X (nI (i + 1)).toNatClampNeg), .int (xs X (nI (i + 2)).toNatClampNeg)]) (st := [.int ((f_flip (ms, (cs, sc, un, wd), hs, s0, s1, os, ox) (xs X (nI (i + 1)).toNatClampNeg) (xs X (nI (i + 2)).toNatClampNeg)).1)]) kX12_flip lL_67 (y_flip hm1) rfl M0 dL_law_417 rfl rfl (Nat.le_of_ble_eq_true rfl) ⟨by decide, by decide⟩ zX12_flip ⟨Nat.le_of_ble_eq_true rfl, Nat.le_of_ble_eq_true rfl⟩ (fun wr6 wp5 wq4 => ?_)
  obtain ⟨rfl, hm2, hf2⟩ := wq4
  refine R_icmp_eq (tgt := 942) dL_law_420 (by decide) (fun _ => ?_) (fun hc => absurd rfl hc)
  exact K _ _ (hc1.fr hf2 LC_M) hm2
set_option maxRecDepth 100000 in
set_option maxHeartbeats 4000000 in
theorem law_comp {ms : List Nat} {cs : List Nat} {sc un wd : Nat} {hs : List TP} {s0 s1 : Option TP} {os : List (Nat × Nat)} {ox : Nat} {i : Nat} (hL : xL X ≤ 2048) (hi : i + 4 ≤ xL X) (hC : CI hp (ms, (cs, sc, un, wd), hs, s0, s1, os, ox)) (hM : MJ hp (ms, (cs, sc, un, wd), hs, s0, s1, os, ox)) (K : ∀ (hp' : HPt) (A' : AS), CI hp' A' → MJ hp' A' → PZ l X Z mL_law 942 [some (.retAddr 0), some (.ref 0), some (.ref 61), some (.int (nI i))] [] hp' 78 5654) : PZ l X Z mL_law 425 [some (.retAddr 0), some (.ref 0), some (.ref 61), some (.int (nI i))] [] hp 78 5654 := by
  obtain ⟨nx, C0, -⟩ := id hC
  refine R_aload_n dL_law_425 rfl rfl ?_
  refine R_calli (As := []) (st := []) kX11_compact lL_68 (x_comp hC) rfl C0 dL_law_426 rfl rfl (Nat.le_of_ble_eq_true rfl) ⟨by decide, by decide⟩ zX11_compact ⟨Nat.le_of_ble_eq_true rfl, Nat.le_of_ble_eq_true rfl⟩ (fun wr3 wp2 wq1 => ?_)
  obtain ⟨rfl, hc1, hf1⟩ := wq1
  have hm1 := hM.fr hf1 LM_C
  obtain ⟨nx2, t1, t2, t3, M0, -⟩ := id hm1
  refine R_aload_n dL_law_429 rfl rfl ?_
  refine R_calli (As := []) (st := [.int ((f_comp (ms, (cs, sc, un, wd), hs, s0, s1, os, ox)).1)]) kX12_compact lL_71 (y_comp hm1) rfl M0 dL_law_430 rfl rfl (Nat.le_of_ble_eq_true rfl) ⟨by decide, by decide⟩ zX12_compact ⟨Nat.le_of_ble_eq_true rfl, Nat.le_of_ble_eq_true rfl⟩ (fun wr6 wp5 wq4 => ?_)
  obtain ⟨rfl, hm2, hf2⟩ := wq4
  refine R_icmp_eq (tgt := 942) dL_law_433 (by decide) (fun _ => ?_) (fun hc => absurd rfl hc)
  exact K _ _ (hc1.fr hf2 LC_M) hm2
set_option maxRecDepth 100000 in
set_option maxHeartbeats 4000000 in
theorem law_rep {ms : List Nat} {cs : List Nat} {sc un wd : Nat} {hs : List TP} {s0 s1 : Option TP} {os : List (Nat × Nat)} {ox : Nat} {i : Nat} (hL : xL X ≤ 2048) (hi : i + 4 ≤ xL X) (hC : CI hp (ms, (cs, sc, un, wd), hs, s0, s1, os, ox)) (hM : MJ hp (ms, (cs, sc, un, wd), hs, s0, s1, os, ox)) (K : ∀ (hp' : HPt) (A' : AS), CI hp' A' → MJ hp' A' → PZ l X Z mL_law 942 [some (.retAddr 0), some (.ref 0), some (.ref 61), some (.int (nI i))] [] hp' 78 5654) : PZ l X Z mL_law 438 [some (.retAddr 0), some (.ref 0), some (.ref 61), some (.int (nI i))] [] hp 78 5654 := by
  obtain ⟨nx, C0, -⟩ := id hC
  refine R_aload_n dL_law_438 rfl rfl ?_
  refine R_calli (As := []) (st := []) kX11_repair lL_72 (x_rep hC) rfl C0 dL_law_439 rfl rfl (Nat.le_of_ble_eq_true rfl) ⟨by decide, by decide⟩ zX11_repair ⟨Nat.le_of_ble_eq_true rfl, Nat.le_of_ble_eq_true rfl⟩ (fun wr3 wp2 wq1 => ?_)
  obtain ⟨rfl, hc1, hf1⟩ := wq1
  have hm1 := hM.fr hf1 LM_C
  obtain ⟨nx2, t1, t2, t3, M0, -⟩ := id hm1
  refine R_aload_n dL_law_442 rfl rfl ?_
  refine R_calli (As := []) (st := [.int ((f_rep (ms, (cs, sc, un, wd), hs, s0, s1, os, ox)).1)]) kX12_repair lL_75 (y_rep hm1) rfl M0 dL_law_443 rfl rfl (Nat.le_of_ble_eq_true rfl) ⟨by decide, by decide⟩ zX12_repair ⟨Nat.le_of_ble_eq_true rfl, Nat.le_of_ble_eq_true rfl⟩ (fun wr6 wp5 wq4 => ?_)
  obtain ⟨rfl, hm2, hf2⟩ := wq4
  refine R_icmp_eq (tgt := 942) dL_law_446 (by decide) (fun _ => ?_) (fun hc => absurd rfl hc)
  exact K _ _ (hc1.fr hf2 LC_M) hm2
set_option maxRecDepth 100000 in
set_option maxHeartbeats 4000000 in
theorem law_start {ms : List Nat} {cs : List Nat} {sc un wd : Nat} {hs : List TP} {s0 s1 : Option TP} {os : List (Nat × Nat)} {ox : Nat} {i : Nat} (hL : xL X ≤ 2048) (hi : i + 4 ≤ xL X) (hC : CI hp (ms, (cs, sc, un, wd), hs, s0, s1, os, ox)) (hM : MJ hp (ms, (cs, sc, un, wd), hs, s0, s1, os, ox)) (K : ∀ (hp' : HPt) (A' : AS), CI hp' A' → MJ hp' A' → PZ l X Z mL_law 942 [some (.retAddr 0), some (.ref 0), some (.ref 61), some (.int (nI i))] [] hp' 78 5654) : PZ l X Z mL_law 451 [some (.retAddr 0), some (.ref 0), some (.ref 61), some (.int (nI i))] [] hp 78 5654 := by
  obtain ⟨nx, C0, -⟩ := id hC
  refine R_aload_n dL_law_451 rfl rfl ?_
  refine R_xload_n dL_law_452 rfl rfl ?_
  refine R_iload_n dL_law_453 rfl rfl ?_
  refine R_iconst (v := (nI 1)) dL_law_454 (by decide) ?_
  refine N_iadd dL_law_455 ?_
  refine R_sload dL_law_456 (vp_in_nI (by omega) (by omega)) ?_
  refine R_calli (As := [.int (xs X (nI (i + 1)).toNatClampNeg)]) (st := []) kX11_setStartCase lL_76 (x_start hC) rfl C0 dL_law_457 rfl rfl (Nat.le_of_ble_eq_true rfl) ⟨by decide, by decide⟩ zX11_setStartCase ⟨Nat.le_of_ble_eq_true rfl, Nat.le_of_ble_eq_true rfl⟩ (fun wr3 wp2 wq1 => ?_)
  obtain ⟨rfl, hc1, hf1⟩ := wq1
  have hm1 := hM.fr hf1 LM_C
  obtain ⟨nx2, t1, t2, t3, M0, -⟩ := id hm1
  refine R_aload_n dL_law_460 rfl rfl ?_
  refine R_xload_n dL_law_461 rfl rfl ?_
  refine R_iload_n dL_law_462 rfl rfl ?_
  refine R_iconst (v := (nI 1)) dL_law_463 (by decide) ?_
  refine N_iadd dL_law_464 ?_
  refine R_sload dL_law_465 (vp_in_nI (by omega) (by omega)) ?_
  refine R_calli (As := [.int (xs X (nI (i + 1)).toNatClampNeg)]) (st := [.int ((f_start (ms, (cs, sc, un, wd), hs, s0, s1, os, ox) (xs X (nI (i + 1)).toNatClampNeg)).1)]) kX12_setStartCase lL_79 (y_start hm1) rfl M0 dL_law_466 rfl rfl (Nat.le_of_ble_eq_true rfl) ⟨by decide, by decide⟩ zX12_setStartCase ⟨Nat.le_of_ble_eq_true rfl, Nat.le_of_ble_eq_true rfl⟩ (fun wr6 wp5 wq4 => ?_)
  obtain ⟨rfl, hm2, hf2⟩ := wq4
  refine R_icmp_eq (tgt := 942) dL_law_469 (by decide) (fun _ => ?_) (fun hc => absurd rfl hc)
  exact K _ _ (hc1.fr hf2 LC_M) hm2
set_option maxRecDepth 100000 in
set_option maxHeartbeats 4000000 in
theorem law_opt {ms : List Nat} {cs : List Nat} {sc un wd : Nat} {hs : List TP} {s0 s1 : Option TP} {os : List (Nat × Nat)} {ox : Nat} {i : Nat} (hL : xL X ≤ 2048) (hi : i + 4 ≤ xL X) (hC : CI hp (ms, (cs, sc, un, wd), hs, s0, s1, os, ox)) (hM : MJ hp (ms, (cs, sc, un, wd), hs, s0, s1, os, ox)) (K : ∀ (hp' : HPt) (A' : AS), CI hp' A' → MJ hp' A' → PZ l X Z mL_law 942 [some (.retAddr 0), some (.ref 0), some (.ref 61), some (.int (nI i))] [] hp' 78 5654) : PZ l X Z mL_law 474 [some (.retAddr 0), some (.ref 0), some (.ref 61), some (.int (nI i))] [] hp 78 5654 := by
  obtain ⟨nx, C0, -⟩ := id hC
  refine R_aload_n dL_law_474 rfl rfl ?_
  refine R_xload_n dL_law_475 rfl rfl ?_
  refine R_iload_n dL_law_476 rfl rfl ?_
  refine R_iconst (v := (nI 1)) dL_law_477 (by decide) ?_
  refine N_iadd dL_law_478 ?_
  refine R_sload dL_law_479 (vp_in_nI (by omega) (by omega)) ?_
  refine R_calli (As := [.int (xs X (nI (i + 1)).toNatClampNeg)]) (st := []) kX11_setUnshiftOnSpace lL_80 (x_opt hC) rfl C0 dL_law_480 rfl rfl (Nat.le_of_ble_eq_true rfl) ⟨by decide, by decide⟩ zX11_setUnshiftOnSpace ⟨Nat.le_of_ble_eq_true rfl, Nat.le_of_ble_eq_true rfl⟩ (fun wr3 wp2 wq1 => ?_)
  obtain ⟨rfl, hc1, hf1⟩ := wq1
  have hm1 := hM.fr hf1 LM_C
  obtain ⟨nx2, t1, t2, t3, M0, -⟩ := id hm1
  refine R_aload_n dL_law_483 rfl rfl ?_
  refine R_xload_n dL_law_484 rfl rfl ?_
  refine R_iload_n dL_law_485 rfl rfl ?_
  refine R_iconst (v := (nI 1)) dL_law_486 (by decide) ?_
  refine N_iadd dL_law_487 ?_
  refine R_sload dL_law_488 (vp_in_nI (by omega) (by omega)) ?_
  refine R_calli (As := [.int (xs X (nI (i + 1)).toNatClampNeg)]) (st := [.int ((f_opt (ms, (cs, sc, un, wd), hs, s0, s1, os, ox) (xs X (nI (i + 1)).toNatClampNeg)).1)]) kX12_setUnshiftOnSpace lL_83 (y_opt hm1) rfl M0 dL_law_489 rfl rfl (Nat.le_of_ble_eq_true rfl) ⟨by decide, by decide⟩ zX12_setUnshiftOnSpace ⟨Nat.le_of_ble_eq_true rfl, Nat.le_of_ble_eq_true rfl⟩ (fun wr6 wp5 wq4 => ?_)
  obtain ⟨rfl, hm2, hf2⟩ := wq4
  refine R_icmp_eq (tgt := 942) dL_law_492 (by decide) (fun _ => ?_) (fun hc => absurd rfl hc)
  exact K _ _ (hc1.fr hf2 LC_M) hm2
set_option maxRecDepth 100000 in
set_option maxHeartbeats 4000000 in
theorem law_wid {ms : List Nat} {cs : List Nat} {sc un wd : Nat} {hs : List TP} {s0 s1 : Option TP} {os : List (Nat × Nat)} {ox : Nat} {i : Nat} (hL : xL X ≤ 2048) (hi : i + 4 ≤ xL X) (hC : CI hp (ms, (cs, sc, un, wd), hs, s0, s1, os, ox)) (hM : MJ hp (ms, (cs, sc, un, wd), hs, s0, s1, os, ox)) (K : ∀ (hp' : HPt) (A' : AS), CI hp' A' → MJ hp' A' → PZ l X Z mL_law 942 [some (.retAddr 0), some (.ref 0), some (.ref 61), some (.int (nI i))] [] hp' 78 5654) : PZ l X Z mL_law 497 [some (.retAddr 0), some (.ref 0), some (.ref 61), some (.int (nI i))] [] hp 78 5654 := by
  obtain ⟨nx, C0, -⟩ := id hC
  refine R_aload_n dL_law_497 rfl rfl ?_
  refine R_xload_n dL_law_498 rfl rfl ?_
  refine R_iload_n dL_law_499 rfl rfl ?_
  refine R_iconst (v := (nI 1)) dL_law_500 (by decide) ?_
  refine N_iadd dL_law_501 ?_
  refine R_sload dL_law_502 (vp_in_nI (by omega) (by omega)) ?_
  refine R_calli (As := [.int (xs X (nI (i + 1)).toNatClampNeg)]) (st := []) kX11_setWidth lL_84 (x_wid hC) rfl C0 dL_law_503 rfl rfl (Nat.le_of_ble_eq_true rfl) ⟨by decide, by decide⟩ zX11_setWidth ⟨Nat.le_of_ble_eq_true rfl, Nat.le_of_ble_eq_true rfl⟩ (fun wr3 wp2 wq1 => ?_)
  obtain ⟨rfl, hc1, hf1⟩ := wq1
  have hm1 := hM.fr hf1 LM_C
  obtain ⟨nx2, t1, t2, t3, M0, -⟩ := id hm1
  refine R_aload_n dL_law_506 rfl rfl ?_
  refine R_xload_n dL_law_507 rfl rfl ?_
  refine R_iload_n dL_law_508 rfl rfl ?_
  refine R_iconst (v := (nI 1)) dL_law_509 (by decide) ?_
  refine N_iadd dL_law_510 ?_
  refine R_sload dL_law_511 (vp_in_nI (by omega) (by omega)) ?_
  refine R_calli (As := [.int (xs X (nI (i + 1)).toNatClampNeg)]) (st := [.int ((f_wid (ms, (cs, sc, un, wd), hs, s0, s1, os, ox) (xs X (nI (i + 1)).toNatClampNeg)).1)]) kX12_setWidth lL_87 (y_wid hm1) rfl M0 dL_law_512 rfl rfl (Nat.le_of_ble_eq_true rfl) ⟨by decide, by decide⟩ zX12_setWidth ⟨Nat.le_of_ble_eq_true rfl, Nat.le_of_ble_eq_true rfl⟩ (fun wr6 wp5 wq4 => ?_)
  obtain ⟨rfl, hm2, hf2⟩ := wq4
  refine R_icmp_eq (tgt := 942) dL_law_515 (by decide) (fun _ => ?_) (fun hc => absurd rfl hc)
  exact K _ _ (hc1.fr hf2 LC_M) hm2
set_option maxRecDepth 100000 in
set_option maxHeartbeats 4000000 in
theorem law_undo {ms : List Nat} {cs : List Nat} {sc un wd : Nat} {hs : List TP} {s0 s1 : Option TP} {os : List (Nat × Nat)} {ox : Nat} {i : Nat} (hL : xL X ≤ 2048) (hi : i + 4 ≤ xL X) (hC : CI hp (ms, (cs, sc, un, wd), hs, s0, s1, os, ox)) (hM : MJ hp (ms, (cs, sc, un, wd), hs, s0, s1, os, ox)) (K : ∀ (hp' : HPt) (A' : AS), CI hp' A' → MJ hp' A' → PZ l X Z mL_law 942 [some (.retAddr 0), some (.ref 0), some (.ref 61), some (.int (nI i))] [] hp' 78 5654) : PZ l X Z mL_law 520 [some (.retAddr 0), some (.ref 0), some (.ref 61), some (.int (nI i))] [] hp 78 5654 := by
  obtain ⟨nx, C0, -⟩ := id hC
  refine R_aload_n dL_law_520 rfl rfl ?_
  refine R_calli (As := []) (st := []) kX11_undo lL_88 (x_undo hC) rfl C0 dL_law_521 rfl rfl (Nat.le_of_ble_eq_true rfl) ⟨by decide, by decide⟩ zX11_undo ⟨Nat.le_of_ble_eq_true rfl, Nat.le_of_ble_eq_true rfl⟩ (fun wr3 wp2 wq1 => ?_)
  obtain ⟨rfl, hc1, hf1⟩ := wq1
  have hm1 := hM.fr hf1 LM_C
  obtain ⟨nx2, t1, t2, t3, M0, -⟩ := id hm1
  refine R_aload_n dL_law_524 rfl rfl ?_
  refine R_calli (As := []) (st := [.int ((f_undo (ms, (cs, sc, un, wd), hs, s0, s1, os, ox)).1)]) kX12_undo lL_91 (y_undo hm1) rfl M0 dL_law_525 rfl rfl (Nat.le_of_ble_eq_true rfl) ⟨by decide, by decide⟩ zX12_undo ⟨Nat.le_of_ble_eq_true rfl, Nat.le_of_ble_eq_true rfl⟩ (fun wr6 wp5 wq4 => ?_)
  obtain ⟨rfl, hm2, hf2⟩ := wq4
  refine R_icmp_eq (tgt := 942) dL_law_528 (by decide) (fun _ => ?_) (fun hc => absurd rfl hc)
  exact K _ _ (hc1.fr hf2 LC_M) hm2
set_option maxRecDepth 100000 in
set_option maxHeartbeats 4000000 in
theorem law_cell {ms : List Nat} {cs : List Nat} {sc un wd : Nat} {hs : List TP} {s0 s1 : Option TP} {os : List (Nat × Nat)} {ox : Nat} {i : Nat} (hL : xL X ≤ 2048) (hi : i + 4 ≤ xL X) (hC : CI hp (ms, (cs, sc, un, wd), hs, s0, s1, os, ox)) (hM : MJ hp (ms, (cs, sc, un, wd), hs, s0, s1, os, ox)) (K : ∀ (hp' : HPt) (A' : AS), CI hp' A' → MJ hp' A' → PZ l X Z mL_law 942 [some (.retAddr 0), some (.ref 0), some (.ref 61), some (.int (nI i))] [] hp' 78 5654) : PZ l X Z mL_law 533 [some (.retAddr 0), some (.ref 0), some (.ref 61), some (.int (nI i))] [] hp 78 5654 := by
  obtain ⟨nx, C0, -⟩ := id hC
  refine R_aload_n dL_law_533 rfl rfl ?_
  refine R_xload_n dL_law_534 rfl rfl ?_
  refine R_iload_n dL_law_535 rfl rfl ?_
  refine R_iconst (v := (nI 1)) dL_law_536 (by decide) ?_
  refine N_iadd dL_law_537 ?_
  refine R_sload dL_law_538 (vp_in_nI (by omega) (by omega)) ?_
  refine R_xload_n dL_law_539 rfl rfl ?_
  refine R_iload_n dL_law_540 rfl rfl ?_
  refine R_iconst (v := (nI 2)) dL_law_541 (by decide) ?_
  refine N_iadd dL_law_542 ?_
  refine R_sload dL_law_543 (vp_in_nI (by omega) (by omega)) ?_
  refine R_calli (As := [.int (xs X (nI (i + 1)).toNatClampNeg), .int (xs X (nI (i + 2)).toNatClampNeg)]) (st := []) kX11_cell lL_92 (x_cell hC) rfl C0 dL_law_544 rfl rfl (Nat.le_of_ble_eq_true rfl) ⟨by decide, by decide⟩ zX11_cell ⟨Nat.le_of_ble_eq_true rfl, Nat.le_of_ble_eq_true rfl⟩ (fun wr3 wp2 wq1 => ?_)
  obtain ⟨rfl, hc1, hf1⟩ := wq1
  have hm1 := hM.fr hf1 LM_C
  obtain ⟨nx2, t1, t2, t3, M0, -⟩ := id hm1
  refine R_aload_n dL_law_547 rfl rfl ?_
  refine R_xload_n dL_law_548 rfl rfl ?_
  refine R_iload_n dL_law_549 rfl rfl ?_
  refine R_iconst (v := (nI 1)) dL_law_550 (by decide) ?_
  refine N_iadd dL_law_551 ?_
  refine R_sload dL_law_552 (vp_in_nI (by omega) (by omega)) ?_
  refine R_xload_n dL_law_553 rfl rfl ?_
  refine R_iload_n dL_law_554 rfl rfl ?_
  refine R_iconst (v := (nI 2)) dL_law_555 (by decide) ?_
  refine N_iadd dL_law_556 ?_
  refine R_sload dL_law_557 (vp_in_nI (by omega) (by omega)) ?_
  refine R_calli (As := [.int (xs X (nI (i + 1)).toNatClampNeg), .int (xs X (nI (i + 2)).toNatClampNeg)]) (st := [.int ((f_cell (ms, (cs, sc, un, wd), hs, s0, s1, os, ox) (xs X (nI (i + 1)).toNatClampNeg) (xs X (nI (i + 2)).toNatClampNeg)).1)]) kX12_cell lL_95 (y_cell hm1) rfl M0 dL_law_558 rfl rfl (Nat.le_of_ble_eq_true rfl) ⟨by decide, by decide⟩ zX12_cell ⟨Nat.le_of_ble_eq_true rfl, Nat.le_of_ble_eq_true rfl⟩ (fun wr6 wp5 wq4 => ?_)
  obtain ⟨rfl, hm2, hf2⟩ := wq4
  refine R_icmp_eq (tgt := 942) dL_law_561 (by decide) (fun _ => ?_) (fun hc => absurd rfl hc)
  exact K _ _ (hc1.fr hf2 LC_M) hm2
set_option maxRecDepth 100000 in
set_option maxHeartbeats 4000000 in
theorem law_over {ms : List Nat} {cs : List Nat} {sc un wd : Nat} {hs : List TP} {s0 s1 : Option TP} {os : List (Nat × Nat)} {ox : Nat} {i : Nat} (hL : xL X ≤ 2048) (hi : i + 4 ≤ xL X) (hC : CI hp (ms, (cs, sc, un, wd), hs, s0, s1, os, ox)) (hM : MJ hp (ms, (cs, sc, un, wd), hs, s0, s1, os, ox)) (K : ∀ (hp' : HPt) (A' : AS), CI hp' A' → MJ hp' A' → PZ l X Z mL_law 942 [some (.retAddr 0), some (.ref 0), some (.ref 61), some (.int (nI i))] [] hp' 78 5654) : PZ l X Z mL_law 566 [some (.retAddr 0), some (.ref 0), some (.ref 61), some (.int (nI i))] [] hp 78 5654 := by
  obtain ⟨nx, C0, -⟩ := id hC
  refine R_aload_n dL_law_566 rfl rfl ?_
  refine R_calli (As := []) (st := []) kX11_overstrikes lL_96 (x_over hC) rfl C0 dL_law_567 rfl rfl (Nat.le_of_ble_eq_true rfl) ⟨by decide, by decide⟩ zX11_overstrikes ⟨Nat.le_of_ble_eq_true rfl, Nat.le_of_ble_eq_true rfl⟩ (fun wr3 wp2 wq1 => ?_)
  obtain ⟨rfl, hc1, hf1⟩ := wq1
  have hm1 := hM.fr hf1 LM_C
  obtain ⟨nx2, t1, t2, t3, M0, -⟩ := id hm1
  refine R_aload_n dL_law_570 rfl rfl ?_
  refine R_calli (As := []) (st := [.int ((f_over (ms, (cs, sc, un, wd), hs, s0, s1, os, ox)).1)]) kX12_overstrikes lL_99 (y_over hm1) rfl M0 dL_law_571 rfl rfl (Nat.le_of_ble_eq_true rfl) ⟨by decide, by decide⟩ zX12_overstrikes ⟨Nat.le_of_ble_eq_true rfl, Nat.le_of_ble_eq_true rfl⟩ (fun wr6 wp5 wq4 => ?_)
  obtain ⟨rfl, hm2, hf2⟩ := wq4
  refine R_icmp_eq (tgt := 942) dL_law_574 (by decide) (fun _ => ?_) (fun hc => absurd rfl hc)
  exact K _ _ (hc1.fr hf2 LC_M) hm2
set_option maxRecDepth 100000 in
set_option maxHeartbeats 4000000 in
theorem law_lost {ms : List Nat} {cs : List Nat} {sc un wd : Nat} {hs : List TP} {s0 s1 : Option TP} {os : List (Nat × Nat)} {ox : Nat} {i : Nat} (hL : xL X ≤ 2048) (hi : i + 4 ≤ xL X) (hC : CI hp (ms, (cs, sc, un, wd), hs, s0, s1, os, ox)) (hM : MJ hp (ms, (cs, sc, un, wd), hs, s0, s1, os, ox)) (K : ∀ (hp' : HPt) (A' : AS), CI hp' A' → MJ hp' A' → PZ l X Z mL_law 942 [some (.retAddr 0), some (.ref 0), some (.ref 61), some (.int (nI i))] [] hp' 78 5654) : PZ l X Z mL_law 579 [some (.retAddr 0), some (.ref 0), some (.ref 61), some (.int (nI i))] [] hp 78 5654 := by
  obtain ⟨nx, C0, -⟩ := id hC
  refine R_aload_n dL_law_579 rfl rfl ?_
  refine R_xload_n dL_law_580 rfl rfl ?_
  refine R_iload_n dL_law_581 rfl rfl ?_
  refine R_iconst (v := (nI 1)) dL_law_582 (by decide) ?_
  refine N_iadd dL_law_583 ?_
  refine R_sload dL_law_584 (vp_in_nI (by omega) (by omega)) ?_
  refine R_calli (As := [.int (xs X (nI (i + 1)).toNatClampNeg)]) (st := []) kX11_damageIfLost lL_100 (x_lost hC) rfl C0 dL_law_585 rfl rfl (Nat.le_of_ble_eq_true rfl) ⟨by decide, by decide⟩ zX11_damageIfLost ⟨Nat.le_of_ble_eq_true rfl, Nat.le_of_ble_eq_true rfl⟩ (fun wr3 wp2 wq1 => ?_)
  obtain ⟨rfl, hc1, hf1⟩ := wq1
  have hm1 := hM.fr hf1 LM_C
  obtain ⟨nx2, t1, t2, t3, M0, -⟩ := id hm1
  refine R_aload_n dL_law_588 rfl rfl ?_
  refine R_xload_n dL_law_589 rfl rfl ?_
  refine R_iload_n dL_law_590 rfl rfl ?_
  refine R_iconst (v := (nI 1)) dL_law_591 (by decide) ?_
  refine N_iadd dL_law_592 ?_
  refine R_sload dL_law_593 (vp_in_nI (by omega) (by omega)) ?_
  refine R_calli (As := [.int (xs X (nI (i + 1)).toNatClampNeg)]) (st := [.int ((f_lost (ms, (cs, sc, un, wd), hs, s0, s1, os, ox) (xs X (nI (i + 1)).toNatClampNeg)).1)]) kX12_damageIfLost lL_103 (y_lost hm1) rfl M0 dL_law_594 rfl rfl (Nat.le_of_ble_eq_true rfl) ⟨by decide, by decide⟩ zX12_damageIfLost ⟨Nat.le_of_ble_eq_true rfl, Nat.le_of_ble_eq_true rfl⟩ (fun wr6 wp5 wq4 => ?_)
  obtain ⟨rfl, hm2, hf2⟩ := wq4
  refine R_icmp_eq (tgt := 942) dL_law_597 (by decide) (fun _ => ?_) (fun hc => absurd rfl hc)
  exact K _ _ (hc1.fr hf2 LC_M) hm2
set_option maxRecDepth 100000 in
set_option maxHeartbeats 4000000 in
theorem law_dfl {ms : List Nat} {cs : List Nat} {sc un wd : Nat} {hs : List TP} {s0 s1 : Option TP} {os : List (Nat × Nat)} {ox : Nat} {i : Nat} (hL : xL X ≤ 2048) (hi : i + 4 ≤ xL X) (hC : CI hp (ms, (cs, sc, un, wd), hs, s0, s1, os, ox)) (hM : MJ hp (ms, (cs, sc, un, wd), hs, s0, s1, os, ox)) (K : ∀ (hp' : HPt) (A' : AS), CI hp' A' → MJ hp' A' → PZ l X Z mL_law 942 [some (.retAddr 0), some (.ref 0), some (.ref 61), some (.int (nI i))] [] hp' 78 5654) : PZ l X Z mL_law 602 [some (.retAddr 0), some (.ref 0), some (.ref 61), some (.int (nI i))] [] hp 78 5654 := by
  obtain ⟨nx, C0, -⟩ := id hC
  refine R_aload_n dL_law_602 rfl rfl ?_
  refine R_xload_n dL_law_603 rfl rfl ?_
  refine R_iload_n dL_law_604 rfl rfl ?_
  refine R_iconst (v := (nI 1)) dL_law_605 (by decide) ?_
  refine N_iadd dL_law_606 ?_
  refine R_sload dL_law_607 (vp_in_nI (by omega) (by omega)) ?_
  refine R_xload_n dL_law_608 rfl rfl ?_
  refine R_iload_n dL_law_609 rfl rfl ?_
  refine R_iconst (v := (nI 2)) dL_law_610 (by decide) ?_
  refine N_iadd dL_law_611 ?_
  refine R_sload dL_law_612 (vp_in_nI (by omega) (by omega)) ?_
  refine R_calli (As := [.int (xs X (nI (i + 1)).toNatClampNeg), .int (xs X (nI (i + 2)).toNatClampNeg)]) (st := []) kX11_damageIfFlipped lL_104 (x_dfl hC) rfl C0 dL_law_613 rfl rfl (Nat.le_of_ble_eq_true rfl) ⟨by decide, by decide⟩ zX11_damageIfFlipped ⟨Nat.le_of_ble_eq_true rfl, Nat.le_of_ble_eq_true rfl⟩ (fun wr3 wp2 wq1 => ?_)
  obtain ⟨rfl, hc1, hf1⟩ := wq1
  have hm1 := hM.fr hf1 LM_C
  obtain ⟨nx2, t1, t2, t3, M0, -⟩ := id hm1
  refine R_aload_n dL_law_616 rfl rfl ?_
  refine R_xload_n dL_law_617 rfl rfl ?_
  refine R_iload_n dL_law_618 rfl rfl ?_
  refine R_iconst (v := (nI 1)) dL_law_619 (by decide) ?_
  refine N_iadd dL_law_620 ?_
  refine R_sload dL_law_621 (vp_in_nI (by omega) (by omega)) ?_
  refine R_xload_n dL_law_622 rfl rfl ?_
  refine R_iload_n dL_law_623 rfl rfl ?_
  refine R_iconst (v := (nI 2)) dL_law_624 (by decide) ?_
  refine N_iadd dL_law_625 ?_
  refine R_sload dL_law_626 (vp_in_nI (by omega) (by omega)) ?_
  refine R_calli (As := [.int (xs X (nI (i + 1)).toNatClampNeg), .int (xs X (nI (i + 2)).toNatClampNeg)]) (st := [.int ((f_dfl (ms, (cs, sc, un, wd), hs, s0, s1, os, ox) (xs X (nI (i + 1)).toNatClampNeg) (xs X (nI (i + 2)).toNatClampNeg)).1)]) kX12_damageIfFlipped lL_107 (y_dfl hm1) rfl M0 dL_law_627 rfl rfl (Nat.le_of_ble_eq_true rfl) ⟨by decide, by decide⟩ zX12_damageIfFlipped ⟨Nat.le_of_ble_eq_true rfl, Nat.le_of_ble_eq_true rfl⟩ (fun wr6 wp5 wq4 => ?_)
  obtain ⟨rfl, hm2, hf2⟩ := wq4
  refine R_icmp_eq (tgt := 942) dL_law_630 (by decide) (fun _ => ?_) (fun hc => absurd rfl hc)
  exact K _ _ (hc1.fr hf2 LC_M) hm2
set_option maxRecDepth 100000 in
set_option maxHeartbeats 4000000 in
theorem law_cnum {ms : List Nat} {cs : List Nat} {sc un wd : Nat} {hs : List TP} {s0 s1 : Option TP} {os : List (Nat × Nat)} {ox : Nat} {i : Nat} (hL : xL X ≤ 2048) (hi : i + 4 ≤ xL X) (hC : CI hp (ms, (cs, sc, un, wd), hs, s0, s1, os, ox)) (hM : MJ hp (ms, (cs, sc, un, wd), hs, s0, s1, os, ox)) (K : ∀ (hp' : HPt) (A' : AS), CI hp' A' → MJ hp' A' → PZ l X Z mL_law 942 [some (.retAddr 0), some (.ref 0), some (.ref 61), some (.int (nI i))] [] hp' 78 5654) : PZ l X Z mL_law 635 [some (.retAddr 0), some (.ref 0), some (.ref 61), some (.int (nI i))] [] hp 78 5654 := by
  obtain ⟨nx, C0, -⟩ := id hC
  refine R_aload_n dL_law_635 rfl rfl ?_
  refine R_xload_n dL_law_636 rfl rfl ?_
  refine R_iload_n dL_law_637 rfl rfl ?_
  refine R_iconst (v := (nI 1)) dL_law_638 (by decide) ?_
  refine N_iadd dL_law_639 ?_
  refine R_sload dL_law_640 (vp_in_nI (by omega) (by omega)) ?_
  refine R_xload_n dL_law_641 rfl rfl ?_
  refine R_iload_n dL_law_642 rfl rfl ?_
  refine R_iconst (v := (nI 2)) dL_law_643 (by decide) ?_
  refine N_iadd dL_law_644 ?_
  refine R_sload dL_law_645 (vp_in_nI (by omega) (by omega)) ?_
  refine R_calli (As := [.int (xs X (nI (i + 1)).toNatClampNeg), .int (xs X (nI (i + 2)).toNatClampNeg)]) (st := []) kX11_confidenceNumerator lL_108 (x_cnum hC) rfl C0 dL_law_646 rfl rfl (Nat.le_of_ble_eq_true rfl) ⟨by decide, by decide⟩ zX11_confidenceNumerator ⟨Nat.le_of_ble_eq_true rfl, Nat.le_of_ble_eq_true rfl⟩ (fun wr3 wp2 wq1 => ?_)
  obtain ⟨rfl, hc1, hf1⟩ := wq1
  have hm1 := hM.fr hf1 LM_C
  obtain ⟨nx2, t1, t2, t3, M0, -⟩ := id hm1
  refine R_aload_n dL_law_649 rfl rfl ?_
  refine R_xload_n dL_law_650 rfl rfl ?_
  refine R_iload_n dL_law_651 rfl rfl ?_
  refine R_iconst (v := (nI 1)) dL_law_652 (by decide) ?_
  refine N_iadd dL_law_653 ?_
  refine R_sload dL_law_654 (vp_in_nI (by omega) (by omega)) ?_
  refine R_xload_n dL_law_655 rfl rfl ?_
  refine R_iload_n dL_law_656 rfl rfl ?_
  refine R_iconst (v := (nI 2)) dL_law_657 (by decide) ?_
  refine N_iadd dL_law_658 ?_
  refine R_sload dL_law_659 (vp_in_nI (by omega) (by omega)) ?_
  refine R_calli (As := [.int (xs X (nI (i + 1)).toNatClampNeg), .int (xs X (nI (i + 2)).toNatClampNeg)]) (st := [.int ((cfA 1 (ms, (cs, sc, un, wd), hs, s0, s1, os, ox) (xs X (nI (i + 1)).toNatClampNeg) (xs X (nI (i + 2)).toNatClampNeg)).1)]) kX12_confidenceNumerator lL_111 (y_cnum hm1) rfl M0 dL_law_660 rfl rfl (Nat.le_of_ble_eq_true rfl) ⟨by decide, by decide⟩ zX12_confidenceNumerator ⟨Nat.le_of_ble_eq_true rfl, Nat.le_of_ble_eq_true rfl⟩ (fun wr6 wp5 wq4 => ?_)
  obtain ⟨rfl, hm2, hf2⟩ := wq4
  refine R_icmp_eq (tgt := 942) dL_law_663 (by decide) (fun _ => ?_) (fun hc => absurd rfl hc)
  exact K _ _ (hc1.fr hf2 LC_M) hm2
set_option maxRecDepth 100000 in
set_option maxHeartbeats 4000000 in
theorem law_cden {ms : List Nat} {cs : List Nat} {sc un wd : Nat} {hs : List TP} {s0 s1 : Option TP} {os : List (Nat × Nat)} {ox : Nat} {i : Nat} (hL : xL X ≤ 2048) (hi : i + 4 ≤ xL X) (hC : CI hp (ms, (cs, sc, un, wd), hs, s0, s1, os, ox)) (hM : MJ hp (ms, (cs, sc, un, wd), hs, s0, s1, os, ox)) (K : ∀ (hp' : HPt) (A' : AS), CI hp' A' → MJ hp' A' → PZ l X Z mL_law 942 [some (.retAddr 0), some (.ref 0), some (.ref 61), some (.int (nI i))] [] hp' 78 5654) : PZ l X Z mL_law 668 [some (.retAddr 0), some (.ref 0), some (.ref 61), some (.int (nI i))] [] hp 78 5654 := by
  obtain ⟨nx, C0, -⟩ := id hC
  refine R_aload_n dL_law_668 rfl rfl ?_
  refine R_xload_n dL_law_669 rfl rfl ?_
  refine R_iload_n dL_law_670 rfl rfl ?_
  refine R_iconst (v := (nI 1)) dL_law_671 (by decide) ?_
  refine N_iadd dL_law_672 ?_
  refine R_sload dL_law_673 (vp_in_nI (by omega) (by omega)) ?_
  refine R_xload_n dL_law_674 rfl rfl ?_
  refine R_iload_n dL_law_675 rfl rfl ?_
  refine R_iconst (v := (nI 2)) dL_law_676 (by decide) ?_
  refine N_iadd dL_law_677 ?_
  refine R_sload dL_law_678 (vp_in_nI (by omega) (by omega)) ?_
  refine R_calli (As := [.int (xs X (nI (i + 1)).toNatClampNeg), .int (xs X (nI (i + 2)).toNatClampNeg)]) (st := []) kX11_confidenceDenominator lL_112 (x_cden hC) rfl C0 dL_law_679 rfl rfl (Nat.le_of_ble_eq_true rfl) ⟨by decide, by decide⟩ zX11_confidenceDenominator ⟨Nat.le_of_ble_eq_true rfl, Nat.le_of_ble_eq_true rfl⟩ (fun wr3 wp2 wq1 => ?_)
  obtain ⟨rfl, hc1, hf1⟩ := wq1
  have hm1 := hM.fr hf1 LM_C
  obtain ⟨nx2, t1, t2, t3, M0, -⟩ := id hm1
  refine R_aload_n dL_law_682 rfl rfl ?_
  refine R_xload_n dL_law_683 rfl rfl ?_
  refine R_iload_n dL_law_684 rfl rfl ?_
  refine R_iconst (v := (nI 1)) dL_law_685 (by decide) ?_
  refine N_iadd dL_law_686 ?_
  refine R_sload dL_law_687 (vp_in_nI (by omega) (by omega)) ?_
  refine R_xload_n dL_law_688 rfl rfl ?_
  refine R_iload_n dL_law_689 rfl rfl ?_
  refine R_iconst (v := (nI 2)) dL_law_690 (by decide) ?_
  refine N_iadd dL_law_691 ?_
  refine R_sload dL_law_692 (vp_in_nI (by omega) (by omega)) ?_
  refine R_calli (As := [.int (xs X (nI (i + 1)).toNatClampNeg), .int (xs X (nI (i + 2)).toNatClampNeg)]) (st := [.int ((cfA 0 (ms, (cs, sc, un, wd), hs, s0, s1, os, ox) (xs X (nI (i + 1)).toNatClampNeg) (xs X (nI (i + 2)).toNatClampNeg)).1)]) kX12_confidenceDenominator lL_115 (y_cden hm1) rfl M0 dL_law_693 rfl rfl (Nat.le_of_ble_eq_true rfl) ⟨by decide, by decide⟩ zX12_confidenceDenominator ⟨Nat.le_of_ble_eq_true rfl, Nat.le_of_ble_eq_true rfl⟩ (fun wr6 wp5 wq4 => ?_)
  obtain ⟨rfl, hm2, hf2⟩ := wq4
  refine R_icmp_eq (tgt := 942) dL_law_696 (by decide) (fun _ => ?_) (fun hc => absurd rfl hc)
  exact K _ _ (hc1.fr hf2 LC_M) hm2
set_option maxRecDepth 100000 in
set_option maxHeartbeats 4000000 in
theorem law_run {ms : List Nat} {cs : List Nat} {sc un wd : Nat} {hs : List TP} {s0 s1 : Option TP} {os : List (Nat × Nat)} {ox : Nat} {i : Nat} (hL : xL X ≤ 2048) (hi : i + 4 ≤ xL X) (hC : CI hp (ms, (cs, sc, un, wd), hs, s0, s1, os, ox)) (hM : MJ hp (ms, (cs, sc, un, wd), hs, s0, s1, os, ox)) (K : ∀ (hp' : HPt) (A' : AS), CI hp' A' → MJ hp' A' → PZ l X Z mL_law 942 [some (.retAddr 0), some (.ref 0), some (.ref 61), some (.int (nI i))] [] hp' 78 5654) : PZ l X Z mL_law 701 [some (.retAddr 0), some (.ref 0), some (.ref 61), some (.int (nI i))] [] hp 78 5654 := by
  obtain ⟨nx, C0, -⟩ := id hC
  refine R_aload_n dL_law_701 rfl rfl ?_
  refine R_xload_n dL_law_702 rfl rfl ?_
  refine R_iload_n dL_law_703 rfl rfl ?_
  refine R_iconst (v := (nI 1)) dL_law_704 (by decide) ?_
  refine N_iadd dL_law_705 ?_
  refine R_sload dL_law_706 (vp_in_nI (by omega) (by omega)) ?_
  refine R_xload_n dL_law_707 rfl rfl ?_
  refine R_iload_n dL_law_708 rfl rfl ?_
  refine R_iconst (v := (nI 2)) dL_law_709 (by decide) ?_
  refine N_iadd dL_law_710 ?_
  refine R_sload dL_law_711 (vp_in_nI (by omega) (by omega)) ?_
  refine R_i2l dL_law_712 ?_
  refine R_bipush (v := (nI 32)) dL_law_713 (by decide) ?_
  refine R_lshl dL_law_715 rfl ?_
  refine R_xload_n dL_law_716 rfl rfl ?_
  refine R_iload_n dL_law_717 rfl rfl ?_
  refine R_iconst (v := (nI 3)) dL_law_718 (by decide) ?_
  refine N_iadd dL_law_719 ?_
  refine R_sload dL_law_720 (vp_in_nI (by omega) (by omega)) ?_
  refine R_i2l dL_law_721 ?_
  refine R_ldc2 dL_law_722 nL_116 ?_
  refine R_land dL_law_725 ?_
  refine R_lor dL_law_726 ?_
  refine R_calli (As := [.int (xs X (nI (i + 1)).toNatClampNeg), .long ((((xs X (nI (i + 2)).toNatClampNeg).toInt64) <<< (((nI 32)).toInt64 &&& 63)) ||| (((xs X (nI (i + 3)).toNatClampNeg).toInt64) &&& (4294967295)))]) (st := []) kX11_runScript lL_118 (x_run hC) rfl C0 dL_law_727 rfl rfl (Nat.le_of_ble_eq_true rfl) ⟨by decide, by decide⟩ zX11_runScript ⟨Nat.le_of_ble_eq_true rfl, Nat.le_of_ble_eq_true rfl⟩ (fun wr3 wp2 wq1 => ?_)
  obtain ⟨rfl, hc1, hf1⟩ := wq1
  have hm1 := hM.fr hf1 LM_C
  obtain ⟨nx2, t1, t2, t3, M0, -⟩ := id hm1
  refine R_aload_n dL_law_730 rfl rfl ?_
  refine R_xload_n dL_law_731 rfl rfl ?_
  refine R_iload_n dL_law_732 rfl rfl ?_
  refine R_iconst (v := (nI 1)) dL_law_733 (by decide) ?_
  refine N_iadd dL_law_734 ?_
  refine R_sload dL_law_735 (vp_in_nI (by omega) (by omega)) ?_
  refine R_xload_n dL_law_736 rfl rfl ?_
  refine R_iload_n dL_law_737 rfl rfl ?_
  refine R_iconst (v := (nI 2)) dL_law_738 (by decide) ?_
  refine N_iadd dL_law_739 ?_
  refine R_sload dL_law_740 (vp_in_nI (by omega) (by omega)) ?_
  refine R_i2l dL_law_741 ?_
  refine R_bipush (v := (nI 32)) dL_law_742 (by decide) ?_
  refine R_lshl dL_law_744 rfl ?_
  refine R_xload_n dL_law_745 rfl rfl ?_
  refine R_iload_n dL_law_746 rfl rfl ?_
  refine R_iconst (v := (nI 3)) dL_law_747 (by decide) ?_
  refine N_iadd dL_law_748 ?_
  refine R_sload dL_law_749 (vp_in_nI (by omega) (by omega)) ?_
  refine R_i2l dL_law_750 ?_
  refine R_ldc2 dL_law_751 nL_116 ?_
  refine R_land dL_law_754 ?_
  refine R_lor dL_law_755 ?_
  refine R_calli (As := [.int (xs X (nI (i + 1)).toNatClampNeg), .long ((((xs X (nI (i + 2)).toNatClampNeg).toInt64) <<< (((nI 32)).toInt64 &&& 63)) ||| (((xs X (nI (i + 3)).toNatClampNeg).toInt64) &&& (4294967295)))]) (st := [.int ((f_run (ms, (cs, sc, un, wd), hs, s0, s1, os, ox) (xs X (nI (i + 1)).toNatClampNeg) ((((xs X (nI (i + 2)).toNatClampNeg).toInt64) <<< (((nI 32)).toInt64 &&& 63)) ||| (((xs X (nI (i + 3)).toNatClampNeg).toInt64) &&& (4294967295)))).1)]) kX12_runScript lL_122 (y_run hm1) rfl M0 dL_law_756 rfl rfl (Nat.le_of_ble_eq_true rfl) ⟨by decide, by decide⟩ zX12_runScript ⟨Nat.le_of_ble_eq_true rfl, Nat.le_of_ble_eq_true rfl⟩ (fun wr6 wp5 wq4 => ?_)
  obtain ⟨rfl, hm2, hf2⟩ := wq4
  refine R_icmp_eq (tgt := 942) dL_law_759 (by decide) (fun _ => ?_) (fun hc => absurd rfl hc)
  exact K _ _ (hc1.fr hf2 LC_M) hm2
set_option maxRecDepth 100000 in
set_option maxHeartbeats 4000000 in
theorem law_obs {ms : List Nat} {cs : List Nat} {sc un wd : Nat} {hs : List TP} {s0 s1 : Option TP} {os : List (Nat × Nat)} {ox : Nat} {i : Nat} (hL : xL X ≤ 2048) (hi : i + 4 ≤ xL X) (hC : CI hp (ms, (cs, sc, un, wd), hs, s0, s1, os, ox)) (hM : MJ hp (ms, (cs, sc, un, wd), hs, s0, s1, os, ox)) (K : ∀ (hp' : HPt) (A' : AS), CI hp' A' → MJ hp' A' → PZ l X Z mL_law 942 [some (.retAddr 0), some (.ref 0), some (.ref 61), some (.int (nI i))] [] hp' 78 5654) : PZ l X Z mL_law 764 [some (.retAddr 0), some (.ref 0), some (.ref 61), some (.int (nI i))] [] hp 78 5654 := by
  obtain ⟨nx, C0, -⟩ := id hC
  refine R_aload_n dL_law_764 rfl rfl ?_
  refine R_xload_n dL_law_765 rfl rfl ?_
  refine R_iload_n dL_law_766 rfl rfl ?_
  refine R_iconst (v := (nI 1)) dL_law_767 (by decide) ?_
  refine N_iadd dL_law_768 ?_
  refine R_sload dL_law_769 (vp_in_nI (by omega) (by omega)) ?_
  refine R_xload_n dL_law_770 rfl rfl ?_
  refine R_iload_n dL_law_771 rfl rfl ?_
  refine R_iconst (v := (nI 2)) dL_law_772 (by decide) ?_
  refine N_iadd dL_law_773 ?_
  refine R_sload dL_law_774 (vp_in_nI (by omega) (by omega)) ?_
  refine R_calli (As := [.int (xs X (nI (i + 1)).toNatClampNeg), .int (xs X (nI (i + 2)).toNatClampNeg)]) (st := []) kX11_observe lL_123 (x_obs hC) rfl C0 dL_law_775 rfl rfl (Nat.le_of_ble_eq_true rfl) ⟨by decide, by decide⟩ zX11_observe ⟨Nat.le_of_ble_eq_true rfl, Nat.le_of_ble_eq_true rfl⟩ (fun wr3 wp2 wq1 => ?_)
  obtain ⟨rfl, hc1, hf1⟩ := wq1
  have hm1 := hM.fr hf1 LM_C
  obtain ⟨nx2, t1, t2, t3, M0, -⟩ := id hm1
  refine R_aload_n dL_law_778 rfl rfl ?_
  refine R_xload_n dL_law_779 rfl rfl ?_
  refine R_iload_n dL_law_780 rfl rfl ?_
  refine R_iconst (v := (nI 1)) dL_law_781 (by decide) ?_
  refine N_iadd dL_law_782 ?_
  refine R_sload dL_law_783 (vp_in_nI (by omega) (by omega)) ?_
  refine R_xload_n dL_law_784 rfl rfl ?_
  refine R_iload_n dL_law_785 rfl rfl ?_
  refine R_iconst (v := (nI 2)) dL_law_786 (by decide) ?_
  refine N_iadd dL_law_787 ?_
  refine R_sload dL_law_788 (vp_in_nI (by omega) (by omega)) ?_
  refine R_calli (As := [.int (xs X (nI (i + 1)).toNatClampNeg), .int (xs X (nI (i + 2)).toNatClampNeg)]) (st := [.int ((f_obs (ms, (cs, sc, un, wd), hs, s0, s1, os, ox) (xs X (nI (i + 1)).toNatClampNeg) (xs X (nI (i + 2)).toNatClampNeg)).1)]) kX12_observe lL_126 (y_obs hm1) rfl M0 dL_law_789 rfl rfl (Nat.le_of_ble_eq_true rfl) ⟨by decide, by decide⟩ zX12_observe ⟨Nat.le_of_ble_eq_true rfl, Nat.le_of_ble_eq_true rfl⟩ (fun wr6 wp5 wq4 => ?_)
  obtain ⟨rfl, hm2, hf2⟩ := wq4
  refine R_icmp_eq (tgt := 942) dL_law_792 (by decide) (fun _ => ?_) (fun hc => absurd rfl hc)
  exact K _ _ (hc1.fr hf2 LC_M) hm2
set_option maxRecDepth 100000 in
set_option maxHeartbeats 4000000 in
theorem law_poss {ms : List Nat} {cs : List Nat} {sc un wd : Nat} {hs : List TP} {s0 s1 : Option TP} {os : List (Nat × Nat)} {ox : Nat} {i : Nat} (hL : xL X ≤ 2048) (hi : i + 4 ≤ xL X) (hC : CI hp (ms, (cs, sc, un, wd), hs, s0, s1, os, ox)) (hM : MJ hp (ms, (cs, sc, un, wd), hs, s0, s1, os, ox)) (K : ∀ (hp' : HPt) (A' : AS), CI hp' A' → MJ hp' A' → PZ l X Z mL_law 942 [some (.retAddr 0), some (.ref 0), some (.ref 61), some (.int (nI i))] [] hp' 78 5654) : PZ l X Z mL_law 797 [some (.retAddr 0), some (.ref 0), some (.ref 61), some (.int (nI i))] [] hp 78 5654 := by
  obtain ⟨nx, C0, -⟩ := id hC
  refine R_aload_n dL_law_797 rfl rfl ?_
  refine R_calli (As := []) (st := []) kX11_possibleSettings lL_127 (x_poss hC) rfl C0 dL_law_798 rfl rfl (Nat.le_of_ble_eq_true rfl) ⟨by decide, by decide⟩ zX11_possibleSettings ⟨Nat.le_of_ble_eq_true rfl, Nat.le_of_ble_eq_true rfl⟩ (fun wr3 wp2 wq1 => ?_)
  obtain ⟨rfl, hc1, hf1⟩ := wq1
  have hm1 := hM.fr hf1 LM_C
  obtain ⟨nx2, t1, t2, t3, M0, -⟩ := id hm1
  refine R_aload_n dL_law_801 rfl rfl ?_
  refine R_calli (As := []) (st := [.int ((f_poss (ms, (cs, sc, un, wd), hs, s0, s1, os, ox)).1)]) kX12_possibleSettings lL_130 (y_poss hm1) rfl M0 dL_law_802 rfl rfl (Nat.le_of_ble_eq_true rfl) ⟨by decide, by decide⟩ zX12_possibleSettings ⟨Nat.le_of_ble_eq_true rfl, Nat.le_of_ble_eq_true rfl⟩ (fun wr6 wp5 wq4 => ?_)
  obtain ⟨rfl, hm2, hf2⟩ := wq4
  refine R_icmp_eq (tgt := 942) dL_law_805 (by decide) (fun _ => ?_) (fun hc => absurd rfl hc)
  exact K _ _ (hc1.fr hf2 LC_M) hm2
set_option maxRecDepth 100000 in
set_option maxHeartbeats 4000000 in
theorem law_noise {ms : List Nat} {cs : List Nat} {sc un wd : Nat} {hs : List TP} {s0 s1 : Option TP} {os : List (Nat × Nat)} {ox : Nat} {i : Nat} (hL : xL X ≤ 2048) (hi : i + 4 ≤ xL X) (hC : CI hp (ms, (cs, sc, un, wd), hs, s0, s1, os, ox)) (hM : MJ hp (ms, (cs, sc, un, wd), hs, s0, s1, os, ox)) (K : ∀ (hp' : HPt) (A' : AS), CI hp' A' → MJ hp' A' → PZ l X Z mL_law 942 [some (.retAddr 0), some (.ref 0), some (.ref 61), some (.int (nI i))] [] hp' 78 5654) : PZ l X Z mL_law 810 [some (.retAddr 0), some (.ref 0), some (.ref 61), some (.int (nI i))] [] hp 78 5654 := by
  obtain ⟨nx, C0, -⟩ := id hC
  refine R_aload_n dL_law_810 rfl rfl ?_
  refine R_xload_n dL_law_811 rfl rfl ?_
  refine R_iload_n dL_law_812 rfl rfl ?_
  refine R_iconst (v := (nI 1)) dL_law_813 (by decide) ?_
  refine N_iadd dL_law_814 ?_
  refine R_sload dL_law_815 (vp_in_nI (by omega) (by omega)) ?_
  refine R_i2l dL_law_816 ?_
  refine R_bipush (v := (nI 32)) dL_law_817 (by decide) ?_
  refine R_lshl dL_law_819 rfl ?_
  refine R_xload_n dL_law_820 rfl rfl ?_
  refine R_iload_n dL_law_821 rfl rfl ?_
  refine R_iconst (v := (nI 2)) dL_law_822 (by decide) ?_
  refine N_iadd dL_law_823 ?_
  refine R_sload dL_law_824 (vp_in_nI (by omega) (by omega)) ?_
  refine R_i2l dL_law_825 ?_
  refine R_ldc2 dL_law_826 nL_116 ?_
  refine R_land dL_law_829 ?_
  refine R_lor dL_law_830 ?_
  refine R_xload_n dL_law_831 rfl rfl ?_
  refine R_iload_n dL_law_832 rfl rfl ?_
  refine R_iconst (v := (nI 3)) dL_law_833 (by decide) ?_
  refine N_iadd dL_law_834 ?_
  refine R_sload dL_law_835 (vp_in_nI (by omega) (by omega)) ?_
  refine R_calli (As := [.long ((((xs X (nI (i + 1)).toNatClampNeg).toInt64) <<< (((nI 32)).toInt64 &&& 63)) ||| (((xs X (nI (i + 2)).toNatClampNeg).toInt64) &&& (4294967295))), .int (xs X (nI (i + 3)).toNatClampNeg)]) (st := []) kX11_noise lL_131 (x_noise hC) rfl C0 dL_law_836 rfl rfl (Nat.le_of_ble_eq_true rfl) ⟨by decide, by decide⟩ zX11_noise ⟨Nat.le_of_ble_eq_true rfl, Nat.le_of_ble_eq_true rfl⟩ (fun wr3 wp2 wq1 => ?_)
  obtain ⟨rfl, hc1, hf1⟩ := wq1
  have hm1 := hM.fr hf1 LM_C
  obtain ⟨nx2, t1, t2, t3, M0, -⟩ := id hm1
  refine R_aload_n dL_law_839 rfl rfl ?_
  refine R_xload_n dL_law_840 rfl rfl ?_
  refine R_iload_n dL_law_841 rfl rfl ?_
  refine R_iconst (v := (nI 1)) dL_law_842 (by decide) ?_
  refine N_iadd dL_law_843 ?_
  refine R_sload dL_law_844 (vp_in_nI (by omega) (by omega)) ?_
  refine R_i2l dL_law_845 ?_
  refine R_bipush (v := (nI 32)) dL_law_846 (by decide) ?_
  refine R_lshl dL_law_848 rfl ?_
  refine R_xload_n dL_law_849 rfl rfl ?_
  refine R_iload_n dL_law_850 rfl rfl ?_
  refine R_iconst (v := (nI 2)) dL_law_851 (by decide) ?_
  refine N_iadd dL_law_852 ?_
  refine R_sload dL_law_853 (vp_in_nI (by omega) (by omega)) ?_
  refine R_i2l dL_law_854 ?_
  refine R_ldc2 dL_law_855 nL_116 ?_
  refine R_land dL_law_858 ?_
  refine R_lor dL_law_859 ?_
  refine R_xload_n dL_law_860 rfl rfl ?_
  refine R_iload_n dL_law_861 rfl rfl ?_
  refine R_iconst (v := (nI 3)) dL_law_862 (by decide) ?_
  refine N_iadd dL_law_863 ?_
  refine R_sload dL_law_864 (vp_in_nI (by omega) (by omega)) ?_
  refine R_calli (As := [.long ((((xs X (nI (i + 1)).toNatClampNeg).toInt64) <<< (((nI 32)).toInt64 &&& 63)) ||| (((xs X (nI (i + 2)).toNatClampNeg).toInt64) &&& (4294967295))), .int (xs X (nI (i + 3)).toNatClampNeg)]) (st := [.int ((f_noise (ms, (cs, sc, un, wd), hs, s0, s1, os, ox) ((((xs X (nI (i + 1)).toNatClampNeg).toInt64) <<< (((nI 32)).toInt64 &&& 63)) ||| (((xs X (nI (i + 2)).toNatClampNeg).toInt64) &&& (4294967295))) (xs X (nI (i + 3)).toNatClampNeg)).1)]) kX12_noise lL_135 (y_noise hm1) rfl M0 dL_law_865 rfl rfl (Nat.le_of_ble_eq_true rfl) ⟨by decide, by decide⟩ zX12_noise ⟨Nat.le_of_ble_eq_true rfl, Nat.le_of_ble_eq_true rfl⟩ (fun wr6 wp5 wq4 => ?_)
  obtain ⟨rfl, hm2, hf2⟩ := wq4
  refine R_icmp_eq (tgt := 942) dL_law_868 (by decide) (fun _ => ?_) (fun hc => absurd rfl hc)
  exact K _ _ (hc1.fr hf2 LC_M) hm2
set_option maxRecDepth 100000 in
set_option maxHeartbeats 4000000 in
theorem law_save {ms : List Nat} {cs : List Nat} {sc un wd : Nat} {hs : List TP} {s0 s1 : Option TP} {os : List (Nat × Nat)} {ox : Nat} {i : Nat} (hL : xL X ≤ 2048) (hi : i + 4 ≤ xL X) (hC : CI hp (ms, (cs, sc, un, wd), hs, s0, s1, os, ox)) (hM : MJ hp (ms, (cs, sc, un, wd), hs, s0, s1, os, ox)) (K : ∀ (hp' : HPt) (A' : AS), CI hp' A' → MJ hp' A' → PZ l X Z mL_law 942 [some (.retAddr 0), some (.ref 0), some (.ref 61), some (.int (nI i))] [] hp' 78 5654) : PZ l X Z mL_law 873 [some (.retAddr 0), some (.ref 0), some (.ref 61), some (.int (nI i))] [] hp 78 5654 := by
  obtain ⟨nx, C0, -⟩ := id hC
  refine R_aload_n dL_law_873 rfl rfl ?_
  refine R_xload_n dL_law_874 rfl rfl ?_
  refine R_iload_n dL_law_875 rfl rfl ?_
  refine R_iconst (v := (nI 1)) dL_law_876 (by decide) ?_
  refine N_iadd dL_law_877 ?_
  refine R_sload dL_law_878 (vp_in_nI (by omega) (by omega)) ?_
  refine R_calli (As := [.int (xs X (nI (i + 1)).toNatClampNeg)]) (st := []) kX11_save lL_136 (x_save hC) rfl C0 dL_law_879 rfl rfl (Nat.le_of_ble_eq_true rfl) ⟨by decide, by decide⟩ zX11_save ⟨Nat.le_of_ble_eq_true rfl, Nat.le_of_ble_eq_true rfl⟩ (fun wr3 wp2 wq1 => ?_)
  obtain ⟨rfl, hc1, hf1⟩ := wq1
  have hm1 := hM.fr hf1 LM_C
  obtain ⟨nx2, t1, t2, t3, M0, -⟩ := id hm1
  refine R_aload_n dL_law_882 rfl rfl ?_
  refine R_xload_n dL_law_883 rfl rfl ?_
  refine R_iload_n dL_law_884 rfl rfl ?_
  refine R_iconst (v := (nI 1)) dL_law_885 (by decide) ?_
  refine N_iadd dL_law_886 ?_
  refine R_sload dL_law_887 (vp_in_nI (by omega) (by omega)) ?_
  refine R_calli (As := [.int (xs X (nI (i + 1)).toNatClampNeg)]) (st := [.int ((f_save (ms, (cs, sc, un, wd), hs, s0, s1, os, ox) (xs X (nI (i + 1)).toNatClampNeg)).1)]) kX12_save lL_139 (y_save hm1) rfl M0 dL_law_888 rfl rfl (Nat.le_of_ble_eq_true rfl) ⟨by decide, by decide⟩ zX12_save ⟨Nat.le_of_ble_eq_true rfl, Nat.le_of_ble_eq_true rfl⟩ (fun wr6 wp5 wq4 => ?_)
  obtain ⟨rfl, hm2, hf2⟩ := wq4
  refine R_icmp_eq (tgt := 942) dL_law_891 (by decide) (fun _ => ?_) (fun hc => absurd rfl hc)
  exact K _ _ (hc1.fr hf2 LC_M) hm2
set_option maxRecDepth 100000 in
set_option maxHeartbeats 4000000 in
theorem law_rest {ms : List Nat} {cs : List Nat} {sc un wd : Nat} {hs : List TP} {s0 s1 : Option TP} {os : List (Nat × Nat)} {ox : Nat} {i : Nat} (hL : xL X ≤ 2048) (hi : i + 4 ≤ xL X) (hC : CI hp (ms, (cs, sc, un, wd), hs, s0, s1, os, ox)) (hM : MJ hp (ms, (cs, sc, un, wd), hs, s0, s1, os, ox)) (K : ∀ (hp' : HPt) (A' : AS), CI hp' A' → MJ hp' A' → PZ l X Z mL_law 942 [some (.retAddr 0), some (.ref 0), some (.ref 61), some (.int (nI i))] [] hp' 78 5654) : PZ l X Z mL_law 896 [some (.retAddr 0), some (.ref 0), some (.ref 61), some (.int (nI i))] [] hp 78 5654 := by
  obtain ⟨nx, C0, -⟩ := id hC
  refine R_aload_n dL_law_896 rfl rfl ?_
  refine R_xload_n dL_law_897 rfl rfl ?_
  refine R_iload_n dL_law_898 rfl rfl ?_
  refine R_iconst (v := (nI 1)) dL_law_899 (by decide) ?_
  refine N_iadd dL_law_900 ?_
  refine R_sload dL_law_901 (vp_in_nI (by omega) (by omega)) ?_
  refine R_calli (As := [.int (xs X (nI (i + 1)).toNatClampNeg)]) (st := []) kX11_restore lL_140 (x_rest hC) rfl C0 dL_law_902 rfl rfl (Nat.le_of_ble_eq_true rfl) ⟨by decide, by decide⟩ zX11_restore ⟨Nat.le_of_ble_eq_true rfl, Nat.le_of_ble_eq_true rfl⟩ (fun wr3 wp2 wq1 => ?_)
  obtain ⟨rfl, hc1, hf1⟩ := wq1
  have hm1 := hM.fr hf1 LM_C
  obtain ⟨nx2, t1, t2, t3, M0, -⟩ := id hm1
  refine R_aload_n dL_law_905 rfl rfl ?_
  refine R_xload_n dL_law_906 rfl rfl ?_
  refine R_iload_n dL_law_907 rfl rfl ?_
  refine R_iconst (v := (nI 1)) dL_law_908 (by decide) ?_
  refine N_iadd dL_law_909 ?_
  refine R_sload dL_law_910 (vp_in_nI (by omega) (by omega)) ?_
  refine R_calli (As := [.int (xs X (nI (i + 1)).toNatClampNeg)]) (st := [.int ((f_rest (ms, (cs, sc, un, wd), hs, s0, s1, os, ox) (xs X (nI (i + 1)).toNatClampNeg)).1)]) kX12_restore lL_143 (y_rest hm1) rfl M0 dL_law_911 rfl rfl (Nat.le_of_ble_eq_true rfl) ⟨by decide, by decide⟩ zX12_restore ⟨Nat.le_of_ble_eq_true rfl, Nat.le_of_ble_eq_true rfl⟩ (fun wr6 wp5 wq4 => ?_)
  obtain ⟨rfl, hm2, hf2⟩ := wq4
  refine R_icmp_eq (tgt := 942) dL_law_914 (by decide) (fun _ => ?_) (fun hc => absurd rfl hc)
  exact K _ _ (hc1.fr hf2 LC_M) hm2
set_option maxRecDepth 100000 in
set_option maxHeartbeats 4000000 in
theorem law_dist {ms : List Nat} {cs : List Nat} {sc un wd : Nat} {hs : List TP} {s0 s1 : Option TP} {os : List (Nat × Nat)} {ox : Nat} {i : Nat} (hL : xL X ≤ 2048) (hi : i + 4 ≤ xL X) (hC : CI hp (ms, (cs, sc, un, wd), hs, s0, s1, os, ox)) (hM : MJ hp (ms, (cs, sc, un, wd), hs, s0, s1, os, ox)) (K : ∀ (hp' : HPt) (A' : AS), CI hp' A' → MJ hp' A' → PZ l X Z mL_law 942 [some (.retAddr 0), some (.ref 0), some (.ref 61), some (.int (nI i))] [] hp' 78 5654) : PZ l X Z mL_law 919 [some (.retAddr 0), some (.ref 0), some (.ref 61), some (.int (nI i))] [] hp 78 5654 := by
  obtain ⟨nx, C0, -⟩ := id hC
  refine R_aload_n dL_law_919 rfl rfl ?_
  refine R_xload_n dL_law_920 rfl rfl ?_
  refine R_iload_n dL_law_921 rfl rfl ?_
  refine R_iconst (v := (nI 1)) dL_law_922 (by decide) ?_
  refine N_iadd dL_law_923 ?_
  refine R_sload dL_law_924 (vp_in_nI (by omega) (by omega)) ?_
  refine R_calli (As := [.int (xs X (nI (i + 1)).toNatClampNeg)]) (st := []) kX11_editDistance lL_144 (x_dist hC) rfl C0 dL_law_925 rfl rfl (Nat.le_of_ble_eq_true rfl) ⟨by decide, by decide⟩ zX11_editDistance ⟨Nat.le_of_ble_eq_true rfl, Nat.le_of_ble_eq_true rfl⟩ (fun wr3 wp2 wq1 => ?_)
  obtain ⟨rfl, hc1, hf1⟩ := wq1
  have hm1 := hM.fr hf1 LM_C
  obtain ⟨nx2, t1, t2, t3, M0, -⟩ := id hm1
  refine R_aload_n dL_law_928 rfl rfl ?_
  refine R_xload_n dL_law_929 rfl rfl ?_
  refine R_iload_n dL_law_930 rfl rfl ?_
  refine R_iconst (v := (nI 1)) dL_law_931 (by decide) ?_
  refine N_iadd dL_law_932 ?_
  refine R_sload dL_law_933 (vp_in_nI (by omega) (by omega)) ?_
  refine R_calli (As := [.int (xs X (nI (i + 1)).toNatClampNeg)]) (st := [.int ((f_dist (ms, (cs, sc, un, wd), hs, s0, s1, os, ox) (xs X (nI (i + 1)).toNatClampNeg)).1)]) kX12_editDistance lL_147 (y_dist hm1) rfl M0 dL_law_934 rfl rfl (Nat.le_of_ble_eq_true rfl) ⟨by decide, by decide⟩ zX12_editDistance ⟨Nat.le_of_ble_eq_true rfl, Nat.le_of_ble_eq_true rfl⟩ (fun wr6 wp5 wq4 => ?_)
  obtain ⟨rfl, hm2, hf2⟩ := wq4
  refine R_icmp_eq (tgt := 942) dL_law_937 (by decide) (fun _ => ?_) (fun hc => absurd rfl hc)
  exact K _ _ (hc1.fr hf2 LC_M) hm2
set_option maxRecDepth 100000 in
set_option maxHeartbeats 4000000 in
theorem law_loop (hL : xL X ≤ 2048) (E : ∀ (hp' : HPt) (lv : List (Option Value)), PZ l X Z mL_law 949 lv [.int (nI 1)] hp' 78 5654) : ∀ (d i : Nat) (hp : HPt) (A : AS), xL X < i + 4 * d + 4 → i ≤ xL X → CI hp A → MJ hp A → PZ l X Z mL_law 18 [some (.retAddr 0), some (.ref 0), some (.ref 61), some (.int (nI i))] [] hp 78 5654 := by
  intro d
  induction d with
  | zero =>
    intro i hp A hd hi hC hM
    refine R_iload_n dL_law_18 rfl rfl ?_
    refine R_xload_n dL_law_19 rfl rfl ?_
    refine R_slen dL_law_20 ?_
    show PZ _ _ _ _ _ _ (.int (nI (xL X)) :: _) _ _ _
    refine R_iconst (v := (nI 4)) dL_law_21 (by decide) ?_
    refine R_isub dL_law_22 ?_
    refine R_icmp_gt (tgt := 948) dL_law_23 (by decide) (fun _ => ?_) (fun hc => absurd (law_gt hL hi (by omega)) hc)
    refine R_iconst (v := (nI 1)) dL_law_948 (by decide) ?_
    exact E _ _
  | succ d ih =>
    intro i hp A hd hi hC hM
    refine R_iload_n dL_law_18 rfl rfl ?_
    refine R_xload_n dL_law_19 rfl rfl ?_
    refine R_slen dL_law_20 ?_
    show PZ _ _ _ _ _ _ (.int (nI (xL X)) :: _) _ _ _
    refine R_iconst (v := (nI 4)) dL_law_21 (by decide) ?_
    refine R_isub dL_law_22 ?_
    refine R_icmp_gt (tgt := 948) dL_law_23 (by decide) (fun hc => ?_) (fun hc => ?_)
    · refine R_iconst (v := (nI 1)) dL_law_948 (by decide) ?_
      exact E _ _
    · have hi4 : i + 4 ≤ xL X := law_le hL hi hc
      have K : ∀ (hp' : HPt) (A' : AS), CI hp' A' → MJ hp' A' → PZ l X Z mL_law 942 [some (.retAddr 0), some (.ref 0), some (.ref 61), some (.int (nI i))] [] hp' 78 5654 := fun hp' A' hc' hm' => by
        refine N_iinc (d := 4) (lv' := [some (.retAddr 0), some (.ref 0), some (.ref 61), some (.int (nI (i + 4)))]) dL_law_942 rfl rfl ?_
        refine R_goto (tgt := 18) dL_law_945 (by decide) ?_
        exact ih (i + 4) hp' A' (by omega) (by omega) hc' hm'
      obtain ⟨ms, ⟨cs, sc, un, wd⟩, hs, s0, s1, os, ox⟩ := A
      refine R_xload_n dL_law_26 rfl rfl ?_
      refine R_iload_n dL_law_27 rfl rfl ?_
      refine R_sload dL_law_28 (vp_in_nI (by omega) (by omega)) ?_
      refine R_bipush (v := (nI 31)) dL_law_29 (by decide) ?_
      refine R_iand dL_law_31 ?_
      obtain ⟨v, hv, ev⟩ := pk_andE (xs X (nI i).toNatClampNeg) (m := nI 31) 5 (by decide)
      rw [ev]
      rcases (show v = 0 ∨ v = 1 ∨ v = 2 ∨ v = 3 ∨ v = 4 ∨ v = 5 ∨ v = 6 ∨ v = 7 ∨ v = 8 ∨ v = 9 ∨ v = 10 ∨ v = 11 ∨ v = 12 ∨ v = 13 ∨ v = 14 ∨ v = 15 ∨ v = 16 ∨ v = 17 ∨ v = 18 ∨ v = 19 ∨ v = 20 ∨ v = 21 ∨ v = 22 ∨ v = 23 ∨ v = 24 ∨ v = 25 ∨ v = 26 ∨ v = 27 ∨ v = 28 ∨ v = 29 ∨ v = 30 ∨ v = 31 by omega) with rfl | rfl | rfl | rfl | rfl | rfl | rfl | rfl | rfl | rfl | rfl | rfl | rfl | rfl | rfl | rfl | rfl | rfl | rfl | rfl | rfl | rfl | rfl | rfl | rfl | rfl | rfl | rfl | rfl | rfl | rfl | rfl
      · refine R_tableIn (off := 144) (tgt := 176) dL_law_32 (by decide) (by decide) (by decide) (by decide) ?_
        exact law_append hL hi4 hC hM K
      · refine R_tableIn (off := 167) (tgt := 199) dL_law_32 (by decide) (by decide) (by decide) (by decide) ?_
        exact law_clear hL hi4 hC hM K
      · refine R_tableIn (off := 180) (tgt := 212) dL_law_32 (by decide) (by decide) (by decide) (by decide) ?_
        exact law_err hL hi4 hC hM K
      · refine R_tableIn (off := 193) (tgt := 225) dL_law_32 (by decide) (by decide) (by decide) (by decide) ?_
        exact law_len hL hi4 hC hM K
      · refine R_tableIn (off := 206) (tgt := 238) dL_law_32 (by decide) (by decide) (by decide) (by decide) ?_
        exact law_code hL hi4 hC hM K
      · refine R_tableIn (off := 229) (tgt := 261) dL_law_32 (by decide) (by decide) (by decide) (by decide) ?_
        exact law_case hL hi4 hC hM K
      · refine R_tableIn (off := 252) (tgt := 284) dL_law_32 (by decide) (by decide) (by decide) (by decide) ?_
        exact law_plen hL hi4 hC hM K
      · refine R_tableIn (off := 265) (tgt := 297) dL_law_32 (by decide) (by decide) (by decide) (by decide) ?_
        exact law_pat hL hi4 hC hM K
      · refine R_tableIn (off := 288) (tgt := 320) dL_law_32 (by decide) (by decide) (by decide) (by decide) ?_
        exact law_punch hL hi4 hC hM K
      · refine R_tableIn (off := 311) (tgt := 343) dL_law_32 (by decide) (by decide) (by decide) (by decide) ?_
        exact law_enc hL hi4 hC hM K
      · refine R_tableIn (off := 324) (tgt := 356) dL_law_32 (by decide) (by decide) (by decide) (by decide) ?_
        exact law_wrap hL hi4 hC hM K
      · refine R_tableIn (off := 337) (tgt := 369) dL_law_32 (by decide) (by decide) (by decide) (by decide) ?_
        exact law_rem hL hi4 hC hM K
      · refine R_tableIn (off := 360) (tgt := 392) dL_law_32 (by decide) (by decide) (by decide) (by decide) ?_
        exact law_flip hL hi4 hC hM K
      · refine R_tableIn (off := 393) (tgt := 425) dL_law_32 (by decide) (by decide) (by decide) (by decide) ?_
        exact law_comp hL hi4 hC hM K
      · refine R_tableIn (off := 406) (tgt := 438) dL_law_32 (by decide) (by decide) (by decide) (by decide) ?_
        exact law_rep hL hi4 hC hM K
      · refine R_tableIn (off := 419) (tgt := 451) dL_law_32 (by decide) (by decide) (by decide) (by decide) ?_
        exact law_start hL hi4 hC hM K
      · refine R_tableIn (off := 442) (tgt := 474) dL_law_32 (by decide) (by decide) (by decide) (by decide) ?_
        exact law_opt hL hi4 hC hM K
      · refine R_tableIn (off := 465) (tgt := 497) dL_law_32 (by decide) (by decide) (by decide) (by decide) ?_
        exact law_wid hL hi4 hC hM K
      · refine R_tableIn (off := 488) (tgt := 520) dL_law_32 (by decide) (by decide) (by decide) (by decide) ?_
        exact law_undo hL hi4 hC hM K
      · refine R_tableIn (off := 501) (tgt := 533) dL_law_32 (by decide) (by decide) (by decide) (by decide) ?_
        exact law_cell hL hi4 hC hM K
      · refine R_tableIn (off := 534) (tgt := 566) dL_law_32 (by decide) (by decide) (by decide) (by decide) ?_
        exact law_over hL hi4 hC hM K
      · refine R_tableIn (off := 547) (tgt := 579) dL_law_32 (by decide) (by decide) (by decide) (by decide) ?_
        exact law_lost hL hi4 hC hM K
      · refine R_tableIn (off := 570) (tgt := 602) dL_law_32 (by decide) (by decide) (by decide) (by decide) ?_
        exact law_dfl hL hi4 hC hM K
      · refine R_tableIn (off := 603) (tgt := 635) dL_law_32 (by decide) (by decide) (by decide) (by decide) ?_
        exact law_cnum hL hi4 hC hM K
      · refine R_tableIn (off := 636) (tgt := 668) dL_law_32 (by decide) (by decide) (by decide) (by decide) ?_
        exact law_cden hL hi4 hC hM K
      · refine R_tableIn (off := 669) (tgt := 701) dL_law_32 (by decide) (by decide) (by decide) (by decide) ?_
        exact law_run hL hi4 hC hM K
      · refine R_tableIn (off := 732) (tgt := 764) dL_law_32 (by decide) (by decide) (by decide) (by decide) ?_
        exact law_obs hL hi4 hC hM K
      · refine R_tableIn (off := 765) (tgt := 797) dL_law_32 (by decide) (by decide) (by decide) (by decide) ?_
        exact law_poss hL hi4 hC hM K
      · refine R_tableIn (off := 778) (tgt := 810) dL_law_32 (by decide) (by decide) (by decide) (by decide) ?_
        exact law_noise hL hi4 hC hM K
      · refine R_tableIn (off := 841) (tgt := 873) dL_law_32 (by decide) (by decide) (by decide) (by decide) ?_
        exact law_save hL hi4 hC hM K
      · refine R_tableIn (off := 864) (tgt := 896) dL_law_32 (by decide) (by decide) (by decide) (by decide) ?_
        exact law_rest hL hi4 hC hM K
      · refine R_tableIn (off := 887) (tgt := 919) dL_law_32 (by decide) (by decide) (by decide) (by decide) ?_
        exact law_dist hL hi4 hC hM K
end L50
