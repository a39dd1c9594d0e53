/-! The Puncher: V is all that was punched, also what found no room -/
def shfV (un sc : Nat) (V : List Nat) (x : Nat) : List Nat := if cfor x = 2 ∨ cfor x = cAll un sc V then V else V ++ [if cfor x = 1 then 29 else 30]
def encV (un sc : Nat) (V : List Nat) (x : Nat) : List Nat := shfV un sc V x ++ [cof x]
def encR (un sc : Nat) (V : List Nat) (xs : List Nat) : List Nat := xs.foldl (encV un sc) V
def plcV (un sc wd : Nat) (V : List Nat) (used size : Nat) : List Nat := if used = 0 then V else if used + 1 + size ≤ wd then encV un sc V 32 else V ++ [28] ++ [27] ++ [30]
def plcU (wd used size : Nat) : Nat := if used = 0 then size else if used + 1 + size ≤ wd then used + 1 + size else size
def wrpN (un sc wd : Nat) (ms : List Nat) : Nat → Nat → List Nat → Nat → List Nat
  | 0, _, V, _ => V
  | d + 1, i, V, used => if bgN ms i = true then wrpN un sc wd ms d (i + 1) (encR un sc (plcV un sc wd V used (eow ms i - i)) ((ms.drop i).take (eow ms i - i))) (plcU wd used (eow ms i - i)) else wrpN un sc wd ms d (i + 1) V used
def rprN (un sc : Nat) (ms : List Nat) : List Nat → Nat → List Nat → List Nat
  | [], _, V => V
  | c :: t, k, V => if 29 ≤ c then rprN un sc ms t k (V ++ [c]) else rprN un sc ms t (k + 1) (shfV un sc V (ms.getD k 0) ++ [c])
theorem cfor_le (x : Nat) : cfor x ≤ 2 := by unfold cfor; split <;> (try split) <;> omega
def V32 (V : List Nat) : Prop := ∀ c ∈ V, c < 32
theorem V32.app {V W : List Nat} (h : V32 V) (h2 : V32 W) : V32 (V ++ W) := fun c hc => (List.mem_append.mp hc).elim (h c) (h2 c)
theorem V32.one {c : Nat} (h : c < 32) : V32 [c] := fun x hx => by simp at hx; omega
theorem shf32 {un sc x : Nat} {V : List Nat} (h : V32 V) : V32 (shfV un sc V x) := by
  unfold shfV
  split
  · exact h
  · exact h.app (V32.one (by split <;> omega))
def PunAt (hp : HPt) (V : List Nat) (sc un wd : Nat) : Prop := hp[5]? = some (ob 5 [.ref 6, .int (nI (cAll un sc V)), .int (bz (decide (96 < V.length)))]) ∧ TpAt hp 6 7 (V.take 96, sc, un, wd) ∧ V32 V ∧ sc ≤ 1 ∧ un ≤ 1
theorem PunAt.fr {hp hp' : HPt} {V : List Nat} {sc un wd : Nat} {L : List Nat} (H : PunAt hp V sc un wd) (F : Fr L hp hp') (h1 : 5 ∉ L) (h2 : 6 ∉ L) (h3 : 7 ∉ L) : PunAt hp' V sc un wd := ⟨F.at h1 H.1, H.2.1.fr F h2 h3, H.2.2⟩
section P20
variable {l : Launch} {X : EX} {hp : HPt} {V : List Nat} {sc un wd : Nat}
set_option maxRecDepth 100000 in
set_option maxHeartbeats 4000000 in
theorem p_put {c : Nat} (hc : c < 32) (hP : PunAt hp V sc un wd) : SpV l X mX6_put [.ref 5, .int (nI c)] hp (fun hp' => PunAt hp' (V ++ [c]) sc un wd ∧ Fr [5, 6, 7] hp hp') := by
  obtain ⟨H5, hT, hV, hs, hu⟩ := hP
  have hT0 := hT
  obtain ⟨f6, H6, -⟩ := hT0
  have hca := cAll_le (un := un) V hs
  have hcA : cAll un sc (V ++ [c]) = cAft un c (cAll un sc V) := by rw [cAll_app]; rfl
  refine SpV.of pnX6 (Nat.le_of_ble_eq_true rfl) rfl ?_
  refine R_aload_n dX6_put_0 rfl rfl ?_
  refine R_getf dX6_put_1 gX6_12 H5 rfl ?_
  refine R_iload_n dX6_put_4 rfl rfl ?_
  by_cases hl : V.length < 96
  · have htk : V.take 96 = V := List.take_of_length_le (by omega)
    rw [htk] at hT
    refine R_calli (As := [.int (nI c)]) (st := []) kX9_add lX6_43 (t_add hc hl hT) rfl H6 dX6_put_5 rfl rfl (Nat.le_of_ble_eq_true rfl) ⟨by decide, by decide⟩ zX9_add ⟨Nat.le_refl _, Nat.le_refl _⟩ (fun wr3 wp2 wq1 => ?_)
    obtain ⟨rfl, hq1, hq2⟩ := wq1
    have hZ := hq1
    obtain ⟨f7, K6, -⟩ := hZ
    have K5 := hq2.at (j := 5) (by decide) H5
    refine N_if_ne (tgt := 16) dX6_put_8 (by decide) (by decide) (fun _ => ?_) (fun hc => absurd hc (by decide))
    refine R_aload_n dX6_put_16 rfl rfl ?_
    refine R_iload_n dX6_put_17 rfl rfl ?_
    refine R_aload_n dX6_put_18 rfl rfl ?_
    refine R_getf dX6_put_19 gX6_18 K5 rfl ?_
    refine R_aload_n dX6_put_22 rfl rfl ?_
    refine R_getf dX6_put_23 gX6_12 K5 rfl ?_
    refine R_getf dX6_put_26 gX6_47 K6 rfl ?_
    refine R_stati (As := [.int (nI c), .int (nI (cAll un sc V)), .int (nI un)]) (st := [.ref 5]) kX0_caseAfter lX6_50 (c_caseAfter hc hca hu) dX6_put_29 rfl rfl (Nat.le_of_ble_eq_true rfl) ⟨by decide, by decide⟩ zX0_caseAfter ⟨Nat.le_refl _, Nat.le_refl _⟩ (fun wr6 wp5 wq4 => ?_)
    obtain ⟨rfl, rfl⟩ : wr6 = _ ∧ wp2 = wp5 := ⟨wq4.1, wq4.2.symm⟩
    refine W_puti (fs' := [.ref 6, .int (nI (cAft un c (cAll un sc V))), .int (bz (decide (96 < V.length)))]) dX6_put_32 pX6_18 K5 (Nat.le_of_ble_eq_true rfl) rfl (fun wp7 wH8 wE9 => ?_)
    have wH10 := (wE9 6 (by decide)).trans K6
    have wF11 : Fr [5] wp2 wp7 := Fr.one wE9 (by simp)
    refine R_retv dX6_put_35 rfl rfl rfl ⟨⟨?_, ?_, hV.app (V32.one hc), hs, hu⟩, (hq2.mono (by decide)).trans (wF11.mono (by decide))⟩
    · rw [hcA, show decide (96 < (V ++ [c]).length) = decide (96 < V.length) by rw [List.length_append, decide_eq_false (by simp; omega), decide_eq_false (by omega)]]
      exact wH8
    · rw [List.take_of_length_le (by simp; omega)]; exact hq1.fr wF11 (by decide) (by decide)
  · refine R_calli (As := [.int (nI c)]) (st := []) kX9_add lX6_43 (t_addF (c := c) (by rw [List.length_take]; omega) hT) rfl H6 dX6_put_5 rfl rfl (Nat.le_of_ble_eq_true rfl) ⟨by decide, by decide⟩ zX9_add ⟨Nat.le_refl _, Nat.le_refl _⟩ (fun wr14 wp13 wq12 => ?_)
    obtain ⟨rfl, rfl⟩ : wr14 = _ ∧ hp = wp13 := ⟨wq12.1, wq12.2.symm⟩
    refine N_if_ne (tgt := 16) dX6_put_8 (by decide) (by decide) (fun hc => absurd hc (by decide)) (fun _ => ?_)
    refine R_aload_n dX6_put_11 rfl rfl ?_
    refine R_iconst (v := (nI 1)) dX6_put_12 (by decide) ?_
    refine W_putz (fs' := [.ref 6, .int (nI (cAll un sc V)), .int (nI 1)]) dX6_put_13 pX6_22 H5 (Nat.le_of_ble_eq_true rfl) rfl rfl rfl (fun wp15 wH16 wE17 => ?_)
    have wH18 := (wE17 6 (by decide)).trans H6
    have wF19 : Fr [5] hp wp15 := Fr.one wE17 (by simp)
    refine R_aload_n dX6_put_16 rfl rfl ?_
    refine R_iload_n dX6_put_17 rfl rfl ?_
    refine R_aload_n dX6_put_18 rfl rfl ?_
    refine R_getf dX6_put_19 gX6_18 wH16 rfl ?_
    refine R_aload_n dX6_put_22 rfl rfl ?_
    refine R_getf dX6_put_23 gX6_12 wH16 rfl ?_
    refine R_getf dX6_put_26 gX6_47 wH18 rfl ?_
    refine R_stati (As := [.int (nI c), .int (nI (cAll un sc V)), .int (nI un)]) (st := [.ref 5]) kX0_caseAfter lX6_50 (c_caseAfter hc hca hu) dX6_put_29 rfl rfl (Nat.le_of_ble_eq_true rfl) ⟨by decide, by decide⟩ zX0_caseAfter ⟨Nat.le_refl _, Nat.le_refl _⟩ (fun wr22 wp21 wq20 => ?_)
    obtain ⟨rfl, rfl⟩ : wr22 = _ ∧ wp15 = wp21 := ⟨wq20.1, wq20.2.symm⟩
    refine W_puti (fs' := [.ref 6, .int (nI (cAft un c (cAll un sc V))), .int (nI 1)]) dX6_put_32 pX6_18 wH16 (Nat.le_of_ble_eq_true rfl) rfl (fun wp23 wH24 wE25 => ?_)
    have wH26 := (wE25 6 (by decide)).trans wH18
    have wF27 : Fr [5] hp wp23 := wF19.trans (Fr.one wE25 (by simp))
    refine R_retv dX6_put_35 rfl rfl rfl ⟨⟨?_, ?_, hV.app (V32.one hc), hs, hu⟩, wF27.mono (by decide)⟩
    · rw [hcA, show decide (96 < (V ++ [c]).length) = true by rw [decide_eq_true]; simp; omega]
      exact wH24
    · rw [show (V ++ [c]).take 96 = V.take 96 from List.take_append_of_le_length (by omega)]; exact hT.fr wF27 (by decide) (by decide)
set_option maxRecDepth 100000 in
set_option maxHeartbeats 4000000 in
theorem p_shf {x : Nat} (hx : x < 256) (hP : PunAt hp V sc un wd) : SpV l X mX6_shiftFor [.ref 5, .int (nI x)] hp (fun hp' => PunAt hp' (shfV un sc V x) sc un wd ∧ Fr [5, 6, 7] hp hp') := by
  have hP0 := hP
  obtain ⟨H5, hT, hV, hs, hu⟩ := hP
  have hca := cAll_le (un := un) V hs
  have hc2 := cfor_le x
  refine SpV.of pnX6 (Nat.le_of_ble_eq_true rfl) rfl ?_
  refine R_iload_n dX6_shiftFor_0 rfl rfl ?_
  refine R_stati (As := [.int (nI x)]) (st := []) kX0_caseFor lX6_56 (c_caseFor hx) dX6_shiftFor_1 rfl rfl (Nat.le_of_ble_eq_true rfl) ⟨by decide, by decide⟩ zX0_caseFor ⟨Nat.le_refl _, Nat.le_refl _⟩ (fun wr3 wp2 wq1 => ?_)
  obtain ⟨rfl, rfl⟩ : wr3 = _ ∧ hp = wp2 := ⟨wq1.1, wq1.2.symm⟩
  refine R_istore_n (lv' := [some (.ref 5), some (.int (nI x)), some (.int (nI (cfor x)))]) dX6_shiftFor_4 rfl (by decide) rfl ?_
  refine R_iload_n dX6_shiftFor_5 rfl rfl ?_
  refine R_iconst (v := (nI 2)) dX6_shiftFor_6 (by decide) ?_
  refine N_icmp_eq (tgt := 26) dX6_shiftFor_7 (by decide) (by omega) (by omega) (fun h2 => ?_) (fun h2 => ?_)
  · exact R_retv dX6_shiftFor_26 rfl rfl rfl ⟨by unfold shfV; rw [if_pos (Or.inl h2)]; exact hP0, Fr.rf⟩
  · refine R_iload_n dX6_shiftFor_10 rfl rfl ?_
    refine R_aload_n dX6_shiftFor_11 rfl rfl ?_
    refine R_getf dX6_shiftFor_12 gX6_18 H5 rfl ?_
    refine N_icmp_eq (tgt := 26) dX6_shiftFor_15 (by decide) (by omega) (by omega) (fun h3 => ?_) (fun h3 => ?_)
    · exact R_retv dX6_shiftFor_26 rfl rfl rfl ⟨by unfold shfV; rw [if_pos (Or.inr h3)]; exact hP0, Fr.rf⟩
    · refine R_aload_n dX6_shiftFor_18 rfl rfl ?_
      refine R_iload_n dX6_shiftFor_19 rfl rfl ?_
      refine R_stati (As := [.int (nI (cfor x))]) (st := [.ref 5]) kX0_shiftTo lX6_59 (c_shiftTo (w := cfor x) (by omega)) dX6_shiftFor_20 rfl rfl (Nat.le_of_ble_eq_true rfl) ⟨by decide, by decide⟩ zX0_shiftTo ⟨Nat.le_refl _, Nat.le_refl _⟩ (fun wr6 wp5 wq4 => ?_)
      obtain ⟨rfl, rfl⟩ : wr6 = _ ∧ hp = wp5 := ⟨wq4.1, wq4.2.symm⟩
      refine R_callv (As := [.int (nI (if cfor x = 1 then 29 else 30))]) (st := []) kX6_put lX6_62 (p_put (c := if cfor x = 1 then 29 else 30) (by split <;> omega) hP0) rfl H5 dX6_shiftFor_23 rfl rfl (Nat.le_of_ble_eq_true rfl) ⟨by decide, by decide⟩ zX6_put ⟨Nat.le_refl _, Nat.le_refl _⟩ (fun wp8 wq7 => ?_)
      obtain ⟨hq1, hq2⟩ := wq7
      exact R_retv dX6_shiftFor_26 rfl rfl rfl ⟨by unfold shfV; rw [if_neg (by omega)]; exact hq1, hq2⟩
set_option maxRecDepth 100000 in
set_option maxHeartbeats 4000000 in
theorem p_enc {x : Nat} (hx : x < 256) (he : cof x ≠ 255) (hP : PunAt hp V sc un wd) : SpV l X mX6_encode [.ref 5, .int (nI x)] hp (fun hp' => PunAt hp' (encV un sc V x) sc un wd ∧ Fr [5, 6, 7] hp hp') := by
  have H5 := hP.1
  have hcl := cof_lt he
  refine SpV.of pnX6 (Nat.le_of_ble_eq_true rfl) rfl ?_
  refine R_aload_n dX6_encode_0 rfl rfl ?_
  refine R_iload_n dX6_encode_1 rfl rfl ?_
  refine R_callv (As := [.int (nI x)]) (st := []) kX6_shiftFor lX6_66 (p_shf hx hP) rfl H5 dX6_encode_2 rfl rfl (Nat.le_of_ble_eq_true rfl) ⟨by decide, by decide⟩ zX6_shiftFor ⟨Nat.le_refl _, Nat.le_refl _⟩ (fun wp2 wq1 => ?_)
  obtain ⟨hq1, hq2⟩ := wq1
  have K5 := hq1.1
  refine R_aload_n dX6_encode_5 rfl rfl ?_
  refine R_iload_n dX6_encode_6 rfl rfl ?_
  refine R_stati (As := [.int (nI x)]) (st := [.ref 5]) kX0_of lX6_69 (c_of hx) dX6_encode_7 rfl rfl (Nat.le_of_ble_eq_true rfl) ⟨by decide, by decide⟩ zX0_of ⟨Nat.le_refl _, Nat.le_refl _⟩ (fun wr6 wp5 wq4 => ?_)
  obtain ⟨rfl, rfl⟩ : wr6 = _ ∧ wp2 = wp5 := ⟨wq4.1, wq4.2.symm⟩
  rw [cofI_t he]
  refine R_callv (As := [.int (nI (cof x))]) (st := []) kX6_put lX6_62 (p_put (c := cof x) (by omega) hq1) rfl K5 dX6_encode_10 rfl rfl (Nat.le_of_ble_eq_true rfl) ⟨by decide, by decide⟩ zX6_put ⟨Nat.le_refl _, Nat.le_refl _⟩ (fun wp8 wq7 => ?_)
  obtain ⟨hq3, hq4⟩ := wq7
  exact R_retv dX6_encode_13 rfl rfl rfl ⟨hq3, hq2.trans hq4⟩
theorem dt_s {α : Type} {ms : List α} {i e : Nat} (h : i < ms.length) (h2 : i < e) : (ms.drop i).take (e - i) = ms[i] :: (ms.drop (i + 1)).take (e - (i + 1)) := by
  rw [drop_c h, show e - i = (e - (i + 1)) + 1 by omega, List.take_succ_cons]
theorem dt_0 {α : Type} {ms : List α} {i : Nat} : (ms.drop i).take (i - i) = [] := by rw [Nat.sub_self]; rfl
set_option maxRecDepth 100000 in
set_option maxHeartbeats 4000000 in
theorem p_erL {h a : Nat} {ms : List Nat} {hp0 : HPt} {i0 e : Nat} {Rs : List Nat} (he : e ≤ ms.length) (hE : ∀ x ∈ ms, cof x ≠ 255) (hn : h ∉ [5, 6, 7]) (hn2 : a ∉ [5, 6, 7]) : ∀ (d : Nat) (hp : HPt) (V : List Nat) (i : Nat), i + d = e → PunAt hp V sc un wd → MsgAt hp h a ms → Fr [5, 6, 7] hp0 hp → Rs = encR un sc V ((ms.drop i).take (e - i)) → PZ l X (MZv X mX6_encodeRun (fun hp' => PunAt hp' Rs sc un wd ∧ Fr [5, 6, 7] hp0 hp')) mX6_encodeRun 3 [some (.ref 5), some (.ref h), some (.int (nI i0)), some (.int (nI e)), some (.int (nI i))] [] hp 0 0 := by
  intro d
  induction d with
  | zero =>
    intro hp V i hi hP hM hF hR
    have H5 := hP.1
    obtain ⟨f, Hh, Ha, hf, hL, hC⟩ := hM
    refine R_iload dX6_encodeRun_3 rfl ?_
    refine R_iload_n dX6_encodeRun_5 rfl rfl ?_
    refine N_icmp_ge (tgt := 34) dX6_encodeRun_6 (by decide) (by omega) (by omega) (fun _ => ?_) (fun hc => absurd hc (by omega))
    exact R_retv dX6_encodeRun_34 rfl rfl rfl ⟨by rw [hR, show e = i by omega, dt_0]; exact hP, hF⟩
  | succ d ih =>
    intro hp V i hi hP hM hF hR
    have hM0 := hM
    have H5 := hP.1
    obtain ⟨f, Hh, Ha, hf, hL, hC⟩ := hM
    have h1 : i < ms.length := by omega
    rw [dt_s h1 (by omega)] at hR
    refine R_iload dX6_encodeRun_3 rfl ?_
    refine R_iload_n dX6_encodeRun_5 rfl rfl ?_
    refine N_icmp_ge (tgt := 34) dX6_encodeRun_6 (by decide) (by omega) (by omega) (fun hc => absurd hc (by omega)) (fun _ => ?_)
    refine R_iload dX6_encodeRun_9 rfl ?_
    refine R_aload_n dX6_encodeRun_11 rfl rfl ?_
    refine R_getf dX6_encodeRun_12 gX6_72 Hh rfl ?_
    refine N_icmp_ge (tgt := 34) dX6_encodeRun_15 (by decide) (by omega) (by omega) (fun hc => absurd hc (by omega)) (fun _ => ?_)
    refine R_aload_n dX6_encodeRun_18 rfl rfl ?_
    refine R_aload_n dX6_encodeRun_19 rfl rfl ?_
    refine R_iload dX6_encodeRun_20 rfl ?_
    refine R_calli (As := [.int (nI i)]) (st := [.ref 5]) kX3_at lX6_75 (m_at (j := i) (by omega) hM0) rfl Hh dX6_encodeRun_22 rfl rfl (Nat.le_of_ble_eq_true rfl) ⟨by decide, by decide⟩ zX3_at ⟨Nat.le_refl _, Nat.le_refl _⟩ (fun wr3 wp2 wq1 => ?_)
    obtain ⟨rfl, rfl⟩ : wr3 = _ ∧ hp = wp2 := ⟨wq1.1, wq1.2.symm⟩
    rw [gD h1]
    refine R_callv (As := [.int (nI (ms[i]))]) (st := []) kX6_encode lX6_78 (p_enc (hC _ (List.getElem_mem h1)) (hE _ (List.getElem_mem h1)) hP) rfl H5 dX6_encodeRun_25 rfl rfl (Nat.le_of_ble_eq_true rfl) ⟨by decide, by decide⟩ zX6_encode ⟨Nat.le_refl _, Nat.le_refl _⟩ (fun wp5 wq4 => ?_)
    obtain ⟨hq1, hq2⟩ := wq4
    refine N_iinc (d := 1) (lv' := [some (.ref 5), some (.ref h), some (.int (nI i0)), some (.int (nI e)), some (.int (nI (i + 1)))]) dX6_encodeRun_28 rfl rfl ?_
    refine R_goto (tgt := 3) dX6_encodeRun_31 (by decide) ?_
    exact ih _ _ (i + 1) (by omega) hq1 (hM0.fr hq2 hn hn2) (hF.trans hq2) hR
set_option maxRecDepth 100000 in
set_option maxHeartbeats 4000000 in
theorem p_encodeRun {h a : Nat} {ms : List Nat} {i0 e : Nat} (hie : i0 ≤ e) (he : e ≤ ms.length) (hE : ∀ x ∈ ms, cof x ≠ 255) (hn : h ∉ [5, 6, 7]) (hn2 : a ∉ [5, 6, 7]) (hP : PunAt hp V sc un wd) (hM : MsgAt hp h a ms) : SpV l X mX6_encodeRun [.ref 5, .ref h, .int (nI i0), .int (nI e)] hp (fun hp' => PunAt hp' (encR un sc V ((ms.drop i0).take (e - i0))) sc un wd ∧ Fr [5, 6, 7] hp hp') := by
  refine SpV.of pnX6 (Nat.le_of_ble_eq_true rfl) rfl ?_
  refine R_iload_n dX6_encodeRun_0 rfl rfl ?_
  refine R_istore (lv' := [some (.ref 5), some (.ref h), some (.int (nI i0)), some (.int (nI e)), some (.int (nI i0))]) dX6_encodeRun_1 (by decide) rfl ?_
  exact p_erL he hE hn hn2 (e - i0) hp V i0 (by omega) hP hM Fr.rf rfl
set_option maxRecDepth 100000 in
set_option maxHeartbeats 4000000 in
theorem p_place {us sz : Nat} (hus : us ≤ 10000) (hsz : sz ≤ 10000) (hwd : wd ≤ 40) (hP : PunAt hp V sc un wd) : SpI l X mX6_placeWord [.ref 5, .int (nI us), .int (nI sz), .int (nI wd)] hp (fun r hp' => r = nI (plcU wd us sz) ∧ PunAt hp' (plcV un sc wd V us sz) sc un wd ∧ Fr [5, 6, 7] hp hp') := by
  have H5 := hP.1
  unfold plcU plcV
  refine SpI.of pnX6 (Nat.le_of_ble_eq_true rfl) rfl ?_
  refine R_iload_n dX6_placeWord_0 rfl rfl ?_
  refine N_if_ne (tgt := 6) dX6_placeWord_1 (by decide) (by omega) (fun h0 => ?_) (fun h0 => ?_)
  · rw [if_neg h0, if_neg h0]
    refine R_iload_n dX6_placeWord_6 rfl rfl ?_
    refine R_iconst (v := (nI 1)) dX6_placeWord_7 (by decide) ?_
    refine N_iadd dX6_placeWord_8 ?_
    refine R_iload_n dX6_placeWord_9 rfl rfl ?_
    refine N_iadd dX6_placeWord_10 ?_
    refine R_iload_n dX6_placeWord_11 rfl rfl ?_
    refine N_icmp_gt (tgt := 27) dX6_placeWord_12 (by decide) (by omega) (by omega) (fun h1 => ?_) (fun h1 => ?_)
    · rw [if_neg (by omega), if_neg (by omega)]
      refine R_aload_n dX6_placeWord_27 rfl rfl ?_
      refine R_bipush (v := (nI 28)) dX6_placeWord_28 (by decide) ?_
      refine R_callv (As := [.int (nI 28)]) (st := []) kX6_put lX6_62 (p_put (c := 28) (by omega) hP) rfl H5 dX6_placeWord_30 rfl rfl (Nat.le_of_ble_eq_true rfl) ⟨by decide, by decide⟩ zX6_put ⟨Nat.le_refl _, Nat.le_refl _⟩ (fun wp2 wq1 => ?_)
      obtain ⟨hq1, hq2⟩ := wq1
      have K5 := hq1.1
      refine R_aload_n dX6_placeWord_33 rfl rfl ?_
      refine R_bipush (v := (nI 27)) dX6_placeWord_34 (by decide) ?_
      refine R_callv (As := [.int (nI 27)]) (st := []) kX6_put lX6_62 (p_put (c := 27) (by omega) hq1) rfl K5 dX6_placeWord_36 rfl rfl (Nat.le_of_ble_eq_true rfl) ⟨by decide, by decide⟩ zX6_put ⟨Nat.le_refl _, Nat.le_refl _⟩ (fun wp5 wq4 => ?_)
      obtain ⟨hq3, hq4⟩ := wq4
      have K6 := hq3.1
      refine R_aload_n dX6_placeWord_39 rfl rfl ?_
      refine R_bipush (v := (nI 30)) dX6_placeWord_40 (by decide) ?_
      refine R_callv (As := [.int (nI 30)]) (st := []) kX6_put lX6_62 (p_put (c := 30) (by omega) hq3) rfl K6 dX6_placeWord_42 rfl rfl (Nat.le_of_ble_eq_true rfl) ⟨by decide, by decide⟩ zX6_put ⟨Nat.le_refl _, Nat.le_refl _⟩ (fun wp8 wq7 => ?_)
      obtain ⟨hq5, hq6⟩ := wq7
      refine R_iload_n dX6_placeWord_45 rfl rfl ?_
      exact R_reti dX6_placeWord_46 rfl rfl rfl ⟨rfl, hq5, (hq2.trans hq4).trans hq6⟩
    · rw [if_pos (by omega), if_pos (by omega)]
      refine R_aload_n dX6_placeWord_15 rfl rfl ?_
      refine R_bipush (v := (nI 32)) dX6_placeWord_16 (by decide) ?_
      refine R_callv (As := [.int (nI 32)]) (st := []) kX6_encode lX6_78 (p_enc (x := 32) (by omega) (by decide) hP) rfl H5 dX6_placeWord_18 rfl rfl (Nat.le_of_ble_eq_true rfl) ⟨by decide, by decide⟩ zX6_encode ⟨Nat.le_refl _, Nat.le_refl _⟩ (fun wp11 wq10 => ?_)
      obtain ⟨hq1, hq2⟩ := wq10
      refine R_iload_n dX6_placeWord_21 rfl rfl ?_
      refine R_iconst (v := (nI 1)) dX6_placeWord_22 (by decide) ?_
      refine N_iadd dX6_placeWord_23 ?_
      refine R_iload_n dX6_placeWord_24 rfl rfl ?_
      refine N_iadd dX6_placeWord_25 ?_
      exact R_reti dX6_placeWord_26 rfl rfl rfl ⟨rfl, hq1, hq2⟩
  · rw [if_pos h0, if_pos h0]
    refine R_iload_n dX6_placeWord_4 rfl rfl ?_
    exact R_reti dX6_placeWord_5 rfl rfl rfl ⟨rfl, hP, Fr.rf⟩
set_option maxRecDepth 100000 in
set_option maxHeartbeats 4000000 in
theorem p_ewL {h a : Nat} {ms : List Nat} {hp0 : HPt} {Rs : List Nat} (hwd : wd ≤ 40) (hE : ∀ x ∈ ms, cof x ≠ 255) (hn : h ∉ [5, 6, 7]) (hn2 : a ∉ [5, 6, 7]) : ∀ (d : Nat) (hp : HPt) (V : List Nat) (i us : Nat) (lo : Option Value), i + d = ms.length → us ≤ 200 → PunAt hp V sc un wd → MsgAt hp h a ms → Fr [5, 6, 7] hp0 hp → Rs = wrpN un sc wd ms d i V us → PZ l X (MZv X mX6_encodeWords (fun hp' => PunAt hp' Rs sc un wd ∧ Fr [5, 6, 7] hp0 hp')) mX6_encodeWords 5 [some (.ref 5), some (.ref h), some (.int (nI wd)), some (.int (nI us)), some (.int (nI i)), lo] [] hp 0 0 := by
  intro d
  induction d with
  | zero =>
    intro hp V i us lo hi hus hP hM hF hR
    have H5 := hP.1
    obtain ⟨f, Hh, Ha, hf, hL, hC⟩ := hM
    refine R_iload dX6_encodeWords_5 rfl ?_
    refine R_aload_n dX6_encodeWords_7 rfl rfl ?_
    refine R_getf dX6_encodeWords_8 gX6_72 Hh rfl ?_
    refine N_icmp_ge (tgt := 58) dX6_encodeWords_11 (by decide) (by omega) (by omega) (fun _ => ?_) (fun hc => absurd hc (by omega))
    exact R_retv dX6_encodeWords_58 rfl rfl rfl ⟨by rw [hR]; exact hP, hF⟩
  | succ d ih =>
    intro hp V i us lo hi hus hP hM hF hR
    have hM0 := hM
    have H5 := hP.1
    obtain ⟨f, Hh, Ha, hf, hL, hC⟩ := hM
    simp only [wrpN] at hR
    refine R_iload dX6_encodeWords_5 rfl ?_
    refine R_aload_n dX6_encodeWords_7 rfl rfl ?_
    refine R_getf dX6_encodeWords_8 gX6_72 Hh rfl ?_
    refine N_icmp_ge (tgt := 58) dX6_encodeWords_11 (by decide) (by omega) (by omega) (fun hc => absurd hc (by omega)) (fun _ => ?_)
    refine R_aload_n dX6_encodeWords_14 rfl rfl ?_
    refine R_iload dX6_encodeWords_15 rfl ?_
    refine R_calli (As := [.int (nI i)]) (st := []) kX3_beginsWord lX6_81 (m_bg (j := i) (by omega) hM0) rfl Hh dX6_encodeWords_17 rfl rfl (Nat.le_of_ble_eq_true rfl) ⟨by decide, by decide⟩ zX3_beginsWord ⟨Nat.le_refl _, Nat.le_refl _⟩ (fun wr3 wp2 wq1 => ?_)
    obtain ⟨rfl, rfl⟩ : wr3 = _ ∧ hp = wp2 := ⟨wq1.1, wq1.2.symm⟩
    by_cases hb : bgN ms i = true
    · rw [if_pos hb] at hR
      rw [hb]
      show PZ _ _ _ _ _ _ [.int (nI 1)] _ _ _
      have hel := eow_le (ms := ms) (j := i) (by omega)
      have heg := eow_ge (ms := ms) (j := i)
      refine N_if_eq (tgt := 52) dX6_encodeWords_20 (by decide) (by decide) (fun hc => absurd hc (by decide)) (fun _ => ?_)
      refine R_aload_n dX6_encodeWords_23 rfl rfl ?_
      refine R_iload dX6_encodeWords_24 rfl ?_
      refine R_calli (As := [.int (nI i)]) (st := []) kX3_endOfWord lX6_84 (m_eow (i := i) (by omega) hM0) rfl Hh dX6_encodeWords_26 rfl rfl (Nat.le_of_ble_eq_true rfl) ⟨by decide, by decide⟩ zX3_endOfWord ⟨Nat.le_refl _, Nat.le_refl _⟩ (fun wr6 wp5 wq4 => ?_)
      obtain ⟨rfl, rfl⟩ : wr6 = _ ∧ hp = wp5 := ⟨wq4.1, wq4.2.symm⟩
      refine R_istore (lv' := [some (.ref 5), some (.ref h), some (.int (nI wd)), some (.int (nI us)), some (.int (nI i)), some (.int (nI (eow ms i)))]) dX6_encodeWords_29 (by decide) rfl ?_
      refine R_aload_n dX6_encodeWords_31 rfl rfl ?_
      refine R_iload_n dX6_encodeWords_32 rfl rfl ?_
      refine R_iload dX6_encodeWords_33 rfl ?_
      refine R_iload dX6_encodeWords_35 rfl ?_
      refine N_isub dX6_encodeWords_37 heg ?_
      refine R_iload_n dX6_encodeWords_38 rfl rfl ?_
      refine R_calli (As := [.int (nI us), .int (nI ((eow ms i) - i)), .int (nI wd)]) (st := []) kX6_placeWord lX6_87 (p_place (us := us) (sz := eow ms i - i) (by omega) (by omega) hwd hP) rfl H5 dX6_encodeWords_39 rfl rfl (Nat.le_of_ble_eq_true rfl) ⟨by decide, by decide⟩ zX6_placeWord ⟨Nat.le_refl _, Nat.le_refl _⟩ (fun wr9 wp8 wq7 => ?_)
      obtain ⟨rfl, hq1, hq2⟩ := wq7
      have K5 := hq1.1
      have hM1 := hM0.fr hq2 hn hn2
      refine R_istore_n (lv' := [some (.ref 5), some (.ref h), some (.int (nI wd)), some (.int (nI (plcU wd us (eow ms i - i)))), some (.int (nI i)), some (.int (nI (eow ms i)))]) dX6_encodeWords_42 rfl (by decide) rfl ?_
      refine R_aload_n dX6_encodeWords_43 rfl rfl ?_
      refine R_aload_n dX6_encodeWords_44 rfl rfl ?_
      refine R_iload dX6_encodeWords_45 rfl ?_
      refine R_iload dX6_encodeWords_47 rfl ?_
      refine R_callv (As := [.ref h, .int (nI i), .int (nI (eow ms i))]) (st := []) kX6_encodeRun lX6_90 (p_encodeRun heg hel hE hn hn2 hq1 hM1) rfl K5 dX6_encodeWords_49 rfl rfl (Nat.le_of_ble_eq_true rfl) ⟨by decide, by decide⟩ zX6_encodeRun ⟨Nat.le_refl _, Nat.le_refl _⟩ (fun wp11 wq10 => ?_)
      obtain ⟨hq3, hq4⟩ := wq10
      refine N_iinc (d := 1) (lv' := [some (.ref 5), some (.ref h), some (.int (nI wd)), some (.int (nI (plcU wd us (eow ms i - i)))), some (.int (nI (i + 1))), some (.int (nI (eow ms i)))]) dX6_encodeWords_52 rfl rfl ?_
      refine R_goto (tgt := 5) dX6_encodeWords_55 (by decide) ?_
      exact ih _ _ (i + 1) _ _ (by omega) (by unfold plcU; split <;> (try split) <;> omega) hq3 (hM1.fr hq4 hn hn2) ((hF.trans hq2).trans hq4) hR
    · rw [if_neg hb] at hR
      rw [Bool.eq_false_iff.mpr hb]
      show PZ _ _ _ _ _ _ [.int (nI 0)] _ _ _
      refine N_if_eq (tgt := 52) dX6_encodeWords_20 (by decide) (by decide) (fun _ => ?_) (fun hc => absurd hc (by decide))
      refine N_iinc (d := 1) (lv' := [some (.ref 5), some (.ref h), some (.int (nI wd)), some (.int (nI us)), some (.int (nI (i + 1))), lo]) dX6_encodeWords_52 rfl rfl ?_
      refine R_goto (tgt := 5) dX6_encodeWords_55 (by decide) ?_
      exact ih _ _ (i + 1) _ _ (by omega) hus hP hM0 hF hR
set_option maxRecDepth 100000 in
set_option maxHeartbeats 4000000 in
theorem p_encodeWords {h a : Nat} {ms : List Nat} (hwd : wd ≤ 40) (hE : ∀ x ∈ ms, cof x ≠ 255) (hn : h ∉ [5, 6, 7]) (hn2 : a ∉ [5, 6, 7]) (hP : PunAt hp V sc un wd) (hM : MsgAt hp h a ms) : SpV l X mX6_encodeWords [.ref 5, .ref h, .int (nI wd)] hp (fun hp' => PunAt hp' (wrpN un sc wd ms ms.length 0 V 0) sc un wd ∧ Fr [5, 6, 7] hp hp') := by
  refine SpV.of pnX6 (Nat.le_of_ble_eq_true rfl) rfl ?_
  refine R_iconst (v := (nI 0)) dX6_encodeWords_0 (by decide) ?_
  refine R_istore_n (lv' := [some (.ref 5), some (.ref h), some (.int (nI wd)), some (.int (nI 0)), none, none]) dX6_encodeWords_1 rfl (by decide) rfl ?_
  refine R_iconst (v := (nI 0)) dX6_encodeWords_2 (by decide) ?_
  refine R_istore (lv' := [some (.ref 5), some (.ref h), some (.int (nI wd)), some (.int (nI 0)), some (.int (nI 0)), none]) dX6_encodeWords_3 (by decide) rfl ?_
  exact p_ewL hwd hE hn hn2 ms.length hp V 0 0 _ (by omega) (by omega) hP hM Fr.rf rfl
set_option maxRecDepth 100000 in
set_option maxHeartbeats 4000000 in
theorem p_prL {h a : Nat} {ms : List Nat} {hp0 : HPt} {cs Rs : List Nat} (hn : h ∉ [5, 6, 7]) (hn2 : a ∉ [5, 6, 7]) : ∀ (d : Nat) (hp : HPt) (V : List Nat) (j nx : Nat) (lo : Option Value), j + d = cs.length → nx ≤ j → PunAt hp V sc un wd → MsgAt hp h a ms → TpAt hp 1 2 (cs, sc, un, wd) → Fr [5, 6, 7] hp0 hp → Rs = rprN un sc ms (cs.drop j) nx V → PZ l X (MZv X mX6_punchRepaired (fun hp' => PunAt hp' Rs sc un wd ∧ Fr [5, 6, 7] hp0 hp')) mX6_punchRepaired 5 [some (.ref 5), some (.ref 1), some (.ref h), some (.int (nI nx)), some (.int (nI j)), lo] [] hp 0 0 := by
  intro d
  induction d with
  | zero =>
    intro hp V j nx lo hj hnx hP hM hT hF hR
    have H5 := hP.1
    obtain ⟨f2, Hg, Hb, hf2, gL, gC, gs, gu, gw1, gw2⟩ := hT
    refine R_iload dX6_punchRepaired_5 rfl ?_
    refine R_aload_n dX6_punchRepaired_7 rfl rfl ?_
    refine R_getf dX6_punchRepaired_8 gX6_30 Hg rfl ?_
    refine N_icmp_ge (tgt := 56) dX6_punchRepaired_11 (by decide) (by omega) (by omega) (fun _ => ?_) (fun hc => absurd hc (by omega))
    exact R_retv dX6_punchRepaired_56 rfl rfl rfl ⟨by rw [hR, List.drop_eq_nil_of_le (by omega)]; exact hP, hF⟩
  | succ d ih =>
    intro hp V j nx lo hj hnx hP hM hT hF hR
    have hM0 := hM
    have hT0 := hT
    have H5 := hP.1
    obtain ⟨f, Hh, Ha, hf, hL, hC⟩ := hM
    obtain ⟨f2, Hg, Hb, hf2, gL, gC, gs, gu, gw1, gw2⟩ := hT
    have h1 : j < cs.length := by omega
    have hc3 := gC _ (List.getElem_mem h1)
    rw [drop_c h1] at hR; simp only [rprN] at hR
    refine R_iload dX6_punchRepaired_5 rfl ?_
    refine R_aload_n dX6_punchRepaired_7 rfl rfl ?_
    refine R_getf dX6_punchRepaired_8 gX6_30 Hg rfl ?_
    refine N_icmp_ge (tgt := 56) dX6_punchRepaired_11 (by decide) (by omega) (by omega) (fun hc => absurd hc (by omega)) (fun _ => ?_)
    refine R_aload_n dX6_punchRepaired_14 rfl rfl ?_
    refine R_iload dX6_punchRepaired_15 rfl ?_
    refine R_calli (As := [.int (nI j)]) (st := []) kX9_at lX6_94 (t_at (j := j) (by omega) hT0) rfl Hg dX6_punchRepaired_17 rfl rfl (Nat.le_of_ble_eq_true rfl) ⟨by decide, by decide⟩ zX9_at ⟨Nat.le_refl _, Nat.le_refl _⟩ (fun wr3 wp2 wq1 => ?_)
    obtain ⟨rfl, rfl⟩ : wr3 = _ ∧ hp = wp2 := ⟨wq1.1, wq1.2.symm⟩
    rw [gD h1]
    refine R_istore (lv' := [some (.ref 5), some (.ref 1), some (.ref h), some (.int (nI nx)), some (.int (nI j)), some (.int (nI (cs[j])))]) dX6_punchRepaired_20 (by decide) rfl ?_
    refine R_iload dX6_punchRepaired_22 rfl ?_
    refine R_iconst (v := (nI 0)) dX6_punchRepaired_24 (by decide) ?_
    refine R_stati (As := [.int (nI (cs[j])), .int (nI 0)]) (st := []) kX0_printed lX6_95 (c_printed hc3 (by omega)) dX6_punchRepaired_25 rfl rfl (Nat.le_of_ble_eq_true rfl) ⟨by decide, by decide⟩ zX0_printed ⟨Nat.le_refl _, Nat.le_refl _⟩ (fun wr6 wp5 wq4 => ?_)
    obtain ⟨rfl, rfl⟩ : wr6 = _ ∧ hp = wp5 := ⟨wq4.1, wq4.2.symm⟩
    by_cases h29 : 29 ≤ cs[j]
    · rw [if_pos h29] at hR
      rw [prt_ne h29]
      refine R_iconst (v := (-1)) dX6_punchRepaired_28 (by decide) ?_
      refine R_icmp_eq (tgt := 44) dX6_punchRepaired_29 (by decide) (fun _ => ?_) (fun hc => absurd rfl hc)
      refine R_aload_n dX6_punchRepaired_44 rfl rfl ?_
      refine R_iload dX6_punchRepaired_45 rfl ?_
      refine R_callv (As := [.int (nI (cs[j]))]) (st := []) kX6_put lX6_62 (p_put hc3 hP) rfl H5 dX6_punchRepaired_47 rfl rfl (Nat.le_of_ble_eq_true rfl) ⟨by decide, by decide⟩ zX6_put ⟨Nat.le_refl _, Nat.le_refl _⟩ (fun wp8 wq7 => ?_)
      obtain ⟨hq1, hq2⟩ := wq7
      refine N_iinc (d := 1) (lv' := [some (.ref 5), some (.ref 1), some (.ref h), some (.int (nI nx)), some (.int (nI (j + 1))), some (.int (nI (cs[j])))]) dX6_punchRepaired_50 rfl rfl ?_
      refine R_goto (tgt := 5) dX6_punchRepaired_53 (by decide) ?_
      exact ih _ _ (j + 1) _ _ (by omega) (by omega) hq1 (hM0.fr hq2 hn hn2) (hT0.fr hq2 (by decide) (by decide)) (hF.trans hq2) hR
    · rw [if_neg h29] at hR
      have hch := ch_lt (c := cs[j]) (p := 0) (by omega)
      rw [prt_in (by omega)]
      refine R_iconst (v := (-1)) dX6_punchRepaired_28 (by decide) ?_
      refine R_icmp_eq (tgt := 44) dX6_punchRepaired_29 (by decide) (fun hc => absurd hc (nI_m1 (by omega))) (fun _ => ?_)
      refine R_aload_n dX6_punchRepaired_32 rfl rfl ?_
      refine R_aload_n dX6_punchRepaired_33 rfl rfl ?_
      refine R_iload_n dX6_punchRepaired_34 rfl rfl ?_
      refine R_calli (As := [.int (nI nx)]) (st := [.ref 5]) kX3_at lX6_75 (m_at (j := nx) (by omega) hM0) rfl Hh dX6_punchRepaired_35 rfl rfl (Nat.le_of_ble_eq_true rfl) ⟨by decide, by decide⟩ zX3_at ⟨Nat.le_refl _, Nat.le_refl _⟩ (fun wr12 wp11 wq10 => ?_)
      obtain ⟨rfl, rfl⟩ : wr12 = _ ∧ hp = wp11 := ⟨wq10.1, wq10.2.symm⟩
      have hx : ms.getD nx 0 < 256 := by
        by_cases hq : nx < ms.length
        · rw [gD hq]; exact hC _ (List.getElem_mem hq)
        · rw [gDn (by omega)]; decide
      refine R_callv (As := [.int (nI (ms.getD nx 0))]) (st := []) kX6_shiftFor lX6_66 (p_shf hx hP) rfl H5 dX6_punchRepaired_38 rfl rfl (Nat.le_of_ble_eq_true rfl) ⟨by decide, by decide⟩ zX6_shiftFor ⟨Nat.le_refl _, Nat.le_refl _⟩ (fun wp14 wq13 => ?_)
      obtain ⟨hq1, hq2⟩ := wq13
      have K5 := hq1.1
      refine N_iinc (d := 1) (lv' := [some (.ref 5), some (.ref 1), some (.ref h), some (.int (nI (nx + 1))), some (.int (nI j)), some (.int (nI (cs[j])))]) dX6_punchRepaired_41 rfl rfl ?_
      refine R_aload_n dX6_punchRepaired_44 rfl rfl ?_
      refine R_iload dX6_punchRepaired_45 rfl ?_
      refine R_callv (As := [.int (nI (cs[j]))]) (st := []) kX6_put lX6_62 (p_put hc3 hq1) rfl K5 dX6_punchRepaired_47 rfl rfl (Nat.le_of_ble_eq_true rfl) ⟨by decide, by decide⟩ zX6_put ⟨Nat.le_refl _, Nat.le_refl _⟩ (fun wp17 wq16 => ?_)
      obtain ⟨hq3, hq4⟩ := wq16
      refine N_iinc (d := 1) (lv' := [some (.ref 5), some (.ref 1), some (.ref h), some (.int (nI (nx + 1))), some (.int (nI (j + 1))), some (.int (nI (cs[j])))]) dX6_punchRepaired_50 rfl rfl ?_
      refine R_goto (tgt := 5) dX6_punchRepaired_53 (by decide) ?_
      exact ih _ _ (j + 1) _ _ (by omega) (by omega) hq3 ((hM0.fr hq2 hn hn2).fr hq4 hn hn2) ((hT0.fr hq2 (by decide) (by decide)).fr hq4 (by decide) (by decide)) ((hF.trans hq2).trans hq4) hR
set_option maxRecDepth 100000 in
set_option maxHeartbeats 4000000 in
theorem p_repaired {h a : Nat} {ms : List Nat} {cs : List Nat} (hn : h ∉ [5, 6, 7]) (hn2 : a ∉ [5, 6, 7]) (hP : PunAt hp V sc un wd) (hM : MsgAt hp h a ms) (hT : TpAt hp 1 2 (cs, sc, un, wd)) : SpV l X mX6_punchRepaired [.ref 5, .ref 1, .ref h] hp (fun hp' => PunAt hp' (rprN un sc ms cs 0 V) sc un wd ∧ Fr [5, 6, 7] hp hp') := by
  refine SpV.of pnX6 (Nat.le_of_ble_eq_true rfl) rfl ?_
  refine R_iconst (v := (nI 0)) dX6_punchRepaired_0 (by decide) ?_
  refine R_istore_n (lv' := [some (.ref 5), some (.ref 1), some (.ref h), some (.int (nI 0)), none, none]) dX6_punchRepaired_1 rfl (by decide) rfl ?_
  refine R_iconst (v := (nI 0)) dX6_punchRepaired_2 (by decide) ?_
  refine R_istore (lv' := [some (.ref 5), some (.ref 1), some (.ref h), some (.int (nI 0)), some (.int (nI 0)), none]) dX6_punchRepaired_3 (by decide) rfl ?_
  exact p_prL hn hn2 cs.length hp V 0 0 _ (by omega) (by omega) hP hM hT Fr.rf rfl
/-- the puncher, as it may stand between two calls -/
def PunX (hp : HPt) : Prop := ∃ (pv rv : Int32) (T : TP), hp[5]? = some (ob 5 [.ref 6, .int pv, .int rv]) ∧ TpAt hp 6 7 T
set_option maxRecDepth 100000 in
set_option maxHeartbeats 4000000 in
theorem p_behind {cs : List Nat} (hP : PunX hp) (hT : TpAt hp 1 2 (cs, sc, un, wd)) : SpV l X mX6_beginBehind [.ref 5, .ref 1] hp (fun hp' => PunAt hp' cs sc un wd ∧ Fr [5, 6, 7] hp hp') := by
  obtain ⟨pv, rv, ⟨cs6, sc6, un6, wd6⟩, H5, hT6⟩ := hP
  have hT0 := hT
  have hT60 := hT6
  obtain ⟨f6, H6, -⟩ := hT60
  obtain ⟨f2, Hg, Hb, hf2, gL, gC, gs, gu, gw1, gw2⟩ := hT
  refine SpV.of pnX6 (Nat.le_of_ble_eq_true rfl) rfl ?_
  refine R_aload_n dX6_beginBehind_0 rfl rfl ?_
  refine R_getf dX6_beginBehind_1 gX6_12 H5 rfl ?_
  refine R_aload_n dX6_beginBehind_4 rfl rfl ?_
  refine R_callv (As := [.ref 1]) (st := []) kX9_become lX6_26 (t_become hT6 hT0 (by decide) (by decide)) rfl H6 dX6_beginBehind_5 rfl rfl (Nat.le_of_ble_eq_true rfl) ⟨by decide, by decide⟩ zX9_become ⟨Nat.le_refl _, Nat.le_refl _⟩ (fun wp2 wq1 => ?_)
  obtain ⟨hq1, hq2⟩ := wq1
  have K5 := hq2.at (j := 5) (by decide) H5
  have K1 := hq2.at (j := 1) (by decide) Hg
  have hT1 := hT0.fr hq2 (by decide) (by decide)
  refine R_aload_n dX6_beginBehind_8 rfl rfl ?_
  refine R_aload_n dX6_beginBehind_9 rfl rfl ?_
  refine R_aload_n dX6_beginBehind_10 rfl rfl ?_
  refine R_getf dX6_beginBehind_11 gX6_30 K1 rfl ?_
  refine R_calli (As := [.int (nI (cs.length))]) (st := [.ref 5]) kX9_caseBefore lX6_33 (t_caseBefore (i := cs.length) (by omega) hT1) rfl K1 dX6_beginBehind_14 rfl rfl (Nat.le_of_ble_eq_true rfl) ⟨by decide, by decide⟩ zX9_caseBefore ⟨Nat.le_refl _, Nat.le_refl _⟩ (fun wr6 wp5 wq4 => ?_)
  obtain ⟨rfl, rfl⟩ : wr6 = _ ∧ wp2 = wp5 := ⟨wq4.1, wq4.2.symm⟩
  refine W_puti (fs' := [.ref 6, .int (nI (cAt un sc cs cs.length)), .int (rv)]) dX6_beginBehind_17 pX6_18 K5 (Nat.le_of_ble_eq_true rfl) rfl (fun wp7 wH8 wE9 => ?_)
  have wH10 := (wE9 1 (by decide)).trans K1
  have wF11 : Fr [5] wp2 wp7 := Fr.one wE9 (by simp)
  refine R_aload_n dX6_beginBehind_20 rfl rfl ?_
  refine R_iconst (v := (nI 0)) dX6_beginBehind_21 (by decide) ?_
  refine W_putz (fs' := [.ref 6, .int (nI (cAt un sc cs cs.length)), .int (nI 0)]) dX6_beginBehind_22 pX6_22 wH8 (Nat.le_of_ble_eq_true rfl) rfl rfl rfl (fun wp12 wH13 wE14 => ?_)
  have wH15 := (wE14 1 (by decide)).trans wH10
  have wF16 : Fr [5] wp2 wp12 := wF11.trans (Fr.one wE14 (by simp))
  refine R_retv dX6_beginBehind_25 rfl rfl rfl ⟨⟨?_, ?_, gC, gs, gu⟩, (hq2.mono (by decide)).trans (wF16.mono (by decide))⟩
  · rw [← cAt_n (i := cs.length) (Nat.le_refl _), decide_eq_false (by omega)]; exact wH13
  · rw [List.take_of_length_le gL]; exact hq1.fr wF16 (by decide) (by decide)
set_option maxRecDepth 100000 in
set_option maxHeartbeats 4000000 in
theorem p_anew {cs : List Nat} (hP : PunX hp) (hT : TpAt hp 1 2 (cs, sc, un, wd)) : SpV l X mX6_beginAnew [.ref 5, .ref 1] hp (fun hp' => PunAt hp' [] sc un wd ∧ Fr [5, 6, 7] hp hp') := by
  obtain ⟨pv, rv, ⟨cs6, sc6, un6, wd6⟩, H5, hT6⟩ := hP
  have hT0 := hT
  have hT60 := hT6
  obtain ⟨f6, H6, -⟩ := hT60
  obtain ⟨f2, Hg, Hb, hf2, gL, gC, gs, gu, gw1, gw2⟩ := hT
  refine SpV.of pnX6 (Nat.le_of_ble_eq_true rfl) rfl ?_
  refine R_aload_n dX6_beginAnew_0 rfl rfl ?_
  refine R_getf dX6_beginAnew_1 gX6_12 H5 rfl ?_
  refine R_aload_n dX6_beginAnew_4 rfl rfl ?_
  refine R_callv (As := [.ref 1]) (st := []) kX9_takeSettings lX6_37 (t_takeSettings hT6 hT0 (by decide) (by decide)) rfl H6 dX6_beginAnew_5 rfl rfl (Nat.le_of_ble_eq_true rfl) ⟨by decide, by decide⟩ zX9_takeSettings ⟨Nat.le_refl _, Nat.le_refl _⟩ (fun wp2 wq1 => ?_)
  obtain ⟨hq1, hq2⟩ := wq1
  have K5 := hq2.at (j := 5) (by decide) H5
  have K1 := hq2.at (j := 1) (by decide) Hg
  obtain ⟨f8, K6, K7, -⟩ := hq1
  refine R_aload_n dX6_beginAnew_8 rfl rfl ?_
  refine R_getf dX6_beginAnew_9 gX6_12 K5 rfl ?_
  refine R_iconst (v := (nI 0)) dX6_beginAnew_12 (by decide) ?_
  refine W_puti (fs' := [.ref 7, .int (nI 0), .int (nI sc), .int (nI un), .int (nI wd)]) dX6_beginAnew_13 pX6_30 K6 (Nat.le_of_ble_eq_true rfl) rfl (fun wp4 wH5 wE6 => ?_)
  have wH7 := (wE6 5 (by decide)).trans K5
  have wH8 := (wE6 1 (by decide)).trans K1
  have wH9 := (wE6 7 (by decide)).trans K7
  have wF10 : Fr [5, 6] wp2 wp4 := Fr.one wE6 (by simp)
  refine R_aload_n dX6_beginAnew_16 rfl rfl ?_
  refine R_aload_n dX6_beginAnew_17 rfl rfl ?_
  refine R_getf dX6_beginAnew_18 gX6_40 wH8 rfl ?_
  refine W_puti (fs' := [.ref 6, .int (nI sc), .int (rv)]) dX6_beginAnew_21 pX6_18 wH7 (Nat.le_of_ble_eq_true rfl) rfl (fun wp11 wH12 wE13 => ?_)
  have wH14 := (wE13 1 (by decide)).trans wH8
  have wH15 := (wE13 6 (by decide)).trans wH5
  have wH16 := (wE13 7 (by decide)).trans wH9
  have wF17 : Fr [5, 6] wp2 wp11 := wF10.trans (Fr.one wE13 (by simp))
  refine R_aload_n dX6_beginAnew_24 rfl rfl ?_
  refine R_iconst (v := (nI 0)) dX6_beginAnew_25 (by decide) ?_
  refine W_putz (fs' := [.ref 6, .int (nI sc), .int (nI 0)]) dX6_beginAnew_26 pX6_22 wH12 (Nat.le_of_ble_eq_true rfl) rfl rfl rfl (fun wp18 wH19 wE20 => ?_)
  have wH21 := (wE20 1 (by decide)).trans wH14
  have wH22 := (wE20 6 (by decide)).trans wH15
  have wH23 := (wE20 7 (by decide)).trans wH16
  have wF24 : Fr [5, 6] wp2 wp18 := wF17.trans (Fr.one wE20 (by simp))
  exact R_retv dX6_beginAnew_29 rfl rfl rfl ⟨⟨wH19, ⟨f8, wH22, wH23, fun i hi => absurd hi (by simp), Nat.zero_le _, fun x hx => by simp at hx, gs, gu, gw1, gw2⟩, fun x hx => by simp at hx, gs, gu⟩, (hq2.mono (by decide)).trans (wF24.mono (by decide))⟩
end P20
