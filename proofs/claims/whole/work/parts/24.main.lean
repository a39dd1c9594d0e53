/-! The class TeleprinterTape: what it is, and what each call answers and makes of it -/
def CfX (hp : HPt) : Prop := ∃ a b c d : Int64, hp[58]? = some (ob 0 [.long a, .long b, .long c, .long d])
theorem PunX.fr {hp hp' : HPt} {L : List Nat} (H : PunX hp) (F : Fr L hp hp') (h1 : 5 ∉ L) (h2 : 6 ∉ L) (h3 : 7 ∉ L) : PunX hp' := by
  obtain ⟨a, b, T, A, B⟩ := H
  exact ⟨a, b, T, F.at h1 A, B.fr F h2 h3⟩
theorem PunAt.x {hp : HPt} {V : List Nat} {sc un wd : Nat} (H : PunAt hp V sc un wd) : PunX hp := ⟨_, _, _, H.1, H.2.1⟩
theorem PgX.fr {hp hp' : HPt} {L : List Nat} (H : PgX hp) (F : Fr L hp hp') (h1 : 53 ∉ L) (h2 : 54 ∉ L) : PgX hp' := by
  obtain ⟨f, a, b, c, A, B⟩ := H
  exact ⟨f, a, b, c, F.at h1 A, F.at h2 B⟩
theorem PgAt.x {hp : HPt} {wd : Nat} {s : PG} (H : PgAt hp wd s) : PgX hp := by
  obtain ⟨p, r, co, k⟩ := s
  obtain ⟨f, A, B, -⟩ := H
  exact ⟨f, _, _, _, A, B⟩
theorem CfX.fr {hp hp' : HPt} {L : List Nat} (H : CfX hp) (F : Fr L hp hp') (h1 : 58 ∉ L) : CfX hp' := by
  obtain ⟨a, b, c, d, A⟩ := H
  exact ⟨a, b, c, d, F.at h1 A⟩
theorem ScrX.fr {hp hp' : HPt} {L : List Nat} (H : ScrX hp) (F : Fr L hp hp') (h1 : 59 ∉ L) (h2 : 60 ∉ L) : ScrX hp' := by
  obtain ⟨f, c, A, B⟩ := H
  exact ⟨f, c, F.at h1 A, F.at h2 B⟩
theorem ScrAt.x {hp : HPt} {gs : List Nat} (H : ScrAt hp gs) : ScrX hp := by
  obtain ⟨f, A, B, -⟩ := H
  exact ⟨f, _, A, B⟩
/-- the state of the document: message, tape, what is remembered, the slots, the observations and where the next one goes -/
abbrev AS : Type := List Nat × TP × List TP × Option TP × Option TP × List (Nat × Nat) × Nat
def CI (hp : HPt) (A : AS) : Prop := match A with
  | (ms, T, hs, s0, s1, os, ox) => ∃ nx, hp[0]? = some (ob 10 [.ref 1, .ref 3, .ref 5, .ref 8, .ref 10, .ref 40, .ref 47, .ref 50, .ref 53, .ref 55, .ref 58, .ref 59]) ∧ TpAt hp 1 2 T ∧ (∃ T3, TpAt hp 3 4 T3) ∧ PunX hp ∧ MsgAt hp 8 9 ms ∧ HisAt hp hs nx ∧ SlAt hp s0 s1 ∧ (∃ ts, TxAt hp 47 48 49 ts) ∧ (∃ ts, TxAt hp 50 51 52 ts) ∧ PgX hp ∧ ObsAt hp os ox ∧ CfX hp ∧ ScrX hp
def LC : List Nat := List.range 61
def inW (v : Int32) (a b : Nat) : Bool := decide ((a : Int) ≤ v.toInt) && decide (v.toInt ≤ (b : Int))
def vN (v : Int32) : Nat := v.toNatClampNeg
theorem vN_n {j : Nat} (h : j < 2 ^ 31) : vN (nI j) = j := nI_clamp h
theorem inW_t {v : Int32} {a b : Nat} (hb : b < 2 ^ 31) (h : inW v a b = true) : ∃ j : Nat, a ≤ j ∧ j ≤ b ∧ v = nI j := by
  unfold inW at h
  rw [Bool.and_eq_true, decide_eq_true_eq, decide_eq_true_eq] at h
  obtain ⟨j, hj, rfl⟩ := nI_of (x := v) (fun z => by
    have := Int32.lt_iff_toInt_lt.mp z
    have z0 : (0 : Int32).toInt = 0 := by decide
    omega)
  rw [nI_toInt hj] at h
  exact ⟨j, by omega, by omega, rfl⟩
theorem inW_n {j a b : Nat} (hj : j < 2 ^ 31) : inW (nI j) a b = (decide (a ≤ j) && decide (j ≤ b)) := by
  unfold inW
  rw [nI_toInt hj]
  congr 1 <;> simp
/-! the calls -/
def psh (A : AS) (T' : TP) : AS := match A with
  | (ms, T, hs, r) => (ms, T', T :: hs.take 13, r)
def f_append (A : AS) (c : Int32) : Int32 × AS := match A with
  | (ms, r) => if inW c 0 255 = true then (if ms.length < 60 then (nI (ms.length + 1), (ms ++ [vN c], r)) else (-4, A)) else (-2, A)
def f_clear (A : AS) : Int32 × AS := match A with
  | (ms, r) => (nI ms.length, ([], r))
def f_err (A : AS) : Int32 × AS := (errG A.1 0, A)
def f_len (A : AS) : Int32 × AS := (nI A.2.1.1.length, A)
def f_code (A : AS) (i : Int32) : Int32 × AS := match A with
  | (_, (cs, _, _, _), _) => (if inB i cs.length = true then nI (cs.getD (vN i) 31) else -1, A)
def f_case (A : AS) (i : Int32) : Int32 × AS := match A with
  | (_, (cs, sc, un, _), _) => (if inB i cs.length = true then nI (cAt un sc cs (vN i)) else -1, A)
def f_plen (A : AS) : Int32 × AS := match A with
  | (_, (cs, sc, un, _), _) => (nI (txt un sc cs).length, A)
def f_pat (A : AS) (i : Int32) : Int32 × AS := match A with
  | (_, (cs, sc, un, _), _) => (if inB i (txt un sc cs).length = true then nI ((txt un sc cs).getD (vN i) 0) else -1, A)
def f_punch (A : AS) (c : Int32) : Int32 × AS := match A with
  | (_, (cs, sc, un, wd), _) => if inW c 0 31 = true then (if cs.length < 96 then (nI (cs.length + 1), psh A (cs ++ [vN c], sc, un, wd)) else (-4, A)) else (-2, A)
def f_take (A : AS) (V : List Nat) (r : Int32) : Int32 × AS := match A with
  | (_, (_, sc, un, wd), _) => if V.length ≤ 96 then (r, psh A (V, sc, un, wd)) else (-4, A)
def f_enc (A : AS) : Int32 × AS := match A with
  | (ms, (cs, sc, un, _), _) => if aEnc ms = true then f_take A (encR un sc cs ms) (nI (encR un sc cs ms).length) else (-3, A)
def f_wrap (A : AS) : Int32 × AS := match A with
  | (ms, (cs, sc, un, wd), _) => if aEnc ms = true then f_take A (wrpN un sc wd ms ms.length 0 cs 0) (nI (wrpN un sc wd ms ms.length 0 cs 0).length) else (-3, A)
def f_rem (A : AS) (i : Int32) : Int32 × AS := match A with
  | (_, (cs, sc, un, wd), _) => if inB i cs.length = true then (nI (cs.getD (vN i) 0), psh A (cs.eraseIdx (vN i), sc, un, wd)) else (-1, A)
def f_flip (A : AS) (i b : Int32) : Int32 × AS := match A with
  | (_, (cs, sc, un, wd), _) => if inB i cs.length = true then (if inW b 0 4 = true then (nI (cs.getD (vN i) 0 ^^^ 2 ^ vN b), psh A (cs.set (vN i) (cs.getD (vN i) 0 ^^^ 2 ^ vN b), sc, un, wd)) else (-2, A)) else (-1, A)
def f_comp (A : AS) : Int32 × AS := match A with
  | (_, (cs, sc, un, wd), _) => (nI (cs.length - (cmpN un sc cs.length cs 0).length), psh A (cmpN un sc cs.length cs 0, sc, un, wd))
def f_rep (A : AS) : Int32 × AS := match A with
  | (ms, (cs, sc, un, _), _) => if (decide ((txt un sc cs).length = ms.length) && rdG ms cs 0) = true then f_take A (rprN un sc ms cs 0 []) (nI (rprN un sc ms cs 0 []).length - nI cs.length) else (-3, A)
def f_start (A : AS) (v : Int32) : Int32 × AS := match A with
  | (_, (cs, sc, un, wd), _) => if inW v 0 1 = true then (nI sc, psh A (cs, vN v, un, wd)) else (-2, A)
def f_opt (A : AS) (v : Int32) : Int32 × AS := match A with
  | (_, (cs, sc, un, wd), _) => if inW v 0 1 = true then (nI un, psh A (cs, sc, vN v, wd)) else (-2, A)
def f_wid (A : AS) (v : Int32) : Int32 × AS := match A with
  | (_, (cs, sc, un, wd), _) => if inW v 5 40 = true then (nI wd, psh A (cs, sc, un, vN v)) else (-2, A)
def f_undo (A : AS) : Int32 × AS := match A with
  | (_, _, [], _) => (-3, A)
  | (ms, _, T :: hs, r) => (nI hs.length, (ms, T, hs, r))
def f_cell (A : AS) (i j : Int32) : Int32 × AS := match A with
  | (_, (cs, sc, un, wd), _) => (if (inW i 0 7 && inW j 0 (wd - 1)) = true then nI ((pgL wd (txt un sc cs)).1 (vN i * 40 + vN j)) else -1, A)
def f_over (A : AS) : Int32 × AS := match A with
  | (_, (cs, sc, un, wd), _) => (nI (pgL wd (txt un sc cs)).2.2.2, A)
def f_lost (A : AS) (i : Int32) : Int32 × AS := match A with
  | (_, (cs, sc, un, _), _) => (if inB i cs.length = true then nI (lossD un sc cs (vN i)) else -1, A)
def f_dfl (A : AS) (i b : Int32) : Int32 × AS := match A with
  | (_, (cs, sc, un, _), _) => (if inB i cs.length = true then (if inW b 0 4 = true then nI (diffC un sc sc cs (cs.set (vN i) (cs.getD (vN i) 0 ^^^ 2 ^ vN b))) else -2) else -1, A)
def f_run (A : AS) (n : Int32) (s : Int64) : Int32 × AS := match A with
  | (_, T, _) => (if inW n 1 4 = true ∧ ¬ s < 0 ∧ s.toInt.toNat < 1000 ^ vN n then scrF T (grp s.toInt.toNat (vN n)) 0 else -2, A)
def f_obs (A : AS) (i c : Int32) : Int32 × AS := match A with
  | (ms, T, hs, s0, s1, os, ox) => if (inW i 0 95 && inW c 0 255) = true then (nI (obsP os ox (vN i, vN c)).length, (ms, T, hs, s0, s1, obsP os ox (vN i, vN c), (ox + 1) % 6)) else (-2, A)
def psb (os : List (Nat × Nat)) (cs : List Nat) (k : Nat) : Nat := if obsH (txt (k / 2) (k % 2) cs) os = true then 2 ^ k else 0
def f_poss (A : AS) : Int32 × AS := match A with
  | (_, (cs, _, _, _), _, _, _, os, _) => (nI (psb os cs 0 + psb os cs 1 + psb os cs 2 + psb os cs 3), A)
def f_noise (A : AS) (x : Int64) (m : Int32) : Int32 × AS := match A with
  | (_, (cs, sc, un, _), _) => (if inW m 1 60 = true then nI (diffC un sc sc cs (if cs.length = 0 then cs else noi (vN m) x cs)) else -2, A)
def f_save (A : AS) (j : Int32) : Int32 × AS := match A with
  | (ms, T, hs, s0, s1, r) => if inB j 2 = true then (nI T.1.length, if vN j = 0 then (ms, T, hs, some T, s1, r) else (ms, T, hs, s0, some T, r)) else (-1, A)
def f_rest (A : AS) (j : Int32) : Int32 × AS := match A with
  | (ms, _, _, s0, s1, r) => if inB j 2 = true then (match slG s0 s1 (vN j) with
    | none => (-3, A)
    | some T => (nI T.1.length, (ms, T, [], s0, s1, r))) else (-1, A)
def f_dist (A : AS) (j : Int32) : Int32 × AS := match A with
  | (_, (cs, sc, un, _), _, s0, s1, _) => (if inB j 2 = true then (match slG s0 s1 (vN j) with
    | none => -3
    | some (ds, sc2, un2, _) => nI (lev (txt un sc cs) (txt un2 sc2 ds))) else -1, A)
section X24
variable {l : Launch} {X : EX} {hp : HPt}
theorem W_lt {v : Int32} {a b : Nat} (ha : a < 2 ^ 31) (h : v < nI a) : inW v a b = false := by
  unfold inW
  have := Int32.lt_iff_toInt_lt.mp h
  rw [nI_toInt ha] at this
  rw [decide_eq_false (by omega)]; rfl
theorem W_gt {v : Int32} {a b : Nat} (hb : b < 2 ^ 31) (h : nI b < v) : inW v a b = false := by
  unfold inW
  have := Int32.lt_iff_toInt_lt.mp h
  rw [nI_toInt hb] at this
  rw [decide_eq_false (p := v.toInt ≤ b) (by omega), Bool.and_false]
theorem W_in {v : Int32} {a b : Nat} (ha : a < 2 ^ 31) (hb : b < 2 ^ 31) (h : ¬ v < nI a) (h2 : ¬ nI b < v) : inW v a b = true := by
  unfold inW
  have h3 := Int32.le_iff_toInt_le.mp (Int32.not_lt.mp h)
  have h4 := Int32.le_iff_toInt_le.mp (Int32.not_lt.mp h2)
  rw [nI_toInt ha] at h3
  rw [nI_toInt hb] at h4
  rw [decide_eq_true h3, decide_eq_true h4]; rfl
set_option maxRecDepth 100000 in
set_option maxHeartbeats 4000000 in
theorem x_within {v : Int32} {a b : Nat} (ha : a < 2 ^ 31) (hb : b < 2 ^ 31) : SpI l X mX11_isWithin [.int v, .int (nI a), .int (nI b)] hp (fun r hp' => r = bz (inW v a b) ∧ hp' = hp) := by
  refine SpI.of pnX11 (Nat.le_of_ble_eq_true rfl) rfl ?_
  refine R_iload_n dX11_isWithin_0 rfl rfl ?_
  refine R_iload_n dX11_isWithin_1 rfl rfl ?_
  refine R_icmp_lt (tgt := 14) dX11_isWithin_2 (by decide) (fun h0 => ?_) (fun h0 => ?_)
  · refine R_iconst (v := (nI 0)) dX11_isWithin_14 (by decide) ?_
    exact R_retz dX11_isWithin_15 rfl rfl rfl rfl ⟨by rw [W_lt ha h0]; rfl, rfl⟩
  · refine R_iload_n dX11_isWithin_5 rfl rfl ?_
    refine R_iload_n dX11_isWithin_6 rfl rfl ?_
    refine R_icmp_gt (tgt := 14) dX11_isWithin_7 (by decide) (fun h1 => ?_) (fun h1 => ?_)
    · refine R_iconst (v := (nI 0)) dX11_isWithin_14 (by decide) ?_
      exact R_retz dX11_isWithin_15 rfl rfl rfl rfl ⟨by rw [W_gt hb h1]; rfl, rfl⟩
    · refine R_iconst (v := (nI 1)) dX11_isWithin_10 (by decide) ?_
      refine R_goto (tgt := 15) dX11_isWithin_11 (by decide) ?_
      exact R_retz dX11_isWithin_15 rfl rfl rfl rfl ⟨by rw [W_in ha hb h0 h1]; rfl, rfl⟩
set_option maxRecDepth 100000 in
set_option maxHeartbeats 4000000 in
theorem x_isBit {v : Int32} : SpI l X mX11_isBit [.int v] hp (fun r hp' => r = bz (inW v 0 4) ∧ hp' = hp) := by
  refine SpI.of pnX11 (Nat.le_of_ble_eq_true rfl) rfl ?_
  refine R_iload_n dX11_isBit_0 rfl rfl ?_
  refine R_iconst (v := (nI 0)) dX11_isBit_1 (by decide) ?_
  refine R_iconst (v := (nI 4)) dX11_isBit_2 (by decide) ?_
  refine R_stati (As := [.int (v), .int (nI 0), .int (nI 4)]) (st := []) kX11_isWithin lX11_85 (x_within (by decide) (by decide)) dX11_isBit_3 rfl rfl (Nat.le_of_ble_eq_true rfl) ⟨by decide, by decide⟩ zX11_isWithin ⟨Nat.le_refl _, Nat.le_refl _⟩ (fun wr3 wp2 wq1 => ?_)
  obtain ⟨rfl, rfl⟩ : wr3 = _ ∧ hp = wp2 := ⟨wq1.1, wq1.2.symm⟩
  exact R_retz dX11_isBit_6 rfl (bz_n _) rfl rfl ⟨rfl, rfl⟩
set_option maxRecDepth 100000 in
set_option maxHeartbeats 4000000 in
theorem x_append {ms : List Nat} {cs : List Nat} {sc un wd : Nat} {hs : List TP} {s0 s1 : Option TP} {os : List (Nat × Nat)} {ox : Nat} {c : Int32} (hC : CI hp (ms, (cs, sc, un, wd), hs, s0, s1, os, ox)) : SpI l X mX11_append [.ref 0, .int (c)] hp (fun r hp' => r = (f_append (ms, (cs, sc, un, wd), hs, s0, s1, os, ox) c).1 ∧ CI hp' (f_append (ms, (cs, sc, un, wd), hs, s0, s1, os, ox) c).2 ∧ Fr LC hp hp') := by
  obtain ⟨nx, C0, CT, ⟨⟨cs3, sc3, un3, wd3⟩, C3⟩, CP, CM, CH, CS, ⟨tx, CX⟩, ⟨ty, CY⟩, CG, CO, CF, CR⟩ := hC
  obtain ⟨ft, KT, KT2, hft, hL, hC3, hs1, hu1, hw1, hw2⟩ := id CT
  refine SpI.of pnX11 (Nat.le_of_ble_eq_true rfl) rfl ?_
  refine R_iload_n dX11_append_0 rfl rfl ?_
  refine R_iconst (v := (nI 0)) dX11_append_1 (by decide) ?_
  refine R_sipush (v := (nI 255)) dX11_append_2 (by decide) ?_
  refine R_stati (As := [.int (c), .int (nI 0), .int (nI 255)]) (st := []) kX11_isWithin lX11_85 (x_within (by decide) (by decide)) dX11_append_5 rfl rfl (Nat.le_of_ble_eq_true rfl) ⟨by decide, by decide⟩ zX11_isWithin ⟨Nat.le_refl _, Nat.le_refl _⟩ (fun wr3 wp2 wq1 => ?_)
  obtain ⟨rfl, rfl⟩ : wr3 = _ ∧ hp = wp2 := ⟨wq1.1, wq1.2.symm⟩
  cases hw4 : inW c 0 255 with
  | false =>
    show PZ _ _ _ _ _ _ (.int (nI 0) :: _) _ _ _
    refine N_if_ne (tgt := 14) dX11_append_8 (by decide) (by decide) (fun hc => absurd hc (by decide)) (fun _ => ?_)
    have hf : f_append (ms, (cs, sc, un, wd), hs, s0, s1, os, ox) c = (-2, (ms, (cs, sc, un, wd), hs, s0, s1, os, ox)) := by unfold f_append; dsimp only; rw [hw4]; rfl
    refine R_bipush (v := (-2)) dX11_append_11 (by decide) ?_
    rw [hf]
    exact R_reti dX11_append_13 rfl rfl rfl ⟨rfl, ⟨nx, C0, CT, ⟨_, C3⟩, CP, CM, CH, CS, ⟨_, CX⟩, ⟨_, CY⟩, CG, CO, CF, CR⟩, (Fr.rf (L := LC) (hp := hp))⟩
  | true =>
    show PZ _ _ _ _ _ _ (.int (nI 1) :: _) _ _ _
    obtain ⟨j, -, hj, rfl⟩ := inW_t (by decide) hw4
    refine N_if_ne (tgt := 14) dX11_append_8 (by decide) (by decide) (fun _ => ?_) (fun hc => absurd hc (by decide))
    refine R_aload_n dX11_append_14 rfl rfl ?_
    refine R_getf dX11_append_15 gX11_29 C0 rfl ?_
    refine R_iload_n dX11_append_18 rfl rfl ?_
    by_cases hl : ms.length < 60
    · obtain ⟨y6, K5, -⟩ := id CM
      refine R_calli (As := [.int (nI j)]) (st := []) kX3_add lX11_89 (m_add (c := j) (by omega) hl CM) rfl K5 dX11_append_19 rfl rfl (Nat.le_of_ble_eq_true rfl) ⟨by decide, by decide⟩ zX3_add ⟨Nat.le_refl _, Nat.le_refl _⟩ (fun wr9 wp8 wq7 => ?_)
      obtain ⟨rfl, hq1, hq2⟩ := wq7
      have c10 := hq2.at (by decide) C0
      have c11 := CT.fr hq2 (by decide) (by decide)
      have c12 := C3.fr hq2 (by decide) (by decide)
      have c13 := CP.fr hq2 (by decide) (by decide) (by decide)
      have c14 := CH.fr hq2 (by decide) (by decide)
      have c15 := CS.fr hq2 (by decide)
      have c16 := CX.fr hq2 (by decide) (by decide) (by decide)
      have c17 := CY.fr hq2 (by decide) (by decide) (by decide)
      have c18 := CG.fr hq2 (by decide) (by decide)
      have c19 := CO.fr hq2 (by decide) (by decide) (by decide)
      have c20 := CF.fr hq2 (by decide)
      have c21 := CR.fr hq2 (by decide) (by decide)
      have FF22 : Fr LC hp wp8 := (Fr.rf (L := LC) (hp := hp)).trans (hq2.mono (by decide))
      refine N_if_eq (tgt := 35) dX11_append_22 (by decide) (by decide) (fun hc => absurd hc (by decide)) (fun _ => ?_)
      have hf : f_append (ms, (cs, sc, un, wd), hs, s0, s1, os, ox) (nI j) = (nI (ms ++ [j]).length, (ms ++ [j], (cs, sc, un, wd), hs, s0, s1, os, ox)) := by unfold f_append; dsimp only; rw [hw4, if_pos rfl, if_pos hl, vN_n (by omega), List.length_append]; rfl
      refine R_aload_n dX11_append_25 rfl rfl ?_
      refine R_getf dX11_append_26 gX11_29 c10 rfl ?_
      obtain ⟨y24, K23, -⟩ := id hq1
      refine R_getf dX11_append_29 gX11_93 K23 rfl ?_
      refine R_goto (tgt := 37) dX11_append_32 (by decide) ?_
      rw [hf]
      exact R_reti dX11_append_37 rfl rfl rfl ⟨rfl, ⟨nx, c10, c11, ⟨_, c12⟩, c13, hq1, c14, c15, ⟨_, c16⟩, ⟨_, c17⟩, c18, c19, c20, c21⟩, FF22⟩
    · obtain ⟨y26, K25, -⟩ := id CM
      refine R_calli (As := [.int (nI j)]) (st := []) kX3_add lX11_89 (m_addF (c := j) (by omega) CM) rfl K25 dX11_append_19 rfl rfl (Nat.le_of_ble_eq_true rfl) ⟨by decide, by decide⟩ zX3_add ⟨Nat.le_refl _, Nat.le_refl _⟩ (fun wr29 wp28 wq27 => ?_)
      obtain ⟨rfl, rfl⟩ : wr29 = _ ∧ hp = wp28 := ⟨wq27.1, wq27.2.symm⟩
      refine N_if_eq (tgt := 35) dX11_append_22 (by decide) (by decide) (fun _ => ?_) (fun hc => absurd hc (by decide))
      have hf : f_append (ms, (cs, sc, un, wd), hs, s0, s1, os, ox) (nI j) = (-4, (ms, (cs, sc, un, wd), hs, s0, s1, os, ox)) := by unfold f_append; dsimp only; rw [hw4, if_pos rfl, if_neg hl]
      refine R_bipush (v := (-4)) dX11_append_35 (by decide) ?_
      rw [hf]
      exact R_reti dX11_append_37 rfl rfl rfl ⟨rfl, ⟨nx, C0, CT, ⟨_, C3⟩, CP, CM, CH, CS, ⟨_, CX⟩, ⟨_, CY⟩, CG, CO, CF, CR⟩, (Fr.rf (L := LC) (hp := hp))⟩
set_option maxRecDepth 100000 in
set_option maxHeartbeats 4000000 in
theorem x_clear {ms : List Nat} {cs : List Nat} {sc un wd : Nat} {hs : List TP} {s0 s1 : Option TP} {os : List (Nat × Nat)} {ox : Nat} (hC : CI hp (ms, (cs, sc, un, wd), hs, s0, s1, os, ox)) : SpI l X mX11_clearMessage [.ref 0] hp (fun r hp' => r = (f_clear (ms, (cs, sc, un, wd), hs, s0, s1, os, ox)).1 ∧ CI hp' (f_clear (ms, (cs, sc, un, wd), hs, s0, s1, os, ox)).2 ∧ Fr LC hp hp') := by
  obtain ⟨nx, C0, CT, ⟨⟨cs3, sc3, un3, wd3⟩, C3⟩, CP, CM, CH, CS, ⟨tx, CX⟩, ⟨ty, CY⟩, CG, CO, CF, CR⟩ := hC
  obtain ⟨ft, KT, KT2, hft, hL, hC3, hs1, hu1, hw1, hw2⟩ := id CT
  refine SpI.of pnX11 (Nat.le_of_ble_eq_true rfl) rfl ?_
  obtain ⟨fm, KM, KM2, hfm, hmL, hmC⟩ := id CM
  refine R_aload_n dX11_clearMessage_0 rfl rfl ?_
  refine R_getf dX11_clearMessage_1 gX11_29 C0 rfl ?_
  refine R_getf dX11_clearMessage_4 gX11_93 KM rfl ?_
  refine R_istore_n (lv' := [some (.ref 0), some (.int (nI (ms.length)))]) dX11_clearMessage_7 rfl (by decide) rfl ?_
  refine R_aload_n dX11_clearMessage_8 rfl rfl ?_
  refine R_getf dX11_clearMessage_9 gX11_29 C0 rfl ?_
  refine R_iconst (v := (nI 0)) dX11_clearMessage_12 (by decide) ?_
  refine W_puti (fs' := [.ref 9, .int (nI 0)]) dX11_clearMessage_13 pX11_93 KM (Nat.le_of_ble_eq_true rfl) rfl (fun wp1 wH2 wE3 => ?_)
  have wH4 := (wE3 0 (by decide)).trans C0
  have wH5 := (wE3 9 (by decide)).trans KM2
  have wF6 : Fr [8] hp wp1 := Fr.one wE3 (by simp)
  refine R_iload_n dX11_clearMessage_16 rfl rfl ?_
  have cm9 : MsgAt wp1 8 9 [] := ⟨fm, wH2, wH5, fun i hi => absurd hi (by simp), Nat.zero_le _, fun x hx => by simp at hx⟩
  have c7 := wF6.at (by decide) C0
  have c8 := CT.fr wF6 (by decide) (by decide)
  have c9 := C3.fr wF6 (by decide) (by decide)
  have c10 := CP.fr wF6 (by decide) (by decide) (by decide)
  have c11 := CH.fr wF6 (by decide) (by decide)
  have c12 := CS.fr wF6 (by decide)
  have c13 := CX.fr wF6 (by decide) (by decide) (by decide)
  have c14 := CY.fr wF6 (by decide) (by decide) (by decide)
  have c15 := CG.fr wF6 (by decide) (by decide)
  have c16 := CO.fr wF6 (by decide) (by decide) (by decide)
  have c17 := CF.fr wF6 (by decide)
  have c18 := CR.fr wF6 (by decide) (by decide)
  have FF19 : Fr LC hp wp1 := (Fr.rf (L := LC) (hp := hp)).trans (wF6.mono (by decide))
  skip
  exact R_reti dX11_clearMessage_17 rfl rfl rfl ⟨rfl, ⟨nx, c7, c8, ⟨_, c9⟩, c10, cm9, c11, c12, ⟨_, c13⟩, ⟨_, c14⟩, c15, c16, c17, c18⟩, FF19⟩
set_option maxRecDepth 100000 in
set_option maxHeartbeats 4000000 in
theorem x_err {ms : List Nat} {cs : List Nat} {sc un wd : Nat} {hs : List TP} {s0 s1 : Option TP} {os : List (Nat × Nat)} {ox : Nat} (hC : CI hp (ms, (cs, sc, un, wd), hs, s0, s1, os, ox)) : SpI l X mX11_errorPosition [.ref 0] hp (fun r hp' => r = (f_err (ms, (cs, sc, un, wd), hs, s0, s1, os, ox)).1 ∧ CI hp' (f_err (ms, (cs, sc, un, wd), hs, s0, s1, os, ox)).2 ∧ Fr LC hp hp') := by
  obtain ⟨nx, C0, CT, ⟨⟨cs3, sc3, un3, wd3⟩, C3⟩, CP, CM, CH, CS, ⟨tx, CX⟩, ⟨ty, CY⟩, CG, CO, CF, CR⟩ := hC
  obtain ⟨ft, KT, KT2, hft, hL, hC3, hs1, hu1, hw1, hw2⟩ := id CT
  refine SpI.of pnX11 (Nat.le_of_ble_eq_true rfl) rfl ?_
  refine R_aload_n dX11_errorPosition_0 rfl rfl ?_
  refine R_getf dX11_errorPosition_1 gX11_29 C0 rfl ?_
  obtain ⟨y2, K1, -⟩ := id CM
  refine R_calli (As := []) (st := []) kX3_firstNotEncodable lX11_97 (m_fne CM) rfl K1 dX11_errorPosition_4 rfl rfl (Nat.le_of_ble_eq_true rfl) ⟨by decide, by decide⟩ zX3_firstNotEncodable ⟨Nat.le_refl _, Nat.le_refl _⟩ (fun wr5 wp4 wq3 => ?_)
  obtain ⟨rfl, rfl⟩ : wr5 = _ ∧ hp = wp4 := ⟨wq3.1, wq3.2.symm⟩
  skip
  exact R_reti dX11_errorPosition_7 rfl rfl rfl ⟨rfl, ⟨nx, C0, CT, ⟨_, C3⟩, CP, CM, CH, CS, ⟨_, CX⟩, ⟨_, CY⟩, CG, CO, CF, CR⟩, (Fr.rf (L := LC) (hp := hp))⟩
set_option maxRecDepth 100000 in
set_option maxHeartbeats 4000000 in
theorem x_len {ms : List Nat} {cs : List Nat} {sc un wd : Nat} {hs : List TP} {s0 s1 : Option TP} {os : List (Nat × Nat)} {ox : Nat} (hC : CI hp (ms, (cs, sc, un, wd), hs, s0, s1, os, ox)) : SpI l X mX11_length [.ref 0] hp (fun r hp' => r = (f_len (ms, (cs, sc, un, wd), hs, s0, s1, os, ox)).1 ∧ CI hp' (f_len (ms, (cs, sc, un, wd), hs, s0, s1, os, ox)).2 ∧ Fr LC hp hp') := by
  obtain ⟨nx, C0, CT, ⟨⟨cs3, sc3, un3, wd3⟩, C3⟩, CP, CM, CH, CS, ⟨tx, CX⟩, ⟨ty, CY⟩, CG, CO, CF, CR⟩ := hC
  obtain ⟨ft, KT, KT2, hft, hL, hC3, hs1, hu1, hw1, hw2⟩ := id CT
  refine SpI.of pnX11 (Nat.le_of_ble_eq_true rfl) rfl ?_
  refine R_aload_n dX11_length_0 rfl rfl ?_
  refine R_getf dX11_length_1 gX11_10 C0 rfl ?_
  obtain ⟨y2, K1, -⟩ := id CT
  refine R_getf dX11_length_4 gX11_101 K1 rfl ?_
  skip
  exact R_reti dX11_length_7 rfl rfl rfl ⟨rfl, ⟨nx, C0, CT, ⟨_, C3⟩, CP, CM, CH, CS, ⟨_, CX⟩, ⟨_, CY⟩, CG, CO, CF, CR⟩, (Fr.rf (L := LC) (hp := hp))⟩
set_option maxRecDepth 100000 in
set_option maxHeartbeats 4000000 in
theorem x_code {ms : List Nat} {cs : List Nat} {sc un wd : Nat} {hs : List TP} {s0 s1 : Option TP} {os : List (Nat × Nat)} {ox : Nat} {i : Int32} (hC : CI hp (ms, (cs, sc, un, wd), hs, s0, s1, os, ox)) : SpI l X mX11_codeAt [.ref 0, .int (i)] hp (fun r hp' => r = (f_code (ms, (cs, sc, un, wd), hs, s0, s1, os, ox) i).1 ∧ CI hp' (f_code (ms, (cs, sc, un, wd), hs, s0, s1, os, ox) i).2 ∧ Fr LC hp hp') := by
  obtain ⟨nx, C0, CT, ⟨⟨cs3, sc3, un3, wd3⟩, C3⟩, CP, CM, CH, CS, ⟨tx, CX⟩, ⟨ty, CY⟩, CG, CO, CF, CR⟩ := hC
  obtain ⟨ft, KT, KT2, hft, hL, hC3, hs1, hu1, hw1, hw2⟩ := id CT
  refine SpI.of pnX11 (Nat.le_of_ble_eq_true rfl) rfl ?_
  refine R_aload_n dX11_codeAt_0 rfl rfl ?_
  refine R_getf dX11_codeAt_1 gX11_10 C0 rfl ?_
  refine R_iload_n dX11_codeAt_4 rfl rfl ?_
  obtain ⟨y2, K1, -⟩ := id CT
  refine R_calli (As := [.int (i)]) (st := []) kX9_has lX11_102 (t_has (i := i) CT) rfl K1 dX11_codeAt_5 rfl rfl (Nat.le_of_ble_eq_true rfl) ⟨by decide, by decide⟩ zX9_has ⟨Nat.le_refl _, Nat.le_refl _⟩ (fun wr5 wp4 wq3 => ?_)
  obtain ⟨rfl, rfl⟩ : wr5 = _ ∧ hp = wp4 := ⟨wq3.1, wq3.2.symm⟩
  cases hb6 : inB i cs.length with
  | false =>
    show PZ _ _ _ _ _ _ (.int (nI 0) :: _) _ _ _
    refine N_if_eq (tgt := 22) dX11_codeAt_8 (by decide) (by decide) (fun _ => ?_) (fun hc => absurd hc (by decide))
    have hf : f_code (ms, (cs, sc, un, wd), hs, s0, s1, os, ox) i = (-1, (ms, (cs, sc, un, wd), hs, s0, s1, os, ox)) := by unfold f_code; dsimp only; rw [hb6]; rfl
    refine R_iconst (v := (-1)) dX11_codeAt_22 (by decide) ?_
    rw [hf]
    exact R_reti dX11_codeAt_23 rfl rfl rfl ⟨rfl, ⟨nx, C0, CT, ⟨_, C3⟩, CP, CM, CH, CS, ⟨_, CX⟩, ⟨_, CY⟩, CG, CO, CF, CR⟩, (Fr.rf (L := LC) (hp := hp))⟩
  | true =>
    show PZ _ _ _ _ _ _ (.int (nI 1) :: _) _ _ _
    obtain ⟨j, hj, rfl⟩ := inB_t (by omega) hb6
    refine N_if_eq (tgt := 22) dX11_codeAt_8 (by decide) (by decide) (fun hc => absurd hc (by decide)) (fun _ => ?_)
    refine R_aload_n dX11_codeAt_11 rfl rfl ?_
    refine R_getf dX11_codeAt_12 gX11_10 C0 rfl ?_
    refine R_iload_n dX11_codeAt_15 rfl rfl ?_
    refine R_calli (As := [.int (nI j)]) (st := []) kX9_at lX11_105 (t_at (j := j) (by omega) CT) rfl K1 dX11_codeAt_16 rfl rfl (Nat.le_of_ble_eq_true rfl) ⟨by decide, by decide⟩ zX9_at ⟨Nat.le_refl _, Nat.le_refl _⟩ (fun wr9 wp8 wq7 => ?_)
    obtain ⟨rfl, rfl⟩ : wr9 = _ ∧ hp = wp8 := ⟨wq7.1, wq7.2.symm⟩
    have hf : f_code (ms, (cs, sc, un, wd), hs, s0, s1, os, ox) (nI j) = (nI (cs.getD j 31), (ms, (cs, sc, un, wd), hs, s0, s1, os, ox)) := by unfold f_code; dsimp only; rw [hb6, vN_n (by omega)]; rfl
    refine R_goto (tgt := 23) dX11_codeAt_19 (by decide) ?_
    rw [hf]
    exact R_reti dX11_codeAt_23 rfl rfl rfl ⟨rfl, ⟨nx, C0, CT, ⟨_, C3⟩, CP, CM, CH, CS, ⟨_, CX⟩, ⟨_, CY⟩, CG, CO, CF, CR⟩, (Fr.rf (L := LC) (hp := hp))⟩
set_option maxRecDepth 100000 in
set_option maxHeartbeats 4000000 in
theorem x_case {ms : List Nat} {cs : List Nat} {sc un wd : Nat} {hs : List TP} {s0 s1 : Option TP} {os : List (Nat × Nat)} {ox : Nat} {i : Int32} (hC : CI hp (ms, (cs, sc, un, wd), hs, s0, s1, os, ox)) : SpI l X mX11_caseAt [.ref 0, .int (i)] hp (fun r hp' => r = (f_case (ms, (cs, sc, un, wd), hs, s0, s1, os, ox) i).1 ∧ CI hp' (f_case (ms, (cs, sc, un, wd), hs, s0, s1, os, ox) i).2 ∧ Fr LC hp hp') := by
  obtain ⟨nx, C0, CT, ⟨⟨cs3, sc3, un3, wd3⟩, C3⟩, CP, CM, CH, CS, ⟨tx, CX⟩, ⟨ty, CY⟩, CG, CO, CF, CR⟩ := hC
  obtain ⟨ft, KT, KT2, hft, hL, hC3, hs1, hu1, hw1, hw2⟩ := id CT
  refine SpI.of pnX11 (Nat.le_of_ble_eq_true rfl) rfl ?_
  refine R_aload_n dX11_caseAt_0 rfl rfl ?_
  refine R_getf dX11_caseAt_1 gX11_10 C0 rfl ?_
  refine R_iload_n dX11_caseAt_4 rfl rfl ?_
  obtain ⟨y2, K1, -⟩ := id CT
  refine R_calli (As := [.int (i)]) (st := []) kX9_has lX11_102 (t_has (i := i) CT) rfl K1 dX11_caseAt_5 rfl rfl (Nat.le_of_ble_eq_true rfl) ⟨by decide, by decide⟩ zX9_has ⟨Nat.le_refl _, Nat.le_refl _⟩ (fun wr5 wp4 wq3 => ?_)
  obtain ⟨rfl, rfl⟩ : wr5 = _ ∧ hp = wp4 := ⟨wq3.1, wq3.2.symm⟩
  cases hb6 : inB i cs.length with
  | false =>
    show PZ _ _ _ _ _ _ (.int (nI 0) :: _) _ _ _
    refine N_if_eq (tgt := 22) dX11_caseAt_8 (by decide) (by decide) (fun _ => ?_) (fun hc => absurd hc (by decide))
    have hf : f_case (ms, (cs, sc, un, wd), hs, s0, s1, os, ox) i = (-1, (ms, (cs, sc, un, wd), hs, s0, s1, os, ox)) := by unfold f_case; dsimp only; rw [hb6]; rfl
    refine R_iconst (v := (-1)) dX11_caseAt_22 (by decide) ?_
    rw [hf]
    exact R_reti dX11_caseAt_23 rfl rfl rfl ⟨rfl, ⟨nx, C0, CT, ⟨_, C3⟩, CP, CM, CH, CS, ⟨_, CX⟩, ⟨_, CY⟩, CG, CO, CF, CR⟩, (Fr.rf (L := LC) (hp := hp))⟩
  | true =>
    show PZ _ _ _ _ _ _ (.int (nI 1) :: _) _ _ _
    obtain ⟨j, hj, rfl⟩ := inB_t (by omega) hb6
    refine N_if_eq (tgt := 22) dX11_caseAt_8 (by decide) (by decide) (fun hc => absurd hc (by decide)) (fun _ => ?_)
    refine R_aload_n dX11_caseAt_11 rfl rfl ?_
    refine R_getf dX11_caseAt_12 gX11_10 C0 rfl ?_
    refine R_iload_n dX11_caseAt_15 rfl rfl ?_
    refine R_calli (As := [.int (nI j)]) (st := []) kX9_caseBefore lX11_109 (t_caseBefore (i := j) (by omega) CT) rfl K1 dX11_caseAt_16 rfl rfl (Nat.le_of_ble_eq_true rfl) ⟨by decide, by decide⟩ zX9_caseBefore ⟨Nat.le_refl _, Nat.le_refl _⟩ (fun wr9 wp8 wq7 => ?_)
    obtain ⟨rfl, rfl⟩ : wr9 = _ ∧ hp = wp8 := ⟨wq7.1, wq7.2.symm⟩
    have hf : f_case (ms, (cs, sc, un, wd), hs, s0, s1, os, ox) (nI j) = (nI (cAt un sc cs j), (ms, (cs, sc, un, wd), hs, s0, s1, os, ox)) := by unfold f_case; dsimp only; rw [hb6, vN_n (by omega)]; rfl
    refine R_goto (tgt := 23) dX11_caseAt_19 (by decide) ?_
    rw [hf]
    exact R_reti dX11_caseAt_23 rfl rfl rfl ⟨rfl, ⟨nx, C0, CT, ⟨_, C3⟩, CP, CM, CH, CS, ⟨_, CX⟩, ⟨_, CY⟩, CG, CO, CF, CR⟩, (Fr.rf (L := LC) (hp := hp))⟩
set_option maxRecDepth 100000 in
set_option maxHeartbeats 4000000 in
theorem x_lost {ms : List Nat} {cs : List Nat} {sc un wd : Nat} {hs : List TP} {s0 s1 : Option TP} {os : List (Nat × Nat)} {ox : Nat} {i : Int32} (hC : CI hp (ms, (cs, sc, un, wd), hs, s0, s1, os, ox)) : SpI l X mX11_damageIfLost [.ref 0, .int (i)] hp (fun r hp' => r = (f_lost (ms, (cs, sc, un, wd), hs, s0, s1, os, ox) i).1 ∧ CI hp' (f_lost (ms, (cs, sc, un, wd), hs, s0, s1, os, ox) i).2 ∧ Fr LC hp hp') := by
  obtain ⟨nx, C0, CT, ⟨⟨cs3, sc3, un3, wd3⟩, C3⟩, CP, CM, CH, CS, ⟨tx, CX⟩, ⟨ty, CY⟩, CG, CO, CF, CR⟩ := hC
  obtain ⟨ft, KT, KT2, hft, hL, hC3, hs1, hu1, hw1, hw2⟩ := id CT
  refine SpI.of pnX11 (Nat.le_of_ble_eq_true rfl) rfl ?_
  refine R_aload_n dX11_damageIfLost_0 rfl rfl ?_
  refine R_getf dX11_damageIfLost_1 gX11_10 C0 rfl ?_
  refine R_iload_n dX11_damageIfLost_4 rfl rfl ?_
  obtain ⟨y2, K1, -⟩ := id CT
  refine R_calli (As := [.int (i)]) (st := []) kX9_has lX11_102 (t_has (i := i) CT) rfl K1 dX11_damageIfLost_5 rfl rfl (Nat.le_of_ble_eq_true rfl) ⟨by decide, by decide⟩ zX9_has ⟨Nat.le_refl _, Nat.le_refl _⟩ (fun wr5 wp4 wq3 => ?_)
  obtain ⟨rfl, rfl⟩ : wr5 = _ ∧ hp = wp4 := ⟨wq3.1, wq3.2.symm⟩
  cases hb6 : inB i cs.length with
  | false =>
    show PZ _ _ _ _ _ _ (.int (nI 0) :: _) _ _ _
    refine N_if_eq (tgt := 22) dX11_damageIfLost_8 (by decide) (by decide) (fun _ => ?_) (fun hc => absurd hc (by decide))
    have hf : f_lost (ms, (cs, sc, un, wd), hs, s0, s1, os, ox) i = (-1, (ms, (cs, sc, un, wd), hs, s0, s1, os, ox)) := by unfold f_lost; dsimp only; rw [hb6]; rfl
    refine R_iconst (v := (-1)) dX11_damageIfLost_22 (by decide) ?_
    rw [hf]
    exact R_reti dX11_damageIfLost_23 rfl rfl rfl ⟨rfl, ⟨nx, C0, CT, ⟨_, C3⟩, CP, CM, CH, CS, ⟨_, CX⟩, ⟨_, CY⟩, CG, CO, CF, CR⟩, (Fr.rf (L := LC) (hp := hp))⟩
  | true =>
    show PZ _ _ _ _ _ _ (.int (nI 1) :: _) _ _ _
    obtain ⟨j, hj, rfl⟩ := inB_t (by omega) hb6
    refine N_if_eq (tgt := 22) dX11_damageIfLost_8 (by decide) (by decide) (fun hc => absurd hc (by decide)) (fun _ => ?_)
    refine R_aload_n dX11_damageIfLost_11 rfl rfl ?_
    refine R_getf dX11_damageIfLost_12 gX11_10 C0 rfl ?_
    refine R_iload_n dX11_damageIfLost_15 rfl rfl ?_
    refine R_calli (As := [.int (nI j)]) (st := []) kX9_lossDamage lX11_193 (t_lossDamage hj CT) rfl K1 dX11_damageIfLost_16 rfl rfl (Nat.le_of_ble_eq_true rfl) ⟨by decide, by decide⟩ zX9_lossDamage ⟨Nat.le_refl _, Nat.le_refl _⟩ (fun wr9 wp8 wq7 => ?_)
    obtain ⟨rfl, rfl⟩ : wr9 = _ ∧ hp = wp8 := ⟨wq7.1, wq7.2.symm⟩
    have hf : f_lost (ms, (cs, sc, un, wd), hs, s0, s1, os, ox) (nI j) = (nI (lossD un sc cs j), (ms, (cs, sc, un, wd), hs, s0, s1, os, ox)) := by unfold f_lost; dsimp only; rw [hb6, vN_n (by omega)]; rfl
    refine R_goto (tgt := 23) dX11_damageIfLost_19 (by decide) ?_
    rw [hf]
    exact R_reti dX11_damageIfLost_23 rfl rfl rfl ⟨rfl, ⟨nx, C0, CT, ⟨_, C3⟩, CP, CM, CH, CS, ⟨_, CX⟩, ⟨_, CY⟩, CG, CO, CF, CR⟩, (Fr.rf (L := LC) (hp := hp))⟩
set_option maxRecDepth 100000 in
set_option maxHeartbeats 4000000 in
theorem x_plen {ms : List Nat} {cs : List Nat} {sc un wd : Nat} {hs : List TP} {s0 s1 : Option TP} {os : List (Nat × Nat)} {ox : Nat} (hC : CI hp (ms, (cs, sc, un, wd), hs, s0, s1, os, ox)) : SpI l X mX11_printedLength [.ref 0] hp (fun r hp' => r = (f_plen (ms, (cs, sc, un, wd), hs, s0, s1, os, ox)).1 ∧ CI hp' (f_plen (ms, (cs, sc, un, wd), hs, s0, s1, os, ox)).2 ∧ Fr LC hp hp') := by
  obtain ⟨nx, C0, CT, ⟨⟨cs3, sc3, un3, wd3⟩, C3⟩, CP, CM, CH, CS, ⟨tx, CX⟩, ⟨ty, CY⟩, CG, CO, CF, CR⟩ := hC
  obtain ⟨ft, KT, KT2, hft, hL, hC3, hs1, hu1, hw1, hw2⟩ := id CT
  refine SpI.of pnX11 (Nat.le_of_ble_eq_true rfl) rfl ?_
  refine R_aload_n dX11_printedLength_0 rfl rfl ?_
  refine R_getf dX11_printedLength_1 gX11_50 C0 rfl ?_
  refine R_aload_n dX11_printedLength_4 rfl rfl ?_
  refine R_getf dX11_printedLength_5 gX11_10 C0 rfl ?_
  obtain ⟨y2a, y2b, K1, -⟩ := id CX
  refine R_callv (As := [.ref 1]) (st := []) kX10_read lX11_112 (x_read CX CT (by decide) (by decide) (by decide) (by decide)) rfl K1 dX11_printedLength_8 rfl rfl (Nat.le_of_ble_eq_true rfl) ⟨by decide, by decide⟩ zX10_read ⟨Nat.le_refl _, Nat.le_refl _⟩ (fun wp4 wq3 => ?_)
  obtain ⟨hx1, hx2⟩ := wq3
  have c6 := hx2.at (by decide) C0
  have c7 := CT.fr hx2 (by decide) (by decide)
  have c8 := C3.fr hx2 (by decide) (by decide)
  have c9 := CP.fr hx2 (by decide) (by decide) (by decide)
  have c10 := CM.fr hx2 (by decide) (by decide)
  have c11 := CH.fr hx2 (by decide) (by decide)
  have c12 := CS.fr hx2 (by decide)
  have c13 := CY.fr hx2 (by decide) (by decide) (by decide)
  have c14 := CG.fr hx2 (by decide) (by decide)
  have c15 := CO.fr hx2 (by decide) (by decide) (by decide)
  have c16 := CF.fr hx2 (by decide)
  have c17 := CR.fr hx2 (by decide) (by decide)
  have FF18 : Fr LC hp wp4 := (Fr.rf (L := LC) (hp := hp)).trans (hx2.mono (by decide))
  refine R_aload_n dX11_printedLength_11 rfl rfl ?_
  refine R_getf dX11_printedLength_12 gX11_50 c6 rfl ?_
  obtain ⟨y20a, y20b, K19, -⟩ := id hx1
  refine R_getf dX11_printedLength_15 gX11_116 K19 rfl ?_
  skip
  exact R_reti dX11_printedLength_18 rfl rfl rfl ⟨rfl, ⟨nx, c6, c7, ⟨_, c8⟩, c9, c10, c11, c12, ⟨_, hx1⟩, ⟨_, c13⟩, c14, c15, c16, c17⟩, FF18⟩
set_option maxRecDepth 100000 in
set_option maxHeartbeats 4000000 in
theorem x_pat {ms : List Nat} {cs : List Nat} {sc un wd : Nat} {hs : List TP} {s0 s1 : Option TP} {os : List (Nat × Nat)} {ox : Nat} {i : Int32} (hC : CI hp (ms, (cs, sc, un, wd), hs, s0, s1, os, ox)) : SpI l X mX11_printedAt [.ref 0, .int (i)] hp (fun r hp' => r = (f_pat (ms, (cs, sc, un, wd), hs, s0, s1, os, ox) i).1 ∧ CI hp' (f_pat (ms, (cs, sc, un, wd), hs, s0, s1, os, ox) i).2 ∧ Fr LC hp hp') := by
  obtain ⟨nx, C0, CT, ⟨⟨cs3, sc3, un3, wd3⟩, C3⟩, CP, CM, CH, CS, ⟨tx, CX⟩, ⟨ty, CY⟩, CG, CO, CF, CR⟩ := hC
  obtain ⟨ft, KT, KT2, hft, hL, hC3, hs1, hu1, hw1, hw2⟩ := id CT
  refine SpI.of pnX11 (Nat.le_of_ble_eq_true rfl) rfl ?_
  refine R_aload_n dX11_printedAt_0 rfl rfl ?_
  refine R_getf dX11_printedAt_1 gX11_50 C0 rfl ?_
  refine R_aload_n dX11_printedAt_4 rfl rfl ?_
  refine R_getf dX11_printedAt_5 gX11_10 C0 rfl ?_
  obtain ⟨y2a, y2b, K1, -⟩ := id CX
  refine R_callv (As := [.ref 1]) (st := []) kX10_read lX11_112 (x_read CX CT (by decide) (by decide) (by decide) (by decide)) rfl K1 dX11_printedAt_8 rfl rfl (Nat.le_of_ble_eq_true rfl) ⟨by decide, by decide⟩ zX10_read ⟨Nat.le_refl _, Nat.le_refl _⟩ (fun wp4 wq3 => ?_)
  obtain ⟨hx1, hx2⟩ := wq3
  have c6 := hx2.at (by decide) C0
  have c7 := CT.fr hx2 (by decide) (by decide)
  have c8 := C3.fr hx2 (by decide) (by decide)
  have c9 := CP.fr hx2 (by decide) (by decide) (by decide)
  have c10 := CM.fr hx2 (by decide) (by decide)
  have c11 := CH.fr hx2 (by decide) (by decide)
  have c12 := CS.fr hx2 (by decide)
  have c13 := CY.fr hx2 (by decide) (by decide) (by decide)
  have c14 := CG.fr hx2 (by decide) (by decide)
  have c15 := CO.fr hx2 (by decide) (by decide) (by decide)
  have c16 := CF.fr hx2 (by decide)
  have c17 := CR.fr hx2 (by decide) (by decide)
  have FF18 : Fr LC hp wp4 := (Fr.rf (L := LC) (hp := hp)).trans (hx2.mono (by decide))
  have htl := txt_len un cs sc
  refine R_aload_n dX11_printedAt_11 rfl rfl ?_
  refine R_getf dX11_printedAt_12 gX11_50 c6 rfl ?_
  refine R_iload_n dX11_printedAt_15 rfl rfl ?_
  obtain ⟨y20a, y20b, K19, -⟩ := id hx1
  refine R_calli (As := [.int (i)]) (st := []) kX10_has lX11_117 (x_has (i := i) hx1) rfl K19 dX11_printedAt_16 rfl rfl (Nat.le_of_ble_eq_true rfl) ⟨by decide, by decide⟩ zX10_has ⟨Nat.le_refl _, Nat.le_refl _⟩ (fun wr23 wp22 wq21 => ?_)
  obtain ⟨rfl, rfl⟩ : wr23 = _ ∧ wp4 = wp22 := ⟨wq21.1, wq21.2.symm⟩
  cases hb : inB i (txt un sc cs).length with
  | false =>
    show PZ _ _ _ _ _ _ (.int (nI 0) :: _) _ _ _
    refine N_if_eq (tgt := 33) dX11_printedAt_19 (by decide) (by decide) (fun _ => ?_) (fun hc => absurd hc (by decide))
    have hf : f_pat (ms, (cs, sc, un, wd), hs, s0, s1, os, ox) i = (-1, (ms, (cs, sc, un, wd), hs, s0, s1, os, ox)) := by unfold f_pat; dsimp only; rw [hb]; rfl
    refine R_iconst (v := (-1)) dX11_printedAt_33 (by decide) ?_
    rw [hf]
    exact R_reti dX11_printedAt_34 rfl rfl rfl ⟨rfl, ⟨nx, c6, c7, ⟨_, c8⟩, c9, c10, c11, c12, ⟨_, hx1⟩, ⟨_, c13⟩, c14, c15, c16, c17⟩, FF18⟩
  | true =>
    show PZ _ _ _ _ _ _ (.int (nI 1) :: _) _ _ _
    obtain ⟨j, hj, rfl⟩ := inB_t (by omega) hb
    refine N_if_eq (tgt := 33) dX11_printedAt_19 (by decide) (by decide) (fun hc => absurd hc (by decide)) (fun _ => ?_)
    refine R_aload_n dX11_printedAt_22 rfl rfl ?_
    refine R_getf dX11_printedAt_23 gX11_50 c6 rfl ?_
    refine R_iload_n dX11_printedAt_26 rfl rfl ?_
    refine R_calli (As := [.int (nI j)]) (st := []) kX10_at lX11_118 (x_at hj hx1) rfl K19 dX11_printedAt_27 rfl rfl (Nat.le_of_ble_eq_true rfl) ⟨by decide, by decide⟩ zX10_at ⟨Nat.le_refl _, Nat.le_refl _⟩ (fun wr26 wp25 wq24 => ?_)
    obtain ⟨rfl, rfl⟩ : wr26 = _ ∧ wp4 = wp25 := ⟨wq24.1, wq24.2.symm⟩
    have hf : f_pat (ms, (cs, sc, un, wd), hs, s0, s1, os, ox) (nI j) = (nI ((txt un sc cs)[j]), (ms, (cs, sc, un, wd), hs, s0, s1, os, ox)) := by unfold f_pat; dsimp only; rw [hb, vN_n (by omega), gD hj]; rfl
    refine R_goto (tgt := 34) dX11_printedAt_30 (by decide) ?_
    rw [hf]
    exact R_reti dX11_printedAt_34 rfl rfl rfl ⟨rfl, ⟨nx, c6, c7, ⟨_, c8⟩, c9, c10, c11, c12, ⟨_, hx1⟩, ⟨_, c13⟩, c14, c15, c16, c17⟩, FF18⟩
set_option maxRecDepth 100000 in
set_option maxHeartbeats 4000000 in
theorem x_punch {ms : List Nat} {cs : List Nat} {sc un wd : Nat} {hs : List TP} {s0 s1 : Option TP} {os : List (Nat × Nat)} {ox : Nat} {c : Int32} (hC : CI hp (ms, (cs, sc, un, wd), hs, s0, s1, os, ox)) : SpI l X mX11_punch [.ref 0, .int (c)] hp (fun r hp' => r = (f_punch (ms, (cs, sc, un, wd), hs, s0, s1, os, ox) c).1 ∧ CI hp' (f_punch (ms, (cs, sc, un, wd), hs, s0, s1, os, ox) c).2 ∧ Fr LC hp hp') := by
  obtain ⟨nx, C0, CT, ⟨⟨cs3, sc3, un3, wd3⟩, C3⟩, CP, CM, CH, CS, ⟨tx, CX⟩, ⟨ty, CY⟩, CG, CO, CF, CR⟩ := hC
  obtain ⟨ft, KT, KT2, hft, hL, hC3, hs1, hu1, hw1, hw2⟩ := id CT
  refine SpI.of pnX11 (Nat.le_of_ble_eq_true rfl) rfl ?_
  refine R_iload_n dX11_punch_0 rfl rfl ?_
  refine R_iconst (v := (nI 0)) dX11_punch_1 (by decide) ?_
  refine R_bipush (v := (nI 31)) dX11_punch_2 (by decide) ?_
  refine R_stati (As := [.int (c), .int (nI 0), .int (nI 31)]) (st := []) kX11_isWithin lX11_85 (x_within (by decide) (by decide)) dX11_punch_4 rfl rfl (Nat.le_of_ble_eq_true rfl) ⟨by decide, by decide⟩ zX11_isWithin ⟨Nat.le_refl _, Nat.le_refl _⟩ (fun wr3 wp2 wq1 => ?_)
  obtain ⟨rfl, rfl⟩ : wr3 = _ ∧ hp = wp2 := ⟨wq1.1, wq1.2.symm⟩
  cases hw4 : inW c 0 31 with
  | false =>
    show PZ _ _ _ _ _ _ (.int (nI 0) :: _) _ _ _
    refine N_if_ne (tgt := 13) dX11_punch_7 (by decide) (by decide) (fun hc => absurd hc (by decide)) (fun _ => ?_)
    have hf : f_punch (ms, (cs, sc, un, wd), hs, s0, s1, os, ox) c = (-2, (ms, (cs, sc, un, wd), hs, s0, s1, os, ox)) := by unfold f_punch; dsimp only; rw [hw4]; rfl
    refine R_bipush (v := (-2)) dX11_punch_10 (by decide) ?_
    rw [hf]
    exact R_reti dX11_punch_12 rfl rfl rfl ⟨rfl, ⟨nx, C0, CT, ⟨_, C3⟩, CP, CM, CH, CS, ⟨_, CX⟩, ⟨_, CY⟩, CG, CO, CF, CR⟩, (Fr.rf (L := LC) (hp := hp))⟩
  | true =>
    show PZ _ _ _ _ _ _ (.int (nI 1) :: _) _ _ _
    obtain ⟨j, -, hj, rfl⟩ := inW_t (by decide) hw4
    refine N_if_ne (tgt := 13) dX11_punch_7 (by decide) (by decide) (fun _ => ?_) (fun hc => absurd hc (by decide))
    refine R_aload_n dX11_punch_13 rfl rfl ?_
    refine R_getf dX11_punch_14 gX11_10 C0 rfl ?_
    obtain ⟨y6, K5, -⟩ := id CT
    refine R_calli (As := []) (st := []) kX9_isFull lX11_121 (t_isFull CT) rfl K5 dX11_punch_17 rfl rfl (Nat.le_of_ble_eq_true rfl) ⟨by decide, by decide⟩ zX9_isFull ⟨Nat.le_refl _, Nat.le_refl _⟩ (fun wr9 wp8 wq7 => ?_)
    obtain ⟨rfl, rfl⟩ : wr9 = _ ∧ hp = wp8 := ⟨wq7.1, wq7.2.symm⟩
    by_cases hl : cs.length < 96
    · rw [decide_eq_false (by omega)]
      show PZ _ _ _ _ _ _ (.int (nI 0) :: _) _ _ _
      refine N_if_eq (tgt := 26) dX11_punch_20 (by decide) (by decide) (fun _ => ?_) (fun hc => absurd hc (by decide))
      refine R_aload_n dX11_punch_26 rfl rfl ?_
      refine R_getf dX11_punch_27 gX11_36 C0 rfl ?_
      refine R_aload_n dX11_punch_30 rfl rfl ?_
      refine R_getf dX11_punch_31 gX11_10 C0 rfl ?_
      obtain ⟨y11, K10, -⟩ := id CH
      refine R_callv (As := [.ref 1]) (st := []) kX2_remember lX11_125 (h_remember CT CH) rfl K10 dX11_punch_34 rfl rfl (Nat.le_of_ble_eq_true rfl) ⟨by decide, by decide⟩ zX2_remember ⟨Nat.le_refl _, Nat.le_refl _⟩ (fun wp13 wq12 => ?_)
      obtain ⟨hh1, hh2⟩ := wq12
      have c15 := hh2.at (by decide) C0
      have c16 := CT.fr hh2 (by decide) (by decide)
      have c17 := C3.fr hh2 (by decide) (by decide)
      have c18 := CP.fr hh2 (by decide) (by decide) (by decide)
      have c19 := CM.fr hh2 (by decide) (by decide)
      have c20 := CS.fr hh2 (by decide)
      have c21 := CX.fr hh2 (by decide) (by decide) (by decide)
      have c22 := CY.fr hh2 (by decide) (by decide) (by decide)
      have c23 := CG.fr hh2 (by decide) (by decide)
      have c24 := CO.fr hh2 (by decide) (by decide) (by decide)
      have c25 := CF.fr hh2 (by decide)
      have c26 := CR.fr hh2 (by decide) (by decide)
      have FF27 : Fr LC hp wp13 := (Fr.rf (L := LC) (hp := hp)).trans (hh2.mono (by decide))
      refine R_aload_n dX11_punch_37 rfl rfl ?_
      refine R_getf dX11_punch_38 gX11_10 c15 rfl ?_
      refine R_iload_n dX11_punch_41 rfl rfl ?_
      obtain ⟨y29, K28, -⟩ := id c16
      refine R_calli (As := [.int (nI j)]) (st := []) kX9_add lX11_128 (t_add (c := j) (by omega) hl c16) rfl K28 dX11_punch_42 rfl rfl (Nat.le_of_ble_eq_true rfl) ⟨by decide, by decide⟩ zX9_add ⟨Nat.le_refl _, Nat.le_refl _⟩ (fun wr32 wp31 wq30 => ?_)
      obtain ⟨rfl, hq1, hq2⟩ := wq30
      have c33 := hq2.at (by decide) c15
      have c34 := c17.fr hq2 (by decide) (by decide)
      have c35 := c18.fr hq2 (by decide) (by decide) (by decide)
      have c36 := c19.fr hq2 (by decide) (by decide)
      have c37 := hh1.fr hq2 (by decide) (by decide)
      have c38 := c20.fr hq2 (by decide)
      have c39 := c21.fr hq2 (by decide) (by decide) (by decide)
      have c40 := c22.fr hq2 (by decide) (by decide) (by decide)
      have c41 := c23.fr hq2 (by decide) (by decide)
      have c42 := c24.fr hq2 (by decide) (by decide) (by decide)
      have c43 := c25.fr hq2 (by decide)
      have c44 := c26.fr hq2 (by decide) (by decide)
      have FF45 : Fr LC hp wp31 := FF27.trans (hq2.mono (by decide))
      refine R_pop dX11_punch_45 rfl ?_
      refine R_aload_n dX11_punch_46 rfl rfl ?_
      refine R_getf dX11_punch_47 gX11_10 c33 rfl ?_
      obtain ⟨y47, K46, -⟩ := id hq1
      refine R_getf dX11_punch_50 gX11_101 K46 rfl ?_
      have hf : f_punch (ms, (cs, sc, un, wd), hs, s0, s1, os, ox) (nI j) = (nI (cs ++ [j]).length, psh (ms, (cs, sc, un, wd), hs, s0, s1, os, ox) (cs ++ [j], sc, un, wd)) := by unfold f_punch; dsimp only; rw [hw4, if_pos rfl, if_pos hl, vN_n (by omega), List.length_append]; rfl
      rw [hf]
      exact R_reti dX11_punch_53 rfl rfl rfl ⟨rfl, ⟨_, c33, hq1, ⟨_, c34⟩, c35, c36, c37, c38, ⟨_, c39⟩, ⟨_, c40⟩, c41, c42, c43, c44⟩, FF45⟩
    · rw [decide_eq_true (by omega)]
      show PZ _ _ _ _ _ _ (.int (nI 1) :: _) _ _ _
      refine N_if_eq (tgt := 26) dX11_punch_20 (by decide) (by decide) (fun hc => absurd hc (by decide)) (fun _ => ?_)
      have hf : f_punch (ms, (cs, sc, un, wd), hs, s0, s1, os, ox) (nI j) = (-4, (ms, (cs, sc, un, wd), hs, s0, s1, os, ox)) := by unfold f_punch; dsimp only; rw [hw4, if_pos rfl, if_neg hl]
      refine R_bipush (v := (-4)) dX11_punch_23 (by decide) ?_
      rw [hf]
      exact R_reti dX11_punch_25 rfl rfl rfl ⟨rfl, ⟨nx, C0, CT, ⟨_, C3⟩, CP, CM, CH, CS, ⟨_, CX⟩, ⟨_, CY⟩, CG, CO, CF, CR⟩, (Fr.rf (L := LC) (hp := hp))⟩
end X24
