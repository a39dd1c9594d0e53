/-! The classes Message and Text -/
def MsgAt (hp : HPt) (h a : Nat) (ms : List Nat) : Prop := ∃ f : Nat → Int32, hp[h]? = some (ob 2 [.ref a, .int (nI ms.length)]) ∧ hp[a]? = some (ia 60 f) ∧ (∀ (i : Nat) (hi : i < ms.length), f i = nI ms[i]) ∧ ms.length ≤ 60 ∧ ∀ c ∈ ms, c < 256
theorem MsgAt.fr {hp hp' : HPt} {h a : Nat} {ms : List Nat} {L : List Nat} (H : MsgAt hp h a ms) (F : Fr L hp hp') (h1 : h ∉ L) (h2 : a ∉ L) : MsgAt hp' h a ms := by
  obtain ⟨f, Hh, Ha, r⟩ := H
  exact ⟨f, F.at h1 Hh, F.at h2 Ha, r⟩
def TxAt (hp : HPt) (h a b : Nat) (ts : List Nat) : Prop := ∃ f g : Nat → Int32, hp[h]? = some (ob 9 [.ref a, .ref b, .int (nI ts.length)]) ∧ hp[a]? = some (ia 96 f) ∧ hp[b]? = some (ia 97 g) ∧ (∀ (i : Nat) (hi : i < ts.length), f i = nI ts[i]) ∧ ts.length ≤ 96 ∧ ∀ c ∈ ts, c < 128
theorem TxAt.fr {hp hp' : HPt} {h a b : Nat} {ts : List Nat} {L : List Nat} (H : TxAt hp h a b ts) (F : Fr L hp hp') (h1 : h ∉ L) (h2 : a ∉ L) (h3 : b ∉ L) : TxAt hp' h a b ts := by
  obtain ⟨f, g, Hh, Ha, Hb, r⟩ := H
  exact ⟨f, g, F.at h1 Hh, F.at h2 Ha, F.at h3 Hb, r⟩
theorem gD {α : Type} {xs : List α} {j : Nat} {d : α} (h : j < xs.length) : xs.getD j d = xs[j] := by rw [List.getD_eq_getElem?_getD, List.getElem?_eq_getElem h]; rfl
theorem gDn {α : Type} {xs : List α} {j : Nat} {d : α} (h : xs.length ≤ j) : xs.getD j d = d := by rw [List.getD_eq_getElem?_getD, List.getElem?_eq_none h]; rfl
def errG : List Nat → Nat → Int32
  | [], _ => -9
  | x :: t, k => if cof x = 255 then nI k else errG t (k + 1)
def aEnc (ms : List Nat) : Bool := ms.all (fun x => decide (cof x ≠ 255))
theorem nI_m9 {a : Nat} (h : a < 2 ^ 31) : ¬ nI a = -9 := fun e => by
  have h1 := nI_toInt h
  rw [e] at h1
  have : (-9 : Int32).toInt = -9 := by decide
  omega
theorem errG_t : ∀ (ms : List Nat) (k : Nat), aEnc ms = true → errG ms k = -9
  | [], _, _ => rfl
  | x :: t, k, h => by
    unfold aEnc at h
    rw [List.all_cons, Bool.and_eq_true, decide_eq_true_eq] at h
    simp only [errG]; rw [if_neg h.1]; exact errG_t t (k + 1) h.2
theorem errG_f : ∀ (ms : List Nat) (k : Nat), k + ms.length < 2 ^ 31 → aEnc ms = false → ¬ errG ms k = -9
  | [], _, _, h => by cases h
  | x :: t, k, hk, h => by
    unfold aEnc at h
    rw [List.all_cons, Bool.and_eq_false_iff] at h
    simp only [errG]
    rw [List.length_cons] at hk
    by_cases hx : cof x = 255
    · rw [if_pos hx]; exact nI_m9 (by omega)
    · rw [if_neg hx]
      refine errG_f t (k + 1) (by omega) (h.resolve_left ?_)
      rw [decide_eq_false_iff_not]; exact fun z => z hx
theorem aEnc_at {ms : List Nat} (h : aEnc ms = true) {x : Nat} (hx : x ∈ ms) : cof x ≠ 255 := by
  have := List.all_eq_true.mp h x hx
  simpa using this
theorem cof_lt {x : Nat} (h : cof x ≠ 255) : cof x < 29 := by
  unfold cof at h ⊢
  split
  · omega
  · split
    · omega
    · split
      · omega
      · split
        · omega
        · split
          · have := fig_idx (by assumption); omega
          · rename_i h1 h2 h3 h4 h5
            rw [if_neg h1, if_neg h2, if_neg h3, if_neg h4, if_neg h5] at h
            exact absurd rfl h
theorem cofI_t {x : Nat} (h : cof x ≠ 255) : cofI x = nI (cof x) := by unfold cofI; rw [if_neg h]
theorem cofI_f {x : Nat} (h : cof x = 255) : cofI x = -1 := by unfold cofI; rw [if_pos h]
def isSep (x : Nat) : Bool := decide (x = 32 ∨ x = 10 ∨ x = 13)
def bwN (ms : List Nat) (j : Nat) : Bool := decide (ms.length ≤ j) || isSep (ms.getD j 0)
def bgN (ms : List Nat) (j : Nat) : Bool := !bwN ms j && (decide (j = 0) || bwN ms (j - 1))
/-- where the word at j ends -/
def eow (ms : List Nat) (j : Nat) : Nat := j + ((ms.drop j).takeWhile (fun x => !isSep x)).length
theorem eow_stop {ms : List Nat} {j : Nat} (h : bwN ms j = true) : eow ms j = j := by
  unfold eow
  unfold bwN at h
  by_cases hj : j < ms.length
  · rw [drop_c hj]
    rw [gD hj, decide_eq_false (by omega), Bool.false_or] at h
    rw [List.takeWhile_cons, h]; rfl
  · rw [List.drop_eq_nil_of_le (by omega)]; rfl
theorem eow_go {ms : List Nat} {j : Nat} (hj : j < ms.length) (h : bwN ms j = false) : eow ms j = eow ms (j + 1) := by
  unfold eow
  unfold bwN at h
  rw [gD hj, Bool.or_eq_false_iff] at h
  rw [drop_c hj, List.takeWhile_cons, h.2]
  simp; omega
theorem eow_le {ms : List Nat} {j : Nat} (hj : j ≤ ms.length) : eow ms j ≤ ms.length := by
  unfold eow
  have h1 : ((ms.drop j).takeWhile (fun x => !isSep x)).length ≤ (ms.drop j).length := (List.takeWhile_sublist _).length_le
  rw [List.length_drop] at h1
  omega
theorem eow_ge {ms : List Nat} {j : Nat} : j ≤ eow ms j := by unfold eow; omega
def rdG (ms : List Nat) : List Nat → Nat → Bool
  | [], _ => true
  | c :: t, k => if 29 ≤ c then rdG ms t k else decide (cofI (ms.getD k 0) = nI c) && rdG ms t (k + 1)
section M18
variable {l : Launch} {X : EX} {hp : HPt} {h a b : Nat} {ms ts : List Nat}
set_option maxRecDepth 100000 in
set_option maxHeartbeats 4000000 in
theorem m_add {c : Nat} (hc : c < 256) (hlt : ms.length < 60) (hM : MsgAt hp h a ms) : SpI l X mX3_add [.ref h, .int (nI c)] hp (fun r hp' => r = nI 1 ∧ MsgAt hp' h a (ms ++ [c]) ∧ Fr [h, a] hp hp') := by
  obtain ⟨f, Hh, Ha, hf, hL, hC⟩ := hM
  refine SpI.of pnX3 (Nat.le_of_ble_eq_true rfl) rfl ?_
  refine R_aload_n dX3_add_0 rfl rfl ?_
  refine R_getf dX3_add_1 gX3_15 Hh rfl ?_
  refine R_bipush (v := (nI 60)) dX3_add_4 (by decide) ?_
  refine N_icmp_lt (tgt := 11) dX3_add_6 (by decide) (by omega) (by omega) (fun _ => ?_) (fun hc => absurd hc (by omega))
  refine R_aload_n dX3_add_11 rfl rfl ?_
  refine R_getf dX3_add_12 gX3_9 Hh rfl ?_
  refine R_aload_n dX3_add_15 rfl rfl ?_
  refine R_getf dX3_add_16 gX3_15 Hh rfl ?_
  refine R_iload_n dX3_add_19 rfl rfl ?_
  obtain ⟨wf1, ewf1⟩ : ∃ y, y = upd f (ms.length) (nI c) := ⟨_, rfl⟩
  refine W_iast (f' := wf1) dX3_add_20 Ha (by omega) (by decide) ewf1 (fun wp2 wH3 wE4 => ?_)
  have wH5 := (wE4 h (kd_ne Ha Hh).symm).trans Hh
  have wF6 : Fr [h, a] hp wp2 := Fr.one wE4 (by simp)
  refine R_aload_n dX3_add_21 rfl rfl ?_
  refine R_dup dX3_add_22 rfl ?_
  refine R_getf dX3_add_23 gX3_15 wH5 rfl ?_
  refine R_iconst (v := (nI 1)) dX3_add_26 (by decide) ?_
  refine N_iadd dX3_add_27 ?_
  refine W_puti (fs' := [.ref a, .int (nI ((ms.length) + 1))]) dX3_add_28 pX3_15 wH5 (Nat.le_of_ble_eq_true rfl) rfl (fun wp7 wH8 wE9 => ?_)
  have wH10 := (wE9 a (kd_ne wH3 wH5)).trans wH3
  have wF11 : Fr [h, a] hp wp7 := wF6.trans (Fr.one wE9 (by simp))
  refine R_iconst (v := (nI 1)) dX3_add_31 (by decide) ?_
  have hn : (ms ++ [c]).length = ms.length + 1 := by simp
  refine R_retz dX3_add_32 rfl rfl rfl rfl ⟨rfl, ⟨wf1, by rw [hn]; exact wH8, wH10, fun i hi => ?_, by omega, fun x hx => ?_⟩, wF11⟩
  · rw [ewf1]
    by_cases hic : i = ms.length
    · subst hic; rw [upd_s]; simp
    · rw [upd_n hic, hf i (by omega), List.getElem_append_left (by omega)]
  · rcases List.mem_append.mp hx with q | q
    · exact hC x q
    · simp at q; omega
set_option maxRecDepth 100000 in
set_option maxHeartbeats 4000000 in
theorem m_addF {c : Nat} (hge : 60 ≤ ms.length) (hM : MsgAt hp h a ms) : SpI l X mX3_add [.ref h, .int (nI c)] hp (fun r hp' => r = nI 0 ∧ hp' = hp) := by
  obtain ⟨f, Hh, Ha, hf, hL, hC⟩ := hM
  refine SpI.of pnX3 (Nat.le_of_ble_eq_true rfl) rfl ?_
  refine R_aload_n dX3_add_0 rfl rfl ?_
  refine R_getf dX3_add_1 gX3_15 Hh rfl ?_
  refine R_bipush (v := (nI 60)) dX3_add_4 (by decide) ?_
  refine N_icmp_lt (tgt := 11) dX3_add_6 (by decide) (by omega) (by omega) (fun hc => absurd hc (by omega)) (fun _ => ?_)
  refine R_iconst (v := (nI 0)) dX3_add_9 (by decide) ?_
  exact R_retz dX3_add_10 rfl rfl rfl rfl ⟨rfl, rfl⟩
set_option maxRecDepth 100000 in
set_option maxHeartbeats 4000000 in
theorem m_at {j : Nat} (hj : j < 2 ^ 31) (hM : MsgAt hp h a ms) : SpI l X mX3_at [.ref h, .int (nI j)] hp (fun r hp' => r = nI (ms.getD j 0) ∧ hp' = hp) := by
  obtain ⟨f, Hh, Ha, hf, hL, hC⟩ := hM
  refine SpI.of pnX3 (Nat.le_of_ble_eq_true rfl) rfl ?_
  refine R_iload_n dX3_at_0 rfl rfl ?_
  refine R_if_lt (tgt := 21) dX3_at_1 (by decide) (fun hc => absurd hc (nI_pos hj)) (fun _ => ?_)
  refine R_iload_n dX3_at_4 rfl rfl ?_
  refine R_aload_n dX3_at_5 rfl rfl ?_
  refine R_getf dX3_at_6 gX3_15 Hh rfl ?_
  refine N_icmp_ge (tgt := 21) dX3_at_9 (by decide) (by omega) (by omega) (fun hc => ?_) (fun hc => ?_)
  · refine R_iconst (v := (nI 0)) dX3_at_21 (by decide) ?_
    exact R_reti dX3_at_22 rfl rfl rfl ⟨by rw [gDn hc], rfl⟩
  · refine R_aload_n dX3_at_12 rfl rfl ?_
    refine R_getf dX3_at_13 gX3_9 Hh rfl ?_
    refine R_iload_n dX3_at_16 rfl rfl ?_
    refine N_iald (y := (nI (ms[j]))) dX3_at_17 Ha (by omega) (by decide) (hf j hc) ?_
    refine R_goto (tgt := 22) dX3_at_18 (by decide) ?_
    exact R_reti dX3_at_22 rfl rfl rfl ⟨by rw [gD hc], rfl⟩
set_option maxRecDepth 100000 in
set_option maxHeartbeats 4000000 in
theorem m_fnL {R : Int32} (hM : MsgAt hp h a ms) : ∀ (d j : Nat), j + d = ms.length → R = errG (ms.drop j) j → PZ l X (MZi X mX3_firstNotEncodable (fun r hp' => r = R ∧ hp' = hp)) mX3_firstNotEncodable 2 [some (.ref h), some (.int (nI j))] [] hp 0 0 := by
  obtain ⟨f, Hh, Ha, hf, hL, hC⟩ := hM
  intro d
  induction d with
  | zero =>
    intro j hj hR
    refine R_iload_n dX3_firstNotEncodable_2 rfl rfl ?_
    refine R_aload_n dX3_firstNotEncodable_3 rfl rfl ?_
    refine R_getf dX3_firstNotEncodable_4 gX3_15 Hh rfl ?_
    refine N_icmp_ge (tgt := 31) dX3_firstNotEncodable_7 (by decide) (by omega) (by omega) (fun _ => ?_) (fun hc => absurd hc (by omega))
    refine R_bipush (v := (-9)) dX3_firstNotEncodable_31 (by decide) ?_
    exact R_reti dX3_firstNotEncodable_33 rfl rfl rfl ⟨by rw [hR, List.drop_eq_nil_of_le (by omega)]; rfl, rfl⟩
  | succ d ih =>
    intro j hj hR
    have h1 : j < ms.length := by omega
    rw [drop_c h1] at hR; simp only [errG] at hR
    refine R_iload_n dX3_firstNotEncodable_2 rfl rfl ?_
    refine R_aload_n dX3_firstNotEncodable_3 rfl rfl ?_
    refine R_getf dX3_firstNotEncodable_4 gX3_15 Hh rfl ?_
    refine N_icmp_ge (tgt := 31) dX3_firstNotEncodable_7 (by decide) (by omega) (by omega) (fun hc => absurd hc (by omega)) (fun _ => ?_)
    refine R_aload_n dX3_firstNotEncodable_10 rfl rfl ?_
    refine R_getf dX3_firstNotEncodable_11 gX3_9 Hh rfl ?_
    refine R_iload_n dX3_firstNotEncodable_14 rfl rfl ?_
    refine N_iald (y := (nI (ms[j]))) dX3_firstNotEncodable_15 Ha (by omega) (by decide) (hf j h1) ?_
    refine R_stati (As := [.int (nI (ms[j]))]) (st := []) kX0_of lX3_19 (c_of (hC _ (List.getElem_mem h1))) dX3_firstNotEncodable_16 rfl rfl (Nat.le_of_ble_eq_true rfl) ⟨by decide, by decide⟩ zX0_of ⟨Nat.le_refl _, Nat.le_refl _⟩ (fun wr3 wp2 wq1 => ?_)
    obtain ⟨rfl, rfl⟩ : wr3 = _ ∧ hp = wp2 := ⟨wq1.1, wq1.2.symm⟩
    by_cases hx : cof ms[j] = 255
    · rw [cofI_f hx]
      refine R_iconst (v := (-1)) dX3_firstNotEncodable_19 (by decide) ?_
      refine R_icmp_ne (tgt := 25) dX3_firstNotEncodable_20 (by decide) (fun hc => absurd rfl hc) (fun _ => ?_)
      refine R_iload_n dX3_firstNotEncodable_23 rfl rfl ?_
      exact R_reti dX3_firstNotEncodable_24 rfl rfl rfl ⟨by rw [hR, if_pos hx], rfl⟩
    · have hx9 := cof_lt hx
      rw [cofI_t hx]
      refine R_iconst (v := (-1)) dX3_firstNotEncodable_19 (by decide) ?_
      refine R_icmp_ne (tgt := 25) dX3_firstNotEncodable_20 (by decide) (fun _ => ?_) (fun hc => absurd hc (nI_m1 (by omega)))
      refine N_iinc (d := 1) (lv' := [some (.ref h), some (.int (nI (j + 1)))]) dX3_firstNotEncodable_25 rfl rfl ?_
      refine R_goto (tgt := 2) dX3_firstNotEncodable_28 (by decide) ?_
      exact ih (j + 1) (by omega) (by rw [hR, if_neg hx])
set_option maxRecDepth 100000 in
set_option maxHeartbeats 4000000 in
theorem m_fne (hM : MsgAt hp h a ms) : SpI l X mX3_firstNotEncodable [.ref h] hp (fun r hp' => r = errG ms 0 ∧ hp' = hp) := by
  refine SpI.of pnX3 (Nat.le_of_ble_eq_true rfl) rfl ?_
  refine R_iconst (v := (nI 0)) dX3_firstNotEncodable_0 (by decide) ?_
  refine R_istore_n (lv' := [some (.ref h), some (.int (nI 0))]) dX3_firstNotEncodable_1 rfl (by decide) rfl ?_
  exact m_fnL hM ms.length 0 (by omega) rfl
set_option maxRecDepth 100000 in
set_option maxHeartbeats 4000000 in
theorem m_isEnc (hM : MsgAt hp h a ms) : SpI l X mX3_isEncodable [.ref h] hp (fun r hp' => r = bz (aEnc ms) ∧ hp' = hp) := by
  have hM0 := hM
  obtain ⟨f, Hh, Ha, hf, hL, hC⟩ := hM
  refine SpI.of pnX3 (Nat.le_of_ble_eq_true rfl) rfl ?_
  refine R_aload_n dX3_isEncodable_0 rfl rfl ?_
  refine R_calli (As := []) (st := []) kX3_firstNotEncodable lX3_25 (m_fne hM0) rfl Hh dX3_isEncodable_1 rfl rfl (Nat.le_of_ble_eq_true rfl) ⟨by decide, by decide⟩ zX3_firstNotEncodable ⟨Nat.le_refl _, Nat.le_refl _⟩ (fun wr3 wp2 wq1 => ?_)
  obtain ⟨rfl, rfl⟩ : wr3 = _ ∧ hp = wp2 := ⟨wq1.1, wq1.2.symm⟩
  cases hE : aEnc ms with
  | true =>
    rw [errG_t ms 0 hE]
    refine R_bipush (v := (-9)) dX3_isEncodable_4 (by decide) ?_
    refine R_icmp_ne (tgt := 13) dX3_isEncodable_6 (by decide) (fun hc => absurd rfl hc) (fun _ => ?_)
    refine R_iconst (v := (nI 1)) dX3_isEncodable_9 (by decide) ?_
    refine R_goto (tgt := 14) dX3_isEncodable_10 (by decide) ?_
    exact R_retz dX3_isEncodable_14 rfl rfl rfl rfl ⟨rfl, rfl⟩
  | false =>
    refine R_bipush (v := (-9)) dX3_isEncodable_4 (by decide) ?_
    refine R_icmp_ne (tgt := 13) dX3_isEncodable_6 (by decide) (fun _ => ?_) (fun hc => absurd hc (errG_f ms 0 (by omega) hE))
    refine R_iconst (v := (nI 0)) dX3_isEncodable_13 (by decide) ?_
    exact R_retz dX3_isEncodable_14 rfl rfl rfl rfl ⟨rfl, rfl⟩
set_option maxRecDepth 100000 in
set_option maxHeartbeats 4000000 in
theorem m_bw {j : Nat} (hj : j < 2 ^ 31) (hM : MsgAt hp h a ms) : SpI l X mX3_isBetweenWords [.ref h, .int (nI j)] hp (fun r hp' => r = bz (bwN ms j) ∧ hp' = hp) := by
  obtain ⟨f, Hh, Ha, hf, hL, hC⟩ := hM
  refine SpI.of pnX3 (Nat.le_of_ble_eq_true rfl) rfl ?_
  refine R_iload_n dX3_isBetweenWords_0 rfl rfl ?_
  refine R_if_lt (tgt := 12) dX3_isBetweenWords_1 (by decide) (fun hc => absurd hc (nI_pos hj)) (fun _ => ?_)
  refine R_iload_n dX3_isBetweenWords_4 rfl rfl ?_
  refine R_aload_n dX3_isBetweenWords_5 rfl rfl ?_
  refine R_getf dX3_isBetweenWords_6 gX3_15 Hh rfl ?_
  refine N_icmp_lt (tgt := 14) dX3_isBetweenWords_9 (by decide) (by omega) (by omega) (fun hc => ?_) (fun hc => ?_)
  · have hx := hC _ (List.getElem_mem hc)
    have hb0 : bwN ms j = isSep ms[j] := by unfold bwN; rw [gD hc, decide_eq_false (by omega), Bool.false_or]
    rw [hb0]
    refine R_aload_n dX3_isBetweenWords_14 rfl rfl ?_
    refine R_getf dX3_isBetweenWords_15 gX3_9 Hh rfl ?_
    refine R_iload_n dX3_isBetweenWords_18 rfl rfl ?_
    refine N_iald (y := (nI (ms[j]))) dX3_isBetweenWords_19 Ha (by omega) (by decide) (hf j hc) ?_
    refine R_istore_n (lv' := [some (.ref h), some (.int (nI j)), some (.int (nI (ms[j])))]) dX3_isBetweenWords_20 rfl (by decide) rfl ?_
    refine R_iload_n dX3_isBetweenWords_21 rfl rfl ?_
    refine R_bipush (v := (nI 32)) dX3_isBetweenWords_22 (by decide) ?_
    refine N_icmp_eq (tgt := 39) dX3_isBetweenWords_24 (by decide) (by omega) (by omega) (fun h32 => ?_) (fun h32 => ?_)
    · refine R_iconst (v := (nI 1)) dX3_isBetweenWords_39 (by decide) ?_
      refine R_goto (tgt := 44) dX3_isBetweenWords_40 (by decide) ?_
      exact R_retz dX3_isBetweenWords_44 rfl rfl rfl rfl ⟨by unfold isSep; rw [decide_eq_true (Or.inl h32)]; rfl, rfl⟩
    · refine R_iload_n dX3_isBetweenWords_27 rfl rfl ?_
      refine R_bipush (v := (nI 10)) dX3_isBetweenWords_28 (by decide) ?_
      refine N_icmp_eq (tgt := 39) dX3_isBetweenWords_30 (by decide) (by omega) (by omega) (fun h10 => ?_) (fun h10 => ?_)
      · refine R_iconst (v := (nI 1)) dX3_isBetweenWords_39 (by decide) ?_
        refine R_goto (tgt := 44) dX3_isBetweenWords_40 (by decide) ?_
        exact R_retz dX3_isBetweenWords_44 rfl rfl rfl rfl ⟨by unfold isSep; rw [decide_eq_true (Or.inr (Or.inl h10))]; rfl, rfl⟩
      · refine R_iload_n dX3_isBetweenWords_33 rfl rfl ?_
        refine R_bipush (v := (nI 13)) dX3_isBetweenWords_34 (by decide) ?_
        refine N_icmp_ne (tgt := 43) dX3_isBetweenWords_36 (by decide) (by omega) (by omega) (fun h13 => ?_) (fun h13 => ?_)
        · refine R_iconst (v := (nI 0)) dX3_isBetweenWords_43 (by decide) ?_
          exact R_retz dX3_isBetweenWords_44 rfl rfl rfl rfl ⟨by unfold isSep; rw [decide_eq_false (by omega)]; rfl, rfl⟩
        · refine R_iconst (v := (nI 1)) dX3_isBetweenWords_39 (by decide) ?_
          refine R_goto (tgt := 44) dX3_isBetweenWords_40 (by decide) ?_
          exact R_retz dX3_isBetweenWords_44 rfl rfl rfl rfl ⟨by unfold isSep; rw [decide_eq_true (Or.inr (Or.inr h13))]; rfl, rfl⟩
  · refine R_iconst (v := (nI 1)) dX3_isBetweenWords_12 (by decide) ?_
    exact R_retz dX3_isBetweenWords_13 rfl rfl rfl rfl ⟨by unfold bwN; rw [decide_eq_true hc]; rfl, rfl⟩
set_option maxRecDepth 100000 in
set_option maxHeartbeats 4000000 in
theorem m_bw1 (hM : MsgAt hp h a ms) : SpI l X mX3_isBetweenWords [.ref h, .int (nI 0 - nI 1)] hp (fun r hp' => r = bz true ∧ hp' = hp) := by
  obtain ⟨f, Hh, Ha, hf, hL, hC⟩ := hM
  refine SpI.of pnX3 (Nat.le_of_ble_eq_true rfl) rfl ?_
  refine R_iload_n dX3_isBetweenWords_0 rfl rfl ?_
  refine R_if_lt (tgt := 12) dX3_isBetweenWords_1 (by decide) (fun _ => ?_) (fun hc => absurd (show nI 0 - nI 1 < 0 by decide) hc)
  refine R_iconst (v := (nI 1)) dX3_isBetweenWords_12 (by decide) ?_
  exact R_retz dX3_isBetweenWords_13 rfl rfl rfl rfl ⟨rfl, rfl⟩
set_option maxRecDepth 100000 in
set_option maxHeartbeats 4000000 in
theorem m_bg {j : Nat} (hj : j < 2 ^ 31) (hM : MsgAt hp h a ms) : SpI l X mX3_beginsWord [.ref h, .int (nI j)] hp (fun r hp' => r = bz (bgN ms j) ∧ hp' = hp) := by
  have hM0 := hM
  obtain ⟨f, Hh, Ha, hf, hL, hC⟩ := hM
  refine SpI.of pnX3 (Nat.le_of_ble_eq_true rfl) rfl ?_
  refine R_aload_n dX3_beginsWord_0 rfl rfl ?_
  refine R_iload_n dX3_beginsWord_1 rfl rfl ?_
  refine R_calli (As := [.int (nI j)]) (st := []) kX3_isBetweenWords lX3_29 (m_bw hj hM0) rfl Hh dX3_beginsWord_2 rfl rfl (Nat.le_of_ble_eq_true rfl) ⟨by decide, by decide⟩ zX3_isBetweenWords ⟨Nat.le_refl _, Nat.le_refl _⟩ (fun wr3 wp2 wq1 => ?_)
  obtain ⟨rfl, rfl⟩ : wr3 = _ ∧ hp = wp2 := ⟨wq1.1, wq1.2.symm⟩
  unfold bgN
  cases hb : bwN ms j with
  | true =>
    show PZ _ _ _ _ _ _ [.int (nI 1)] _ _ _
    refine N_if_ne (tgt := 22) dX3_beginsWord_5 (by decide) (by omega) (fun _ => ?_) (fun hc => absurd hc (by decide))
    refine R_iconst (v := (nI 0)) dX3_beginsWord_22 (by decide) ?_
    exact R_retz dX3_beginsWord_23 rfl rfl rfl rfl ⟨rfl, rfl⟩
  | false =>
    show PZ _ _ _ _ _ _ [.int (nI 0)] _ _ _
    refine N_if_ne (tgt := 22) dX3_beginsWord_5 (by decide) (by omega) (fun hc => absurd hc (by decide)) (fun _ => ?_)
    by_cases h0 : j = 0
    · subst h0
      refine R_aload_n dX3_beginsWord_8 rfl rfl ?_
      refine R_iload_n dX3_beginsWord_9 rfl rfl ?_
      refine R_iconst (v := (nI 1)) dX3_beginsWord_10 (by decide) ?_
      refine R_isub dX3_beginsWord_11 ?_
      refine R_calli (As := [.int ((nI 0) - (nI 1))]) (st := []) kX3_isBetweenWords lX3_29 (m_bw1 hM0) rfl Hh dX3_beginsWord_12 rfl rfl (Nat.le_of_ble_eq_true rfl) ⟨by decide, by decide⟩ zX3_isBetweenWords ⟨Nat.le_refl _, Nat.le_refl _⟩ (fun wr6 wp5 wq4 => ?_)
      obtain ⟨rfl, rfl⟩ : wr6 = _ ∧ hp = wp5 := ⟨wq4.1, wq4.2.symm⟩
      refine N_if_eq (tgt := 22) dX3_beginsWord_15 (by decide) (by decide) (fun hc => absurd hc (by decide)) (fun _ => ?_)
      refine R_iconst (v := (nI 1)) dX3_beginsWord_18 (by decide) ?_
      refine R_goto (tgt := 23) dX3_beginsWord_19 (by decide) ?_
      exact R_retz dX3_beginsWord_23 rfl rfl rfl rfl ⟨rfl, rfl⟩
    · refine R_aload_n dX3_beginsWord_8 rfl rfl ?_
      refine R_iload_n dX3_beginsWord_9 rfl rfl ?_
      refine R_iconst (v := (nI 1)) dX3_beginsWord_10 (by decide) ?_
      refine N_isub dX3_beginsWord_11 (by omega) ?_
      refine R_calli (As := [.int (nI (j - 1))]) (st := []) kX3_isBetweenWords lX3_29 (m_bw (j := j - 1) (by omega) hM0) rfl Hh dX3_beginsWord_12 rfl rfl (Nat.le_of_ble_eq_true rfl) ⟨by decide, by decide⟩ zX3_isBetweenWords ⟨Nat.le_refl _, Nat.le_refl _⟩ (fun wr9 wp8 wq7 => ?_)
      obtain ⟨rfl, rfl⟩ : wr9 = _ ∧ hp = wp8 := ⟨wq7.1, wq7.2.symm⟩
      rw [decide_eq_false h0]
      cases hb2 : bwN ms (j - 1) with
      | true =>
        show PZ _ _ _ _ _ _ [.int (nI 1)] _ _ _
        refine N_if_eq (tgt := 22) dX3_beginsWord_15 (by decide) (by omega) (fun hc => absurd hc (by decide)) (fun _ => ?_)
        refine R_iconst (v := (nI 1)) dX3_beginsWord_18 (by decide) ?_
        refine R_goto (tgt := 23) dX3_beginsWord_19 (by decide) ?_
        exact R_retz dX3_beginsWord_23 rfl rfl rfl rfl ⟨rfl, rfl⟩
      | false =>
        show PZ _ _ _ _ _ _ [.int (nI 0)] _ _ _
        refine N_if_eq (tgt := 22) dX3_beginsWord_15 (by decide) (by omega) (fun _ => ?_) (fun hc => absurd hc (by decide))
        refine R_iconst (v := (nI 0)) dX3_beginsWord_22 (by decide) ?_
        exact R_retz dX3_beginsWord_23 rfl rfl rfl rfl ⟨rfl, rfl⟩
set_option maxRecDepth 100000 in
set_option maxHeartbeats 4000000 in
theorem m_ewL {i R : Nat} (hM : MsgAt hp h a ms) : ∀ (d j : Nat), j + d = ms.length → R = eow ms j → PZ l X (MZi X mX3_endOfWord (fun r hp' => r = nI R ∧ hp' = hp)) mX3_endOfWord 2 [some (.ref h), some (.int (nI i)), some (.int (nI j))] [] hp 0 0 := by
  have hM0 := hM
  obtain ⟨f, Hh, Ha, hf, hL, hC⟩ := hM
  intro d
  induction d with
  | zero =>
    intro j hj hR
    refine R_iload_n dX3_endOfWord_2 rfl rfl ?_
    refine R_aload_n dX3_endOfWord_3 rfl rfl ?_
    refine R_getf dX3_endOfWord_4 gX3_15 Hh rfl ?_
    refine N_icmp_ge (tgt := 24) dX3_endOfWord_7 (by decide) (by omega) (by omega) (fun _ => ?_) (fun hc => absurd hc (by omega))
    refine R_iload_n dX3_endOfWord_24 rfl rfl ?_
    exact R_reti dX3_endOfWord_25 rfl rfl rfl ⟨by rw [hR, eow_stop (by unfold bwN; rw [decide_eq_true (by omega)]; rfl)], rfl⟩
  | succ d ih =>
    intro j hj hR
    refine R_iload_n dX3_endOfWord_2 rfl rfl ?_
    refine R_aload_n dX3_endOfWord_3 rfl rfl ?_
    refine R_getf dX3_endOfWord_4 gX3_15 Hh rfl ?_
    refine N_icmp_ge (tgt := 24) dX3_endOfWord_7 (by decide) (by omega) (by omega) (fun hc => absurd hc (by omega)) (fun _ => ?_)
    refine R_aload_n dX3_endOfWord_10 rfl rfl ?_
    refine R_iload_n dX3_endOfWord_11 rfl rfl ?_
    refine R_calli (As := [.int (nI j)]) (st := []) kX3_isBetweenWords lX3_29 (m_bw (j := j) (by omega) hM0) rfl Hh dX3_endOfWord_12 rfl rfl (Nat.le_of_ble_eq_true rfl) ⟨by decide, by decide⟩ zX3_isBetweenWords ⟨Nat.le_refl _, Nat.le_refl _⟩ (fun wr3 wp2 wq1 => ?_)
    obtain ⟨rfl, rfl⟩ : wr3 = _ ∧ hp = wp2 := ⟨wq1.1, wq1.2.symm⟩
    cases hb : bwN ms j with
    | true =>
      show PZ _ _ _ _ _ _ [.int (nI 1)] _ _ _
      refine N_if_ne (tgt := 24) dX3_endOfWord_15 (by decide) (by omega) (fun _ => ?_) (fun hc => absurd hc (by decide))
      refine R_iload_n dX3_endOfWord_24 rfl rfl ?_
      exact R_reti dX3_endOfWord_25 rfl rfl rfl ⟨by rw [hR, eow_stop hb], rfl⟩
    | false =>
      show PZ _ _ _ _ _ _ [.int (nI 0)] _ _ _
      refine N_if_ne (tgt := 24) dX3_endOfWord_15 (by decide) (by omega) (fun hc => absurd hc (by decide)) (fun _ => ?_)
      refine N_iinc (d := 1) (lv' := [some (.ref h), some (.int (nI i)), some (.int (nI (j + 1)))]) dX3_endOfWord_18 rfl rfl ?_
      refine R_goto (tgt := 2) dX3_endOfWord_21 (by decide) ?_
      exact ih (j + 1) (by omega) (by rw [hR, eow_go (by omega) hb])
set_option maxRecDepth 100000 in
set_option maxHeartbeats 4000000 in
theorem m_eow {i : Nat} (hi : i ≤ ms.length) (hM : MsgAt hp h a ms) : SpI l X mX3_endOfWord [.ref h, .int (nI i)] hp (fun r hp' => r = nI (eow ms i) ∧ hp' = hp) := by
  refine SpI.of pnX3 (Nat.le_of_ble_eq_true rfl) rfl ?_
  refine R_iload_n dX3_endOfWord_0 rfl rfl ?_
  refine R_istore_n (lv' := [some (.ref h), some (.int (nI i)), some (.int (nI i))]) dX3_endOfWord_1 rfl (by decide) rfl ?_
  exact m_ewL hM (ms.length - i) i (by omega) rfl
set_option maxRecDepth 100000 in
set_option maxHeartbeats 4000000 in
theorem m_cbL {g : Nat} {cs : List Nat} {sc un wd : Nat} {pl : Nat} {R : Bool} (hM : MsgAt hp h a ms) (hT : TpAt hp g b (cs, sc, un, wd)) : ∀ (d j nx : Nat) (lo : Option Value), j + d = cs.length → nx ≤ j → R = rdG ms (cs.drop j) nx → PZ l X (MZi X mX3_canBeReadFrom (fun r hp' => r = bz R ∧ hp' = hp)) mX3_canBeReadFrom 15 [some (.ref h), some (.ref g), some (.int (nI pl)), some (.int (nI nx)), some (.int (nI j)), lo] [] hp 0 0 := by
  have hM0 := hM
  have hT0 := hT
  obtain ⟨f, Hh, Ha, hf, hL, hC⟩ := hM
  obtain ⟨f2, Hg, Hb, hf2, gL, gC, gs, gu, gw1, gw2⟩ := hT
  intro d
  induction d with
  | zero =>
    intro j nx lo hj hnx hR
    refine R_iload dX3_canBeReadFrom_15 rfl ?_
    refine R_aload_n dX3_canBeReadFrom_17 rfl rfl ?_
    refine R_getf dX3_canBeReadFrom_18 gX3_33 Hg rfl ?_
    refine N_icmp_ge (tgt := 69) dX3_canBeReadFrom_21 (by decide) (by omega) (by omega) (fun _ => ?_) (fun hc => absurd hc (by omega))
    refine R_iconst (v := (nI 1)) dX3_canBeReadFrom_69 (by decide) ?_
    exact R_retz dX3_canBeReadFrom_70 rfl rfl rfl rfl ⟨by rw [hR, List.drop_eq_nil_of_le (by omega)]; rfl, rfl⟩
  | succ d ih =>
    intro j nx lo hj hnx hR
    have h1 : j < cs.length := by omega
    have hc3 := gC _ (List.getElem_mem h1)
    rw [drop_c h1] at hR; simp only [rdG] at hR
    refine R_iload dX3_canBeReadFrom_15 rfl ?_
    refine R_aload_n dX3_canBeReadFrom_17 rfl rfl ?_
    refine R_getf dX3_canBeReadFrom_18 gX3_33 Hg rfl ?_
    refine N_icmp_ge (tgt := 69) dX3_canBeReadFrom_21 (by decide) (by omega) (by omega) (fun hc => absurd hc (by omega)) (fun _ => ?_)
    refine R_aload_n dX3_canBeReadFrom_24 rfl rfl ?_
    refine R_iload dX3_canBeReadFrom_25 rfl ?_
    refine R_calli (As := [.int (nI j)]) (st := []) kX9_at lX3_36 (t_at (j := j) (by omega) hT0) rfl Hg dX3_canBeReadFrom_27 rfl rfl (Nat.le_of_ble_eq_true rfl) ⟨by decide, by decide⟩ zX9_at ⟨Nat.le_refl _, Nat.le_refl _⟩ (fun wr3 wp2 wq1 => ?_)
    obtain ⟨rfl, rfl⟩ : wr3 = _ ∧ hp = wp2 := ⟨wq1.1, wq1.2.symm⟩
    rw [gD h1]
    refine R_istore (lv' := [some (.ref h), some (.ref g), some (.int (nI pl)), some (.int (nI nx)), some (.int (nI j)), some (.int (nI (cs[j])))]) dX3_canBeReadFrom_30 (by decide) rfl ?_
    refine R_iload dX3_canBeReadFrom_32 rfl ?_
    refine R_iconst (v := (nI 0)) dX3_canBeReadFrom_34 (by decide) ?_
    refine R_stati (As := [.int (nI (cs[j])), .int (nI 0)]) (st := []) kX0_printed lX3_39 (c_printed hc3 (by omega)) dX3_canBeReadFrom_35 rfl rfl (Nat.le_of_ble_eq_true rfl) ⟨by decide, by decide⟩ zX0_printed ⟨Nat.le_refl _, Nat.le_refl _⟩ (fun wr6 wp5 wq4 => ?_)
    obtain ⟨rfl, rfl⟩ : wr6 = _ ∧ hp = wp5 := ⟨wq4.1, wq4.2.symm⟩
    by_cases h29 : 29 ≤ cs[j]
    · rw [if_pos h29] at hR
      rw [prt_ne h29]
      refine R_iconst (v := (-1)) dX3_canBeReadFrom_38 (by decide) ?_
      refine R_icmp_ne (tgt := 45) dX3_canBeReadFrom_39 (by decide) (fun hc => absurd rfl hc) (fun _ => ?_)
      refine R_goto (tgt := 63) dX3_canBeReadFrom_42 (by decide) ?_
      refine N_iinc (d := 1) (lv' := [some (.ref h), some (.ref g), some (.int (nI pl)), some (.int (nI nx)), some (.int (nI (j + 1))), some (.int (nI (cs[j])))]) dX3_canBeReadFrom_63 rfl rfl ?_
      refine R_goto (tgt := 15) dX3_canBeReadFrom_66 (by decide) ?_
      exact ih (j + 1) nx _ (by omega) (by omega) hR
    · rw [if_neg h29] at hR
      have hch := ch_lt (c := cs[j]) (p := 0) (by omega)
      rw [prt_in (by omega)]
      refine R_iconst (v := (-1)) dX3_canBeReadFrom_38 (by decide) ?_
      refine R_icmp_ne (tgt := 45) dX3_canBeReadFrom_39 (by decide) (fun _ => ?_) (fun hc => absurd hc (nI_m1 (by omega)))
      refine R_aload_n dX3_canBeReadFrom_45 rfl rfl ?_
      refine R_iload_n dX3_canBeReadFrom_46 rfl rfl ?_
      refine R_calli (As := [.int (nI nx)]) (st := []) kX3_at lX3_43 (m_at (j := nx) (by omega) hM0) rfl Hh dX3_canBeReadFrom_47 rfl rfl (Nat.le_of_ble_eq_true rfl) ⟨by decide, by decide⟩ zX3_at ⟨Nat.le_refl _, Nat.le_refl _⟩ (fun wr9 wp8 wq7 => ?_)
      obtain ⟨rfl, rfl⟩ : wr9 = _ ∧ hp = wp8 := ⟨wq7.1, wq7.2.symm⟩
      have hx : ms.getD nx 0 < 256 := by
        by_cases hq : nx < ms.length
        · rw [gD hq]; exact hC _ (List.getElem_mem hq)
        · rw [gDn (by omega)]; decide
      refine R_stati (As := [.int (nI (ms.getD nx 0))]) (st := []) kX0_of lX3_19 (c_of hx) dX3_canBeReadFrom_50 rfl rfl (Nat.le_of_ble_eq_true rfl) ⟨by decide, by decide⟩ zX0_of ⟨Nat.le_refl _, Nat.le_refl _⟩ (fun wr12 wp11 wq10 => ?_)
      obtain ⟨rfl, rfl⟩ : wr12 = _ ∧ hp = wp11 := ⟨wq10.1, wq10.2.symm⟩
      refine R_iload dX3_canBeReadFrom_53 rfl ?_
      refine R_icmp_eq (tgt := 60) dX3_canBeReadFrom_55 (by decide) (fun he => ?_) (fun he => ?_)
      · rw [decide_eq_true he, Bool.true_and] at hR
        refine N_iinc (d := 1) (lv' := [some (.ref h), some (.ref g), some (.int (nI pl)), some (.int (nI (nx + 1))), some (.int (nI j)), some (.int (nI (cs[j])))]) dX3_canBeReadFrom_60 rfl rfl ?_
        refine N_iinc (d := 1) (lv' := [some (.ref h), some (.ref g), some (.int (nI pl)), some (.int (nI (nx + 1))), some (.int (nI (j + 1))), some (.int (nI (cs[j])))]) dX3_canBeReadFrom_63 rfl rfl ?_
        refine R_goto (tgt := 15) dX3_canBeReadFrom_66 (by decide) ?_
        exact ih (j + 1) (nx + 1) _ (by omega) (by omega) hR
      · rw [decide_eq_false he, Bool.false_and] at hR
        refine R_iconst (v := (nI 0)) dX3_canBeReadFrom_58 (by decide) ?_
        exact R_retz dX3_canBeReadFrom_59 rfl rfl rfl rfl ⟨by rw [hR]; rfl, rfl⟩
set_option maxRecDepth 100000 in
set_option maxHeartbeats 4000000 in
theorem m_cb {g : Nat} {cs : List Nat} {sc un wd : Nat} {pl : Nat} (hpl : pl < 2 ^ 31) (hM : MsgAt hp h a ms) (hT : TpAt hp g b (cs, sc, un, wd)) : SpI l X mX3_canBeReadFrom [.ref h, .ref g, .int (nI pl)] hp (fun r hp' => r = bz (decide (pl = ms.length) && rdG ms cs 0) ∧ hp' = hp) := by
  have hM0 := hM
  have hT0 := hT
  obtain ⟨f, Hh, Ha, hf, hL, hC⟩ := hM
  obtain ⟨f2, Hg, Hb, hf2, gL, gC, gs, gu, gw1, gw2⟩ := hT
  refine SpI.of pnX3 (Nat.le_of_ble_eq_true rfl) rfl ?_
  refine R_iload_n dX3_canBeReadFrom_0 rfl rfl ?_
  refine R_aload_n dX3_canBeReadFrom_1 rfl rfl ?_
  refine R_getf dX3_canBeReadFrom_2 gX3_15 Hh rfl ?_
  refine N_icmp_eq (tgt := 10) dX3_canBeReadFrom_5 (by decide) (by omega) (by omega) (fun hc => ?_) (fun hc => ?_)
  · refine R_iconst (v := (nI 0)) dX3_canBeReadFrom_10 (by decide) ?_
    refine R_istore_n (lv' := [some (.ref h), some (.ref g), some (.int (nI pl)), some (.int (nI 0)), none, none]) dX3_canBeReadFrom_11 rfl (by decide) rfl ?_
    refine R_iconst (v := (nI 0)) dX3_canBeReadFrom_12 (by decide) ?_
    refine R_istore (lv' := [some (.ref h), some (.ref g), some (.int (nI pl)), some (.int (nI 0)), some (.int (nI 0)), none]) dX3_canBeReadFrom_13 (by decide) rfl ?_
    rw [decide_eq_true hc, Bool.true_and]
    exact m_cbL hM0 hT0 cs.length 0 0 _ (by omega) (by omega) rfl
  · refine R_iconst (v := (nI 0)) dX3_canBeReadFrom_8 (by decide) ?_
    exact R_retz dX3_canBeReadFrom_9 rfl rfl rfl rfl ⟨by rw [decide_eq_false hc]; rfl, rfl⟩
set_option maxRecDepth 100000 in
set_option maxHeartbeats 4000000 in
theorem x_has {i : Int32} (hX : TxAt hp h a b ts) : SpI l X mX10_has [.ref h, .int i] hp (fun r hp' => r = bz (inB i ts.length) ∧ hp' = hp) := by
  obtain ⟨f, g, Hh, Ha, Hb, hf, hL, hC⟩ := hX
  refine SpI.of pnX10 (Nat.le_of_ble_eq_true rfl) rfl ?_
  refine R_iload_n dX10_has_0 rfl rfl ?_
  refine R_if_lt (tgt := 16) dX10_has_1 (by decide) (fun h0 => ?_) (fun h0 => ?_)
  · refine R_iconst (v := (nI 0)) dX10_has_16 (by decide) ?_
    exact R_retz dX10_has_17 rfl rfl rfl rfl ⟨by rw [inB_lt h0]; rfl, rfl⟩
  · refine R_iload_n dX10_has_4 rfl rfl ?_
    refine R_aload_n dX10_has_5 rfl rfl ?_
    refine R_getf dX10_has_6 gX10_18 Hh rfl ?_
    refine R_icmp_ge (tgt := 16) dX10_has_9 (by decide) (fun h1 => ?_) (fun h1 => ?_)
    · refine R_iconst (v := (nI 0)) dX10_has_16 (by decide) ?_
      exact R_retz dX10_has_17 rfl rfl rfl rfl ⟨by rw [inB_ge (by omega) h1]; rfl, rfl⟩
    · refine R_iconst (v := (nI 1)) dX10_has_12 (by decide) ?_
      refine R_goto (tgt := 17) dX10_has_13 (by decide) ?_
      exact R_retz dX10_has_17 rfl rfl rfl rfl ⟨by rw [inB_in (by omega) h0 h1]; rfl, rfl⟩
set_option maxRecDepth 100000 in
set_option maxHeartbeats 4000000 in
theorem x_at {j : Nat} (hj : j < ts.length) (hX : TxAt hp h a b ts) : SpI l X mX10_at [.ref h, .int (nI j)] hp (fun r hp' => r = nI ts[j] ∧ hp' = hp) := by
  have hX0 := hX
  obtain ⟨f, g, Hh, Ha, Hb, hf, hL, hC⟩ := hX
  refine SpI.of pnX10 (Nat.le_of_ble_eq_true rfl) rfl ?_
  refine R_aload_n dX10_at_0 rfl rfl ?_
  refine R_iload_n dX10_at_1 rfl rfl ?_
  refine R_calli (As := [.int (nI j)]) (st := []) kX10_has lX10_41 (x_has hX0) rfl Hh dX10_at_2 rfl rfl (Nat.le_of_ble_eq_true rfl) ⟨by decide, by decide⟩ zX10_has ⟨Nat.le_refl _, Nat.le_refl _⟩ (fun wr3 wp2 wq1 => ?_)
  obtain ⟨rfl, rfl⟩ : wr3 = _ ∧ hp = wp2 := ⟨wq1.1, wq1.2.symm⟩
  rw [inB_n (by omega), decide_eq_true hj]
  show PZ _ _ _ _ _ _ [.int (nI 1)] _ _ _
  refine N_if_eq (tgt := 17) dX10_at_5 (by decide) (by omega) (fun hc => absurd hc (by decide)) (fun _ => ?_)
  refine R_aload_n dX10_at_8 rfl rfl ?_
  refine R_getf dX10_at_9 gX10_9 Hh rfl ?_
  refine R_iload_n dX10_at_12 rfl rfl ?_
  refine N_iald (y := (nI (ts[j]))) dX10_at_13 Ha (by omega) (by decide) (hf j hj) ?_
  refine R_goto (tgt := 18) dX10_at_14 (by decide) ?_
  exact R_reti dX10_at_18 rfl rfl rfl ⟨rfl, rfl⟩
set_option maxRecDepth 100000 in
set_option maxHeartbeats 4000000 in
theorem x_rdL {hp0 : HPt} {v w : Nat} {cs : List Nat} {sc un wd : Nat} (hvh : v ≠ h) (hwa : w ≠ a) (hba : b ≠ a) (hwb : w ≠ b) : ∀ (d : Nat) (hp : HPt) (j : Nat) (lo1 lo2 : Option Value), j + d = cs.length → TxAt hp h a b (txt un sc (cs.take j)) → TpAt hp v w (cs, sc, un, wd) → Fr [h, a] hp0 hp → PZ l X (MZv X mX10_read (fun hp' => TxAt hp' h a b (txt un sc cs) ∧ Fr [h, a] hp0 hp')) mX10_read 12 [some (.ref h), some (.ref v), some (.int (nI (cAt un sc cs j))), some (.int (nI j)), lo1, lo2] [] hp 0 0 := by
  intro d
  induction d with
  | zero =>
    intro hp j lo1 lo2 hj hX hT hF
    have hX0 := hX
    obtain ⟨f, g, Hh, Ha, Hb, hf, hL, hC⟩ := hX
    obtain ⟨f2, Hv, Hw, hf2, gL, gC, gs, gu, gw1, gw2⟩ := hT
    refine R_iload_n dX10_read_12 rfl rfl ?_
    refine R_aload_n dX10_read_13 rfl rfl ?_
    refine R_getf dX10_read_14 gX10_27 Hv rfl ?_
    refine N_icmp_ge (tgt := 85) dX10_read_17 (by decide) (by omega) (by omega) (fun _ => ?_) (fun hc => absurd hc (by omega))
    exact R_retv dX10_read_85 rfl rfl rfl ⟨by rw [List.take_of_length_le (by omega)] at hX0; exact hX0, hF⟩
  | succ d ih =>
    intro hp j lo1 lo2 hj hX hT hF
    have hX0 := hX
    have hT0 := hT
    obtain ⟨f, g, Hh, Ha, Hb, hf, hL, hC⟩ := hX
    obtain ⟨f2, Hv, Hw, hf2, gL, gC, gs, gu, gw1, gw2⟩ := hT
    have h1 : j < cs.length := by omega
    have hc3 := gC _ (List.getElem_mem h1)
    have htl := txt_len un (cs.take j) sc
    rw [List.length_take] at htl
    refine R_iload_n dX10_read_12 rfl rfl ?_
    refine R_aload_n dX10_read_13 rfl rfl ?_
    refine R_getf dX10_read_14 gX10_27 Hv rfl ?_
    refine N_icmp_ge (tgt := 85) dX10_read_17 (by decide) (by omega) (by omega) (fun hc => absurd hc (by omega)) (fun _ => ?_)
    refine R_aload_n dX10_read_20 rfl rfl ?_
    refine R_iload_n dX10_read_21 rfl rfl ?_
    refine R_calli (As := [.int (nI j)]) (st := []) kX9_at lX10_28 (t_at (j := j) (by omega) hT0) rfl Hv dX10_read_22 rfl rfl (Nat.le_of_ble_eq_true rfl) ⟨by decide, by decide⟩ zX9_at ⟨Nat.le_refl _, Nat.le_refl _⟩ (fun wr3 wp2 wq1 => ?_)
    obtain ⟨rfl, rfl⟩ : wr3 = _ ∧ hp = wp2 := ⟨wq1.1, wq1.2.symm⟩
    rw [gD h1]
    refine R_istore (lv' := [some (.ref h), some (.ref v), some (.int (nI (cAt un sc cs j))), some (.int (nI j)), some (.int (nI (cs[j]))), lo2]) dX10_read_25 (by decide) rfl ?_
    refine R_iload dX10_read_27 rfl ?_
    refine R_iload_n dX10_read_29 rfl rfl ?_
    refine R_stati (As := [.int (nI (cs[j])), .int (nI (cAt un sc cs j))]) (st := []) kX0_printed lX10_32 (c_printed hc3 (cAt_le gs)) dX10_read_30 rfl rfl (Nat.le_of_ble_eq_true rfl) ⟨by decide, by decide⟩ zX0_printed ⟨Nat.le_refl _, Nat.le_refl _⟩ (fun wr6 wp5 wq4 => ?_)
    obtain ⟨rfl, rfl⟩ : wr6 = _ ∧ hp = wp5 := ⟨wq4.1, wq4.2.symm⟩
    refine R_istore (lv' := [some (.ref h), some (.ref v), some (.int (nI (cAt un sc cs j))), some (.int (nI j)), some (.int (nI (cs[j]))), some (.int (prt cs[j] (cAt un sc cs j)))]) dX10_read_33 (by decide) rfl ?_
    refine R_iload dX10_read_35 rfl ?_
    refine R_iconst (v := (-1)) dX10_read_37 (by decide) ?_
    by_cases h29 : cs[j] < 29
    · have hch := ch_lt (c := cs[j]) (p := cAt un sc cs j) h29
      rw [prt_in h29]
      refine R_icmp_eq (tgt := 71) dX10_read_38 (by decide) (fun hc => absurd hc (nI_m1 (by omega))) (fun _ => ?_)
      refine R_aload_n dX10_read_41 rfl rfl ?_
      refine R_getf dX10_read_42 gX10_18 Hh rfl ?_
      refine R_bipush (v := (nI 96)) dX10_read_45 (by decide) ?_
      refine N_icmp_ge (tgt := 71) dX10_read_47 (by decide) (by omega) (by omega) (fun hc => absurd hc (by omega)) (fun _ => ?_)
      refine R_aload_n dX10_read_50 rfl rfl ?_
      refine R_getf dX10_read_51 gX10_9 Hh rfl ?_
      refine R_aload_n dX10_read_54 rfl rfl ?_
      refine R_getf dX10_read_55 gX10_18 Hh rfl ?_
      refine R_iload dX10_read_58 rfl ?_
      obtain ⟨wf7, ewf7⟩ : ∃ y, y = upd f ((txt un sc (cs.take j)).length) (nI (ch cs[j] (cAt un sc cs j))) := ⟨_, rfl⟩
      refine W_iast (f' := wf7) dX10_read_60 Ha (by omega) (by decide) ewf7 (fun wp8 wH9 wE10 => ?_)
      have wH11 := (wE10 h (kd_ne Ha Hh).symm).trans Hh
      have wH12 := (wE10 b (by omega)).trans Hb
      have wH13 := (wE10 v (kd_ne Ha Hv).symm).trans Hv
      have wH14 := (wE10 w (by omega)).trans Hw
      have wF15 : Fr [h, a] hp0 wp8 := hF.trans (Fr.one wE10 (by simp))
      refine R_aload_n dX10_read_61 rfl rfl ?_
      refine R_dup dX10_read_62 rfl ?_
      refine R_getf dX10_read_63 gX10_18 wH11 rfl ?_
      refine R_iconst (v := (nI 1)) dX10_read_66 (by decide) ?_
      refine N_iadd dX10_read_67 ?_
      refine W_puti (fs' := [.ref a, .ref b, .int (nI (((txt un sc (cs.take j)).length) + 1))]) dX10_read_68 pX10_18 wH11 (Nat.le_of_ble_eq_true rfl) rfl (fun wp16 wH17 wE18 => ?_)
      have wH19 := (wE18 a (kd_ne wH9 wH11)).trans wH9
      have wH20 := (wE18 b (kd_ne wH12 wH11)).trans wH12
      have wH21 := (wE18 v (by omega)).trans wH13
      have wH22 := (wE18 w (kd_ne wH14 wH11)).trans wH14
      have wF23 : Fr [h, a] hp0 wp16 := wF15.trans (Fr.one wE18 (by simp))
      refine R_aload_n dX10_read_71 rfl rfl ?_
      refine R_iload dX10_read_72 rfl ?_
      refine R_iload_n dX10_read_74 rfl rfl ?_
      have hn : (txt un sc (cs.take (j + 1))) = txt un sc (cs.take j) ++ [ch cs[j] (cAt un sc cs j)] := by rw [txt_s h1, if_pos h29]
      have hT1 : TpAt wp16 v w (cs, sc, un, wd) := ⟨f2, wH21, wH22, hf2, gL, gC, gs, gu, gw1, gw2⟩
      refine R_calli (As := [.int (nI (cs[j])), .int (nI (cAt un sc cs j))]) (st := []) kX9_caseAfter lX10_38 (t_caseAfter hc3 (cAt_le gs) hT1) rfl wH21 dX10_read_75 rfl rfl (Nat.le_of_ble_eq_true rfl) ⟨by decide, by decide⟩ zX9_caseAfter ⟨Nat.le_refl _, Nat.le_refl _⟩ (fun wr26 wp25 wq24 => ?_)
      obtain ⟨rfl, rfl⟩ : wr26 = _ ∧ wp16 = wp25 := ⟨wq24.1, wq24.2.symm⟩
      refine R_istore_n (lv' := [some (.ref h), some (.ref v), some (.int (nI (cAft un cs[j] (cAt un sc cs j)))), some (.int (nI j)), some (.int (nI (cs[j]))), some (.int (nI (ch cs[j] (cAt un sc cs j))))]) dX10_read_78 rfl (by decide) rfl ?_
      refine N_iinc (d := 1) (lv' := [some (.ref h), some (.ref v), some (.int (nI (cAft un cs[j] (cAt un sc cs j)))), some (.int (nI (j + 1))), some (.int (nI (cs[j]))), some (.int (nI (ch cs[j] (cAt un sc cs j))))]) dX10_read_79 rfl rfl ?_
      refine R_goto (tgt := 12) dX10_read_82 (by decide) ?_
      rw [← cAt_s h1]
      refine ih _ (j + 1) _ _ (by omega) ⟨wf7, g, ?_, wH19, wH20, fun i hi => ?_, ?_, fun x hx => ?_⟩ hT1 wF23
      · rw [hn, List.length_append]; exact wH17
      · rw [ewf7]
        by_cases hic : i = (txt un sc (cs.take j)).length
        · subst hic; rw [upd_s]; congr 1; simp only [hn]; simp
        · rw [upd_n hic, hf i (by rw [hn, List.length_append] at hi; simp at hi; omega)]; congr 1; simp only [hn]; rw [List.getElem_append_left]
      · rw [hn, List.length_append]; simp; omega
      · exact txt_lt un _ _ x hx
    · rw [prt_ne (by omega)]
      refine R_icmp_eq (tgt := 71) dX10_read_38 (by decide) (fun _ => ?_) (fun hc => absurd rfl hc)
      refine R_aload_n dX10_read_71 rfl rfl ?_
      refine R_iload dX10_read_72 rfl ?_
      refine R_iload_n dX10_read_74 rfl rfl ?_
      refine R_calli (As := [.int (nI (cs[j])), .int (nI (cAt un sc cs j))]) (st := []) kX9_caseAfter lX10_38 (t_caseAfter hc3 (cAt_le gs) hT0) rfl Hv dX10_read_75 rfl rfl (Nat.le_of_ble_eq_true rfl) ⟨by decide, by decide⟩ zX9_caseAfter ⟨Nat.le_refl _, Nat.le_refl _⟩ (fun wr29 wp28 wq27 => ?_)
      obtain ⟨rfl, rfl⟩ : wr29 = _ ∧ hp = wp28 := ⟨wq27.1, wq27.2.symm⟩
      refine R_istore_n (lv' := [some (.ref h), some (.ref v), some (.int (nI (cAft un cs[j] (cAt un sc cs j)))), some (.int (nI j)), some (.int (nI (cs[j]))), some (.int (-1))]) dX10_read_78 rfl (by decide) rfl ?_
      refine N_iinc (d := 1) (lv' := [some (.ref h), some (.ref v), some (.int (nI (cAft un cs[j] (cAt un sc cs j)))), some (.int (nI (j + 1))), some (.int (nI (cs[j]))), some (.int (-1))]) dX10_read_79 rfl rfl ?_
      refine R_goto (tgt := 12) dX10_read_82 (by decide) ?_
      rw [← cAt_s h1]
      refine ih _ (j + 1) _ _ (by omega) ?_ hT0 hF
      rw [txt_s h1, if_neg h29, List.append_nil]; exact hX0
set_option maxRecDepth 100000 in
set_option maxHeartbeats 4000000 in
theorem x_read {v w : Nat} {cs : List Nat} {sc un wd : Nat} (hX : TxAt hp h a b ts) (hT : TpAt hp v w (cs, sc, un, wd)) (hvh : v ≠ h) (hwa : w ≠ a) (hba : b ≠ a) (hwb : w ≠ b) : SpV l X mX10_read [.ref h, .ref v] hp (fun hp' => TxAt hp' h a b (txt un sc cs) ∧ Fr [h, a] hp hp') := by
  obtain ⟨f, g, Hh, Ha, Hb, hf, hL, hC⟩ := hX
  obtain ⟨f2, Hv, Hw, hf2, gL, gC, gs, gu, gw1, gw2⟩ := hT
  refine SpV.of pnX10 (Nat.le_of_ble_eq_true rfl) rfl ?_
  refine R_aload_n dX10_read_0 rfl rfl ?_
  refine R_getf dX10_read_1 gX10_22 Hv rfl ?_
  refine R_istore_n (lv' := [some (.ref h), some (.ref v), some (.int (nI sc)), none, none, none]) dX10_read_4 rfl (by decide) rfl ?_
  refine R_aload_n dX10_read_5 rfl rfl ?_
  refine R_iconst (v := (nI 0)) dX10_read_6 (by decide) ?_
  refine W_puti (fs' := [.ref a, .ref b, .int (nI 0)]) dX10_read_7 pX10_18 Hh (Nat.le_of_ble_eq_true rfl) rfl (fun wp1 wH2 wE3 => ?_)
  have wH4 := (wE3 a (kd_ne Ha Hh)).trans Ha
  have wH5 := (wE3 b (kd_ne Hb Hh)).trans Hb
  have wH6 := (wE3 v (by omega)).trans Hv
  have wH7 := (wE3 w (kd_ne Hw Hh)).trans Hw
  have wF8 : Fr [h, a] hp wp1 := Fr.one wE3 (by simp)
  refine R_iconst (v := (nI 0)) dX10_read_10 (by decide) ?_
  refine R_istore_n (lv' := [some (.ref h), some (.ref v), some (.int (nI sc)), some (.int (nI 0)), none, none]) dX10_read_11 rfl (by decide) rfl ?_
  have h9 := x_rdL (l := l) (X := X) hvh hwa hba hwb cs.length wp1 0 none none (by omega) (hp0 := hp) (un := un) (sc := sc) (wd := wd) (cs := cs) ⟨f, g, wH2, wH4, wH5, fun i hi => absurd hi (by simp [txt]), Nat.zero_le _, fun x hx => by cases hx⟩ ⟨f2, wH6, wH7, hf2, gL, gC, gs, gu, gw1, gw2⟩ wF8
  rw [cAt_0] at h9
  exact h9
end M18
