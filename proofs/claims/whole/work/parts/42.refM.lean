/-! The reference: wrapped encoding -/
theorem bg_sep {ms : List Nat} {k : Nat} (h : bwN ms k = true) : bgN ms k = false := by unfold bgN; rw [h]; rfl
theorem bg_in {ms : List Nat} {k : Nat} (h0 : k ≠ 0) (h : bwN ms (k - 1) = false) : bgN ms k = false := by unfold bgN; rw [h, decide_eq_false h0]; simp
theorem bg_yes {ms : List Nat} {k : Nat} (h : bwN ms k = false) (h2 : k = 0 ∨ bwN ms (k - 1) = true) : bgN ms k = true := by
  unfold bgN; rw [h]
  rcases h2 with h2 | h2
  · rw [decide_eq_true h2]; rfl
  · rw [h2]; simp
theorem bw_in {ms : List Nat} {k : Nat} (h : k < ms.length) : bwN ms k = isSep ms[k] := by unfold bwN; rw [decide_eq_false (by omega), gD h]; rfl
theorem wr_skip {un sc wd : Nat} {ms V : List Nat} {d i u : Nat} (h : bgN ms i = false) : wrpN un sc wd ms (d + 1) i V u = wrpN un sc wd ms d (i + 1) V u := by simp only [wrpN]; rw [if_neg (by rw [h]; decide)]
/-- inside a word nothing happens -/
theorem wr_jump {un sc wd : Nat} {ms V : List Nat} {u e : Nat} : ∀ (d i : Nat), i + d = e → 0 < i → e ≤ ms.length → (∀ q, i - 1 ≤ q → q < e → bwN ms q = false) → wrpN un sc wd ms (ms.length - i) i V u = wrpN un sc wd ms (ms.length - e) e V u
  | 0, i, h, _, _, _ => by rw [show i = e by omega]
  | d + 1, i, h, h0, he, hq => by
    rw [show ms.length - i = (ms.length - (i + 1)) + 1 by omega, wr_skip (bg_in (by omega) (hq (i - 1) (by omega) (by omega)))]
    exact wr_jump d (i + 1) (by omega) (by omega) he (fun q h1 h2 => hq q (by omega) h2)
theorem wr_word {un sc wd : Nat} {ms V : List Nat} {u i e : Nat} (hi : i < e) (he : e ≤ ms.length) (hb : bgN ms i = true) (hq : ∀ q, i ≤ q → q < e → bwN ms q = false) (hw : eow ms i = e) : wrpN un sc wd ms (ms.length - i) i V u = wrpN un sc wd ms (ms.length - e) e (encR un sc (plcV un sc wd V u (e - i)) ((ms.drop i).take (e - i))) (plcU wd u (e - i)) := by
  rw [show ms.length - i = (ms.length - (i + 1)) + 1 by omega]
  simp only [wrpN]
  rw [if_pos hb, hw]
  exact wr_jump (e - (i + 1)) (i + 1) (by omega) (by omega) he (fun q h1 h2 => hq q (by omega) h2)
theorem eow_of {ms : List Nat} {i e : Nat} (hi : i ≤ e) (he : e ≤ ms.length) (hq : ∀ q (h : q < ms.length), i ≤ q → q < e → isSep ms[q] = false) (hl : ∀ h : e < ms.length, isSep ms[e] = true) : eow ms i = e := by
  unfold eow
  obtain ⟨n, rfl⟩ : ∃ n, e = i + n := ⟨e - i, by omega⟩
  congr 1
  clear hi
  induction n generalizing i with
  | zero =>
    by_cases h : i < ms.length
    · rw [drop_c h, List.takeWhile_cons, if_neg (by have h8 : isSep ms[i] = true := hl h; rw [h8]; decide)]; rfl
    · rw [List.drop_eq_nil_of_le (by omega)]; rfl
  | succ n ih =>
    rw [drop_c (by omega), List.takeWhile_cons, if_pos (by rw [hq i (by omega) (by omega) (by omega)]; rfl), List.length_cons]
    rw [ih (i := i + 1) (by omega) (fun q h h1 h2 => hq q h (by omega) (by omega)) (fun h => by have := hl (by omega); simpa [Nat.add_assoc, Nat.add_comm 1 n] using this)]
theorem plc_len {un sc wd : Nat} {V : List Nat} {u z : Nat} : V.length ≤ (plcV un sc wd V u z).length := by
  unfold plcV; split
  · exact Nat.le_refl _
  · split
    · exact Nat.le_of_lt (encV_len un sc V 32)
    · rw [len1, len1, len1]; omega
theorem wr_len (un sc wd : Nat) (ms : List Nat) : ∀ (d i : Nat) (V : List Nat) (u : Nat), V.length ≤ (wrpN un sc wd ms d i V u).length
  | 0, _, V, _ => Nat.le_refl _
  | d + 1, i, V, u => by
    simp only [wrpN]; split
    · exact Nat.le_trans (Nat.le_trans plc_len (encR_len un sc _ _)) (wr_len un sc wd ms d (i + 1) _ _)
    · exact wr_len un sc wd ms d (i + 1) V u
section R42
variable {l : Launch} {X : EX} {hp : HPt}
set_option maxRecDepth 100000 in
set_option maxHeartbeats 4000000 in
theorem r_blank {ms : List Nat} {ac nxx sn sx tl sl st : Int32} {j : Nat} (hj : j < ms.length) (M0 : hp[61]? = some (ob 11 [.ref 62, .int (nI (ms.length)), .ref 63, .ref 64, .ref 65, .int (ac), .int (nxx), .ref 66, .ref 67, .ref 68, .ref 69, .int (sn), .int (sx), .ref 70, .ref 71, .ref 72, .ref 73, .ref 74, .int (tl), .ref 75, .int (sl), .ref 76, .int (st), .ref 77])) (MM : MgA hp ms) : SpI l X mX12_isBlank [.ref 61, .int (nI j)] hp (fun r hp' => r = bz (isSep ms[j]) ∧ hp' = hp) := by
  obtain ⟨fm, Hm, hfm, hmL, hmC⟩ := MM
  have hc := hmC ms[j] (List.getElem_mem hj)
  refine SpI.of pnX12 (Nat.le_of_ble_eq_true rfl) rfl ?_
  refine R_aload_n dX12_isBlank_0 rfl rfl ?_
  refine R_getf dX12_isBlank_1 gX12_7 M0 rfl ?_
  refine R_iload_n dX12_isBlank_4 rfl rfl ?_
  refine N_iald (y := (nI (ms[j]))) dX12_isBlank_5 Hm (by omega) (by decide) (hfm j hj) ?_
  refine R_istore_n (lv' := [some (.ref 61), some (.int (nI j)), some (.int (nI (ms[j])))]) dX12_isBlank_6 rfl (by decide) rfl ?_
  refine R_iload_n dX12_isBlank_7 rfl rfl ?_
  refine R_bipush (v := (nI 32)) dX12_isBlank_8 (by decide) ?_
  refine N_icmp_eq (tgt := 25) dX12_isBlank_10 (by decide) (by omega) (by omega) (fun h1 => ?_) (fun h1 => ?_)
  · refine R_iconst (v := (nI 1)) dX12_isBlank_25 (by decide) ?_
    refine R_goto (tgt := 30) dX12_isBlank_26 (by decide) ?_
    exact R_retz dX12_isBlank_30 rfl rfl rfl rfl ⟨by unfold isSep; exact bz_c1 (.inl h1), rfl⟩
  · refine R_iload_n dX12_isBlank_13 rfl rfl ?_
    refine R_bipush (v := (nI 10)) dX12_isBlank_14 (by decide) ?_
    refine N_icmp_eq (tgt := 25) dX12_isBlank_16 (by decide) (by omega) (by omega) (fun h2 => ?_) (fun h2 => ?_)
    · refine R_iconst (v := (nI 1)) dX12_isBlank_25 (by decide) ?_
      refine R_goto (tgt := 30) dX12_isBlank_26 (by decide) ?_
      exact R_retz dX12_isBlank_30 rfl rfl rfl rfl ⟨by unfold isSep; exact bz_c1 (.inr (.inl h2)), rfl⟩
    · refine R_iload_n dX12_isBlank_19 rfl rfl ?_
      refine R_bipush (v := (nI 13)) dX12_isBlank_20 (by decide) ?_
      refine N_icmp_ne (tgt := 29) dX12_isBlank_22 (by decide) (by omega) (by omega) (fun h3 => ?_) (fun h3 => ?_)
      · refine R_iconst (v := (nI 0)) dX12_isBlank_29 (by decide) ?_
        exact R_retz dX12_isBlank_30 rfl rfl rfl rfl ⟨by unfold isSep; exact bz_c0 (by omega), rfl⟩
      · refine R_iconst (v := (nI 1)) dX12_isBlank_25 (by decide) ?_
        refine R_goto (tgt := 30) dX12_isBlank_26 (by decide) ?_
        exact R_retz dX12_isBlank_30 rfl rfl rfl rfl ⟨by unfold isSep; exact bz_c1 (.inr (.inr h3)), rfl⟩
set_option maxRecDepth 100000 in
set_option maxHeartbeats 4000000 in
theorem r_ewE {Z : ZT} {ms : List Nat} {ac nxx sn sx tl sl st : Int32} {gv fv : Int32} {u k : Nat} (M0 : hp[61]? = some (ob 11 [.ref 62, .int (nI (ms.length)), .ref 63, .ref 64, .ref 65, .int (ac), .int (nxx), .ref 66, .ref 67, .ref 68, .ref 69, .int (sn), .int (sx), .ref 70, .ref 71, .ref 72, .ref 73, .ref 74, .int (tl), .ref 75, .int (sl), .ref 76, .int (st), .ref 77])) (MM : MgA hp ms) (K : ∀ e, k ≤ e → e ≤ ms.length → (∀ q (h : q < ms.length), k ≤ q → q < e → isSep ms[q] = false) → (∀ h : e < ms.length, isSep ms[e] = true) → PZ l X Z mX12_encodeWrapped 88 [some (.ref 61), some (.int (gv)), some (.int (fv)), some (.int (nI u)), some (.int (nI k)), some (.int (nI e))] [] hp 0 0) : ∀ (d j : Nat), j + d = ms.length → k ≤ j → (∀ q (h : q < ms.length), k ≤ q → q < j → isSep ms[q] = false) → PZ l X Z mX12_encodeWrapped 64 [some (.ref 61), some (.int (gv)), some (.int (fv)), some (.int (nI u)), some (.int (nI k)), some (.int (nI j))] [] hp 0 0 := by
  have hmL := MM.ok.1
  intro d
  induction d with
  | zero =>
    intro j hj hkj hq
    refine R_iload dX12_encodeWrapped_64 rfl ?_
    refine R_aload_n dX12_encodeWrapped_66 rfl rfl ?_
    refine R_getf dX12_encodeWrapped_67 gX12_92 M0 rfl ?_
    refine N_icmp_ge (tgt := 88) dX12_encodeWrapped_70 (by decide) (by omega) (by omega) (fun _ => ?_) (fun hc => absurd hc (by omega))
    exact K j hkj (by omega) hq (fun h => absurd h (by omega))
  | succ d ih =>
    intro j hj hkj hq
    refine R_iload dX12_encodeWrapped_64 rfl ?_
    refine R_aload_n dX12_encodeWrapped_66 rfl rfl ?_
    refine R_getf dX12_encodeWrapped_67 gX12_92 M0 rfl ?_
    refine N_icmp_ge (tgt := 88) dX12_encodeWrapped_70 (by decide) (by omega) (by omega) (fun hc => absurd hc (by omega)) (fun _ => ?_)
    refine R_aload_n dX12_encodeWrapped_73 rfl rfl ?_
    refine R_iload dX12_encodeWrapped_74 rfl ?_
    refine R_calli (As := [.int (nI j)]) (st := []) kX12_isBlank lX12_140 (r_blank (by omega) M0 MM) rfl M0 dX12_encodeWrapped_76 rfl rfl (Nat.le_of_ble_eq_true rfl) ⟨by decide, by decide⟩ zX12_isBlank ⟨Nat.le_refl _, Nat.le_refl _⟩ (fun wr3 wp2 wq1 => ?_)
    obtain ⟨rfl, rfl⟩ : wr3 = _ ∧ hp = wp2 := ⟨wq1.1, wq1.2.symm⟩
    cases hs9 : isSep ms[j] with
    | false =>
      show PZ _ _ _ _ _ _ (.int (nI 0) :: _) _ _ _
      refine N_if_ne (tgt := 88) dX12_encodeWrapped_79 (by decide) (by decide) (fun hc => absurd hc (by decide)) (fun _ => ?_)
      refine N_iinc (d := 1) (lv' := [some (.ref 61), some (.int (gv)), some (.int (fv)), some (.int (nI u)), some (.int (nI k)), some (.int (nI (j + 1)))]) dX12_encodeWrapped_82 rfl rfl ?_
      refine R_goto (tgt := 64) dX12_encodeWrapped_85 (by decide) ?_
      refine ih (j + 1) (by omega) (by omega) (fun q h h1 h2 => ?_)
      by_cases e : q = j
      · subst e; exact hs9
      · exact hq q h h1 (by omega)
    | true =>
      show PZ _ _ _ _ _ _ (.int (nI 1) :: _) _ _ _
      refine N_if_ne (tgt := 88) dX12_encodeWrapped_79 (by decide) (by decide) (fun _ => ?_) (fun hc => absurd hc (by decide))
      exact K j hkj (by omega) hq (fun h => hs9)
end R42
