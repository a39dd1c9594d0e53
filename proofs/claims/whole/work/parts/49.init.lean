/-! CONSTRUCTORS: rules that tell the heap's length, and the contracts -/
section V49
variable {l : Launch} {X : EX} {Z : ZT} {M : MT} {pc : Nat} {lv lv' : List (Option Value)} {st : List Value} {hp : HPt} {k n : Nat}
theorem V_set {h m : Nat} {e e0 : PE} {pc' : Nat} (hl : hp.length = m) (hh : hp[h]? = some e0) (kk : ∀ hp1 : HPt, hp1.length = m → hp1[h]? = some e → (∀ j, j ≠ h → hp1[j]? = hp[j]?) → PZ l X Z M pc' lv st hp1 k n) : PZ l X Z M pc' lv st (hp.set h e) k n :=
  kk _ (by rw [List.length_set]; exact hl) (gs_same hh) (fun _ hj => gs_ne (Ne.symm hj))
theorem V_push {m pc' : Nat} {e : PE} (hl : hp.length = m) (kk : ∀ hp1 : HPt, hp1.length = m + 1 → hp1[m]? = some e → (∀ j, j ≠ m → hp1[j]? = hp[j]?) → PZ l X Z M pc' lv (.ref m :: st) hp1 k n) : PZ l X Z M pc' lv (.ref hp.length :: st) (hp ++ [e]) k n := by
  subst hl
  refine kk _ (by rw [List.length_append]; rfl) (by rw [List.getElem?_append_right (Nat.le_refl _), Nat.sub_self]; rfl) (fun j hj => ?_)
  by_cases h : j < hp.length
  · exact List.getElem?_append_left h
  · rw [List.getElem?_eq_none (by rw [List.length_append]; show hp.length + 1 ≤ j; omega), List.getElem?_eq_none (by omega)]
theorem V_puti {idx ci j h m : Nat} {fs fs' : List Value} {v : Int32} (hl : hp.length = m) (hd : DC M pc (.putfield idx) 3) (hf : FP (mY M).cls idx ci j .int) (hh : hp[h]? = some (.inr (ci, fs))) (hj' : j < fs.length) (hfs : fs.set j (.int v) = fs') (kk : ∀ hp1 : HPt, hp1.length = m → hp1[h]? = some (ob ci fs') → (∀ j, j ≠ h → hp1[j]? = hp[j]?) → PZ l X Z M (pc + 3) lv st hp1 k n) : PZ l X Z M pc lv (.int v :: .ref h :: st) hp k n := by
  subst hfs
  exact R_puti hd hf hh hj' (V_set hl hh kk)
theorem V_putl {idx ci j h m : Nat} {fs fs' : List Value} {v : Int64} (hl : hp.length = m) (hd : DC M pc (.putfield idx) 3) (hf : FP (mY M).cls idx ci j .long) (hh : hp[h]? = some (.inr (ci, fs))) (hj' : j < fs.length) (hfs : fs.set j (.long v) = fs') (kk : ∀ hp1 : HPt, hp1.length = m → hp1[h]? = some (ob ci fs') → (∀ j, j ≠ h → hp1[j]? = hp[j]?) → PZ l X Z M (pc + 3) lv st hp1 k n) : PZ l X Z M pc lv (.long v :: .ref h :: st) hp k n := by
  subst hfs
  exact R_putl hd hf hh hj' (V_set hl hh kk)
theorem V_putz {idx ci j h m : Nat} {fs fs' : List Value} {v : Int32} (hl : hp.length = m) (hd : DC M pc (.putfield idx) 3) (hf : FP (mY M).cls idx ci j .boolean) (hh : hp[h]? = some (.inr (ci, fs))) (hj' : j < fs.length) (hfs : fs.set j (.int v) = fs') (hv : narrow .boolean (.int v) = .int v) (hv2 : fits .boolean (.int v) = true) (kk : ∀ hp1 : HPt, hp1.length = m → hp1[h]? = some (ob ci fs') → (∀ j, j ≠ h → hp1[j]? = hp[j]?) → PZ l X Z M (pc + 3) lv st hp1 k n) : PZ l X Z M pc lv (.int v :: .ref h :: st) hp k n := by
  subst hfs
  exact R_putz hd hf hh hj' hv hv2 (V_set hl hh kk)
theorem V_putF {idx ci j h m q : Nat} {ty : FieldType} {fs fs' : List Value} (hl : hp.length = m) (hd : DC M pc (.putfield idx) 3) (hf : FQ (mY M).cls idx ci j ty) (hi : (mY M).name = "<init>") (hh : hp[h]? = some (.inr (ci, fs))) (hj' : j < fs.length) (hn : narrow ty (xv X (.ref q)) = xv X (.ref q)) (hfit : fits ty (xv X (.ref q)) = true) (hfs : fs.set j (.ref q) = fs') (kk : ∀ hp1 : HPt, hp1.length = m → hp1[h]? = some (ob ci fs') → (∀ j, j ≠ h → hp1[j]? = hp[j]?) → PZ l X Z M (pc + 3) lv st hp1 k n) : PZ l X Z M pc lv (.ref q :: .ref h :: st) hp k n := by
  subst hfs
  exact R_putF hd hf hi hh hj' hn hfit (V_set hl hh kk)
theorem V_putf {idx ci j h m q : Nat} {ty : FieldType} {fs fs' : List Value} (hl : hp.length = m) (hd : DC M pc (.putfield idx) 3) (hf : FP (mY M).cls idx ci j ty) (hh : hp[h]? = some (.inr (ci, fs))) (hj' : j < fs.length) (hn : narrow ty (xv X (.ref q)) = xv X (.ref q)) (hfit : fits ty (xv X (.ref q)) = true) (hfs : fs.set j (.ref q) = fs') (kk : ∀ hp1 : HPt, hp1.length = m → hp1[h]? = some (ob ci fs') → (∀ j, j ≠ h → hp1[j]? = hp[j]?) → PZ l X Z M (pc + 3) lv st hp1 k n) : PZ l X Z M pc lv (.ref q :: .ref h :: st) hp k n := by
  subst hfs
  exact R_putf hd hf hh hj' hn hfit (V_set hl hh kk)
theorem V_iast {h N j m : Nat} {f f' : Nat → Int32} {x : Int32} (hl : hp.length = m) (hd : DC M pc .iastore 1) (hh : hp[h]? = some (ia N f)) (hj : j < N) (hN : N < 2 ^ 31) (hf : f' = upd f j x) (kk : ∀ hp1 : HPt, hp1.length = m → hp1[h]? = some (ia N f') → (∀ j, j ≠ h → hp1[j]? = hp[j]?) → PZ l X Z M (pc + 1) lv st hp1 k n) : PZ l X Z M pc lv (.int x :: .int (nI j) :: .ref h :: st) hp k n := by
  subst hf
  exact N_iast hd hh hj hN (V_set hl hh kk)
theorem V_aast {h N q j m : Nat} {f f' : Nat → Option Nat} {fs : List Value} (hl : hp.length = m) (hd : DC M pc .aastore 1) (hh : hp[h]? = some (qa N f)) (hj : j < N) (hN : N < 2 ^ 31) (hq : hp[q]? = some (.inr (8, fs))) (hf : f' = va_up f j (some q)) (kk : ∀ hp1 : HPt, hp1.length = m → hp1[h]? = some (qa N f') → (∀ j, j ≠ h → hp1[j]? = hp[j]?) → PZ l X Z M (pc + 1) lv st hp1 k n) : PZ l X Z M pc lv (.ref q :: .int (nI j) :: .ref h :: st) hp k n := by
  subst hf
  exact N_aast hd hh hj hN hq (V_set hl hh kk)
theorem V_new {idx ci N m : Nat} {C : String} {T : u_T} {ty0 : Nat → FieldType} {fs : List Value} (hl : hp.length = m) (hkc : KC ci C T N ty0) (hd : DC M pc (.new idx) 3) (hcl : Cond.classLink (mY M).cls idx C ∈ lw_tg) (hin : Cond.instantiable C N ∈ lw_tg) (hini : Cond.initialized C ∈ lw_tg) (hfs : ∀ j, j < N → defaultValue (ty0 j) = vp_V (fs.map (xv X)) j) (hc : k + 1 ≤ (mM M).cells ∧ n + N ≤ (mM M).slots)
    (kk : ∀ hp1 : HPt, hp1.length = m + 1 → hp1[m]? = some (ob ci fs) → (∀ j, j ≠ m → hp1[j]? = hp[j]?) → PZ l X Z M (pc + 3) lv (.ref m :: st) hp1 (k + 1) (n + N)) : PZ l X Z M pc lv st hp k n :=
  R_new hkc hd hcl hin hini hfs hc (V_push hl kk)
theorem V_newi {x : Int32} {N m : Nat} (hl : hp.length = m) (hd : DC M pc (.newarray .int) 2) (hx : ¬ x < 0) (hN : x.toNatClampNeg = N) (hb : N ≤ 100000) (hc : k + 1 ≤ (mM M).cells ∧ n + N ≤ (mM M).slots) (kk : ∀ hp1 : HPt, hp1.length = m + 1 → hp1[m]? = some (ia N (fun _ => 0)) → (∀ j, j ≠ m → hp1[j]? = hp[j]?) → PZ l X Z M (pc + 2) lv (.ref m :: st) hp1 (k + 1) (n + N)) : PZ l X Z M pc lv (.int x :: st) hp k n :=
  R_newi hd hx hN hb hc (V_push hl kk)
theorem V_newz {x : Int32} {N m : Nat} (hl : hp.length = m) (hd : DC M pc (.newarray .boolean) 2) (hx : ¬ x < 0) (hN : x.toNatClampNeg = N) (hb : N ≤ 100000) (hc : k + 1 ≤ (mM M).cells ∧ n + N ≤ (mM M).slots) (kk : ∀ hp1 : HPt, hp1.length = m + 1 → hp1[m]? = some (za N (fun _ => 0)) → (∀ j, j ≠ m → hp1[j]? = hp[j]?) → PZ l X Z M (pc + 2) lv (.ref m :: st) hp1 (k + 1) (n + N)) : PZ l X Z M pc lv (.int x :: st) hp k n :=
  R_newz hd hx hN hb hc (V_push hl kk)
theorem V_newq {x : Int32} {N idx m : Nat} (hl : hp.length = m) (hd : DC M pc (.anewarray idx) 3) (hcl : Cond.classLink (mY M).cls idx RX9 ∈ lw_tg) (hx : ¬ x < 0) (hN : x.toNatClampNeg = N) (hb : N ≤ 100000) (hc : k + 1 ≤ (mM M).cells ∧ n + N ≤ (mM M).slots) (kk : ∀ hp1 : HPt, hp1.length = m + 1 → hp1[m]? = some (qa N (fun _ => none)) → (∀ j, j ≠ m → hp1[j]? = hp[j]?) → PZ l X Z M (pc + 3) lv (.ref m :: st) hp1 (k + 1) (n + N)) : PZ l X Z M pc lv (.int x :: st) hp k n :=
  R_newq hd hcl hx hN hb hc (V_push hl kk)
theorem V_callI {M' : MT} {idx h : Nat} {Q : HPt → Prop} (hm : MI M' 0) (hlk : MLk (mY M).cls idx (mY M')) (hsp : SpV l X M' [.ref h] hp Q) (hd : DC M pc (.invokespecial idx) 3) (hw : (st.map fun v => v.category).sum ≤ 8) (hrm : RMk M M') (hc : k + (mM M').cells ≤ (mM M).cells ∧ n + (mM M').slots ≤ (mM M).slots)
    (kk : ∀ hp' : HPt, Q hp' → PZ l X Z M (pc + 3) lv st hp' (k + (mM M').cells) (n + (mM M').slots)) : PZ l X Z M pc lv (.ref h :: st) hp k n :=
  R_callI (As := []) hm hlk hsp hd rfl rfl hw hrm hc (fun v hp' ⟨hv, hq⟩ => by rw [hv]; exact kk hp' hq)
end V49
theorem dfX1 (X : EX) : ∀ j, j < 4 → defaultValue (tyX1 j) = vp_V (([.long (0), .long (0), .long (0), .long (0)] : List Value).map (xv X)) j
  | 0, _ => rfl
  | 1, _ => rfl
  | 2, _ => rfl
  | 3, _ => rfl
  | j + 4, h => absurd h (by omega)
theorem dfX2 (X : EX) : ∀ j, j < 3 → defaultValue (tyX2 j) = vp_V (([.null, .int (nI 0), .int (nI 0)] : List Value).map (xv X)) j
  | 0, _ => rfl
  | 1, _ => rfl
  | 2, _ => rfl
  | j + 3, h => absurd h (by omega)
theorem dfX3 (X : EX) : ∀ j, j < 2 → defaultValue (tyX3 j) = vp_V (([.null, .int (nI 0)] : List Value).map (xv X)) j
  | 0, _ => rfl
  | 1, _ => rfl
  | j + 2, h => absurd h (by omega)
theorem dfX4 (X : EX) : ∀ j, j < 4 → defaultValue (tyX4 j) = vp_V (([.null, .null, .int (nI 0), .int (nI 0)] : List Value).map (xv X)) j
  | 0, _ => rfl
  | 1, _ => rfl
  | 2, _ => rfl
  | 3, _ => rfl
  | j + 4, h => absurd h (by omega)
theorem dfX5 (X : EX) : ∀ j, j < 4 → defaultValue (tyX5 j) = vp_V (([.null, .int (nI 0), .int (nI 0), .int (nI 0)] : List Value).map (xv X)) j
  | 0, _ => rfl
  | 1, _ => rfl
  | 2, _ => rfl
  | 3, _ => rfl
  | j + 4, h => absurd h (by omega)
theorem dfX6 (X : EX) : ∀ j, j < 3 → defaultValue (tyX6 j) = vp_V (([.null, .int (nI 0), .int (nI 0)] : List Value).map (xv X)) j
  | 0, _ => rfl
  | 1, _ => rfl
  | 2, _ => rfl
  | j + 3, h => absurd h (by omega)
theorem dfX7 (X : EX) : ∀ j, j < 2 → defaultValue (tyX7 j) = vp_V (([.null, .int (nI 0)] : List Value).map (xv X)) j
  | 0, _ => rfl
  | 1, _ => rfl
  | j + 2, h => absurd h (by omega)
theorem dfX8 (X : EX) : ∀ j, j < 2 → defaultValue (tyX8 j) = vp_V (([.null, .null] : List Value).map (xv X)) j
  | 0, _ => rfl
  | 1, _ => rfl
  | j + 2, h => absurd h (by omega)
theorem dfX9 (X : EX) : ∀ j, j < 5 → defaultValue (tyX9 j) = vp_V (([.null, .int (nI 0), .int (nI 0), .int (nI 0), .int (nI 0)] : List Value).map (xv X)) j
  | 0, _ => rfl
  | 1, _ => rfl
  | 2, _ => rfl
  | 3, _ => rfl
  | 4, _ => rfl
  | j + 5, h => absurd h (by omega)
theorem dfX10 (X : EX) : ∀ j, j < 3 → defaultValue (tyX10 j) = vp_V (([.null, .null, .int (nI 0)] : List Value).map (xv X)) j
  | 0, _ => rfl
  | 1, _ => rfl
  | 2, _ => rfl
  | j + 3, h => absurd h (by omega)
theorem dfX11 (X : EX) : ∀ j, j < 12 → defaultValue (tyX11 j) = vp_V (([.null, .null, .null, .null, .null, .null, .null, .null, .null, .null, .null, .null] : List Value).map (xv X)) j
  | 0, _ => rfl
  | 1, _ => rfl
  | 2, _ => rfl
  | 3, _ => rfl
  | 4, _ => rfl
  | 5, _ => rfl
  | 6, _ => rfl
  | 7, _ => rfl
  | 8, _ => rfl
  | 9, _ => rfl
  | 10, _ => rfl
  | 11, _ => rfl
  | j + 12, h => absurd h (by omega)
theorem dfX12 (X : EX) : ∀ j, j < 24 → defaultValue (tyX12 j) = vp_V (([.null, .int (nI 0), .null, .null, .null, .int (nI 0), .int (nI 0), .null, .null, .null, .null, .int (nI 0), .int (nI 0), .null, .null, .null, .null, .null, .int (nI 0), .null, .int (nI 0), .null, .int (nI 0), .null] : List Value).map (xv X)) j
  | 0, _ => rfl
  | 1, _ => rfl
  | 2, _ => rfl
  | 3, _ => rfl
  | 4, _ => rfl
  | 5, _ => rfl
  | 6, _ => rfl
  | 7, _ => rfl
  | 8, _ => rfl
  | 9, _ => rfl
  | 10, _ => rfl
  | 11, _ => rfl
  | 12, _ => rfl
  | 13, _ => rfl
  | 14, _ => rfl
  | 15, _ => rfl
  | 16, _ => rfl
  | 17, _ => rfl
  | 18, _ => rfl
  | 19, _ => rfl
  | 20, _ => rfl
  | 21, _ => rfl
  | 22, _ => rfl
  | 23, _ => rfl
  | j + 24, h => absurd h (by omega)
section I49
variable {l : Launch} {X : EX} {hp : HPt}
set_option maxRecDepth 100000 in
set_option maxHeartbeats 4000000 in
theorem i_tape {b : Nat} (hl : hp.length = b + 1) (H : hp[b]? = some (ob 8 [.null, .int (nI 0), .int (nI 0), .int (nI 0), .int (nI 0)])) : SpV l X mX9_init [.ref b] hp (fun hp' => hp'.length = b + 2 ∧ TpAt hp' b (b + 1) ([], 0, 0, 20) ∧ Fr [b, b + 1] hp hp') := by
  refine SpV.of pnX9 (Nat.le_of_ble_eq_true rfl) rfl ?_
  refine R_aload_n dX9_init_0 rfl rfl ?_
  refine R_objInit dX9_init_1 lX9_3 oi_i oi_c (Nat.le_of_ble_eq_true rfl) (Nat.le_of_ble_eq_true rfl) ?_
  refine R_aload_n dX9_init_4 rfl rfl ?_
  refine R_bipush (v := (nI 96)) dX9_init_5 (by decide) ?_
  refine V_newi (N := 96) hl dX9_init_7 (nI_pos (by decide)) (nI_clamp (by decide)) (Nat.le_of_ble_eq_true rfl) ⟨Nat.le_of_ble_eq_true rfl, Nat.le_of_ble_eq_true rfl⟩ (fun wp1 wl4 wH2 wE3 => ?_)
  have wH5 := (wE3 b (by omega)).trans H
  have wG6 : Fr [b + 1] hp wp1 := Fr.one wE3 (by simp)
  have wF7 : Fr [b, b + 1] hp wp1 := wG6.mono (by simp)
  refine V_putF (fs' := [.ref (b + 1), .int (nI 0), .int (nI 0), .int (nI 0), .int (nI 0)]) wl4 dX9_init_9 qX9_9 rfl wH5 (Nat.le_of_ble_eq_true rfl) rfl rfl rfl (fun wp8 wl11 wH9 wE10 => ?_)
  have wH12 := (wE10 (b + 1) (by omega)).trans wH2
  have wG13 : Fr [b] wp1 wp8 := Fr.one wE10 (by simp)
  have wF14 : Fr [b, b + 1] hp wp8 := wF7.trans (wG13.mono (by simp))
  refine R_aload_n dX9_init_12 rfl rfl ?_
  refine R_iconst (v := (nI 0)) dX9_init_13 (by decide) ?_
  refine V_puti (fs' := [.ref (b + 1), .int (nI 0), .int (nI 0), .int (nI 0), .int (nI 0)]) wl11 dX9_init_14 pX9_15 wH9 (Nat.le_of_ble_eq_true rfl) rfl (fun wp15 wl18 wH16 wE17 => ?_)
  have wH19 := (wE17 (b + 1) (by omega)).trans wH12
  have wG20 : Fr [b] wp8 wp15 := Fr.one wE17 (by simp)
  have wF21 : Fr [b, b + 1] hp wp15 := wF14.trans (wG20.mono (by simp))
  refine R_aload_n dX9_init_17 rfl rfl ?_
  refine R_iconst (v := (nI 0)) dX9_init_18 (by decide) ?_
  refine V_puti (fs' := [.ref (b + 1), .int (nI 0), .int (nI 0), .int (nI 0), .int (nI 0)]) wl18 dX9_init_19 pX9_19 wH16 (Nat.le_of_ble_eq_true rfl) rfl (fun wp22 wl25 wH23 wE24 => ?_)
  have wH26 := (wE24 (b + 1) (by omega)).trans wH19
  have wG27 : Fr [b] wp15 wp22 := Fr.one wE24 (by simp)
  have wF28 : Fr [b, b + 1] hp wp22 := wF21.trans (wG27.mono (by simp))
  refine R_aload_n dX9_init_22 rfl rfl ?_
  refine R_iconst (v := (nI 0)) dX9_init_23 (by decide) ?_
  refine V_puti (fs' := [.ref (b + 1), .int (nI 0), .int (nI 0), .int (nI 0), .int (nI 0)]) wl25 dX9_init_24 pX9_22 wH23 (Nat.le_of_ble_eq_true rfl) rfl (fun wp29 wl32 wH30 wE31 => ?_)
  have wH33 := (wE31 (b + 1) (by omega)).trans wH26
  have wG34 : Fr [b] wp22 wp29 := Fr.one wE31 (by simp)
  have wF35 : Fr [b, b + 1] hp wp29 := wF28.trans (wG34.mono (by simp))
  refine R_aload_n dX9_init_27 rfl rfl ?_
  refine R_bipush (v := (nI 20)) dX9_init_28 (by decide) ?_
  refine V_puti (fs' := [.ref (b + 1), .int (nI 0), .int (nI 0), .int (nI 0), .int (nI 20)]) wl32 dX9_init_30 pX9_25 wH30 (Nat.le_of_ble_eq_true rfl) rfl (fun wp36 wl39 wH37 wE38 => ?_)
  have wH40 := (wE38 (b + 1) (by omega)).trans wH33
  have wG41 : Fr [b] wp29 wp36 := Fr.one wE38 (by simp)
  have wF42 : Fr [b, b + 1] hp wp36 := wF35.trans (wG41.mono (by simp))
  exact R_retv dX9_init_33 rfl rfl rfl ⟨wl39, ⟨fun _ => 0, wH37, wH40, fun i hi => absurd hi (by simp), by decide, fun x hx => by simp at hx, by decide, by decide, by decide, by decide⟩, wF42⟩
set_option maxRecDepth 100000 in
set_option maxHeartbeats 4000000 in
theorem i_text {b : Nat} (hl : hp.length = b + 1) (H : hp[b]? = some (ob 9 [.null, .null, .int (nI 0)])) : SpV l X mX10_init [.ref b] hp (fun hp' => hp'.length = b + 3 ∧ TxAt hp' b (b + 1) (b + 2) [] ∧ Fr [b, b + 1, b + 2] hp hp') := by
  refine SpV.of pnX10 (Nat.le_of_ble_eq_true rfl) rfl ?_
  refine R_aload_n dX10_init_0 rfl rfl ?_
  refine R_objInit dX10_init_1 lX10_3 oi_i oi_c (Nat.le_of_ble_eq_true rfl) (Nat.le_of_ble_eq_true rfl) ?_
  refine R_aload_n dX10_init_4 rfl rfl ?_
  refine R_bipush (v := (nI 96)) dX10_init_5 (by decide) ?_
  refine V_newi (N := 96) hl dX10_init_7 (nI_pos (by decide)) (nI_clamp (by decide)) (Nat.le_of_ble_eq_true rfl) ⟨Nat.le_of_ble_eq_true rfl, Nat.le_of_ble_eq_true rfl⟩ (fun wp1 wl4 wH2 wE3 => ?_)
  have wH5 := (wE3 b (by omega)).trans H
  have wG6 : Fr [b + 1] hp wp1 := Fr.one wE3 (by simp)
  have wF7 : Fr [b, b + 1, b + 2] hp wp1 := wG6.mono (by simp)
  refine V_putF (fs' := [.ref (b + 1), .null, .int (nI 0)]) wl4 dX10_init_9 qX10_9 rfl wH5 (Nat.le_of_ble_eq_true rfl) rfl rfl rfl (fun wp8 wl11 wH9 wE10 => ?_)
  have wH12 := (wE10 (b + 1) (by omega)).trans wH2
  have wG13 : Fr [b] wp1 wp8 := Fr.one wE10 (by simp)
  have wF14 : Fr [b, b + 1, b + 2] hp wp8 := wF7.trans (wG13.mono (by simp))
  refine R_aload_n dX10_init_12 rfl rfl ?_
  refine R_bipush (v := (nI 97)) dX10_init_13 (by decide) ?_
  refine V_newi (N := 97) wl11 dX10_init_15 (nI_pos (by decide)) (nI_clamp (by decide)) (Nat.le_of_ble_eq_true rfl) ⟨Nat.le_of_ble_eq_true rfl, Nat.le_of_ble_eq_true rfl⟩ (fun wp15 wl18 wH16 wE17 => ?_)
  have wH19 := (wE17 b (by omega)).trans wH9
  have wH20 := (wE17 (b + 1) (by omega)).trans wH12
  have wG21 : Fr [b + 2] wp8 wp15 := Fr.one wE17 (by simp)
  have wF22 : Fr [b, b + 1, b + 2] hp wp15 := wF14.trans (wG21.mono (by simp))
  refine V_putF (fs' := [.ref (b + 1), .ref (b + 2), .int (nI 0)]) wl18 dX10_init_17 qX10_15 rfl wH19 (Nat.le_of_ble_eq_true rfl) rfl rfl rfl (fun wp23 wl26 wH24 wE25 => ?_)
  have wH27 := (wE25 (b + 1) (by omega)).trans wH20
  have wH28 := (wE25 (b + 2) (by omega)).trans wH16
  have wG29 : Fr [b] wp15 wp23 := Fr.one wE25 (by simp)
  have wF30 : Fr [b, b + 1, b + 2] hp wp23 := wF22.trans (wG29.mono (by simp))
  refine R_aload_n dX10_init_20 rfl rfl ?_
  refine R_iconst (v := (nI 0)) dX10_init_21 (by decide) ?_
  refine V_puti (fs' := [.ref (b + 1), .ref (b + 2), .int (nI 0)]) wl26 dX10_init_22 pX10_18 wH24 (Nat.le_of_ble_eq_true rfl) rfl (fun wp31 wl34 wH32 wE33 => ?_)
  have wH35 := (wE33 (b + 1) (by omega)).trans wH27
  have wH36 := (wE33 (b + 2) (by omega)).trans wH28
  have wG37 : Fr [b] wp23 wp31 := Fr.one wE33 (by simp)
  have wF38 : Fr [b, b + 1, b + 2] hp wp31 := wF30.trans (wG37.mono (by simp))
  exact R_retv dX10_init_25 rfl rfl rfl ⟨wl34, ⟨fun _ => 0, fun _ => 0, wH32, wH35, wH36, fun i hi => absurd hi (by simp), by decide, fun x hx => by simp at hx⟩, wF38⟩
set_option maxRecDepth 100000 in
set_option maxHeartbeats 4000000 in
theorem i_msg (hl : hp.length = 9) (H : hp[8]? = some (ob 2 [.null, .int (nI 0)])) : SpV l X mX3_init [.ref 8] hp (fun hp' => hp'.length = 10 ∧ MsgAt hp' 8 9 [] ∧ Fr [8, 9] hp hp') := by
  refine SpV.of pnX3 (Nat.le_of_ble_eq_true rfl) rfl ?_
  refine R_aload_n dX3_init_0 rfl rfl ?_
  refine R_objInit dX3_init_1 lX3_3 oi_i oi_c (Nat.le_of_ble_eq_true rfl) (Nat.le_of_ble_eq_true rfl) ?_
  refine R_aload_n dX3_init_4 rfl rfl ?_
  refine R_bipush (v := (nI 60)) dX3_init_5 (by decide) ?_
  refine V_newi (N := 60) hl dX3_init_7 (nI_pos (by decide)) (nI_clamp (by decide)) (Nat.le_of_ble_eq_true rfl) ⟨Nat.le_of_ble_eq_true rfl, Nat.le_of_ble_eq_true rfl⟩ (fun wp1 wl4 wH2 wE3 => ?_)
  have wH5 := (wE3 8 (by decide)).trans H
  have wG6 : Fr [9] hp wp1 := Fr.one wE3 (by simp)
  have wF7 : Fr [8, 9] hp wp1 := wG6.mono (by decide)
  refine V_putF (fs' := [.ref 9, .int (nI 0)]) wl4 dX3_init_9 qX3_9 rfl wH5 (Nat.le_of_ble_eq_true rfl) rfl rfl rfl (fun wp8 wl11 wH9 wE10 => ?_)
  have wH12 := (wE10 9 (by decide)).trans wH2
  have wG13 : Fr [8] wp1 wp8 := Fr.one wE10 (by simp)
  have wF14 : Fr [8, 9] hp wp8 := wF7.trans (wG13.mono (by decide))
  refine R_aload_n dX3_init_12 rfl rfl ?_
  refine R_iconst (v := (nI 0)) dX3_init_13 (by decide) ?_
  refine V_puti (fs' := [.ref 9, .int (nI 0)]) wl11 dX3_init_14 pX3_15 wH9 (Nat.le_of_ble_eq_true rfl) rfl (fun wp15 wl18 wH16 wE17 => ?_)
  have wH19 := (wE17 9 (by decide)).trans wH12
  have wG20 : Fr [8] wp8 wp15 := Fr.one wE17 (by simp)
  have wF21 : Fr [8, 9] hp wp15 := wF14.trans (wG20.mono (by decide))
  exact R_retv dX3_init_17 rfl rfl rfl ⟨wl18, ⟨fun _ => 0, wH16, wH19, fun i hi => absurd hi (by simp), by decide, fun x hx => by simp at hx⟩, wF21⟩
set_option maxRecDepth 100000 in
set_option maxHeartbeats 4000000 in
theorem i_pg (hl : hp.length = 54) (H : hp[53]? = some (ob 4 [.null, .int (nI 0), .int (nI 0), .int (nI 0)])) : SpV l X mX5_init [.ref 53] hp (fun hp' => hp'.length = 55 ∧ PgX hp' ∧ Fr [53, 54] hp hp') := by
  refine SpV.of pnX5 (Nat.le_of_ble_eq_true rfl) rfl ?_
  refine R_aload_n dX5_init_0 rfl rfl ?_
  refine R_objInit dX5_init_1 lX5_3 oi_i oi_c (Nat.le_of_ble_eq_true rfl) (Nat.le_of_ble_eq_true rfl) ?_
  refine R_aload_n dX5_init_4 rfl rfl ?_
  refine R_sipush (v := (nI 320)) dX5_init_5 (by decide) ?_
  refine V_newi (N := 320) hl dX5_init_8 (nI_pos (by decide)) (nI_clamp (by decide)) (Nat.le_of_ble_eq_true rfl) ⟨Nat.le_of_ble_eq_true rfl, Nat.le_of_ble_eq_true rfl⟩ (fun wp1 wl4 wH2 wE3 => ?_)
  have wH5 := (wE3 53 (by decide)).trans H
  have wG6 : Fr [54] hp wp1 := Fr.one wE3 (by simp)
  have wF7 : Fr [53, 54] hp wp1 := wG6.mono (by decide)
  refine V_putF (fs' := [.ref 54, .int (nI 0), .int (nI 0), .int (nI 0)]) wl4 dX5_init_10 qX5_11 rfl wH5 (Nat.le_of_ble_eq_true rfl) rfl rfl rfl (fun wp8 wl11 wH9 wE10 => ?_)
  have wH12 := (wE10 54 (by decide)).trans wH2
  have wG13 : Fr [53] wp1 wp8 := Fr.one wE10 (by simp)
  have wF14 : Fr [53, 54] hp wp8 := wF7.trans (wG13.mono (by decide))
  refine R_aload_n dX5_init_13 rfl rfl ?_
  refine R_iconst (v := (nI 0)) dX5_init_14 (by decide) ?_
  refine V_puti (fs' := [.ref 54, .int (nI 0), .int (nI 0), .int (nI 0)]) wl11 dX5_init_15 pX5_15 wH9 (Nat.le_of_ble_eq_true rfl) rfl (fun wp15 wl18 wH16 wE17 => ?_)
  have wH19 := (wE17 54 (by decide)).trans wH12
  have wG20 : Fr [53] wp8 wp15 := Fr.one wE17 (by simp)
  have wF21 : Fr [53, 54] hp wp15 := wF14.trans (wG20.mono (by decide))
  refine R_aload_n dX5_init_18 rfl rfl ?_
  refine R_iconst (v := (nI 0)) dX5_init_19 (by decide) ?_
  refine V_puti (fs' := [.ref 54, .int (nI 0), .int (nI 0), .int (nI 0)]) wl18 dX5_init_20 pX5_19 wH16 (Nat.le_of_ble_eq_true rfl) rfl (fun wp22 wl25 wH23 wE24 => ?_)
  have wH26 := (wE24 54 (by decide)).trans wH19
  have wG27 : Fr [53] wp15 wp22 := Fr.one wE24 (by simp)
  have wF28 : Fr [53, 54] hp wp22 := wF21.trans (wG27.mono (by decide))
  refine R_aload_n dX5_init_23 rfl rfl ?_
  refine R_iconst (v := (nI 0)) dX5_init_24 (by decide) ?_
  refine V_puti (fs' := [.ref 54, .int (nI 0), .int (nI 0), .int (nI 0)]) wl25 dX5_init_25 pX5_22 wH23 (Nat.le_of_ble_eq_true rfl) rfl (fun wp29 wl32 wH30 wE31 => ?_)
  have wH33 := (wE31 54 (by decide)).trans wH26
  have wG34 : Fr [53] wp22 wp29 := Fr.one wE31 (by simp)
  have wF35 : Fr [53, 54] hp wp29 := wF28.trans (wG34.mono (by decide))
  exact R_retv dX5_init_28 rfl rfl rfl ⟨wl32, ⟨fun _ => 0, _, _, _, wH30, wH33⟩, wF35⟩
set_option maxRecDepth 100000 in
set_option maxHeartbeats 4000000 in
theorem i_obs (hl : hp.length = 56) (H : hp[55]? = some (ob 3 [.null, .null, .int (nI 0), .int (nI 0)])) : SpV l X mX4_init [.ref 55] hp (fun hp' => hp'.length = 58 ∧ ObsAt hp' [] 0 ∧ Fr [55, 56, 57] hp hp') := by
  refine SpV.of pnX4 (Nat.le_of_ble_eq_true rfl) rfl ?_
  refine R_aload_n dX4_init_0 rfl rfl ?_
  refine R_objInit dX4_init_1 lX4_3 oi_i oi_c (Nat.le_of_ble_eq_true rfl) (Nat.le_of_ble_eq_true rfl) ?_
  refine R_aload_n dX4_init_4 rfl rfl ?_
  refine R_bipush (v := (nI 6)) dX4_init_5 (by decide) ?_
  refine V_newi (N := 6) hl dX4_init_7 (nI_pos (by decide)) (nI_clamp (by decide)) (Nat.le_of_ble_eq_true rfl) ⟨Nat.le_of_ble_eq_true rfl, Nat.le_of_ble_eq_true rfl⟩ (fun wp1 wl4 wH2 wE3 => ?_)
  have wH5 := (wE3 55 (by decide)).trans H
  have wG6 : Fr [56] hp wp1 := Fr.one wE3 (by simp)
  have wF7 : Fr [55, 56, 57] hp wp1 := wG6.mono (by decide)
  refine V_putF (fs' := [.ref 56, .null, .int (nI 0), .int (nI 0)]) wl4 dX4_init_9 qX4_9 rfl wH5 (Nat.le_of_ble_eq_true rfl) rfl rfl rfl (fun wp8 wl11 wH9 wE10 => ?_)
  have wH12 := (wE10 56 (by decide)).trans wH2
  have wG13 : Fr [55] wp1 wp8 := Fr.one wE10 (by simp)
  have wF14 : Fr [55, 56, 57] hp wp8 := wF7.trans (wG13.mono (by decide))
  refine R_aload_n dX4_init_12 rfl rfl ?_
  refine R_bipush (v := (nI 6)) dX4_init_13 (by decide) ?_
  refine V_newi (N := 6) wl11 dX4_init_15 (nI_pos (by decide)) (nI_clamp (by decide)) (Nat.le_of_ble_eq_true rfl) ⟨Nat.le_of_ble_eq_true rfl, Nat.le_of_ble_eq_true rfl⟩ (fun wp15 wl18 wH16 wE17 => ?_)
  have wH19 := (wE17 55 (by decide)).trans wH9
  have wH20 := (wE17 56 (by decide)).trans wH12
  have wG21 : Fr [57] wp8 wp15 := Fr.one wE17 (by simp)
  have wF22 : Fr [55, 56, 57] hp wp15 := wF14.trans (wG21.mono (by decide))
  refine V_putF (fs' := [.ref 56, .ref 57, .int (nI 0), .int (nI 0)]) wl18 dX4_init_17 qX4_15 rfl wH19 (Nat.le_of_ble_eq_true rfl) rfl rfl rfl (fun wp23 wl26 wH24 wE25 => ?_)
  have wH27 := (wE25 56 (by decide)).trans wH20
  have wH28 := (wE25 57 (by decide)).trans wH16
  have wG29 : Fr [55] wp15 wp23 := Fr.one wE25 (by simp)
  have wF30 : Fr [55, 56, 57] hp wp23 := wF22.trans (wG29.mono (by decide))
  refine R_aload_n dX4_init_20 rfl rfl ?_
  refine R_iconst (v := (nI 0)) dX4_init_21 (by decide) ?_
  refine V_puti (fs' := [.ref 56, .ref 57, .int (nI 0), .int (nI 0)]) wl26 dX4_init_22 pX4_18 wH24 (Nat.le_of_ble_eq_true rfl) rfl (fun wp31 wl34 wH32 wE33 => ?_)
  have wH35 := (wE33 56 (by decide)).trans wH27
  have wH36 := (wE33 57 (by decide)).trans wH28
  have wG37 : Fr [55] wp23 wp31 := Fr.one wE33 (by simp)
  have wF38 : Fr [55, 56, 57] hp wp31 := wF30.trans (wG37.mono (by decide))
  refine R_aload_n dX4_init_25 rfl rfl ?_
  refine R_iconst (v := (nI 0)) dX4_init_26 (by decide) ?_
  refine V_puti (fs' := [.ref 56, .ref 57, .int (nI 0), .int (nI 0)]) wl34 dX4_init_27 pX4_22 wH32 (Nat.le_of_ble_eq_true rfl) rfl (fun wp39 wl42 wH40 wE41 => ?_)
  have wH43 := (wE41 56 (by decide)).trans wH35
  have wH44 := (wE41 57 (by decide)).trans wH36
  have wG45 : Fr [55] wp31 wp39 := Fr.one wE41 (by simp)
  have wF46 : Fr [55, 56, 57] hp wp39 := wF38.trans (wG45.mono (by decide))
  exact R_retv dX4_init_30 rfl rfl rfl ⟨wl42, ⟨fun _ => 0, fun _ => 0, wH40, wH43, wH44, fun i hi => absurd hi (by simp), by decide, by decide, fun _ => rfl, fun x hx => by simp at hx⟩, wF46⟩
set_option maxRecDepth 100000 in
set_option maxHeartbeats 4000000 in
theorem i_cf (hl : hp.length = 59) (H : hp[58]? = some (ob 0 [.long (0), .long (0), .long (0), .long (0)])) : SpV l X mX1_init [.ref 58] hp (fun hp' => hp'.length = 59 ∧ CfX hp' ∧ Fr [58] hp hp') := by
  refine SpV.of pnX1 (Nat.le_of_ble_eq_true rfl) rfl ?_
  refine R_aload_n dX1_init_0 rfl rfl ?_
  refine R_objInit dX1_init_1 lX1_3 oi_i oi_c (Nat.le_of_ble_eq_true rfl) (Nat.le_of_ble_eq_true rfl) ?_
  refine R_aload_n dX1_init_4 rfl rfl ?_
  refine R_lconst (v := 0) dX1_init_5 (by decide) ?_
  refine V_putl (fs' := [.long (0), .long (0), .long (0), .long (0)]) hl dX1_init_6 pX1_9 H (Nat.le_of_ble_eq_true rfl) rfl (fun wp1 wl4 wH2 wE3 => ?_)
  have wG5 : Fr [58] hp wp1 := Fr.one wE3 (by simp)
  have wF6 : Fr [58] hp wp1 := wG5.mono (by decide)
  refine R_aload_n dX1_init_9 rfl rfl ?_
  refine R_lconst (v := 1) dX1_init_10 (by decide) ?_
  refine V_putl (fs' := [.long (0), .long (1), .long (0), .long (0)]) wl4 dX1_init_11 pX1_15 wH2 (Nat.le_of_ble_eq_true rfl) rfl (fun wp7 wl10 wH8 wE9 => ?_)
  have wG11 : Fr [58] wp1 wp7 := Fr.one wE9 (by simp)
  have wF12 : Fr [58] hp wp7 := wF6.trans (wG11.mono (by decide))
  refine R_aload_n dX1_init_14 rfl rfl ?_
  refine R_lconst (v := 0) dX1_init_15 (by decide) ?_
  refine V_putl (fs' := [.long (0), .long (1), .long (0), .long (0)]) wl10 dX1_init_16 pX1_18 wH8 (Nat.le_of_ble_eq_true rfl) rfl (fun wp13 wl16 wH14 wE15 => ?_)
  have wG17 : Fr [58] wp7 wp13 := Fr.one wE15 (by simp)
  have wF18 : Fr [58] hp wp13 := wF12.trans (wG17.mono (by decide))
  refine R_aload_n dX1_init_19 rfl rfl ?_
  refine R_lconst (v := 0) dX1_init_20 (by decide) ?_
  refine V_putl (fs' := [.long (0), .long (1), .long (0), .long (0)]) wl16 dX1_init_21 pX1_21 wH14 (Nat.le_of_ble_eq_true rfl) rfl (fun wp19 wl22 wH20 wE21 => ?_)
  have wG23 : Fr [58] wp13 wp19 := Fr.one wE21 (by simp)
  have wF24 : Fr [58] hp wp19 := wF18.trans (wG23.mono (by decide))
  exact R_retv dX1_init_24 rfl rfl rfl ⟨wl22, ⟨_, _, _, _, wH20⟩, wF24⟩
set_option maxRecDepth 100000 in
set_option maxHeartbeats 4000000 in
theorem i_scr (hl : hp.length = 60) (H : hp[59]? = some (ob 6 [.null, .int (nI 0)])) : SpV l X mX7_init [.ref 59] hp (fun hp' => hp'.length = 61 ∧ ScrX hp' ∧ Fr [59, 60] hp hp') := by
  refine SpV.of pnX7 (Nat.le_of_ble_eq_true rfl) rfl ?_
  refine R_aload_n dX7_init_0 rfl rfl ?_
  refine R_objInit dX7_init_1 lX7_3 oi_i oi_c (Nat.le_of_ble_eq_true rfl) (Nat.le_of_ble_eq_true rfl) ?_
  refine R_aload_n dX7_init_4 rfl rfl ?_
  refine R_iconst (v := (nI 4)) dX7_init_5 (by decide) ?_
  refine V_newi (N := 4) hl dX7_init_6 (nI_pos (by decide)) (nI_clamp (by decide)) (Nat.le_of_ble_eq_true rfl) ⟨Nat.le_of_ble_eq_true rfl, Nat.le_of_ble_eq_true rfl⟩ (fun wp1 wl4 wH2 wE3 => ?_)
  have wH5 := (wE3 59 (by decide)).trans H
  have wG6 : Fr [60] hp wp1 := Fr.one wE3 (by simp)
  have wF7 : Fr [59, 60] hp wp1 := wG6.mono (by decide)
  refine V_putF (fs' := [.ref 60, .int (nI 0)]) wl4 dX7_init_8 qX7_9 rfl wH5 (Nat.le_of_ble_eq_true rfl) rfl rfl rfl (fun wp8 wl11 wH9 wE10 => ?_)
  have wH12 := (wE10 60 (by decide)).trans wH2
  have wG13 : Fr [59] wp1 wp8 := Fr.one wE10 (by simp)
  have wF14 : Fr [59, 60] hp wp8 := wF7.trans (wG13.mono (by decide))
  refine R_aload_n dX7_init_11 rfl rfl ?_
  refine R_iconst (v := (nI 0)) dX7_init_12 (by decide) ?_
  refine V_puti (fs' := [.ref 60, .int (nI 0)]) wl11 dX7_init_13 pX7_15 wH9 (Nat.le_of_ble_eq_true rfl) rfl (fun wp15 wl18 wH16 wE17 => ?_)
  have wH19 := (wE17 60 (by decide)).trans wH12
  have wG20 : Fr [59] wp8 wp15 := Fr.one wE17 (by simp)
  have wF21 : Fr [59, 60] hp wp15 := wF14.trans (wG20.mono (by decide))
  exact R_retv dX7_init_16 rfl rfl rfl ⟨wl18, ⟨fun _ => 0, _, wH16, wH19⟩, wF21⟩
set_option maxRecDepth 100000 in
set_option maxHeartbeats 4000000 in
theorem i_pun (hl : hp.length = 6) (H : hp[5]? = some (ob 5 [.null, .int (nI 0), .int (nI 0)])) : SpV l X mX6_init [.ref 5] hp (fun hp' => hp'.length = 8 ∧ PunX hp' ∧ Fr [5, 6, 7] hp hp') := by
  refine SpV.of pnX6 (Nat.le_of_ble_eq_true rfl) rfl ?_
  refine R_aload_n dX6_init_0 rfl rfl ?_
  refine R_objInit dX6_init_1 lX6_3 oi_i oi_c (Nat.le_of_ble_eq_true rfl) (Nat.le_of_ble_eq_true rfl) ?_
  refine R_aload_n dX6_init_4 rfl rfl ?_
  refine V_new (fs := [.null, .int (nI 0), .int (nI 0), .int (nI 0), .int (nI 0)]) hl kcX9 dX6_init_5 wX6_9 tX9 sX9 (dfX9 X) ⟨Nat.le_of_ble_eq_true rfl, Nat.le_of_ble_eq_true rfl⟩ (fun wp1 wl4 wH2 wE3 => ?_)
  have wH5 := (wE3 5 (by decide)).trans H
  have wG6 : Fr [6] hp wp1 := Fr.one wE3 (by simp)
  have wF7 : Fr [5, 6, 7] hp wp1 := wG6.mono (by decide)
  refine R_dup dX6_init_8 rfl ?_
  refine V_callI (st := [.ref 6, .ref 5]) kX9_init lX6_11 (i_tape wl4 wH2) dX6_init_9 (Nat.le_of_ble_eq_true rfl) ⟨by decide, by decide⟩ ⟨Nat.le_of_ble_eq_true rfl, Nat.le_of_ble_eq_true rfl⟩ (fun wp8 wq12 => ?_)
  obtain ⟨wl9, wc10, wG11⟩ := wq12
  have wH13 := wG11.at (by decide) wH5
  have wF14 : Fr [5, 6, 7] hp wp8 := wF7.trans (wG11.mono (by decide))
  refine V_putF (fs' := [.ref 6, .int (nI 0), .int (nI 0)]) wl9 dX6_init_12 qX6_12 rfl wH13 (Nat.le_of_ble_eq_true rfl) rfl rfl rfl (fun wp15 wl18 wH16 wE17 => ?_)
  have wG19 : Fr [5] wp8 wp15 := Fr.one wE17 (by simp)
  have wc20 := wc10.fr wG19 (by decide) (by decide)
  have wF21 : Fr [5, 6, 7] hp wp15 := wF14.trans (wG19.mono (by decide))
  refine R_aload_n dX6_init_15 rfl rfl ?_
  refine R_iconst (v := (nI 0)) dX6_init_16 (by decide) ?_
  refine V_puti (fs' := [.ref 6, .int (nI 0), .int (nI 0)]) wl18 dX6_init_17 pX6_18 wH16 (Nat.le_of_ble_eq_true rfl) rfl (fun wp22 wl25 wH23 wE24 => ?_)
  have wG26 : Fr [5] wp15 wp22 := Fr.one wE24 (by simp)
  have wc27 := wc20.fr wG26 (by decide) (by decide)
  have wF28 : Fr [5, 6, 7] hp wp22 := wF21.trans (wG26.mono (by decide))
  refine R_aload_n dX6_init_20 rfl rfl ?_
  refine R_iconst (v := (nI 0)) dX6_init_21 (by decide) ?_
  refine V_putz (fs' := [.ref 6, .int (nI 0), .int (nI 0)]) wl25 dX6_init_22 pX6_22 wH23 (Nat.le_of_ble_eq_true rfl) rfl rfl rfl (fun wp29 wl32 wH30 wE31 => ?_)
  have wG33 : Fr [5] wp22 wp29 := Fr.one wE31 (by simp)
  have wc34 := wc27.fr wG33 (by decide) (by decide)
  have wF35 : Fr [5, 6, 7] hp wp29 := wF28.trans (wG33.mono (by decide))
  exact R_retv dX6_init_25 rfl rfl rfl ⟨wl32, ⟨_, _, _, wH30, wc34⟩, wF35⟩
set_option maxRecDepth 100000 in
set_option maxHeartbeats 4000000 in
theorem i_his (hl : hp.length = 11) (H : hp[10]? = some (ob 1 [.null, .int (nI 0), .int (nI 0)])) : SpV l X mX2_init [.ref 10] hp (fun hp' => hp'.length = 40 ∧ HisAt hp' [] 0 ∧ Fr [10, 11, 12, 13, 14, 15, 16, 17, 18, 19, 20, 21, 22, 23, 24, 25, 26, 27, 28, 29, 30, 31, 32, 33, 34, 35, 36, 37, 38, 39] hp hp') := by
  refine SpV.of pnX2 (Nat.le_of_ble_eq_true rfl) rfl ?_
  refine R_aload_n dX2_init_0 rfl rfl ?_
  refine R_objInit dX2_init_1 lX2_3 oi_i oi_c (Nat.le_of_ble_eq_true rfl) (Nat.le_of_ble_eq_true rfl) ?_
  refine R_aload_n dX2_init_4 rfl rfl ?_
  refine R_bipush (v := (nI 14)) dX2_init_5 (by decide) ?_
  refine V_newq (N := 14) hl dX2_init_7 wX2_9 (nI_pos (by decide)) (nI_clamp (by decide)) (Nat.le_of_ble_eq_true rfl) ⟨Nat.le_of_ble_eq_true rfl, Nat.le_of_ble_eq_true rfl⟩ (fun wp1 wl4 wH2 wE3 => ?_)
  have wH5 := (wE3 10 (by decide)).trans H
  have wG6 : Fr [11] hp wp1 := Fr.one wE3 (by simp)
  have wF7 : Fr [10, 11, 12, 13, 14, 15, 16, 17, 18, 19, 20, 21, 22, 23, 24, 25, 26, 27, 28, 29, 30, 31, 32, 33, 34, 35, 36, 37, 38, 39] hp wp1 := wG6.mono (by decide)
  refine V_putF (fs' := [.ref 11, .int (nI 0), .int (nI 0)]) wl4 dX2_init_10 qX2_11 rfl wH5 (Nat.le_of_ble_eq_true rfl) rfl rfl rfl (fun wp8 wl11 wH9 wE10 => ?_)
  have wH12 := (wE10 11 (by decide)).trans wH2
  have wG13 : Fr [10] wp1 wp8 := Fr.one wE10 (by simp)
  have wF14 : Fr [10, 11, 12, 13, 14, 15, 16, 17, 18, 19, 20, 21, 22, 23, 24, 25, 26, 27, 28, 29, 30, 31, 32, 33, 34, 35, 36, 37, 38, 39] hp wp8 := wF7.trans (wG13.mono (by decide))
  refine R_aload_n dX2_init_13 rfl rfl ?_
  refine R_iconst (v := (nI 0)) dX2_init_14 (by decide) ?_
  refine V_puti (fs' := [.ref 11, .int (nI 0), .int (nI 0)]) wl11 dX2_init_15 pX2_17 wH9 (Nat.le_of_ble_eq_true rfl) rfl (fun wp15 wl18 wH16 wE17 => ?_)
  have wH19 := (wE17 11 (by decide)).trans wH12
  have wG20 : Fr [10] wp8 wp15 := Fr.one wE17 (by simp)
  have wF21 : Fr [10, 11, 12, 13, 14, 15, 16, 17, 18, 19, 20, 21, 22, 23, 24, 25, 26, 27, 28, 29, 30, 31, 32, 33, 34, 35, 36, 37, 38, 39] hp wp15 := wF14.trans (wG20.mono (by decide))
  refine R_aload_n dX2_init_18 rfl rfl ?_
  refine R_iconst (v := (nI 0)) dX2_init_19 (by decide) ?_
  refine V_puti (fs' := [.ref 11, .int (nI 0), .int (nI 0)]) wl18 dX2_init_20 pX2_21 wH16 (Nat.le_of_ble_eq_true rfl) rfl (fun wp22 wl25 wH23 wE24 => ?_)
  have wH26 := (wE24 11 (by decide)).trans wH19
  have wG27 : Fr [10] wp15 wp22 := Fr.one wE24 (by simp)
  have wF28 : Fr [10, 11, 12, 13, 14, 15, 16, 17, 18, 19, 20, 21, 22, 23, 24, 25, 26, 27, 28, 29, 30, 31, 32, 33, 34, 35, 36, 37, 38, 39] hp wp22 := wF21.trans (wG27.mono (by decide))
  refine R_iconst (v := (nI 0)) dX2_init_23 (by decide) ?_
  refine R_istore_n (lv' := [some (.ref 10), some (.int (nI 0))]) dX2_init_24 rfl (by decide) rfl ?_
  refine R_iload_n dX2_init_25 rfl rfl ?_
  refine R_bipush (v := (nI 14)) dX2_init_26 (by decide) ?_
  refine N_icmp_ge (tgt := 50) dX2_init_28 (by decide) (by decide) (by decide) (fun hc => absurd hc (by decide)) (fun _ => ?_)
  refine R_aload_n dX2_init_31 rfl rfl ?_
  refine R_getf dX2_init_32 gX2_11 wH23 rfl ?_
  refine R_iload_n dX2_init_35 rfl rfl ?_
  refine V_new (fs := [.null, .int (nI 0), .int (nI 0), .int (nI 0), .int (nI 0)]) wl25 kcX9 dX2_init_36 wX2_9 tX9 sX9 (dfX9 X) ⟨Nat.le_of_ble_eq_true rfl, Nat.le_of_ble_eq_true rfl⟩ (fun wp29 wl32 wH30 wE31 => ?_)
  have wH33 := (wE31 10 (by decide)).trans wH23
  have wH34 := (wE31 11 (by decide)).trans wH26
  have wG35 : Fr [12] wp22 wp29 := Fr.one wE31 (by simp)
  have wF36 : Fr [10, 11, 12, 13, 14, 15, 16, 17, 18, 19, 20, 21, 22, 23, 24, 25, 26, 27, 28, 29, 30, 31, 32, 33, 34, 35, 36, 37, 38, 39] hp wp29 := wF28.trans (wG35.mono (by decide))
  refine R_dup dX2_init_39 rfl ?_
  refine V_callI (st := [.ref 12, .int (nI 0), .ref 11]) kX9_init lX2_24 (i_tape wl32 wH30) dX2_init_40 (Nat.le_of_ble_eq_true rfl) ⟨by decide, by decide⟩ ⟨Nat.le_of_ble_eq_true rfl, Nat.le_of_ble_eq_true rfl⟩ (fun wp37 wq41 => ?_)
  obtain ⟨wl38, wc39, wG40⟩ := wq41
  have wH42 := wG40.at (by decide) wH33
  have wH43 := wG40.at (by decide) wH34
  have wF44 : Fr [10, 11, 12, 13, 14, 15, 16, 17, 18, 19, 20, 21, 22, 23, 24, 25, 26, 27, 28, 29, 30, 31, 32, 33, 34, 35, 36, 37, 38, 39] hp wp37 := wF36.trans (wG40.mono (by decide))
  obtain ⟨K45f, K45, K45r⟩ := id wc39
  obtain ⟨wg46, ewg46⟩ : ∃ y, y = va_up (fun _ => none) 0 (some 12) := ⟨_, rfl⟩
  refine V_aast (f' := wg46) wl38 dX2_init_43 wH43 (by decide) (by decide) K45 ewg46 (fun wp47 wl50 wH48 wE49 => ?_)
  have wH51 := (wE49 10 (by decide)).trans wH42
  have wH52 := (wE49 12 (by decide)).trans K45
  have wG53 : Fr [11] wp37 wp47 := Fr.one wE49 (by simp)
  have wc54 := wc39.fr wG53 (by decide) (by decide)
  have wF55 : Fr [10, 11, 12, 13, 14, 15, 16, 17, 18, 19, 20, 21, 22, 23, 24, 25, 26, 27, 28, 29, 30, 31, 32, 33, 34, 35, 36, 37, 38, 39] hp wp47 := wF44.trans (wG53.mono (by decide))
  refine N_iinc (d := 1) (lv' := [some (.ref 10), some (.int (nI 1))]) dX2_init_44 rfl rfl ?_
  refine R_goto (tgt := 25) dX2_init_47 (by decide) ?_
  refine R_iload_n dX2_init_25 rfl rfl ?_
  refine R_bipush (v := (nI 14)) dX2_init_26 (by decide) ?_
  refine N_icmp_ge (tgt := 50) dX2_init_28 (by decide) (by decide) (by decide) (fun hc => absurd hc (by decide)) (fun _ => ?_)
  refine R_aload_n dX2_init_31 rfl rfl ?_
  refine R_getf dX2_init_32 gX2_11 wH51 rfl ?_
  refine R_iload_n dX2_init_35 rfl rfl ?_
  refine V_new (fs := [.null, .int (nI 0), .int (nI 0), .int (nI 0), .int (nI 0)]) wl50 kcX9 dX2_init_36 wX2_9 tX9 sX9 (dfX9 X) ⟨Nat.le_of_ble_eq_true rfl, Nat.le_of_ble_eq_true rfl⟩ (fun wp56 wl59 wH57 wE58 => ?_)
  have wH60 := (wE58 10 (by decide)).trans wH51
  have wH61 := (wE58 11 (by decide)).trans wH48
  have wG62 : Fr [14] wp47 wp56 := Fr.one wE58 (by simp)
  have wc63 := wc54.fr wG62 (by decide) (by decide)
  have wF64 : Fr [10, 11, 12, 13, 14, 15, 16, 17, 18, 19, 20, 21, 22, 23, 24, 25, 26, 27, 28, 29, 30, 31, 32, 33, 34, 35, 36, 37, 38, 39] hp wp56 := wF55.trans (wG62.mono (by decide))
  refine R_dup dX2_init_39 rfl ?_
  refine V_callI (st := [.ref 14, .int (nI 1), .ref 11]) kX9_init lX2_24 (i_tape wl59 wH57) dX2_init_40 (Nat.le_of_ble_eq_true rfl) ⟨by decide, by decide⟩ ⟨Nat.le_of_ble_eq_true rfl, Nat.le_of_ble_eq_true rfl⟩ (fun wp65 wq69 => ?_)
  obtain ⟨wl66, wc67, wG68⟩ := wq69
  have wH70 := wG68.at (by decide) wH60
  have wH71 := wG68.at (by decide) wH61
  have wc72 := wc63.fr wG68 (by decide) (by decide)
  have wF73 : Fr [10, 11, 12, 13, 14, 15, 16, 17, 18, 19, 20, 21, 22, 23, 24, 25, 26, 27, 28, 29, 30, 31, 32, 33, 34, 35, 36, 37, 38, 39] hp wp65 := wF64.trans (wG68.mono (by decide))
  obtain ⟨K74f, K74, K74r⟩ := id wc67
  obtain ⟨wg75, ewg75⟩ : ∃ y, y = va_up wg46 1 (some 14) := ⟨_, rfl⟩
  refine V_aast (f' := wg75) wl66 dX2_init_43 wH71 (by decide) (by decide) K74 ewg75 (fun wp76 wl79 wH77 wE78 => ?_)
  have wH80 := (wE78 10 (by decide)).trans wH70
  have wH81 := (wE78 14 (by decide)).trans K74
  have wG82 : Fr [11] wp65 wp76 := Fr.one wE78 (by simp)
  have wc83 := wc72.fr wG82 (by decide) (by decide)
  have wc84 := wc67.fr wG82 (by decide) (by decide)
  have wF85 : Fr [10, 11, 12, 13, 14, 15, 16, 17, 18, 19, 20, 21, 22, 23, 24, 25, 26, 27, 28, 29, 30, 31, 32, 33, 34, 35, 36, 37, 38, 39] hp wp76 := wF73.trans (wG82.mono (by decide))
  refine N_iinc (d := 1) (lv' := [some (.ref 10), some (.int (nI 2))]) dX2_init_44 rfl rfl ?_
  refine R_goto (tgt := 25) dX2_init_47 (by decide) ?_
  refine R_iload_n dX2_init_25 rfl rfl ?_
  refine R_bipush (v := (nI 14)) dX2_init_26 (by decide) ?_
  refine N_icmp_ge (tgt := 50) dX2_init_28 (by decide) (by decide) (by decide) (fun hc => absurd hc (by decide)) (fun _ => ?_)
  refine R_aload_n dX2_init_31 rfl rfl ?_
  refine R_getf dX2_init_32 gX2_11 wH80 rfl ?_
  refine R_iload_n dX2_init_35 rfl rfl ?_
  refine V_new (fs := [.null, .int (nI 0), .int (nI 0), .int (nI 0), .int (nI 0)]) wl79 kcX9 dX2_init_36 wX2_9 tX9 sX9 (dfX9 X) ⟨Nat.le_of_ble_eq_true rfl, Nat.le_of_ble_eq_true rfl⟩ (fun wp86 wl89 wH87 wE88 => ?_)
  have wH90 := (wE88 10 (by decide)).trans wH80
  have wH91 := (wE88 11 (by decide)).trans wH77
  have wG92 : Fr [16] wp76 wp86 := Fr.one wE88 (by simp)
  have wc93 := wc83.fr wG92 (by decide) (by decide)
  have wc94 := wc84.fr wG92 (by decide) (by decide)
  have wF95 : Fr [10, 11, 12, 13, 14, 15, 16, 17, 18, 19, 20, 21, 22, 23, 24, 25, 26, 27, 28, 29, 30, 31, 32, 33, 34, 35, 36, 37, 38, 39] hp wp86 := wF85.trans (wG92.mono (by decide))
  refine R_dup dX2_init_39 rfl ?_
  refine V_callI (st := [.ref 16, .int (nI 2), .ref 11]) kX9_init lX2_24 (i_tape wl89 wH87) dX2_init_40 (Nat.le_of_ble_eq_true rfl) ⟨by decide, by decide⟩ ⟨Nat.le_of_ble_eq_true rfl, Nat.le_of_ble_eq_true rfl⟩ (fun wp96 wq100 => ?_)
  obtain ⟨wl97, wc98, wG99⟩ := wq100
  have wH101 := wG99.at (by decide) wH90
  have wH102 := wG99.at (by decide) wH91
  have wc103 := wc93.fr wG99 (by decide) (by decide)
  have wc104 := wc94.fr wG99 (by decide) (by decide)
  have wF105 : Fr [10, 11, 12, 13, 14, 15, 16, 17, 18, 19, 20, 21, 22, 23, 24, 25, 26, 27, 28, 29, 30, 31, 32, 33, 34, 35, 36, 37, 38, 39] hp wp96 := wF95.trans (wG99.mono (by decide))
  obtain ⟨K106f, K106, K106r⟩ := id wc98
  obtain ⟨wg107, ewg107⟩ : ∃ y, y = va_up wg75 2 (some 16) := ⟨_, rfl⟩
  refine V_aast (f' := wg107) wl97 dX2_init_43 wH102 (by decide) (by decide) K106 ewg107 (fun wp108 wl111 wH109 wE110 => ?_)
  have wH112 := (wE110 10 (by decide)).trans wH101
  have wH113 := (wE110 16 (by decide)).trans K106
  have wG114 : Fr [11] wp96 wp108 := Fr.one wE110 (by simp)
  have wc115 := wc103.fr wG114 (by decide) (by decide)
  have wc116 := wc104.fr wG114 (by decide) (by decide)
  have wc117 := wc98.fr wG114 (by decide) (by decide)
  have wF118 : Fr [10, 11, 12, 13, 14, 15, 16, 17, 18, 19, 20, 21, 22, 23, 24, 25, 26, 27, 28, 29, 30, 31, 32, 33, 34, 35, 36, 37, 38, 39] hp wp108 := wF105.trans (wG114.mono (by decide))
  refine N_iinc (d := 1) (lv' := [some (.ref 10), some (.int (nI 3))]) dX2_init_44 rfl rfl ?_
  refine R_goto (tgt := 25) dX2_init_47 (by decide) ?_
  refine R_iload_n dX2_init_25 rfl rfl ?_
  refine R_bipush (v := (nI 14)) dX2_init_26 (by decide) ?_
  refine N_icmp_ge (tgt := 50) dX2_init_28 (by decide) (by decide) (by decide) (fun hc => absurd hc (by decide)) (fun _ => ?_)
  refine R_aload_n dX2_init_31 rfl rfl ?_
  refine R_getf dX2_init_32 gX2_11 wH112 rfl ?_
  refine R_iload_n dX2_init_35 rfl rfl ?_
  refine V_new (fs := [.null, .int (nI 0), .int (nI 0), .int (nI 0), .int (nI 0)]) wl111 kcX9 dX2_init_36 wX2_9 tX9 sX9 (dfX9 X) ⟨Nat.le_of_ble_eq_true rfl, Nat.le_of_ble_eq_true rfl⟩ (fun wp119 wl122 wH120 wE121 => ?_)
  have wH123 := (wE121 10 (by decide)).trans wH112
  have wH124 := (wE121 11 (by decide)).trans wH109
  have wG125 : Fr [18] wp108 wp119 := Fr.one wE121 (by simp)
  have wc126 := wc115.fr wG125 (by decide) (by decide)
  have wc127 := wc116.fr wG125 (by decide) (by decide)
  have wc128 := wc117.fr wG125 (by decide) (by decide)
  have wF129 : Fr [10, 11, 12, 13, 14, 15, 16, 17, 18, 19, 20, 21, 22, 23, 24, 25, 26, 27, 28, 29, 30, 31, 32, 33, 34, 35, 36, 37, 38, 39] hp wp119 := wF118.trans (wG125.mono (by decide))
  refine R_dup dX2_init_39 rfl ?_
  refine V_callI (st := [.ref 18, .int (nI 3), .ref 11]) kX9_init lX2_24 (i_tape wl122 wH120) dX2_init_40 (Nat.le_of_ble_eq_true rfl) ⟨by decide, by decide⟩ ⟨Nat.le_of_ble_eq_true rfl, Nat.le_of_ble_eq_true rfl⟩ (fun wp130 wq134 => ?_)
  obtain ⟨wl131, wc132, wG133⟩ := wq134
  have wH135 := wG133.at (by decide) wH123
  have wH136 := wG133.at (by decide) wH124
  have wc137 := wc126.fr wG133 (by decide) (by decide)
  have wc138 := wc127.fr wG133 (by decide) (by decide)
  have wc139 := wc128.fr wG133 (by decide) (by decide)
  have wF140 : Fr [10, 11, 12, 13, 14, 15, 16, 17, 18, 19, 20, 21, 22, 23, 24, 25, 26, 27, 28, 29, 30, 31, 32, 33, 34, 35, 36, 37, 38, 39] hp wp130 := wF129.trans (wG133.mono (by decide))
  obtain ⟨K141f, K141, K141r⟩ := id wc132
  obtain ⟨wg142, ewg142⟩ : ∃ y, y = va_up wg107 3 (some 18) := ⟨_, rfl⟩
  refine V_aast (f' := wg142) wl131 dX2_init_43 wH136 (by decide) (by decide) K141 ewg142 (fun wp143 wl146 wH144 wE145 => ?_)
  have wH147 := (wE145 10 (by decide)).trans wH135
  have wH148 := (wE145 18 (by decide)).trans K141
  have wG149 : Fr [11] wp130 wp143 := Fr.one wE145 (by simp)
  have wc150 := wc137.fr wG149 (by decide) (by decide)
  have wc151 := wc138.fr wG149 (by decide) (by decide)
  have wc152 := wc139.fr wG149 (by decide) (by decide)
  have wc153 := wc132.fr wG149 (by decide) (by decide)
  have wF154 : Fr [10, 11, 12, 13, 14, 15, 16, 17, 18, 19, 20, 21, 22, 23, 24, 25, 26, 27, 28, 29, 30, 31, 32, 33, 34, 35, 36, 37, 38, 39] hp wp143 := wF140.trans (wG149.mono (by decide))
  refine N_iinc (d := 1) (lv' := [some (.ref 10), some (.int (nI 4))]) dX2_init_44 rfl rfl ?_
  refine R_goto (tgt := 25) dX2_init_47 (by decide) ?_
  refine R_iload_n dX2_init_25 rfl rfl ?_
  refine R_bipush (v := (nI 14)) dX2_init_26 (by decide) ?_
  refine N_icmp_ge (tgt := 50) dX2_init_28 (by decide) (by decide) (by decide) (fun hc => absurd hc (by decide)) (fun _ => ?_)
  refine R_aload_n dX2_init_31 rfl rfl ?_
  refine R_getf dX2_init_32 gX2_11 wH147 rfl ?_
  refine R_iload_n dX2_init_35 rfl rfl ?_
  refine V_new (fs := [.null, .int (nI 0), .int (nI 0), .int (nI 0), .int (nI 0)]) wl146 kcX9 dX2_init_36 wX2_9 tX9 sX9 (dfX9 X) ⟨Nat.le_of_ble_eq_true rfl, Nat.le_of_ble_eq_true rfl⟩ (fun wp155 wl158 wH156 wE157 => ?_)
  have wH159 := (wE157 10 (by decide)).trans wH147
  have wH160 := (wE157 11 (by decide)).trans wH144
  have wG161 : Fr [20] wp143 wp155 := Fr.one wE157 (by simp)
  have wc162 := wc150.fr wG161 (by decide) (by decide)
  have wc163 := wc151.fr wG161 (by decide) (by decide)
  have wc164 := wc152.fr wG161 (by decide) (by decide)
  have wc165 := wc153.fr wG161 (by decide) (by decide)
  have wF166 : Fr [10, 11, 12, 13, 14, 15, 16, 17, 18, 19, 20, 21, 22, 23, 24, 25, 26, 27, 28, 29, 30, 31, 32, 33, 34, 35, 36, 37, 38, 39] hp wp155 := wF154.trans (wG161.mono (by decide))
  refine R_dup dX2_init_39 rfl ?_
  refine V_callI (st := [.ref 20, .int (nI 4), .ref 11]) kX9_init lX2_24 (i_tape wl158 wH156) dX2_init_40 (Nat.le_of_ble_eq_true rfl) ⟨by decide, by decide⟩ ⟨Nat.le_of_ble_eq_true rfl, Nat.le_of_ble_eq_true rfl⟩ (fun wp167 wq171 => ?_)
  obtain ⟨wl168, wc169, wG170⟩ := wq171
  have wH172 := wG170.at (by decide) wH159
  have wH173 := wG170.at (by decide) wH160
  have wc174 := wc162.fr wG170 (by decide) (by decide)
  have wc175 := wc163.fr wG170 (by decide) (by decide)
  have wc176 := wc164.fr wG170 (by decide) (by decide)
  have wc177 := wc165.fr wG170 (by decide) (by decide)
  have wF178 : Fr [10, 11, 12, 13, 14, 15, 16, 17, 18, 19, 20, 21, 22, 23, 24, 25, 26, 27, 28, 29, 30, 31, 32, 33, 34, 35, 36, 37, 38, 39] hp wp167 := wF166.trans (wG170.mono (by decide))
  obtain ⟨K179f, K179, K179r⟩ := id wc169
  obtain ⟨wg180, ewg180⟩ : ∃ y, y = va_up wg142 4 (some 20) := ⟨_, rfl⟩
  refine V_aast (f' := wg180) wl168 dX2_init_43 wH173 (by decide) (by decide) K179 ewg180 (fun wp181 wl184 wH182 wE183 => ?_)
  have wH185 := (wE183 10 (by decide)).trans wH172
  have wH186 := (wE183 20 (by decide)).trans K179
  have wG187 : Fr [11] wp167 wp181 := Fr.one wE183 (by simp)
  have wc188 := wc174.fr wG187 (by decide) (by decide)
  have wc189 := wc175.fr wG187 (by decide) (by decide)
  have wc190 := wc176.fr wG187 (by decide) (by decide)
  have wc191 := wc177.fr wG187 (by decide) (by decide)
  have wc192 := wc169.fr wG187 (by decide) (by decide)
  have wF193 : Fr [10, 11, 12, 13, 14, 15, 16, 17, 18, 19, 20, 21, 22, 23, 24, 25, 26, 27, 28, 29, 30, 31, 32, 33, 34, 35, 36, 37, 38, 39] hp wp181 := wF178.trans (wG187.mono (by decide))
  refine N_iinc (d := 1) (lv' := [some (.ref 10), some (.int (nI 5))]) dX2_init_44 rfl rfl ?_
  refine R_goto (tgt := 25) dX2_init_47 (by decide) ?_
  refine R_iload_n dX2_init_25 rfl rfl ?_
  refine R_bipush (v := (nI 14)) dX2_init_26 (by decide) ?_
  refine N_icmp_ge (tgt := 50) dX2_init_28 (by decide) (by decide) (by decide) (fun hc => absurd hc (by decide)) (fun _ => ?_)
  refine R_aload_n dX2_init_31 rfl rfl ?_
  refine R_getf dX2_init_32 gX2_11 wH185 rfl ?_
  refine R_iload_n dX2_init_35 rfl rfl ?_
  refine V_new (fs := [.null, .int (nI 0), .int (nI 0), .int (nI 0), .int (nI 0)]) wl184 kcX9 dX2_init_36 wX2_9 tX9 sX9 (dfX9 X) ⟨Nat.le_of_ble_eq_true rfl, Nat.le_of_ble_eq_true rfl⟩ (fun wp194 wl197 wH195 wE196 => ?_)
  have wH198 := (wE196 10 (by decide)).trans wH185
  have wH199 := (wE196 11 (by decide)).trans wH182
  have wG200 : Fr [22] wp181 wp194 := Fr.one wE196 (by simp)
  have wc201 := wc188.fr wG200 (by decide) (by decide)
  have wc202 := wc189.fr wG200 (by decide) (by decide)
  have wc203 := wc190.fr wG200 (by decide) (by decide)
  have wc204 := wc191.fr wG200 (by decide) (by decide)
  have wc205 := wc192.fr wG200 (by decide) (by decide)
  have wF206 : Fr [10, 11, 12, 13, 14, 15, 16, 17, 18, 19, 20, 21, 22, 23, 24, 25, 26, 27, 28, 29, 30, 31, 32, 33, 34, 35, 36, 37, 38, 39] hp wp194 := wF193.trans (wG200.mono (by decide))
  refine R_dup dX2_init_39 rfl ?_
  refine V_callI (st := [.ref 22, .int (nI 5), .ref 11]) kX9_init lX2_24 (i_tape wl197 wH195) dX2_init_40 (Nat.le_of_ble_eq_true rfl) ⟨by decide, by decide⟩ ⟨Nat.le_of_ble_eq_true rfl, Nat.le_of_ble_eq_true rfl⟩ (fun wp207 wq211 => ?_)
  obtain ⟨wl208, wc209, wG210⟩ := wq211
  have wH212 := wG210.at (by decide) wH198
  have wH213 := wG210.at (by decide) wH199
  have wc214 := wc201.fr wG210 (by decide) (by decide)
  have wc215 := wc202.fr wG210 (by decide) (by decide)
  have wc216 := wc203.fr wG210 (by decide) (by decide)
  have wc217 := wc204.fr wG210 (by decide) (by decide)
  have wc218 := wc205.fr wG210 (by decide) (by decide)
  have wF219 : Fr [10, 11, 12, 13, 14, 15, 16, 17, 18, 19, 20, 21, 22, 23, 24, 25, 26, 27, 28, 29, 30, 31, 32, 33, 34, 35, 36, 37, 38, 39] hp wp207 := wF206.trans (wG210.mono (by decide))
  obtain ⟨K220f, K220, K220r⟩ := id wc209
  obtain ⟨wg221, ewg221⟩ : ∃ y, y = va_up wg180 5 (some 22) := ⟨_, rfl⟩
  refine V_aast (f' := wg221) wl208 dX2_init_43 wH213 (by decide) (by decide) K220 ewg221 (fun wp222 wl225 wH223 wE224 => ?_)
  have wH226 := (wE224 10 (by decide)).trans wH212
  have wH227 := (wE224 22 (by decide)).trans K220
  have wG228 : Fr [11] wp207 wp222 := Fr.one wE224 (by simp)
  have wc229 := wc214.fr wG228 (by decide) (by decide)
  have wc230 := wc215.fr wG228 (by decide) (by decide)
  have wc231 := wc216.fr wG228 (by decide) (by decide)
  have wc232 := wc217.fr wG228 (by decide) (by decide)
  have wc233 := wc218.fr wG228 (by decide) (by decide)
  have wc234 := wc209.fr wG228 (by decide) (by decide)
  have wF235 : Fr [10, 11, 12, 13, 14, 15, 16, 17, 18, 19, 20, 21, 22, 23, 24, 25, 26, 27, 28, 29, 30, 31, 32, 33, 34, 35, 36, 37, 38, 39] hp wp222 := wF219.trans (wG228.mono (by decide))
  refine N_iinc (d := 1) (lv' := [some (.ref 10), some (.int (nI 6))]) dX2_init_44 rfl rfl ?_
  refine R_goto (tgt := 25) dX2_init_47 (by decide) ?_
  refine R_iload_n dX2_init_25 rfl rfl ?_
  refine R_bipush (v := (nI 14)) dX2_init_26 (by decide) ?_
  refine N_icmp_ge (tgt := 50) dX2_init_28 (by decide) (by decide) (by decide) (fun hc => absurd hc (by decide)) (fun _ => ?_)
  refine R_aload_n dX2_init_31 rfl rfl ?_
  refine R_getf dX2_init_32 gX2_11 wH226 rfl ?_
  refine R_iload_n dX2_init_35 rfl rfl ?_
  refine V_new (fs := [.null, .int (nI 0), .int (nI 0), .int (nI 0), .int (nI 0)]) wl225 kcX9 dX2_init_36 wX2_9 tX9 sX9 (dfX9 X) ⟨Nat.le_of_ble_eq_true rfl, Nat.le_of_ble_eq_true rfl⟩ (fun wp236 wl239 wH237 wE238 => ?_)
  have wH240 := (wE238 10 (by decide)).trans wH226
  have wH241 := (wE238 11 (by decide)).trans wH223
  have wG242 : Fr [24] wp222 wp236 := Fr.one wE238 (by simp)
  have wc243 := wc229.fr wG242 (by decide) (by decide)
  have wc244 := wc230.fr wG242 (by decide) (by decide)
  have wc245 := wc231.fr wG242 (by decide) (by decide)
  have wc246 := wc232.fr wG242 (by decide) (by decide)
  have wc247 := wc233.fr wG242 (by decide) (by decide)
  have wc248 := wc234.fr wG242 (by decide) (by decide)
  have wF249 : Fr [10, 11, 12, 13, 14, 15, 16, 17, 18, 19, 20, 21, 22, 23, 24, 25, 26, 27, 28, 29, 30, 31, 32, 33, 34, 35, 36, 37, 38, 39] hp wp236 := wF235.trans (wG242.mono (by decide))
  refine R_dup dX2_init_39 rfl ?_
  refine V_callI (st := [.ref 24, .int (nI 6), .ref 11]) kX9_init lX2_24 (i_tape wl239 wH237) dX2_init_40 (Nat.le_of_ble_eq_true rfl) ⟨by decide, by decide⟩ ⟨Nat.le_of_ble_eq_true rfl, Nat.le_of_ble_eq_true rfl⟩ (fun wp250 wq254 => ?_)
  obtain ⟨wl251, wc252, wG253⟩ := wq254
  have wH255 := wG253.at (by decide) wH240
  have wH256 := wG253.at (by decide) wH241
  have wc257 := wc243.fr wG253 (by decide) (by decide)
  have wc258 := wc244.fr wG253 (by decide) (by decide)
  have wc259 := wc245.fr wG253 (by decide) (by decide)
  have wc260 := wc246.fr wG253 (by decide) (by decide)
  have wc261 := wc247.fr wG253 (by decide) (by decide)
  have wc262 := wc248.fr wG253 (by decide) (by decide)
  have wF263 : Fr [10, 11, 12, 13, 14, 15, 16, 17, 18, 19, 20, 21, 22, 23, 24, 25, 26, 27, 28, 29, 30, 31, 32, 33, 34, 35, 36, 37, 38, 39] hp wp250 := wF249.trans (wG253.mono (by decide))
  obtain ⟨K264f, K264, K264r⟩ := id wc252
  obtain ⟨wg265, ewg265⟩ : ∃ y, y = va_up wg221 6 (some 24) := ⟨_, rfl⟩
  refine V_aast (f' := wg265) wl251 dX2_init_43 wH256 (by decide) (by decide) K264 ewg265 (fun wp266 wl269 wH267 wE268 => ?_)
  have wH270 := (wE268 10 (by decide)).trans wH255
  have wH271 := (wE268 24 (by decide)).trans K264
  have wG272 : Fr [11] wp250 wp266 := Fr.one wE268 (by simp)
  have wc273 := wc257.fr wG272 (by decide) (by decide)
  have wc274 := wc258.fr wG272 (by decide) (by decide)
  have wc275 := wc259.fr wG272 (by decide) (by decide)
  have wc276 := wc260.fr wG272 (by decide) (by decide)
  have wc277 := wc261.fr wG272 (by decide) (by decide)
  have wc278 := wc262.fr wG272 (by decide) (by decide)
  have wc279 := wc252.fr wG272 (by decide) (by decide)
  have wF280 : Fr [10, 11, 12, 13, 14, 15, 16, 17, 18, 19, 20, 21, 22, 23, 24, 25, 26, 27, 28, 29, 30, 31, 32, 33, 34, 35, 36, 37, 38, 39] hp wp266 := wF263.trans (wG272.mono (by decide))
  refine N_iinc (d := 1) (lv' := [some (.ref 10), some (.int (nI 7))]) dX2_init_44 rfl rfl ?_
  refine R_goto (tgt := 25) dX2_init_47 (by decide) ?_
  refine R_iload_n dX2_init_25 rfl rfl ?_
  refine R_bipush (v := (nI 14)) dX2_init_26 (by decide) ?_
  refine N_icmp_ge (tgt := 50) dX2_init_28 (by decide) (by decide) (by decide) (fun hc => absurd hc (by decide)) (fun _ => ?_)
  refine R_aload_n dX2_init_31 rfl rfl ?_
  refine R_getf dX2_init_32 gX2_11 wH270 rfl ?_
  refine R_iload_n dX2_init_35 rfl rfl ?_
  refine V_new (fs := [.null, .int (nI 0), .int (nI 0), .int (nI 0), .int (nI 0)]) wl269 kcX9 dX2_init_36 wX2_9 tX9 sX9 (dfX9 X) ⟨Nat.le_of_ble_eq_true rfl, Nat.le_of_ble_eq_true rfl⟩ (fun wp281 wl284 wH282 wE283 => ?_)
  have wH285 := (wE283 10 (by decide)).trans wH270
  have wH286 := (wE283 11 (by decide)).trans wH267
  have wG287 : Fr [26] wp266 wp281 := Fr.one wE283 (by simp)
  have wc288 := wc273.fr wG287 (by decide) (by decide)
  have wc289 := wc274.fr wG287 (by decide) (by decide)
  have wc290 := wc275.fr wG287 (by decide) (by decide)
  have wc291 := wc276.fr wG287 (by decide) (by decide)
  have wc292 := wc277.fr wG287 (by decide) (by decide)
  have wc293 := wc278.fr wG287 (by decide) (by decide)
  have wc294 := wc279.fr wG287 (by decide) (by decide)
  have wF295 : Fr [10, 11, 12, 13, 14, 15, 16, 17, 18, 19, 20, 21, 22, 23, 24, 25, 26, 27, 28, 29, 30, 31, 32, 33, 34, 35, 36, 37, 38, 39] hp wp281 := wF280.trans (wG287.mono (by decide))
  refine R_dup dX2_init_39 rfl ?_
  refine V_callI (st := [.ref 26, .int (nI 7), .ref 11]) kX9_init lX2_24 (i_tape wl284 wH282) dX2_init_40 (Nat.le_of_ble_eq_true rfl) ⟨by decide, by decide⟩ ⟨Nat.le_of_ble_eq_true rfl, Nat.le_of_ble_eq_true rfl⟩ (fun wp296 wq300 => ?_)
  obtain ⟨wl297, wc298, wG299⟩ := wq300
  have wH301 := wG299.at (by decide) wH285
  have wH302 := wG299.at (by decide) wH286
  have wc303 := wc288.fr wG299 (by decide) (by decide)
  have wc304 := wc289.fr wG299 (by decide) (by decide)
  have wc305 := wc290.fr wG299 (by decide) (by decide)
  have wc306 := wc291.fr wG299 (by decide) (by decide)
  have wc307 := wc292.fr wG299 (by decide) (by decide)
  have wc308 := wc293.fr wG299 (by decide) (by decide)
  have wc309 := wc294.fr wG299 (by decide) (by decide)
  have wF310 : Fr [10, 11, 12, 13, 14, 15, 16, 17, 18, 19, 20, 21, 22, 23, 24, 25, 26, 27, 28, 29, 30, 31, 32, 33, 34, 35, 36, 37, 38, 39] hp wp296 := wF295.trans (wG299.mono (by decide))
  obtain ⟨K311f, K311, K311r⟩ := id wc298
  obtain ⟨wg312, ewg312⟩ : ∃ y, y = va_up wg265 7 (some 26) := ⟨_, rfl⟩
  refine V_aast (f' := wg312) wl297 dX2_init_43 wH302 (by decide) (by decide) K311 ewg312 (fun wp313 wl316 wH314 wE315 => ?_)
  have wH317 := (wE315 10 (by decide)).trans wH301
  have wH318 := (wE315 26 (by decide)).trans K311
  have wG319 : Fr [11] wp296 wp313 := Fr.one wE315 (by simp)
  have wc320 := wc303.fr wG319 (by decide) (by decide)
  have wc321 := wc304.fr wG319 (by decide) (by decide)
  have wc322 := wc305.fr wG319 (by decide) (by decide)
  have wc323 := wc306.fr wG319 (by decide) (by decide)
  have wc324 := wc307.fr wG319 (by decide) (by decide)
  have wc325 := wc308.fr wG319 (by decide) (by decide)
  have wc326 := wc309.fr wG319 (by decide) (by decide)
  have wc327 := wc298.fr wG319 (by decide) (by decide)
  have wF328 : Fr [10, 11, 12, 13, 14, 15, 16, 17, 18, 19, 20, 21, 22, 23, 24, 25, 26, 27, 28, 29, 30, 31, 32, 33, 34, 35, 36, 37, 38, 39] hp wp313 := wF310.trans (wG319.mono (by decide))
  refine N_iinc (d := 1) (lv' := [some (.ref 10), some (.int (nI 8))]) dX2_init_44 rfl rfl ?_
  refine R_goto (tgt := 25) dX2_init_47 (by decide) ?_
  refine R_iload_n dX2_init_25 rfl rfl ?_
  refine R_bipush (v := (nI 14)) dX2_init_26 (by decide) ?_
  refine N_icmp_ge (tgt := 50) dX2_init_28 (by decide) (by decide) (by decide) (fun hc => absurd hc (by decide)) (fun _ => ?_)
  refine R_aload_n dX2_init_31 rfl rfl ?_
  refine R_getf dX2_init_32 gX2_11 wH317 rfl ?_
  refine R_iload_n dX2_init_35 rfl rfl ?_
  refine V_new (fs := [.null, .int (nI 0), .int (nI 0), .int (nI 0), .int (nI 0)]) wl316 kcX9 dX2_init_36 wX2_9 tX9 sX9 (dfX9 X) ⟨Nat.le_of_ble_eq_true rfl, Nat.le_of_ble_eq_true rfl⟩ (fun wp329 wl332 wH330 wE331 => ?_)
  have wH333 := (wE331 10 (by decide)).trans wH317
  have wH334 := (wE331 11 (by decide)).trans wH314
  have wG335 : Fr [28] wp313 wp329 := Fr.one wE331 (by simp)
  have wc336 := wc320.fr wG335 (by decide) (by decide)
  have wc337 := wc321.fr wG335 (by decide) (by decide)
  have wc338 := wc322.fr wG335 (by decide) (by decide)
  have wc339 := wc323.fr wG335 (by decide) (by decide)
  have wc340 := wc324.fr wG335 (by decide) (by decide)
  have wc341 := wc325.fr wG335 (by decide) (by decide)
  have wc342 := wc326.fr wG335 (by decide) (by decide)
  have wc343 := wc327.fr wG335 (by decide) (by decide)
  have wF344 : Fr [10, 11, 12, 13, 14, 15, 16, 17, 18, 19, 20, 21, 22, 23, 24, 25, 26, 27, 28, 29, 30, 31, 32, 33, 34, 35, 36, 37, 38, 39] hp wp329 := wF328.trans (wG335.mono (by decide))
  refine R_dup dX2_init_39 rfl ?_
  refine V_callI (st := [.ref 28, .int (nI 8), .ref 11]) kX9_init lX2_24 (i_tape wl332 wH330) dX2_init_40 (Nat.le_of_ble_eq_true rfl) ⟨by decide, by decide⟩ ⟨Nat.le_of_ble_eq_true rfl, Nat.le_of_ble_eq_true rfl⟩ (fun wp345 wq349 => ?_)
  obtain ⟨wl346, wc347, wG348⟩ := wq349
  have wH350 := wG348.at (by decide) wH333
  have wH351 := wG348.at (by decide) wH334
  have wc352 := wc336.fr wG348 (by decide) (by decide)
  have wc353 := wc337.fr wG348 (by decide) (by decide)
  have wc354 := wc338.fr wG348 (by decide) (by decide)
  have wc355 := wc339.fr wG348 (by decide) (by decide)
  have wc356 := wc340.fr wG348 (by decide) (by decide)
  have wc357 := wc341.fr wG348 (by decide) (by decide)
  have wc358 := wc342.fr wG348 (by decide) (by decide)
  have wc359 := wc343.fr wG348 (by decide) (by decide)
  have wF360 : Fr [10, 11, 12, 13, 14, 15, 16, 17, 18, 19, 20, 21, 22, 23, 24, 25, 26, 27, 28, 29, 30, 31, 32, 33, 34, 35, 36, 37, 38, 39] hp wp345 := wF344.trans (wG348.mono (by decide))
  obtain ⟨K361f, K361, K361r⟩ := id wc347
  obtain ⟨wg362, ewg362⟩ : ∃ y, y = va_up wg312 8 (some 28) := ⟨_, rfl⟩
  refine V_aast (f' := wg362) wl346 dX2_init_43 wH351 (by decide) (by decide) K361 ewg362 (fun wp363 wl366 wH364 wE365 => ?_)
  have wH367 := (wE365 10 (by decide)).trans wH350
  have wH368 := (wE365 28 (by decide)).trans K361
  have wG369 : Fr [11] wp345 wp363 := Fr.one wE365 (by simp)
  have wc370 := wc352.fr wG369 (by decide) (by decide)
  have wc371 := wc353.fr wG369 (by decide) (by decide)
  have wc372 := wc354.fr wG369 (by decide) (by decide)
  have wc373 := wc355.fr wG369 (by decide) (by decide)
  have wc374 := wc356.fr wG369 (by decide) (by decide)
  have wc375 := wc357.fr wG369 (by decide) (by decide)
  have wc376 := wc358.fr wG369 (by decide) (by decide)
  have wc377 := wc359.fr wG369 (by decide) (by decide)
  have wc378 := wc347.fr wG369 (by decide) (by decide)
  have wF379 : Fr [10, 11, 12, 13, 14, 15, 16, 17, 18, 19, 20, 21, 22, 23, 24, 25, 26, 27, 28, 29, 30, 31, 32, 33, 34, 35, 36, 37, 38, 39] hp wp363 := wF360.trans (wG369.mono (by decide))
  refine N_iinc (d := 1) (lv' := [some (.ref 10), some (.int (nI 9))]) dX2_init_44 rfl rfl ?_
  refine R_goto (tgt := 25) dX2_init_47 (by decide) ?_
  refine R_iload_n dX2_init_25 rfl rfl ?_
  refine R_bipush (v := (nI 14)) dX2_init_26 (by decide) ?_
  refine N_icmp_ge (tgt := 50) dX2_init_28 (by decide) (by decide) (by decide) (fun hc => absurd hc (by decide)) (fun _ => ?_)
  refine R_aload_n dX2_init_31 rfl rfl ?_
  refine R_getf dX2_init_32 gX2_11 wH367 rfl ?_
  refine R_iload_n dX2_init_35 rfl rfl ?_
  refine V_new (fs := [.null, .int (nI 0), .int (nI 0), .int (nI 0), .int (nI 0)]) wl366 kcX9 dX2_init_36 wX2_9 tX9 sX9 (dfX9 X) ⟨Nat.le_of_ble_eq_true rfl, Nat.le_of_ble_eq_true rfl⟩ (fun wp380 wl383 wH381 wE382 => ?_)
  have wH384 := (wE382 10 (by decide)).trans wH367
  have wH385 := (wE382 11 (by decide)).trans wH364
  have wG386 : Fr [30] wp363 wp380 := Fr.one wE382 (by simp)
  have wc387 := wc370.fr wG386 (by decide) (by decide)
  have wc388 := wc371.fr wG386 (by decide) (by decide)
  have wc389 := wc372.fr wG386 (by decide) (by decide)
  have wc390 := wc373.fr wG386 (by decide) (by decide)
  have wc391 := wc374.fr wG386 (by decide) (by decide)
  have wc392 := wc375.fr wG386 (by decide) (by decide)
  have wc393 := wc376.fr wG386 (by decide) (by decide)
  have wc394 := wc377.fr wG386 (by decide) (by decide)
  have wc395 := wc378.fr wG386 (by decide) (by decide)
  have wF396 : Fr [10, 11, 12, 13, 14, 15, 16, 17, 18, 19, 20, 21, 22, 23, 24, 25, 26, 27, 28, 29, 30, 31, 32, 33, 34, 35, 36, 37, 38, 39] hp wp380 := wF379.trans (wG386.mono (by decide))
  refine R_dup dX2_init_39 rfl ?_
  refine V_callI (st := [.ref 30, .int (nI 9), .ref 11]) kX9_init lX2_24 (i_tape wl383 wH381) dX2_init_40 (Nat.le_of_ble_eq_true rfl) ⟨by decide, by decide⟩ ⟨Nat.le_of_ble_eq_true rfl, Nat.le_of_ble_eq_true rfl⟩ (fun wp397 wq401 => ?_)
  obtain ⟨wl398, wc399, wG400⟩ := wq401
  have wH402 := wG400.at (by decide) wH384
  have wH403 := wG400.at (by decide) wH385
  have wc404 := wc387.fr wG400 (by decide) (by decide)
  have wc405 := wc388.fr wG400 (by decide) (by decide)
  have wc406 := wc389.fr wG400 (by decide) (by decide)
  have wc407 := wc390.fr wG400 (by decide) (by decide)
  have wc408 := wc391.fr wG400 (by decide) (by decide)
  have wc409 := wc392.fr wG400 (by decide) (by decide)
  have wc410 := wc393.fr wG400 (by decide) (by decide)
  have wc411 := wc394.fr wG400 (by decide) (by decide)
  have wc412 := wc395.fr wG400 (by decide) (by decide)
  have wF413 : Fr [10, 11, 12, 13, 14, 15, 16, 17, 18, 19, 20, 21, 22, 23, 24, 25, 26, 27, 28, 29, 30, 31, 32, 33, 34, 35, 36, 37, 38, 39] hp wp397 := wF396.trans (wG400.mono (by decide))
  obtain ⟨K414f, K414, K414r⟩ := id wc399
  obtain ⟨wg415, ewg415⟩ : ∃ y, y = va_up wg362 9 (some 30) := ⟨_, rfl⟩
  refine V_aast (f' := wg415) wl398 dX2_init_43 wH403 (by decide) (by decide) K414 ewg415 (fun wp416 wl419 wH417 wE418 => ?_)
  have wH420 := (wE418 10 (by decide)).trans wH402
  have wH421 := (wE418 30 (by decide)).trans K414
  have wG422 : Fr [11] wp397 wp416 := Fr.one wE418 (by simp)
  have wc423 := wc404.fr wG422 (by decide) (by decide)
  have wc424 := wc405.fr wG422 (by decide) (by decide)
  have wc425 := wc406.fr wG422 (by decide) (by decide)
  have wc426 := wc407.fr wG422 (by decide) (by decide)
  have wc427 := wc408.fr wG422 (by decide) (by decide)
  have wc428 := wc409.fr wG422 (by decide) (by decide)
  have wc429 := wc410.fr wG422 (by decide) (by decide)
  have wc430 := wc411.fr wG422 (by decide) (by decide)
  have wc431 := wc412.fr wG422 (by decide) (by decide)
  have wc432 := wc399.fr wG422 (by decide) (by decide)
  have wF433 : Fr [10, 11, 12, 13, 14, 15, 16, 17, 18, 19, 20, 21, 22, 23, 24, 25, 26, 27, 28, 29, 30, 31, 32, 33, 34, 35, 36, 37, 38, 39] hp wp416 := wF413.trans (wG422.mono (by decide))
  refine N_iinc (d := 1) (lv' := [some (.ref 10), some (.int (nI 10))]) dX2_init_44 rfl rfl ?_
  refine R_goto (tgt := 25) dX2_init_47 (by decide) ?_
  refine R_iload_n dX2_init_25 rfl rfl ?_
  refine R_bipush (v := (nI 14)) dX2_init_26 (by decide) ?_
  refine N_icmp_ge (tgt := 50) dX2_init_28 (by decide) (by decide) (by decide) (fun hc => absurd hc (by decide)) (fun _ => ?_)
  refine R_aload_n dX2_init_31 rfl rfl ?_
  refine R_getf dX2_init_32 gX2_11 wH420 rfl ?_
  refine R_iload_n dX2_init_35 rfl rfl ?_
  refine V_new (fs := [.null, .int (nI 0), .int (nI 0), .int (nI 0), .int (nI 0)]) wl419 kcX9 dX2_init_36 wX2_9 tX9 sX9 (dfX9 X) ⟨Nat.le_of_ble_eq_true rfl, Nat.le_of_ble_eq_true rfl⟩ (fun wp434 wl437 wH435 wE436 => ?_)
  have wH438 := (wE436 10 (by decide)).trans wH420
  have wH439 := (wE436 11 (by decide)).trans wH417
  have wG440 : Fr [32] wp416 wp434 := Fr.one wE436 (by simp)
  have wc441 := wc423.fr wG440 (by decide) (by decide)
  have wc442 := wc424.fr wG440 (by decide) (by decide)
  have wc443 := wc425.fr wG440 (by decide) (by decide)
  have wc444 := wc426.fr wG440 (by decide) (by decide)
  have wc445 := wc427.fr wG440 (by decide) (by decide)
  have wc446 := wc428.fr wG440 (by decide) (by decide)
  have wc447 := wc429.fr wG440 (by decide) (by decide)
  have wc448 := wc430.fr wG440 (by decide) (by decide)
  have wc449 := wc431.fr wG440 (by decide) (by decide)
  have wc450 := wc432.fr wG440 (by decide) (by decide)
  have wF451 : Fr [10, 11, 12, 13, 14, 15, 16, 17, 18, 19, 20, 21, 22, 23, 24, 25, 26, 27, 28, 29, 30, 31, 32, 33, 34, 35, 36, 37, 38, 39] hp wp434 := wF433.trans (wG440.mono (by decide))
  refine R_dup dX2_init_39 rfl ?_
  refine V_callI (st := [.ref 32, .int (nI 10), .ref 11]) kX9_init lX2_24 (i_tape wl437 wH435) dX2_init_40 (Nat.le_of_ble_eq_true rfl) ⟨by decide, by decide⟩ ⟨Nat.le_of_ble_eq_true rfl, Nat.le_of_ble_eq_true rfl⟩ (fun wp452 wq456 => ?_)
  obtain ⟨wl453, wc454, wG455⟩ := wq456
  have wH457 := wG455.at (by decide) wH438
  have wH458 := wG455.at (by decide) wH439
  have wc459 := wc441.fr wG455 (by decide) (by decide)
  have wc460 := wc442.fr wG455 (by decide) (by decide)
  have wc461 := wc443.fr wG455 (by decide) (by decide)
  have wc462 := wc444.fr wG455 (by decide) (by decide)
  have wc463 := wc445.fr wG455 (by decide) (by decide)
  have wc464 := wc446.fr wG455 (by decide) (by decide)
  have wc465 := wc447.fr wG455 (by decide) (by decide)
  have wc466 := wc448.fr wG455 (by decide) (by decide)
  have wc467 := wc449.fr wG455 (by decide) (by decide)
  have wc468 := wc450.fr wG455 (by decide) (by decide)
  have wF469 : Fr [10, 11, 12, 13, 14, 15, 16, 17, 18, 19, 20, 21, 22, 23, 24, 25, 26, 27, 28, 29, 30, 31, 32, 33, 34, 35, 36, 37, 38, 39] hp wp452 := wF451.trans (wG455.mono (by decide))
  obtain ⟨K470f, K470, K470r⟩ := id wc454
  obtain ⟨wg471, ewg471⟩ : ∃ y, y = va_up wg415 10 (some 32) := ⟨_, rfl⟩
  refine V_aast (f' := wg471) wl453 dX2_init_43 wH458 (by decide) (by decide) K470 ewg471 (fun wp472 wl475 wH473 wE474 => ?_)
  have wH476 := (wE474 10 (by decide)).trans wH457
  have wH477 := (wE474 32 (by decide)).trans K470
  have wG478 : Fr [11] wp452 wp472 := Fr.one wE474 (by simp)
  have wc479 := wc459.fr wG478 (by decide) (by decide)
  have wc480 := wc460.fr wG478 (by decide) (by decide)
  have wc481 := wc461.fr wG478 (by decide) (by decide)
  have wc482 := wc462.fr wG478 (by decide) (by decide)
  have wc483 := wc463.fr wG478 (by decide) (by decide)
  have wc484 := wc464.fr wG478 (by decide) (by decide)
  have wc485 := wc465.fr wG478 (by decide) (by decide)
  have wc486 := wc466.fr wG478 (by decide) (by decide)
  have wc487 := wc467.fr wG478 (by decide) (by decide)
  have wc488 := wc468.fr wG478 (by decide) (by decide)
  have wc489 := wc454.fr wG478 (by decide) (by decide)
  have wF490 : Fr [10, 11, 12, 13, 14, 15, 16, 17, 18, 19, 20, 21, 22, 23, 24, 25, 26, 27, 28, 29, 30, 31, 32, 33, 34, 35, 36, 37, 38, 39] hp wp472 := wF469.trans (wG478.mono (by decide))
  refine N_iinc (d := 1) (lv' := [some (.ref 10), some (.int (nI 11))]) dX2_init_44 rfl rfl ?_
  refine R_goto (tgt := 25) dX2_init_47 (by decide) ?_
  refine R_iload_n dX2_init_25 rfl rfl ?_
  refine R_bipush (v := (nI 14)) dX2_init_26 (by decide) ?_
  refine N_icmp_ge (tgt := 50) dX2_init_28 (by decide) (by decide) (by decide) (fun hc => absurd hc (by decide)) (fun _ => ?_)
  refine R_aload_n dX2_init_31 rfl rfl ?_
  refine R_getf dX2_init_32 gX2_11 wH476 rfl ?_
  refine R_iload_n dX2_init_35 rfl rfl ?_
  refine V_new (fs := [.null, .int (nI 0), .int (nI 0), .int (nI 0), .int (nI 0)]) wl475 kcX9 dX2_init_36 wX2_9 tX9 sX9 (dfX9 X) ⟨Nat.le_of_ble_eq_true rfl, Nat.le_of_ble_eq_true rfl⟩ (fun wp491 wl494 wH492 wE493 => ?_)
  have wH495 := (wE493 10 (by decide)).trans wH476
  have wH496 := (wE493 11 (by decide)).trans wH473
  have wG497 : Fr [34] wp472 wp491 := Fr.one wE493 (by simp)
  have wc498 := wc479.fr wG497 (by decide) (by decide)
  have wc499 := wc480.fr wG497 (by decide) (by decide)
  have wc500 := wc481.fr wG497 (by decide) (by decide)
  have wc501 := wc482.fr wG497 (by decide) (by decide)
  have wc502 := wc483.fr wG497 (by decide) (by decide)
  have wc503 := wc484.fr wG497 (by decide) (by decide)
  have wc504 := wc485.fr wG497 (by decide) (by decide)
  have wc505 := wc486.fr wG497 (by decide) (by decide)
  have wc506 := wc487.fr wG497 (by decide) (by decide)
  have wc507 := wc488.fr wG497 (by decide) (by decide)
  have wc508 := wc489.fr wG497 (by decide) (by decide)
  have wF509 : Fr [10, 11, 12, 13, 14, 15, 16, 17, 18, 19, 20, 21, 22, 23, 24, 25, 26, 27, 28, 29, 30, 31, 32, 33, 34, 35, 36, 37, 38, 39] hp wp491 := wF490.trans (wG497.mono (by decide))
  refine R_dup dX2_init_39 rfl ?_
  refine V_callI (st := [.ref 34, .int (nI 11), .ref 11]) kX9_init lX2_24 (i_tape wl494 wH492) dX2_init_40 (Nat.le_of_ble_eq_true rfl) ⟨by decide, by decide⟩ ⟨Nat.le_of_ble_eq_true rfl, Nat.le_of_ble_eq_true rfl⟩ (fun wp510 wq514 => ?_)
  obtain ⟨wl511, wc512, wG513⟩ := wq514
  have wH515 := wG513.at (by decide) wH495
  have wH516 := wG513.at (by decide) wH496
  have wc517 := wc498.fr wG513 (by decide) (by decide)
  have wc518 := wc499.fr wG513 (by decide) (by decide)
  have wc519 := wc500.fr wG513 (by decide) (by decide)
  have wc520 := wc501.fr wG513 (by decide) (by decide)
  have wc521 := wc502.fr wG513 (by decide) (by decide)
  have wc522 := wc503.fr wG513 (by decide) (by decide)
  have wc523 := wc504.fr wG513 (by decide) (by decide)
  have wc524 := wc505.fr wG513 (by decide) (by decide)
  have wc525 := wc506.fr wG513 (by decide) (by decide)
  have wc526 := wc507.fr wG513 (by decide) (by decide)
  have wc527 := wc508.fr wG513 (by decide) (by decide)
  have wF528 : Fr [10, 11, 12, 13, 14, 15, 16, 17, 18, 19, 20, 21, 22, 23, 24, 25, 26, 27, 28, 29, 30, 31, 32, 33, 34, 35, 36, 37, 38, 39] hp wp510 := wF509.trans (wG513.mono (by decide))
  obtain ⟨K529f, K529, K529r⟩ := id wc512
  obtain ⟨wg530, ewg530⟩ : ∃ y, y = va_up wg471 11 (some 34) := ⟨_, rfl⟩
  refine V_aast (f' := wg530) wl511 dX2_init_43 wH516 (by decide) (by decide) K529 ewg530 (fun wp531 wl534 wH532 wE533 => ?_)
  have wH535 := (wE533 10 (by decide)).trans wH515
  have wH536 := (wE533 34 (by decide)).trans K529
  have wG537 : Fr [11] wp510 wp531 := Fr.one wE533 (by simp)
  have wc538 := wc517.fr wG537 (by decide) (by decide)
  have wc539 := wc518.fr wG537 (by decide) (by decide)
  have wc540 := wc519.fr wG537 (by decide) (by decide)
  have wc541 := wc520.fr wG537 (by decide) (by decide)
  have wc542 := wc521.fr wG537 (by decide) (by decide)
  have wc543 := wc522.fr wG537 (by decide) (by decide)
  have wc544 := wc523.fr wG537 (by decide) (by decide)
  have wc545 := wc524.fr wG537 (by decide) (by decide)
  have wc546 := wc525.fr wG537 (by decide) (by decide)
  have wc547 := wc526.fr wG537 (by decide) (by decide)
  have wc548 := wc527.fr wG537 (by decide) (by decide)
  have wc549 := wc512.fr wG537 (by decide) (by decide)
  have wF550 : Fr [10, 11, 12, 13, 14, 15, 16, 17, 18, 19, 20, 21, 22, 23, 24, 25, 26, 27, 28, 29, 30, 31, 32, 33, 34, 35, 36, 37, 38, 39] hp wp531 := wF528.trans (wG537.mono (by decide))
  refine N_iinc (d := 1) (lv' := [some (.ref 10), some (.int (nI 12))]) dX2_init_44 rfl rfl ?_
  refine R_goto (tgt := 25) dX2_init_47 (by decide) ?_
  refine R_iload_n dX2_init_25 rfl rfl ?_
  refine R_bipush (v := (nI 14)) dX2_init_26 (by decide) ?_
  refine N_icmp_ge (tgt := 50) dX2_init_28 (by decide) (by decide) (by decide) (fun hc => absurd hc (by decide)) (fun _ => ?_)
  refine R_aload_n dX2_init_31 rfl rfl ?_
  refine R_getf dX2_init_32 gX2_11 wH535 rfl ?_
  refine R_iload_n dX2_init_35 rfl rfl ?_
  refine V_new (fs := [.null, .int (nI 0), .int (nI 0), .int (nI 0), .int (nI 0)]) wl534 kcX9 dX2_init_36 wX2_9 tX9 sX9 (dfX9 X) ⟨Nat.le_of_ble_eq_true rfl, Nat.le_of_ble_eq_true rfl⟩ (fun wp551 wl554 wH552 wE553 => ?_)
  have wH555 := (wE553 10 (by decide)).trans wH535
  have wH556 := (wE553 11 (by decide)).trans wH532
  have wG557 : Fr [36] wp531 wp551 := Fr.one wE553 (by simp)
  have wc558 := wc538.fr wG557 (by decide) (by decide)
  have wc559 := wc539.fr wG557 (by decide) (by decide)
  have wc560 := wc540.fr wG557 (by decide) (by decide)
  have wc561 := wc541.fr wG557 (by decide) (by decide)
  have wc562 := wc542.fr wG557 (by decide) (by decide)
  have wc563 := wc543.fr wG557 (by decide) (by decide)
  have wc564 := wc544.fr wG557 (by decide) (by decide)
  have wc565 := wc545.fr wG557 (by decide) (by decide)
  have wc566 := wc546.fr wG557 (by decide) (by decide)
  have wc567 := wc547.fr wG557 (by decide) (by decide)
  have wc568 := wc548.fr wG557 (by decide) (by decide)
  have wc569 := wc549.fr wG557 (by decide) (by decide)
  have wF570 : Fr [10, 11, 12, 13, 14, 15, 16, 17, 18, 19, 20, 21, 22, 23, 24, 25, 26, 27, 28, 29, 30, 31, 32, 33, 34, 35, 36, 37, 38, 39] hp wp551 := wF550.trans (wG557.mono (by decide))
  refine R_dup dX2_init_39 rfl ?_
  refine V_callI (st := [.ref 36, .int (nI 12), .ref 11]) kX9_init lX2_24 (i_tape wl554 wH552) dX2_init_40 (Nat.le_of_ble_eq_true rfl) ⟨by decide, by decide⟩ ⟨Nat.le_of_ble_eq_true rfl, Nat.le_of_ble_eq_true rfl⟩ (fun wp571 wq575 => ?_)
  obtain ⟨wl572, wc573, wG574⟩ := wq575
  have wH576 := wG574.at (by decide) wH555
  have wH577 := wG574.at (by decide) wH556
  have wc578 := wc558.fr wG574 (by decide) (by decide)
  have wc579 := wc559.fr wG574 (by decide) (by decide)
  have wc580 := wc560.fr wG574 (by decide) (by decide)
  have wc581 := wc561.fr wG574 (by decide) (by decide)
  have wc582 := wc562.fr wG574 (by decide) (by decide)
  have wc583 := wc563.fr wG574 (by decide) (by decide)
  have wc584 := wc564.fr wG574 (by decide) (by decide)
  have wc585 := wc565.fr wG574 (by decide) (by decide)
  have wc586 := wc566.fr wG574 (by decide) (by decide)
  have wc587 := wc567.fr wG574 (by decide) (by decide)
  have wc588 := wc568.fr wG574 (by decide) (by decide)
  have wc589 := wc569.fr wG574 (by decide) (by decide)
  have wF590 : Fr [10, 11, 12, 13, 14, 15, 16, 17, 18, 19, 20, 21, 22, 23, 24, 25, 26, 27, 28, 29, 30, 31, 32, 33, 34, 35, 36, 37, 38, 39] hp wp571 := wF570.trans (wG574.mono (by decide))
  obtain ⟨K591f, K591, K591r⟩ := id wc573
  obtain ⟨wg592, ewg592⟩ : ∃ y, y = va_up wg530 12 (some 36) := ⟨_, rfl⟩
  refine V_aast (f' := wg592) wl572 dX2_init_43 wH577 (by decide) (by decide) K591 ewg592 (fun wp593 wl596 wH594 wE595 => ?_)
  have wH597 := (wE595 10 (by decide)).trans wH576
  have wH598 := (wE595 36 (by decide)).trans K591
  have wG599 : Fr [11] wp571 wp593 := Fr.one wE595 (by simp)
  have wc600 := wc578.fr wG599 (by decide) (by decide)
  have wc601 := wc579.fr wG599 (by decide) (by decide)
  have wc602 := wc580.fr wG599 (by decide) (by decide)
  have wc603 := wc581.fr wG599 (by decide) (by decide)
  have wc604 := wc582.fr wG599 (by decide) (by decide)
  have wc605 := wc583.fr wG599 (by decide) (by decide)
  have wc606 := wc584.fr wG599 (by decide) (by decide)
  have wc607 := wc585.fr wG599 (by decide) (by decide)
  have wc608 := wc586.fr wG599 (by decide) (by decide)
  have wc609 := wc587.fr wG599 (by decide) (by decide)
  have wc610 := wc588.fr wG599 (by decide) (by decide)
  have wc611 := wc589.fr wG599 (by decide) (by decide)
  have wc612 := wc573.fr wG599 (by decide) (by decide)
  have wF613 : Fr [10, 11, 12, 13, 14, 15, 16, 17, 18, 19, 20, 21, 22, 23, 24, 25, 26, 27, 28, 29, 30, 31, 32, 33, 34, 35, 36, 37, 38, 39] hp wp593 := wF590.trans (wG599.mono (by decide))
  refine N_iinc (d := 1) (lv' := [some (.ref 10), some (.int (nI 13))]) dX2_init_44 rfl rfl ?_
  refine R_goto (tgt := 25) dX2_init_47 (by decide) ?_
  refine R_iload_n dX2_init_25 rfl rfl ?_
  refine R_bipush (v := (nI 14)) dX2_init_26 (by decide) ?_
  refine N_icmp_ge (tgt := 50) dX2_init_28 (by decide) (by decide) (by decide) (fun hc => absurd hc (by decide)) (fun _ => ?_)
  refine R_aload_n dX2_init_31 rfl rfl ?_
  refine R_getf dX2_init_32 gX2_11 wH597 rfl ?_
  refine R_iload_n dX2_init_35 rfl rfl ?_
  refine V_new (fs := [.null, .int (nI 0), .int (nI 0), .int (nI 0), .int (nI 0)]) wl596 kcX9 dX2_init_36 wX2_9 tX9 sX9 (dfX9 X) ⟨Nat.le_of_ble_eq_true rfl, Nat.le_of_ble_eq_true rfl⟩ (fun wp614 wl617 wH615 wE616 => ?_)
  have wH618 := (wE616 10 (by decide)).trans wH597
  have wH619 := (wE616 11 (by decide)).trans wH594
  have wG620 : Fr [38] wp593 wp614 := Fr.one wE616 (by simp)
  have wc621 := wc600.fr wG620 (by decide) (by decide)
  have wc622 := wc601.fr wG620 (by decide) (by decide)
  have wc623 := wc602.fr wG620 (by decide) (by decide)
  have wc624 := wc603.fr wG620 (by decide) (by decide)
  have wc625 := wc604.fr wG620 (by decide) (by decide)
  have wc626 := wc605.fr wG620 (by decide) (by decide)
  have wc627 := wc606.fr wG620 (by decide) (by decide)
  have wc628 := wc607.fr wG620 (by decide) (by decide)
  have wc629 := wc608.fr wG620 (by decide) (by decide)
  have wc630 := wc609.fr wG620 (by decide) (by decide)
  have wc631 := wc610.fr wG620 (by decide) (by decide)
  have wc632 := wc611.fr wG620 (by decide) (by decide)
  have wc633 := wc612.fr wG620 (by decide) (by decide)
  have wF634 : Fr [10, 11, 12, 13, 14, 15, 16, 17, 18, 19, 20, 21, 22, 23, 24, 25, 26, 27, 28, 29, 30, 31, 32, 33, 34, 35, 36, 37, 38, 39] hp wp614 := wF613.trans (wG620.mono (by decide))
  refine R_dup dX2_init_39 rfl ?_
  refine V_callI (st := [.ref 38, .int (nI 13), .ref 11]) kX9_init lX2_24 (i_tape wl617 wH615) dX2_init_40 (Nat.le_of_ble_eq_true rfl) ⟨by decide, by decide⟩ ⟨Nat.le_of_ble_eq_true rfl, Nat.le_of_ble_eq_true rfl⟩ (fun wp635 wq639 => ?_)
  obtain ⟨wl636, wc637, wG638⟩ := wq639
  have wH640 := wG638.at (by decide) wH618
  have wH641 := wG638.at (by decide) wH619
  have wc642 := wc621.fr wG638 (by decide) (by decide)
  have wc643 := wc622.fr wG638 (by decide) (by decide)
  have wc644 := wc623.fr wG638 (by decide) (by decide)
  have wc645 := wc624.fr wG638 (by decide) (by decide)
  have wc646 := wc625.fr wG638 (by decide) (by decide)
  have wc647 := wc626.fr wG638 (by decide) (by decide)
  have wc648 := wc627.fr wG638 (by decide) (by decide)
  have wc649 := wc628.fr wG638 (by decide) (by decide)
  have wc650 := wc629.fr wG638 (by decide) (by decide)
  have wc651 := wc630.fr wG638 (by decide) (by decide)
  have wc652 := wc631.fr wG638 (by decide) (by decide)
  have wc653 := wc632.fr wG638 (by decide) (by decide)
  have wc654 := wc633.fr wG638 (by decide) (by decide)
  have wF655 : Fr [10, 11, 12, 13, 14, 15, 16, 17, 18, 19, 20, 21, 22, 23, 24, 25, 26, 27, 28, 29, 30, 31, 32, 33, 34, 35, 36, 37, 38, 39] hp wp635 := wF634.trans (wG638.mono (by decide))
  obtain ⟨K656f, K656, K656r⟩ := id wc637
  obtain ⟨wg657, ewg657⟩ : ∃ y, y = va_up wg592 13 (some 38) := ⟨_, rfl⟩
  refine V_aast (f' := wg657) wl636 dX2_init_43 wH641 (by decide) (by decide) K656 ewg657 (fun wp658 wl661 wH659 wE660 => ?_)
  have wH662 := (wE660 10 (by decide)).trans wH640
  have wH663 := (wE660 38 (by decide)).trans K656
  have wG664 : Fr [11] wp635 wp658 := Fr.one wE660 (by simp)
  have wc665 := wc642.fr wG664 (by decide) (by decide)
  have wc666 := wc643.fr wG664 (by decide) (by decide)
  have wc667 := wc644.fr wG664 (by decide) (by decide)
  have wc668 := wc645.fr wG664 (by decide) (by decide)
  have wc669 := wc646.fr wG664 (by decide) (by decide)
  have wc670 := wc647.fr wG664 (by decide) (by decide)
  have wc671 := wc648.fr wG664 (by decide) (by decide)
  have wc672 := wc649.fr wG664 (by decide) (by decide)
  have wc673 := wc650.fr wG664 (by decide) (by decide)
  have wc674 := wc651.fr wG664 (by decide) (by decide)
  have wc675 := wc652.fr wG664 (by decide) (by decide)
  have wc676 := wc653.fr wG664 (by decide) (by decide)
  have wc677 := wc654.fr wG664 (by decide) (by decide)
  have wc678 := wc637.fr wG664 (by decide) (by decide)
  have wF679 : Fr [10, 11, 12, 13, 14, 15, 16, 17, 18, 19, 20, 21, 22, 23, 24, 25, 26, 27, 28, 29, 30, 31, 32, 33, 34, 35, 36, 37, 38, 39] hp wp658 := wF655.trans (wG664.mono (by decide))
  refine N_iinc (d := 1) (lv' := [some (.ref 10), some (.int (nI 14))]) dX2_init_44 rfl rfl ?_
  refine R_goto (tgt := 25) dX2_init_47 (by decide) ?_
  refine R_iload_n dX2_init_25 rfl rfl ?_
  refine R_bipush (v := (nI 14)) dX2_init_26 (by decide) ?_
  refine N_icmp_ge (tgt := 50) dX2_init_28 (by decide) (by decide) (by decide) (fun _ => ?_) (fun hc => absurd hc (by decide))
  have hg : ∀ i, i < 14 → wg657 i = some (12 + 2 * i) := by
    intro i hi
    subst ewg657 ewg592 ewg530 ewg471 ewg415 ewg362 ewg312 ewg265 ewg221 ewg180 ewg142 ewg107 ewg75 ewg46
    rcases (show i = 0 ∨ i = 1 ∨ i = 2 ∨ i = 3 ∨ i = 4 ∨ i = 5 ∨ i = 6 ∨ i = 7 ∨ i = 8 ∨ i = 9 ∨ i = 10 ∨ i = 11 ∨ i = 12 ∨ i = 13 by omega) with rfl | rfl | rfl | rfl | rfl | rfl | rfl | rfl | rfl | rfl | rfl | rfl | rfl | rfl <;> rfl
  have ht : ∀ i, i < 14 → ∃ T, TpAt wp658 (12 + 2 * i) (13 + 2 * i) T := by
    intro i hi
    rcases (show i = 0 ∨ i = 1 ∨ i = 2 ∨ i = 3 ∨ i = 4 ∨ i = 5 ∨ i = 6 ∨ i = 7 ∨ i = 8 ∨ i = 9 ∨ i = 10 ∨ i = 11 ∨ i = 12 ∨ i = 13 by omega) with rfl | rfl | rfl | rfl | rfl | rfl | rfl | rfl | rfl | rfl | rfl | rfl | rfl | rfl
    · exact ⟨_, wc665⟩
    · exact ⟨_, wc666⟩
    · exact ⟨_, wc667⟩
    · exact ⟨_, wc668⟩
    · exact ⟨_, wc669⟩
    · exact ⟨_, wc670⟩
    · exact ⟨_, wc671⟩
    · exact ⟨_, wc672⟩
    · exact ⟨_, wc673⟩
    · exact ⟨_, wc674⟩
    · exact ⟨_, wc675⟩
    · exact ⟨_, wc676⟩
    · exact ⟨_, wc677⟩
    · exact ⟨_, wc678⟩
  exact R_retv dX2_init_50 rfl rfl rfl ⟨wl661, ⟨wg657, wH662, wH659, hg, by decide, by decide, ht, fun j hj => absurd hj (by simp)⟩, wF679⟩
set_option maxRecDepth 100000 in
set_option maxHeartbeats 4000000 in
theorem i_sl (hl : hp.length = 41) (H : hp[40]? = some (ob 7 [.null, .null])) : SpV l X mX8_init [.ref 40] hp (fun hp' => hp'.length = 47 ∧ SlAt hp' none none ∧ Fr [40, 41, 42, 43, 44, 45, 46] hp hp') := by
  refine SpV.of pnX8 (Nat.le_of_ble_eq_true rfl) rfl ?_
  refine R_aload_n dX8_init_0 rfl rfl ?_
  refine R_objInit dX8_init_1 lX8_3 oi_i oi_c (Nat.le_of_ble_eq_true rfl) (Nat.le_of_ble_eq_true rfl) ?_
  refine R_aload_n dX8_init_4 rfl rfl ?_
  refine R_iconst (v := (nI 2)) dX8_init_5 (by decide) ?_
  refine V_newq (N := 2) hl dX8_init_6 wX8_9 (nI_pos (by decide)) (nI_clamp (by decide)) (Nat.le_of_ble_eq_true rfl) ⟨Nat.le_of_ble_eq_true rfl, Nat.le_of_ble_eq_true rfl⟩ (fun wp1 wl4 wH2 wE3 => ?_)
  have wH5 := (wE3 40 (by decide)).trans H
  have wG6 : Fr [41] hp wp1 := Fr.one wE3 (by simp)
  have wF7 : Fr [40, 41, 42, 43, 44, 45, 46] hp wp1 := wG6.mono (by decide)
  refine V_putF (fs' := [.ref 41, .null]) wl4 dX8_init_9 qX8_11 rfl wH5 (Nat.le_of_ble_eq_true rfl) rfl rfl rfl (fun wp8 wl11 wH9 wE10 => ?_)
  have wH12 := (wE10 41 (by decide)).trans wH2
  have wG13 : Fr [40] wp1 wp8 := Fr.one wE10 (by simp)
  have wF14 : Fr [40, 41, 42, 43, 44, 45, 46] hp wp8 := wF7.trans (wG13.mono (by decide))
  refine R_aload_n dX8_init_12 rfl rfl ?_
  refine R_iconst (v := (nI 2)) dX8_init_13 (by decide) ?_
  refine V_newz (N := 2) wl11 dX8_init_14 (nI_pos (by decide)) (nI_clamp (by decide)) (Nat.le_of_ble_eq_true rfl) ⟨Nat.le_of_ble_eq_true rfl, Nat.le_of_ble_eq_true rfl⟩ (fun wp15 wl18 wH16 wE17 => ?_)
  have wH19 := (wE17 40 (by decide)).trans wH9
  have wH20 := (wE17 41 (by decide)).trans wH12
  have wG21 : Fr [42] wp8 wp15 := Fr.one wE17 (by simp)
  have wF22 : Fr [40, 41, 42, 43, 44, 45, 46] hp wp15 := wF14.trans (wG21.mono (by decide))
  refine V_putF (fs' := [.ref 41, .ref 42]) wl18 dX8_init_16 qX8_17 rfl wH19 (Nat.le_of_ble_eq_true rfl) rfl rfl rfl (fun wp23 wl26 wH24 wE25 => ?_)
  have wH27 := (wE25 41 (by decide)).trans wH20
  have wH28 := (wE25 42 (by decide)).trans wH16
  have wG29 : Fr [40] wp15 wp23 := Fr.one wE25 (by simp)
  have wF30 : Fr [40, 41, 42, 43, 44, 45, 46] hp wp23 := wF22.trans (wG29.mono (by decide))
  refine R_iconst (v := (nI 0)) dX8_init_19 (by decide) ?_
  refine R_istore_n (lv' := [some (.ref 40), some (.int (nI 0))]) dX8_init_20 rfl (by decide) rfl ?_
  refine R_iload_n dX8_init_21 rfl rfl ?_
  refine R_iconst (v := (nI 2)) dX8_init_22 (by decide) ?_
  refine N_icmp_ge (tgt := 45) dX8_init_23 (by decide) (by decide) (by decide) (fun hc => absurd hc (by decide)) (fun _ => ?_)
  refine R_aload_n dX8_init_26 rfl rfl ?_
  refine R_getf dX8_init_27 gX8_11 wH24 rfl ?_
  refine R_iload_n dX8_init_30 rfl rfl ?_
  refine V_new (fs := [.null, .int (nI 0), .int (nI 0), .int (nI 0), .int (nI 0)]) wl26 kcX9 dX8_init_31 wX8_9 tX9 sX9 (dfX9 X) ⟨Nat.le_of_ble_eq_true rfl, Nat.le_of_ble_eq_true rfl⟩ (fun wp31 wl34 wH32 wE33 => ?_)
  have wH35 := (wE33 40 (by decide)).trans wH24
  have wH36 := (wE33 41 (by decide)).trans wH27
  have wH37 := (wE33 42 (by decide)).trans wH28
  have wG38 : Fr [43] wp23 wp31 := Fr.one wE33 (by simp)
  have wF39 : Fr [40, 41, 42, 43, 44, 45, 46] hp wp31 := wF30.trans (wG38.mono (by decide))
  refine R_dup dX8_init_34 rfl ?_
  refine V_callI (st := [.ref 43, .int (nI 0), .ref 41]) kX9_init lX8_21 (i_tape wl34 wH32) dX8_init_35 (Nat.le_of_ble_eq_true rfl) ⟨by decide, by decide⟩ ⟨Nat.le_of_ble_eq_true rfl, Nat.le_of_ble_eq_true rfl⟩ (fun wp40 wq44 => ?_)
  obtain ⟨wl41, wc42, wG43⟩ := wq44
  have wH45 := wG43.at (by decide) wH35
  have wH46 := wG43.at (by decide) wH36
  have wH47 := wG43.at (by decide) wH37
  have wF48 : Fr [40, 41, 42, 43, 44, 45, 46] hp wp40 := wF39.trans (wG43.mono (by decide))
  obtain ⟨K49f, K49, K49r⟩ := id wc42
  obtain ⟨wg50, ewg50⟩ : ∃ y, y = va_up (fun _ => none) 0 (some 43) := ⟨_, rfl⟩
  refine V_aast (f' := wg50) wl41 dX8_init_38 wH46 (by decide) (by decide) K49 ewg50 (fun wp51 wl54 wH52 wE53 => ?_)
  have wH55 := (wE53 40 (by decide)).trans wH45
  have wH56 := (wE53 42 (by decide)).trans wH47
  have wH57 := (wE53 43 (by decide)).trans K49
  have wG58 : Fr [41] wp40 wp51 := Fr.one wE53 (by simp)
  have wc59 := wc42.fr wG58 (by decide) (by decide)
  have wF60 : Fr [40, 41, 42, 43, 44, 45, 46] hp wp51 := wF48.trans (wG58.mono (by decide))
  refine N_iinc (d := 1) (lv' := [some (.ref 40), some (.int (nI 1))]) dX8_init_39 rfl rfl ?_
  refine R_goto (tgt := 21) dX8_init_42 (by decide) ?_
  refine R_iload_n dX8_init_21 rfl rfl ?_
  refine R_iconst (v := (nI 2)) dX8_init_22 (by decide) ?_
  refine N_icmp_ge (tgt := 45) dX8_init_23 (by decide) (by decide) (by decide) (fun hc => absurd hc (by decide)) (fun _ => ?_)
  refine R_aload_n dX8_init_26 rfl rfl ?_
  refine R_getf dX8_init_27 gX8_11 wH55 rfl ?_
  refine R_iload_n dX8_init_30 rfl rfl ?_
  refine V_new (fs := [.null, .int (nI 0), .int (nI 0), .int (nI 0), .int (nI 0)]) wl54 kcX9 dX8_init_31 wX8_9 tX9 sX9 (dfX9 X) ⟨Nat.le_of_ble_eq_true rfl, Nat.le_of_ble_eq_true rfl⟩ (fun wp61 wl64 wH62 wE63 => ?_)
  have wH65 := (wE63 40 (by decide)).trans wH55
  have wH66 := (wE63 41 (by decide)).trans wH52
  have wH67 := (wE63 42 (by decide)).trans wH56
  have wG68 : Fr [45] wp51 wp61 := Fr.one wE63 (by simp)
  have wc69 := wc59.fr wG68 (by decide) (by decide)
  have wF70 : Fr [40, 41, 42, 43, 44, 45, 46] hp wp61 := wF60.trans (wG68.mono (by decide))
  refine R_dup dX8_init_34 rfl ?_
  refine V_callI (st := [.ref 45, .int (nI 1), .ref 41]) kX9_init lX8_21 (i_tape wl64 wH62) dX8_init_35 (Nat.le_of_ble_eq_true rfl) ⟨by decide, by decide⟩ ⟨Nat.le_of_ble_eq_true rfl, Nat.le_of_ble_eq_true rfl⟩ (fun wp71 wq75 => ?_)
  obtain ⟨wl72, wc73, wG74⟩ := wq75
  have wH76 := wG74.at (by decide) wH65
  have wH77 := wG74.at (by decide) wH66
  have wH78 := wG74.at (by decide) wH67
  have wc79 := wc69.fr wG74 (by decide) (by decide)
  have wF80 : Fr [40, 41, 42, 43, 44, 45, 46] hp wp71 := wF70.trans (wG74.mono (by decide))
  obtain ⟨K81f, K81, K81r⟩ := id wc73
  obtain ⟨wg82, ewg82⟩ : ∃ y, y = va_up wg50 1 (some 45) := ⟨_, rfl⟩
  refine V_aast (f' := wg82) wl72 dX8_init_38 wH77 (by decide) (by decide) K81 ewg82 (fun wp83 wl86 wH84 wE85 => ?_)
  have wH87 := (wE85 40 (by decide)).trans wH76
  have wH88 := (wE85 42 (by decide)).trans wH78
  have wH89 := (wE85 45 (by decide)).trans K81
  have wG90 : Fr [41] wp71 wp83 := Fr.one wE85 (by simp)
  have wc91 := wc79.fr wG90 (by decide) (by decide)
  have wc92 := wc73.fr wG90 (by decide) (by decide)
  have wF93 : Fr [40, 41, 42, 43, 44, 45, 46] hp wp83 := wF80.trans (wG90.mono (by decide))
  refine N_iinc (d := 1) (lv' := [some (.ref 40), some (.int (nI 2))]) dX8_init_39 rfl rfl ?_
  refine R_goto (tgt := 21) dX8_init_42 (by decide) ?_
  refine R_iload_n dX8_init_21 rfl rfl ?_
  refine R_iconst (v := (nI 2)) dX8_init_22 (by decide) ?_
  refine N_icmp_ge (tgt := 45) dX8_init_23 (by decide) (by decide) (by decide) (fun _ => ?_) (fun hc => absurd hc (by decide))
  exact R_retv dX8_init_45 rfl rfl rfl ⟨wl86, ⟨wg82, fun _ => 0, _, _, wH87, wH84, wH88, by subst ewg82 ewg50; rfl, by subst ewg82 ewg50; rfl, rfl, rfl, wc91, wc92, fun T h => (by cases h), fun T h => (by cases h)⟩, wF93⟩
set_option maxRecDepth 100000 in
set_option maxHeartbeats 4000000 in
theorem i_main (hl : hp.length = 1) (H : hp[0]? = some (ob 10 [.null, .null, .null, .null, .null, .null, .null, .null, .null, .null, .null, .null])) : SpV l X mX11_init [.ref 0] hp (fun hp' => hp'.length = 61 ∧ CI hp' ([], ([], 0, 0, 20), [], none, none, [], 0) ∧ Fr LC hp hp') := by
  refine SpV.of pnX11 (Nat.le_of_ble_eq_true rfl) rfl ?_
  refine R_aload_n dX11_init_0 rfl rfl ?_
  refine R_objInit dX11_init_1 lX11_1 oi_i oi_c (Nat.le_of_ble_eq_true rfl) (Nat.le_of_ble_eq_true rfl) ?_
  refine R_aload_n dX11_init_4 rfl rfl ?_
  refine V_new (fs := [.null, .int (nI 0), .int (nI 0), .int (nI 0), .int (nI 0)]) hl kcX9 dX11_init_5 wX11_7 tX9 sX9 (dfX9 X) ⟨Nat.le_of_ble_eq_true rfl, Nat.le_of_ble_eq_true rfl⟩ (fun wp1 wl4 wH2 wE3 => ?_)
  have wH5 := (wE3 0 (by decide)).trans H
  have wG6 : Fr [1] hp wp1 := Fr.one wE3 (by simp)
  have wF7 : Fr LC hp wp1 := wG6.mono (by decide)
  refine R_dup dX11_init_8 rfl ?_
  refine V_callI (st := [.ref 1, .ref 0]) kX9_init lX11_9 (i_tape wl4 wH2) dX11_init_9 (Nat.le_of_ble_eq_true rfl) ⟨by decide, by decide⟩ ⟨Nat.le_of_ble_eq_true rfl, Nat.le_of_ble_eq_true rfl⟩ (fun wp8 wq12 => ?_)
  obtain ⟨wl9, wc10, wG11⟩ := wq12
  have wH13 := wG11.at (by decide) wH5
  have wF14 : Fr LC hp wp8 := wF7.trans (wG11.mono (by decide))
  refine V_putF (fs' := [.ref 1, .null, .null, .null, .null, .null, .null, .null, .null, .null, .null, .null]) wl9 dX11_init_12 qX11_10 rfl wH13 (Nat.le_of_ble_eq_true rfl) rfl rfl rfl (fun wp15 wl18 wH16 wE17 => ?_)
  have wG19 : Fr [0] wp8 wp15 := Fr.one wE17 (by simp)
  have wc20 := wc10.fr wG19 (by decide) (by decide)
  have wF21 : Fr LC hp wp15 := wF14.trans (wG19.mono (by decide))
  refine R_aload_n dX11_init_15 rfl rfl ?_
  refine V_new (fs := [.null, .int (nI 0), .int (nI 0), .int (nI 0), .int (nI 0)]) wl18 kcX9 dX11_init_16 wX11_7 tX9 sX9 (dfX9 X) ⟨Nat.le_of_ble_eq_true rfl, Nat.le_of_ble_eq_true rfl⟩ (fun wp22 wl25 wH23 wE24 => ?_)
  have wH26 := (wE24 0 (by decide)).trans wH16
  have wG27 : Fr [3] wp15 wp22 := Fr.one wE24 (by simp)
  have wc28 := wc20.fr wG27 (by decide) (by decide)
  have wF29 : Fr LC hp wp22 := wF21.trans (wG27.mono (by decide))
  refine R_dup dX11_init_19 rfl ?_
  refine V_callI (st := [.ref 3, .ref 0]) kX9_init lX11_9 (i_tape wl25 wH23) dX11_init_20 (Nat.le_of_ble_eq_true rfl) ⟨by decide, by decide⟩ ⟨Nat.le_of_ble_eq_true rfl, Nat.le_of_ble_eq_true rfl⟩ (fun wp30 wq34 => ?_)
  obtain ⟨wl31, wc32, wG33⟩ := wq34
  have wH35 := wG33.at (by decide) wH26
  have wc36 := wc28.fr wG33 (by decide) (by decide)
  have wF37 : Fr LC hp wp30 := wF29.trans (wG33.mono (by decide))
  refine V_putF (fs' := [.ref 1, .ref 3, .null, .null, .null, .null, .null, .null, .null, .null, .null, .null]) wl31 dX11_init_23 qX11_16 rfl wH35 (Nat.le_of_ble_eq_true rfl) rfl rfl rfl (fun wp38 wl41 wH39 wE40 => ?_)
  have wG42 : Fr [0] wp30 wp38 := Fr.one wE40 (by simp)
  have wc43 := wc36.fr wG42 (by decide) (by decide)
  have wc44 := wc32.fr wG42 (by decide) (by decide)
  have wF45 : Fr LC hp wp38 := wF37.trans (wG42.mono (by decide))
  refine R_aload_n dX11_init_26 rfl rfl ?_
  refine V_new (fs := [.null, .int (nI 0), .int (nI 0)]) wl41 kcX6 dX11_init_27 wX11_19 tX6 sX6 (dfX6 X) ⟨Nat.le_of_ble_eq_true rfl, Nat.le_of_ble_eq_true rfl⟩ (fun wp46 wl49 wH47 wE48 => ?_)
  have wH50 := (wE48 0 (by decide)).trans wH39
  have wG51 : Fr [5] wp38 wp46 := Fr.one wE48 (by simp)
  have wc52 := wc43.fr wG51 (by decide) (by decide)
  have wc53 := wc44.fr wG51 (by decide) (by decide)
  have wF54 : Fr LC hp wp46 := wF45.trans (wG51.mono (by decide))
  refine R_dup dX11_init_30 rfl ?_
  refine V_callI (st := [.ref 5, .ref 0]) kX6_init lX11_21 (i_pun wl49 wH47) dX11_init_31 (Nat.le_of_ble_eq_true rfl) ⟨by decide, by decide⟩ ⟨Nat.le_of_ble_eq_true rfl, Nat.le_of_ble_eq_true rfl⟩ (fun wp55 wq59 => ?_)
  obtain ⟨wl56, wc57, wG58⟩ := wq59
  have wH60 := wG58.at (by decide) wH50
  have wc61 := wc52.fr wG58 (by decide) (by decide)
  have wc62 := wc53.fr wG58 (by decide) (by decide)
  have wF63 : Fr LC hp wp55 := wF54.trans (wG58.mono (by decide))
  refine V_putF (fs' := [.ref 1, .ref 3, .ref 5, .null, .null, .null, .null, .null, .null, .null, .null, .null]) wl56 dX11_init_34 qX11_22 rfl wH60 (Nat.le_of_ble_eq_true rfl) rfl rfl rfl (fun wp64 wl67 wH65 wE66 => ?_)
  have wG68 : Fr [0] wp55 wp64 := Fr.one wE66 (by simp)
  have wc69 := wc61.fr wG68 (by decide) (by decide)
  have wc70 := wc62.fr wG68 (by decide) (by decide)
  have wc71 := wc57.fr wG68 (by decide) (by decide) (by decide)
  have wF72 : Fr LC hp wp64 := wF63.trans (wG68.mono (by decide))
  refine R_aload_n dX11_init_37 rfl rfl ?_
  refine V_new (fs := [.null, .int (nI 0)]) wl67 kcX3 dX11_init_38 wX11_26 tX3 sX3 (dfX3 X) ⟨Nat.le_of_ble_eq_true rfl, Nat.le_of_ble_eq_true rfl⟩ (fun wp73 wl76 wH74 wE75 => ?_)
  have wH77 := (wE75 0 (by decide)).trans wH65
  have wG78 : Fr [8] wp64 wp73 := Fr.one wE75 (by simp)
  have wc79 := wc69.fr wG78 (by decide) (by decide)
  have wc80 := wc70.fr wG78 (by decide) (by decide)
  have wc81 := wc71.fr wG78 (by decide) (by decide) (by decide)
  have wF82 : Fr LC hp wp73 := wF72.trans (wG78.mono (by decide))
  refine R_dup dX11_init_41 rfl ?_
  refine V_callI (st := [.ref 8, .ref 0]) kX3_init lX11_28 (i_msg wl76 wH74) dX11_init_42 (Nat.le_of_ble_eq_true rfl) ⟨by decide, by decide⟩ ⟨Nat.le_of_ble_eq_true rfl, Nat.le_of_ble_eq_true rfl⟩ (fun wp83 wq87 => ?_)
  obtain ⟨wl84, wc85, wG86⟩ := wq87
  have wH88 := wG86.at (by decide) wH77
  have wc89 := wc79.fr wG86 (by decide) (by decide)
  have wc90 := wc80.fr wG86 (by decide) (by decide)
  have wc91 := wc81.fr wG86 (by decide) (by decide) (by decide)
  have wF92 : Fr LC hp wp83 := wF82.trans (wG86.mono (by decide))
  refine V_putF (fs' := [.ref 1, .ref 3, .ref 5, .ref 8, .null, .null, .null, .null, .null, .null, .null, .null]) wl84 dX11_init_45 qX11_29 rfl wH88 (Nat.le_of_ble_eq_true rfl) rfl rfl rfl (fun wp93 wl96 wH94 wE95 => ?_)
  have wG97 : Fr [0] wp83 wp93 := Fr.one wE95 (by simp)
  have wc98 := wc89.fr wG97 (by decide) (by decide)
  have wc99 := wc90.fr wG97 (by decide) (by decide)
  have wc100 := wc91.fr wG97 (by decide) (by decide) (by decide)
  have wc101 := wc85.fr wG97 (by decide) (by decide)
  have wF102 : Fr LC hp wp93 := wF92.trans (wG97.mono (by decide))
  refine R_aload_n dX11_init_48 rfl rfl ?_
  refine V_new (fs := [.null, .int (nI 0), .int (nI 0)]) wl96 kcX2 dX11_init_49 wX11_33 tX2 sX2 (dfX2 X) ⟨Nat.le_of_ble_eq_true rfl, Nat.le_of_ble_eq_true rfl⟩ (fun wp103 wl106 wH104 wE105 => ?_)
  have wH107 := (wE105 0 (by decide)).trans wH94
  have wG108 : Fr [10] wp93 wp103 := Fr.one wE105 (by simp)
  have wc109 := wc98.fr wG108 (by decide) (by decide)
  have wc110 := wc99.fr wG108 (by decide) (by decide)
  have wc111 := wc100.fr wG108 (by decide) (by decide) (by decide)
  have wc112 := wc101.fr wG108 (by decide) (by decide)
  have wF113 : Fr LC hp wp103 := wF102.trans (wG108.mono (by decide))
  refine R_dup dX11_init_52 rfl ?_
  refine V_callI (st := [.ref 10, .ref 0]) kX2_init lX11_35 (i_his wl106 wH104) dX11_init_53 (Nat.le_of_ble_eq_true rfl) ⟨by decide, by decide⟩ ⟨Nat.le_of_ble_eq_true rfl, Nat.le_of_ble_eq_true rfl⟩ (fun wp114 wq118 => ?_)
  obtain ⟨wl115, wc116, wG117⟩ := wq118
  have wH119 := wG117.at (by decide) wH107
  have wc120 := wc109.fr wG117 (by decide) (by decide)
  have wc121 := wc110.fr wG117 (by decide) (by decide)
  have wc122 := wc111.fr wG117 (by decide) (by decide) (by decide)
  have wc123 := wc112.fr wG117 (by decide) (by decide)
  have wF124 : Fr LC hp wp114 := wF113.trans (wG117.mono (by decide))
  refine V_putF (fs' := [.ref 1, .ref 3, .ref 5, .ref 8, .ref 10, .null, .null, .null, .null, .null, .null, .null]) wl115 dX11_init_56 qX11_36 rfl wH119 (Nat.le_of_ble_eq_true rfl) rfl rfl rfl (fun wp125 wl128 wH126 wE127 => ?_)
  have wG129 : Fr [0] wp114 wp125 := Fr.one wE127 (by simp)
  have wc130 := wc120.fr wG129 (by decide) (by decide)
  have wc131 := wc121.fr wG129 (by decide) (by decide)
  have wc132 := wc122.fr wG129 (by decide) (by decide) (by decide)
  have wc133 := wc123.fr wG129 (by decide) (by decide)
  have wc134 := wc116.fr wG129 (by decide) (by decide)
  have wF135 : Fr LC hp wp125 := wF124.trans (wG129.mono (by decide))
  refine R_aload_n dX11_init_59 rfl rfl ?_
  refine V_new (fs := [.null, .null]) wl128 kcX8 dX11_init_60 wX11_40 tX8 sX8 (dfX8 X) ⟨Nat.le_of_ble_eq_true rfl, Nat.le_of_ble_eq_true rfl⟩ (fun wp136 wl139 wH137 wE138 => ?_)
  have wH140 := (wE138 0 (by decide)).trans wH126
  have wG141 : Fr [40] wp125 wp136 := Fr.one wE138 (by simp)
  have wc142 := wc130.fr wG141 (by decide) (by decide)
  have wc143 := wc131.fr wG141 (by decide) (by decide)
  have wc144 := wc132.fr wG141 (by decide) (by decide) (by decide)
  have wc145 := wc133.fr wG141 (by decide) (by decide)
  have wc146 := wc134.fr wG141 (by decide) (by decide)
  have wF147 : Fr LC hp wp136 := wF135.trans (wG141.mono (by decide))
  refine R_dup dX11_init_63 rfl ?_
  refine V_callI (st := [.ref 40, .ref 0]) kX8_init lX11_42 (i_sl wl139 wH137) dX11_init_64 (Nat.le_of_ble_eq_true rfl) ⟨by decide, by decide⟩ ⟨Nat.le_of_ble_eq_true rfl, Nat.le_of_ble_eq_true rfl⟩ (fun wp148 wq152 => ?_)
  obtain ⟨wl149, wc150, wG151⟩ := wq152
  have wH153 := wG151.at (by decide) wH140
  have wc154 := wc142.fr wG151 (by decide) (by decide)
  have wc155 := wc143.fr wG151 (by decide) (by decide)
  have wc156 := wc144.fr wG151 (by decide) (by decide) (by decide)
  have wc157 := wc145.fr wG151 (by decide) (by decide)
  have wc158 := wc146.fr wG151 (by decide) (by decide)
  have wF159 : Fr LC hp wp148 := wF147.trans (wG151.mono (by decide))
  refine V_putF (fs' := [.ref 1, .ref 3, .ref 5, .ref 8, .ref 10, .ref 40, .null, .null, .null, .null, .null, .null]) wl149 dX11_init_67 qX11_43 rfl wH153 (Nat.le_of_ble_eq_true rfl) rfl rfl rfl (fun wp160 wl163 wH161 wE162 => ?_)
  have wG164 : Fr [0] wp148 wp160 := Fr.one wE162 (by simp)
  have wc165 := wc154.fr wG164 (by decide) (by decide)
  have wc166 := wc155.fr wG164 (by decide) (by decide)
  have wc167 := wc156.fr wG164 (by decide) (by decide) (by decide)
  have wc168 := wc157.fr wG164 (by decide) (by decide)
  have wc169 := wc158.fr wG164 (by decide) (by decide)
  have wc170 := wc150.fr wG164 (by decide)
  have wF171 : Fr LC hp wp160 := wF159.trans (wG164.mono (by decide))
  refine R_aload_n dX11_init_70 rfl rfl ?_
  refine V_new (fs := [.null, .null, .int (nI 0)]) wl163 kcX10 dX11_init_71 wX11_47 tX10 sX10 (dfX10 X) ⟨Nat.le_of_ble_eq_true rfl, Nat.le_of_ble_eq_true rfl⟩ (fun wp172 wl175 wH173 wE174 => ?_)
  have wH176 := (wE174 0 (by decide)).trans wH161
  have wG177 : Fr [47] wp160 wp172 := Fr.one wE174 (by simp)
  have wc178 := wc165.fr wG177 (by decide) (by decide)
  have wc179 := wc166.fr wG177 (by decide) (by decide)
  have wc180 := wc167.fr wG177 (by decide) (by decide) (by decide)
  have wc181 := wc168.fr wG177 (by decide) (by decide)
  have wc182 := wc169.fr wG177 (by decide) (by decide)
  have wc183 := wc170.fr wG177 (by decide)
  have wF184 : Fr LC hp wp172 := wF171.trans (wG177.mono (by decide))
  refine R_dup dX11_init_74 rfl ?_
  refine V_callI (st := [.ref 47, .ref 0]) kX10_init lX11_49 (i_text wl175 wH173) dX11_init_75 (Nat.le_of_ble_eq_true rfl) ⟨by decide, by decide⟩ ⟨Nat.le_of_ble_eq_true rfl, Nat.le_of_ble_eq_true rfl⟩ (fun wp185 wq189 => ?_)
  obtain ⟨wl186, wc187, wG188⟩ := wq189
  have wH190 := wG188.at (by decide) wH176
  have wc191 := wc178.fr wG188 (by decide) (by decide)
  have wc192 := wc179.fr wG188 (by decide) (by decide)
  have wc193 := wc180.fr wG188 (by decide) (by decide) (by decide)
  have wc194 := wc181.fr wG188 (by decide) (by decide)
  have wc195 := wc182.fr wG188 (by decide) (by decide)
  have wc196 := wc183.fr wG188 (by decide)
  have wF197 : Fr LC hp wp185 := wF184.trans (wG188.mono (by decide))
  refine V_putF (fs' := [.ref 1, .ref 3, .ref 5, .ref 8, .ref 10, .ref 40, .ref 47, .null, .null, .null, .null, .null]) wl186 dX11_init_78 qX11_50 rfl wH190 (Nat.le_of_ble_eq_true rfl) rfl rfl rfl (fun wp198 wl201 wH199 wE200 => ?_)
  have wG202 : Fr [0] wp185 wp198 := Fr.one wE200 (by simp)
  have wc203 := wc191.fr wG202 (by decide) (by decide)
  have wc204 := wc192.fr wG202 (by decide) (by decide)
  have wc205 := wc193.fr wG202 (by decide) (by decide) (by decide)
  have wc206 := wc194.fr wG202 (by decide) (by decide)
  have wc207 := wc195.fr wG202 (by decide) (by decide)
  have wc208 := wc196.fr wG202 (by decide)
  have wc209 := wc187.fr wG202 (by decide) (by decide) (by decide)
  have wF210 : Fr LC hp wp198 := wF197.trans (wG202.mono (by decide))
  refine R_aload_n dX11_init_81 rfl rfl ?_
  refine V_new (fs := [.null, .null, .int (nI 0)]) wl201 kcX10 dX11_init_82 wX11_47 tX10 sX10 (dfX10 X) ⟨Nat.le_of_ble_eq_true rfl, Nat.le_of_ble_eq_true rfl⟩ (fun wp211 wl214 wH212 wE213 => ?_)
  have wH215 := (wE213 0 (by decide)).trans wH199
  have wG216 : Fr [50] wp198 wp211 := Fr.one wE213 (by simp)
  have wc217 := wc203.fr wG216 (by decide) (by decide)
  have wc218 := wc204.fr wG216 (by decide) (by decide)
  have wc219 := wc205.fr wG216 (by decide) (by decide) (by decide)
  have wc220 := wc206.fr wG216 (by decide) (by decide)
  have wc221 := wc207.fr wG216 (by decide) (by decide)
  have wc222 := wc208.fr wG216 (by decide)
  have wc223 := wc209.fr wG216 (by decide) (by decide) (by decide)
  have wF224 : Fr LC hp wp211 := wF210.trans (wG216.mono (by decide))
  refine R_dup dX11_init_85 rfl ?_
  refine V_callI (st := [.ref 50, .ref 0]) kX10_init lX11_49 (i_text wl214 wH212) dX11_init_86 (Nat.le_of_ble_eq_true rfl) ⟨by decide, by decide⟩ ⟨Nat.le_of_ble_eq_true rfl, Nat.le_of_ble_eq_true rfl⟩ (fun wp225 wq229 => ?_)
  obtain ⟨wl226, wc227, wG228⟩ := wq229
  have wH230 := wG228.at (by decide) wH215
  have wc231 := wc217.fr wG228 (by decide) (by decide)
  have wc232 := wc218.fr wG228 (by decide) (by decide)
  have wc233 := wc219.fr wG228 (by decide) (by decide) (by decide)
  have wc234 := wc220.fr wG228 (by decide) (by decide)
  have wc235 := wc221.fr wG228 (by decide) (by decide)
  have wc236 := wc222.fr wG228 (by decide)
  have wc237 := wc223.fr wG228 (by decide) (by decide) (by decide)
  have wF238 : Fr LC hp wp225 := wF224.trans (wG228.mono (by decide))
  refine V_putF (fs' := [.ref 1, .ref 3, .ref 5, .ref 8, .ref 10, .ref 40, .ref 47, .ref 50, .null, .null, .null, .null]) wl226 dX11_init_89 qX11_54 rfl wH230 (Nat.le_of_ble_eq_true rfl) rfl rfl rfl (fun wp239 wl242 wH240 wE241 => ?_)
  have wG243 : Fr [0] wp225 wp239 := Fr.one wE241 (by simp)
  have wc244 := wc231.fr wG243 (by decide) (by decide)
  have wc245 := wc232.fr wG243 (by decide) (by decide)
  have wc246 := wc233.fr wG243 (by decide) (by decide) (by decide)
  have wc247 := wc234.fr wG243 (by decide) (by decide)
  have wc248 := wc235.fr wG243 (by decide) (by decide)
  have wc249 := wc236.fr wG243 (by decide)
  have wc250 := wc237.fr wG243 (by decide) (by decide) (by decide)
  have wc251 := wc227.fr wG243 (by decide) (by decide) (by decide)
  have wF252 : Fr LC hp wp239 := wF238.trans (wG243.mono (by decide))
  refine R_aload_n dX11_init_92 rfl rfl ?_
  refine V_new (fs := [.null, .int (nI 0), .int (nI 0), .int (nI 0)]) wl242 kcX5 dX11_init_93 wX11_57 tX5 sX5 (dfX5 X) ⟨Nat.le_of_ble_eq_true rfl, Nat.le_of_ble_eq_true rfl⟩ (fun wp253 wl256 wH254 wE255 => ?_)
  have wH257 := (wE255 0 (by decide)).trans wH240
  have wG258 : Fr [53] wp239 wp253 := Fr.one wE255 (by simp)
  have wc259 := wc244.fr wG258 (by decide) (by decide)
  have wc260 := wc245.fr wG258 (by decide) (by decide)
  have wc261 := wc246.fr wG258 (by decide) (by decide) (by decide)
  have wc262 := wc247.fr wG258 (by decide) (by decide)
  have wc263 := wc248.fr wG258 (by decide) (by decide)
  have wc264 := wc249.fr wG258 (by decide)
  have wc265 := wc250.fr wG258 (by decide) (by decide) (by decide)
  have wc266 := wc251.fr wG258 (by decide) (by decide) (by decide)
  have wF267 : Fr LC hp wp253 := wF252.trans (wG258.mono (by decide))
  refine R_dup dX11_init_96 rfl ?_
  refine V_callI (st := [.ref 53, .ref 0]) kX5_init lX11_59 (i_pg wl256 wH254) dX11_init_97 (Nat.le_of_ble_eq_true rfl) ⟨by decide, by decide⟩ ⟨Nat.le_of_ble_eq_true rfl, Nat.le_of_ble_eq_true rfl⟩ (fun wp268 wq272 => ?_)
  obtain ⟨wl269, wc270, wG271⟩ := wq272
  have wH273 := wG271.at (by decide) wH257
  have wc274 := wc259.fr wG271 (by decide) (by decide)
  have wc275 := wc260.fr wG271 (by decide) (by decide)
  have wc276 := wc261.fr wG271 (by decide) (by decide) (by decide)
  have wc277 := wc262.fr wG271 (by decide) (by decide)
  have wc278 := wc263.fr wG271 (by decide) (by decide)
  have wc279 := wc264.fr wG271 (by decide)
  have wc280 := wc265.fr wG271 (by decide) (by decide) (by decide)
  have wc281 := wc266.fr wG271 (by decide) (by decide) (by decide)
  have wF282 : Fr LC hp wp268 := wF267.trans (wG271.mono (by decide))
  refine V_putF (fs' := [.ref 1, .ref 3, .ref 5, .ref 8, .ref 10, .ref 40, .ref 47, .ref 50, .ref 53, .null, .null, .null]) wl269 dX11_init_100 qX11_60 rfl wH273 (Nat.le_of_ble_eq_true rfl) rfl rfl rfl (fun wp283 wl286 wH284 wE285 => ?_)
  have wG287 : Fr [0] wp268 wp283 := Fr.one wE285 (by simp)
  have wc288 := wc274.fr wG287 (by decide) (by decide)
  have wc289 := wc275.fr wG287 (by decide) (by decide)
  have wc290 := wc276.fr wG287 (by decide) (by decide) (by decide)
  have wc291 := wc277.fr wG287 (by decide) (by decide)
  have wc292 := wc278.fr wG287 (by decide) (by decide)
  have wc293 := wc279.fr wG287 (by decide)
  have wc294 := wc280.fr wG287 (by decide) (by decide) (by decide)
  have wc295 := wc281.fr wG287 (by decide) (by decide) (by decide)
  have wc296 := wc270.fr wG287 (by decide) (by decide)
  have wF297 : Fr LC hp wp283 := wF282.trans (wG287.mono (by decide))
  refine R_aload_n dX11_init_103 rfl rfl ?_
  refine V_new (fs := [.null, .null, .int (nI 0), .int (nI 0)]) wl286 kcX4 dX11_init_104 wX11_64 tX4 sX4 (dfX4 X) ⟨Nat.le_of_ble_eq_true rfl, Nat.le_of_ble_eq_true rfl⟩ (fun wp298 wl301 wH299 wE300 => ?_)
  have wH302 := (wE300 0 (by decide)).trans wH284
  have wG303 : Fr [55] wp283 wp298 := Fr.one wE300 (by simp)
  have wc304 := wc288.fr wG303 (by decide) (by decide)
  have wc305 := wc289.fr wG303 (by decide) (by decide)
  have wc306 := wc290.fr wG303 (by decide) (by decide) (by decide)
  have wc307 := wc291.fr wG303 (by decide) (by decide)
  have wc308 := wc292.fr wG303 (by decide) (by decide)
  have wc309 := wc293.fr wG303 (by decide)
  have wc310 := wc294.fr wG303 (by decide) (by decide) (by decide)
  have wc311 := wc295.fr wG303 (by decide) (by decide) (by decide)
  have wc312 := wc296.fr wG303 (by decide) (by decide)
  have wF313 : Fr LC hp wp298 := wF297.trans (wG303.mono (by decide))
  refine R_dup dX11_init_107 rfl ?_
  refine V_callI (st := [.ref 55, .ref 0]) kX4_init lX11_66 (i_obs wl301 wH299) dX11_init_108 (Nat.le_of_ble_eq_true rfl) ⟨by decide, by decide⟩ ⟨Nat.le_of_ble_eq_true rfl, Nat.le_of_ble_eq_true rfl⟩ (fun wp314 wq318 => ?_)
  obtain ⟨wl315, wc316, wG317⟩ := wq318
  have wH319 := wG317.at (by decide) wH302
  have wc320 := wc304.fr wG317 (by decide) (by decide)
  have wc321 := wc305.fr wG317 (by decide) (by decide)
  have wc322 := wc306.fr wG317 (by decide) (by decide) (by decide)
  have wc323 := wc307.fr wG317 (by decide) (by decide)
  have wc324 := wc308.fr wG317 (by decide) (by decide)
  have wc325 := wc309.fr wG317 (by decide)
  have wc326 := wc310.fr wG317 (by decide) (by decide) (by decide)
  have wc327 := wc311.fr wG317 (by decide) (by decide) (by decide)
  have wc328 := wc312.fr wG317 (by decide) (by decide)
  have wF329 : Fr LC hp wp314 := wF313.trans (wG317.mono (by decide))
  refine V_putF (fs' := [.ref 1, .ref 3, .ref 5, .ref 8, .ref 10, .ref 40, .ref 47, .ref 50, .ref 53, .ref 55, .null, .null]) wl315 dX11_init_111 qX11_67 rfl wH319 (Nat.le_of_ble_eq_true rfl) rfl rfl rfl (fun wp330 wl333 wH331 wE332 => ?_)
  have wG334 : Fr [0] wp314 wp330 := Fr.one wE332 (by simp)
  have wc335 := wc320.fr wG334 (by decide) (by decide)
  have wc336 := wc321.fr wG334 (by decide) (by decide)
  have wc337 := wc322.fr wG334 (by decide) (by decide) (by decide)
  have wc338 := wc323.fr wG334 (by decide) (by decide)
  have wc339 := wc324.fr wG334 (by decide) (by decide)
  have wc340 := wc325.fr wG334 (by decide)
  have wc341 := wc326.fr wG334 (by decide) (by decide) (by decide)
  have wc342 := wc327.fr wG334 (by decide) (by decide) (by decide)
  have wc343 := wc328.fr wG334 (by decide) (by decide)
  have wc344 := wc316.fr wG334 (by decide) (by decide) (by decide)
  have wF345 : Fr LC hp wp330 := wF329.trans (wG334.mono (by decide))
  refine R_aload_n dX11_init_114 rfl rfl ?_
  refine V_new (fs := [.long (0), .long (0), .long (0), .long (0)]) wl333 kcX1 dX11_init_115 wX11_71 tX1 sX1 (dfX1 X) ⟨Nat.le_of_ble_eq_true rfl, Nat.le_of_ble_eq_true rfl⟩ (fun wp346 wl349 wH347 wE348 => ?_)
  have wH350 := (wE348 0 (by decide)).trans wH331
  have wG351 : Fr [58] wp330 wp346 := Fr.one wE348 (by simp)
  have wc352 := wc335.fr wG351 (by decide) (by decide)
  have wc353 := wc336.fr wG351 (by decide) (by decide)
  have wc354 := wc337.fr wG351 (by decide) (by decide) (by decide)
  have wc355 := wc338.fr wG351 (by decide) (by decide)
  have wc356 := wc339.fr wG351 (by decide) (by decide)
  have wc357 := wc340.fr wG351 (by decide)
  have wc358 := wc341.fr wG351 (by decide) (by decide) (by decide)
  have wc359 := wc342.fr wG351 (by decide) (by decide) (by decide)
  have wc360 := wc343.fr wG351 (by decide) (by decide)
  have wc361 := wc344.fr wG351 (by decide) (by decide) (by decide)
  have wF362 : Fr LC hp wp346 := wF345.trans (wG351.mono (by decide))
  refine R_dup dX11_init_118 rfl ?_
  refine V_callI (st := [.ref 58, .ref 0]) kX1_init lX11_73 (i_cf wl349 wH347) dX11_init_119 (Nat.le_of_ble_eq_true rfl) ⟨by decide, by decide⟩ ⟨Nat.le_of_ble_eq_true rfl, Nat.le_of_ble_eq_true rfl⟩ (fun wp363 wq367 => ?_)
  obtain ⟨wl364, wc365, wG366⟩ := wq367
  have wH368 := wG366.at (by decide) wH350
  have wc369 := wc352.fr wG366 (by decide) (by decide)
  have wc370 := wc353.fr wG366 (by decide) (by decide)
  have wc371 := wc354.fr wG366 (by decide) (by decide) (by decide)
  have wc372 := wc355.fr wG366 (by decide) (by decide)
  have wc373 := wc356.fr wG366 (by decide) (by decide)
  have wc374 := wc357.fr wG366 (by decide)
  have wc375 := wc358.fr wG366 (by decide) (by decide) (by decide)
  have wc376 := wc359.fr wG366 (by decide) (by decide) (by decide)
  have wc377 := wc360.fr wG366 (by decide) (by decide)
  have wc378 := wc361.fr wG366 (by decide) (by decide) (by decide)
  have wF379 : Fr LC hp wp363 := wF362.trans (wG366.mono (by decide))
  refine V_putF (fs' := [.ref 1, .ref 3, .ref 5, .ref 8, .ref 10, .ref 40, .ref 47, .ref 50, .ref 53, .ref 55, .ref 58, .null]) wl364 dX11_init_122 qX11_74 rfl wH368 (Nat.le_of_ble_eq_true rfl) rfl rfl rfl (fun wp380 wl383 wH381 wE382 => ?_)
  have wG384 : Fr [0] wp363 wp380 := Fr.one wE382 (by simp)
  have wc385 := wc369.fr wG384 (by decide) (by decide)
  have wc386 := wc370.fr wG384 (by decide) (by decide)
  have wc387 := wc371.fr wG384 (by decide) (by decide) (by decide)
  have wc388 := wc372.fr wG384 (by decide) (by decide)
  have wc389 := wc373.fr wG384 (by decide) (by decide)
  have wc390 := wc374.fr wG384 (by decide)
  have wc391 := wc375.fr wG384 (by decide) (by decide) (by decide)
  have wc392 := wc376.fr wG384 (by decide) (by decide) (by decide)
  have wc393 := wc377.fr wG384 (by decide) (by decide)
  have wc394 := wc378.fr wG384 (by decide) (by decide) (by decide)
  have wc395 := wc365.fr wG384 (by decide)
  have wF396 : Fr LC hp wp380 := wF379.trans (wG384.mono (by decide))
  refine R_aload_n dX11_init_125 rfl rfl ?_
  refine V_new (fs := [.null, .int (nI 0)]) wl383 kcX7 dX11_init_126 wX11_78 tX7 sX7 (dfX7 X) ⟨Nat.le_of_ble_eq_true rfl, Nat.le_of_ble_eq_true rfl⟩ (fun wp397 wl400 wH398 wE399 => ?_)
  have wH401 := (wE399 0 (by decide)).trans wH381
  have wG402 : Fr [59] wp380 wp397 := Fr.one wE399 (by simp)
  have wc403 := wc385.fr wG402 (by decide) (by decide)
  have wc404 := wc386.fr wG402 (by decide) (by decide)
  have wc405 := wc387.fr wG402 (by decide) (by decide) (by decide)
  have wc406 := wc388.fr wG402 (by decide) (by decide)
  have wc407 := wc389.fr wG402 (by decide) (by decide)
  have wc408 := wc390.fr wG402 (by decide)
  have wc409 := wc391.fr wG402 (by decide) (by decide) (by decide)
  have wc410 := wc392.fr wG402 (by decide) (by decide) (by decide)
  have wc411 := wc393.fr wG402 (by decide) (by decide)
  have wc412 := wc394.fr wG402 (by decide) (by decide) (by decide)
  have wc413 := wc395.fr wG402 (by decide)
  have wF414 : Fr LC hp wp397 := wF396.trans (wG402.mono (by decide))
  refine R_dup dX11_init_129 rfl ?_
  refine V_callI (st := [.ref 59, .ref 0]) kX7_init lX11_80 (i_scr wl400 wH398) dX11_init_130 (Nat.le_of_ble_eq_true rfl) ⟨by decide, by decide⟩ ⟨Nat.le_of_ble_eq_true rfl, Nat.le_of_ble_eq_true rfl⟩ (fun wp415 wq419 => ?_)
  obtain ⟨wl416, wc417, wG418⟩ := wq419
  have wH420 := wG418.at (by decide) wH401
  have wc421 := wc403.fr wG418 (by decide) (by decide)
  have wc422 := wc404.fr wG418 (by decide) (by decide)
  have wc423 := wc405.fr wG418 (by decide) (by decide) (by decide)
  have wc424 := wc406.fr wG418 (by decide) (by decide)
  have wc425 := wc407.fr wG418 (by decide) (by decide)
  have wc426 := wc408.fr wG418 (by decide)
  have wc427 := wc409.fr wG418 (by decide) (by decide) (by decide)
  have wc428 := wc410.fr wG418 (by decide) (by decide) (by decide)
  have wc429 := wc411.fr wG418 (by decide) (by decide)
  have wc430 := wc412.fr wG418 (by decide) (by decide) (by decide)
  have wc431 := wc413.fr wG418 (by decide)
  have wF432 : Fr LC hp wp415 := wF414.trans (wG418.mono (by decide))
  refine V_putF (fs' := [.ref 1, .ref 3, .ref 5, .ref 8, .ref 10, .ref 40, .ref 47, .ref 50, .ref 53, .ref 55, .ref 58, .ref 59]) wl416 dX11_init_133 qX11_81 rfl wH420 (Nat.le_of_ble_eq_true rfl) rfl rfl rfl (fun wp433 wl436 wH434 wE435 => ?_)
  have wG437 : Fr [0] wp415 wp433 := Fr.one wE435 (by simp)
  have wc438 := wc421.fr wG437 (by decide) (by decide)
  have wc439 := wc422.fr wG437 (by decide) (by decide)
  have wc440 := wc423.fr wG437 (by decide) (by decide) (by decide)
  have wc441 := wc424.fr wG437 (by decide) (by decide)
  have wc442 := wc425.fr wG437 (by decide) (by decide)
  have wc443 := wc426.fr wG437 (by decide)
  have wc444 := wc427.fr wG437 (by decide) (by decide) (by decide)
  have wc445 := wc428.fr wG437 (by decide) (by decide) (by decide)
  have wc446 := wc429.fr wG437 (by decide) (by decide)
  have wc447 := wc430.fr wG437 (by decide) (by decide) (by decide)
  have wc448 := wc431.fr wG437 (by decide)
  have wc449 := wc417.fr wG437 (by decide) (by decide)
  have wF450 : Fr LC hp wp433 := wF432.trans (wG437.mono (by decide))
  exact R_retv dX11_init_136 rfl rfl rfl ⟨wl436, ⟨0, wH434, wc438, ⟨_, wc439⟩, wc440, wc441, wc442, wc443, ⟨_, wc444⟩, ⟨_, wc445⟩, wc446, wc447, wc448, wc449⟩, wF450⟩
set_option maxRecDepth 100000 in
set_option maxHeartbeats 4000000 in
theorem i_ref (hl : hp.length = 62) (H : hp[61]? = some (ob 11 [.null, .int (nI 0), .null, .null, .null, .int (nI 0), .int (nI 0), .null, .null, .null, .null, .int (nI 0), .int (nI 0), .null, .null, .null, .null, .null, .int (nI 0), .null, .int (nI 0), .null, .int (nI 0), .null])) : SpV l X mX12_init [.ref 61] hp (fun hp' => hp'.length = 78 ∧ MJ hp' ([], ([], 0, 0, 20), [], none, none, [], 0) ∧ Fr LM hp hp') := by
  refine SpV.of pnX12 (Nat.le_of_ble_eq_true rfl) rfl ?_
  refine R_aload_n dX12_init_0 rfl rfl ?_
  refine R_objInit dX12_init_1 lX12_1 oi_i oi_c (Nat.le_of_ble_eq_true rfl) (Nat.le_of_ble_eq_true rfl) ?_
  refine R_aload_n dX12_init_4 rfl rfl ?_
  refine R_bipush (v := (nI 60)) dX12_init_5 (by decide) ?_
  refine V_newi (N := 60) hl dX12_init_7 (nI_pos (by decide)) (nI_clamp (by decide)) (Nat.le_of_ble_eq_true rfl) ⟨Nat.le_of_ble_eq_true rfl, Nat.le_of_ble_eq_true rfl⟩ (fun wp1 wl4 wH2 wE3 => ?_)
  have wH5 := (wE3 61 (by decide)).trans H
  have wG6 : Fr [62] hp wp1 := Fr.one wE3 (by simp)
  have wF7 : Fr LM hp wp1 := wG6.mono (by decide)
  refine V_putF (fs' := [.ref 62, .int (nI 0), .null, .null, .null, .int (nI 0), .int (nI 0), .null, .null, .null, .null, .int (nI 0), .int (nI 0), .null, .null, .null, .null, .null, .int (nI 0), .null, .int (nI 0), .null, .int (nI 0), .null]) wl4 dX12_init_9 qX12_7 rfl wH5 (Nat.le_of_ble_eq_true rfl) rfl rfl rfl (fun wp8 wl11 wH9 wE10 => ?_)
  have wH12 := (wE10 62 (by decide)).trans wH2
  have wG13 : Fr [61] wp1 wp8 := Fr.one wE10 (by simp)
  have wF14 : Fr LM hp wp8 := wF7.trans (wG13.mono (by decide))
  refine R_aload_n dX12_init_12 rfl rfl ?_
  refine R_bipush (v := (nI 100)) dX12_init_13 (by decide) ?_
  refine V_newi (N := 100) wl11 dX12_init_15 (nI_pos (by decide)) (nI_clamp (by decide)) (Nat.le_of_ble_eq_true rfl) ⟨Nat.le_of_ble_eq_true rfl, Nat.le_of_ble_eq_true rfl⟩ (fun wp15 wl18 wH16 wE17 => ?_)
  have wH19 := (wE17 61 (by decide)).trans wH9
  have wH20 := (wE17 62 (by decide)).trans wH12
  have wG21 : Fr [63] wp8 wp15 := Fr.one wE17 (by simp)
  have wF22 : Fr LM hp wp15 := wF14.trans (wG21.mono (by decide))
  refine V_putF (fs' := [.ref 62, .int (nI 0), .ref 63, .null, .null, .int (nI 0), .int (nI 0), .null, .null, .null, .null, .int (nI 0), .int (nI 0), .null, .null, .null, .null, .null, .int (nI 0), .null, .int (nI 0), .null, .int (nI 0), .null]) wl18 dX12_init_17 qX12_13 rfl wH19 (Nat.le_of_ble_eq_true rfl) rfl rfl rfl (fun wp23 wl26 wH24 wE25 => ?_)
  have wH27 := (wE25 62 (by decide)).trans wH20
  have wH28 := (wE25 63 (by decide)).trans wH16
  have wG29 : Fr [61] wp15 wp23 := Fr.one wE25 (by simp)
  have wF30 : Fr LM hp wp23 := wF22.trans (wG29.mono (by decide))
  refine R_aload_n dX12_init_20 rfl rfl ?_
  refine R_bipush (v := (nI 100)) dX12_init_21 (by decide) ?_
  refine V_newi (N := 100) wl26 dX12_init_23 (nI_pos (by decide)) (nI_clamp (by decide)) (Nat.le_of_ble_eq_true rfl) ⟨Nat.le_of_ble_eq_true rfl, Nat.le_of_ble_eq_true rfl⟩ (fun wp31 wl34 wH32 wE33 => ?_)
  have wH35 := (wE33 61 (by decide)).trans wH24
  have wH36 := (wE33 62 (by decide)).trans wH27
  have wH37 := (wE33 63 (by decide)).trans wH28
  have wG38 : Fr [64] wp23 wp31 := Fr.one wE33 (by simp)
  have wF39 : Fr LM hp wp31 := wF30.trans (wG38.mono (by decide))
  refine V_putF (fs' := [.ref 62, .int (nI 0), .ref 63, .ref 64, .null, .int (nI 0), .int (nI 0), .null, .null, .null, .null, .int (nI 0), .int (nI 0), .null, .null, .null, .null, .null, .int (nI 0), .null, .int (nI 0), .null, .int (nI 0), .null]) wl34 dX12_init_25 qX12_16 rfl wH35 (Nat.le_of_ble_eq_true rfl) rfl rfl rfl (fun wp40 wl43 wH41 wE42 => ?_)
  have wH44 := (wE42 62 (by decide)).trans wH36
  have wH45 := (wE42 63 (by decide)).trans wH37
  have wH46 := (wE42 64 (by decide)).trans wH32
  have wG47 : Fr [61] wp31 wp40 := Fr.one wE42 (by simp)
  have wF48 : Fr LM hp wp40 := wF39.trans (wG47.mono (by decide))
  refine R_aload_n dX12_init_28 rfl rfl ?_
  refine R_sipush (v := (nI 1400)) dX12_init_29 (by decide) ?_
  refine V_newi (N := 1400) wl43 dX12_init_32 (nI_pos (by decide)) (nI_clamp (by decide)) (Nat.le_of_ble_eq_true rfl) ⟨Nat.le_of_ble_eq_true rfl, Nat.le_of_ble_eq_true rfl⟩ (fun wp49 wl52 wH50 wE51 => ?_)
  have wH53 := (wE51 61 (by decide)).trans wH41
  have wH54 := (wE51 62 (by decide)).trans wH44
  have wH55 := (wE51 63 (by decide)).trans wH45
  have wH56 := (wE51 64 (by decide)).trans wH46
  have wG57 : Fr [65] wp40 wp49 := Fr.one wE51 (by simp)
  have wF58 : Fr LM hp wp49 := wF48.trans (wG57.mono (by decide))
  refine V_putF (fs' := [.ref 62, .int (nI 0), .ref 63, .ref 64, .ref 65, .int (nI 0), .int (nI 0), .null, .null, .null, .null, .int (nI 0), .int (nI 0), .null, .null, .null, .null, .null, .int (nI 0), .null, .int (nI 0), .null, .int (nI 0), .null]) wl52 dX12_init_34 qX12_19 rfl wH53 (Nat.le_of_ble_eq_true rfl) rfl rfl rfl (fun wp59 wl62 wH60 wE61 => ?_)
  have wH63 := (wE61 62 (by decide)).trans wH54
  have wH64 := (wE61 63 (by decide)).trans wH55
  have wH65 := (wE61 64 (by decide)).trans wH56
  have wH66 := (wE61 65 (by decide)).trans wH50
  have wG67 : Fr [61] wp49 wp59 := Fr.one wE61 (by simp)
  have wF68 : Fr LM hp wp59 := wF58.trans (wG67.mono (by decide))
  refine R_aload_n dX12_init_37 rfl rfl ?_
  refine R_sipush (v := (nI 200)) dX12_init_38 (by decide) ?_
  refine V_newi (N := 200) wl62 dX12_init_41 (nI_pos (by decide)) (nI_clamp (by decide)) (Nat.le_of_ble_eq_true rfl) ⟨Nat.le_of_ble_eq_true rfl, Nat.le_of_ble_eq_true rfl⟩ (fun wp69 wl72 wH70 wE71 => ?_)
  have wH73 := (wE71 61 (by decide)).trans wH60
  have wH74 := (wE71 62 (by decide)).trans wH63
  have wH75 := (wE71 63 (by decide)).trans wH64
  have wH76 := (wE71 64 (by decide)).trans wH65
  have wH77 := (wE71 65 (by decide)).trans wH66
  have wG78 : Fr [66] wp59 wp69 := Fr.one wE71 (by simp)
  have wF79 : Fr LM hp wp69 := wF68.trans (wG78.mono (by decide))
  refine V_putF (fs' := [.ref 62, .int (nI 0), .ref 63, .ref 64, .ref 65, .int (nI 0), .int (nI 0), .ref 66, .null, .null, .null, .int (nI 0), .int (nI 0), .null, .null, .null, .null, .null, .int (nI 0), .null, .int (nI 0), .null, .int (nI 0), .null]) wl72 dX12_init_43 qX12_22 rfl wH73 (Nat.le_of_ble_eq_true rfl) rfl rfl rfl (fun wp80 wl83 wH81 wE82 => ?_)
  have wH84 := (wE82 62 (by decide)).trans wH74
  have wH85 := (wE82 63 (by decide)).trans wH75
  have wH86 := (wE82 64 (by decide)).trans wH76
  have wH87 := (wE82 65 (by decide)).trans wH77
  have wH88 := (wE82 66 (by decide)).trans wH70
  have wG89 : Fr [61] wp69 wp80 := Fr.one wE82 (by simp)
  have wF90 : Fr LM hp wp80 := wF79.trans (wG89.mono (by decide))
  refine R_aload_n dX12_init_46 rfl rfl ?_
  refine R_iconst (v := (nI 2)) dX12_init_47 (by decide) ?_
  refine V_newz (N := 2) wl83 dX12_init_48 (nI_pos (by decide)) (nI_clamp (by decide)) (Nat.le_of_ble_eq_true rfl) ⟨Nat.le_of_ble_eq_true rfl, Nat.le_of_ble_eq_true rfl⟩ (fun wp91 wl94 wH92 wE93 => ?_)
  have wH95 := (wE93 61 (by decide)).trans wH81
  have wH96 := (wE93 62 (by decide)).trans wH84
  have wH97 := (wE93 63 (by decide)).trans wH85
  have wH98 := (wE93 64 (by decide)).trans wH86
  have wH99 := (wE93 65 (by decide)).trans wH87
  have wH100 := (wE93 66 (by decide)).trans wH88
  have wG101 : Fr [67] wp80 wp91 := Fr.one wE93 (by simp)
  have wF102 : Fr LM hp wp91 := wF90.trans (wG101.mono (by decide))
  refine V_putF (fs' := [.ref 62, .int (nI 0), .ref 63, .ref 64, .ref 65, .int (nI 0), .int (nI 0), .ref 66, .ref 67, .null, .null, .int (nI 0), .int (nI 0), .null, .null, .null, .null, .null, .int (nI 0), .null, .int (nI 0), .null, .int (nI 0), .null]) wl94 dX12_init_50 qX12_25 rfl wH95 (Nat.le_of_ble_eq_true rfl) rfl rfl rfl (fun wp103 wl106 wH104 wE105 => ?_)
  have wH107 := (wE105 62 (by decide)).trans wH96
  have wH108 := (wE105 63 (by decide)).trans wH97
  have wH109 := (wE105 64 (by decide)).trans wH98
  have wH110 := (wE105 65 (by decide)).trans wH99
  have wH111 := (wE105 66 (by decide)).trans wH100
  have wH112 := (wE105 67 (by decide)).trans wH92
  have wG113 : Fr [61] wp91 wp103 := Fr.one wE105 (by simp)
  have wF114 : Fr LM hp wp103 := wF102.trans (wG113.mono (by decide))
  refine R_aload_n dX12_init_53 rfl rfl ?_
  refine R_bipush (v := (nI 6)) dX12_init_54 (by decide) ?_
  refine V_newi (N := 6) wl106 dX12_init_56 (nI_pos (by decide)) (nI_clamp (by decide)) (Nat.le_of_ble_eq_true rfl) ⟨Nat.le_of_ble_eq_true rfl, Nat.le_of_ble_eq_true rfl⟩ (fun wp115 wl118 wH116 wE117 => ?_)
  have wH119 := (wE117 61 (by decide)).trans wH104
  have wH120 := (wE117 62 (by decide)).trans wH107
  have wH121 := (wE117 63 (by decide)).trans wH108
  have wH122 := (wE117 64 (by decide)).trans wH109
  have wH123 := (wE117 65 (by decide)).trans wH110
  have wH124 := (wE117 66 (by decide)).trans wH111
  have wH125 := (wE117 67 (by decide)).trans wH112
  have wG126 : Fr [68] wp103 wp115 := Fr.one wE117 (by simp)
  have wF127 : Fr LM hp wp115 := wF114.trans (wG126.mono (by decide))
  refine V_putF (fs' := [.ref 62, .int (nI 0), .ref 63, .ref 64, .ref 65, .int (nI 0), .int (nI 0), .ref 66, .ref 67, .ref 68, .null, .int (nI 0), .int (nI 0), .null, .null, .null, .null, .null, .int (nI 0), .null, .int (nI 0), .null, .int (nI 0), .null]) wl118 dX12_init_58 qX12_29 rfl wH119 (Nat.le_of_ble_eq_true rfl) rfl rfl rfl (fun wp128 wl131 wH129 wE130 => ?_)
  have wH132 := (wE130 62 (by decide)).trans wH120
  have wH133 := (wE130 63 (by decide)).trans wH121
  have wH134 := (wE130 64 (by decide)).trans wH122
  have wH135 := (wE130 65 (by decide)).trans wH123
  have wH136 := (wE130 66 (by decide)).trans wH124
  have wH137 := (wE130 67 (by decide)).trans wH125
  have wH138 := (wE130 68 (by decide)).trans wH116
  have wG139 : Fr [61] wp115 wp128 := Fr.one wE130 (by simp)
  have wF140 : Fr LM hp wp128 := wF127.trans (wG139.mono (by decide))
  refine R_aload_n dX12_init_61 rfl rfl ?_
  refine R_bipush (v := (nI 6)) dX12_init_62 (by decide) ?_
  refine V_newi (N := 6) wl131 dX12_init_64 (nI_pos (by decide)) (nI_clamp (by decide)) (Nat.le_of_ble_eq_true rfl) ⟨Nat.le_of_ble_eq_true rfl, Nat.le_of_ble_eq_true rfl⟩ (fun wp141 wl144 wH142 wE143 => ?_)
  have wH145 := (wE143 61 (by decide)).trans wH129
  have wH146 := (wE143 62 (by decide)).trans wH132
  have wH147 := (wE143 63 (by decide)).trans wH133
  have wH148 := (wE143 64 (by decide)).trans wH134
  have wH149 := (wE143 65 (by decide)).trans wH135
  have wH150 := (wE143 66 (by decide)).trans wH136
  have wH151 := (wE143 67 (by decide)).trans wH137
  have wH152 := (wE143 68 (by decide)).trans wH138
  have wG153 : Fr [69] wp128 wp141 := Fr.one wE143 (by simp)
  have wF154 : Fr LM hp wp141 := wF140.trans (wG153.mono (by decide))
  refine V_putF (fs' := [.ref 62, .int (nI 0), .ref 63, .ref 64, .ref 65, .int (nI 0), .int (nI 0), .ref 66, .ref 67, .ref 68, .ref 69, .int (nI 0), .int (nI 0), .null, .null, .null, .null, .null, .int (nI 0), .null, .int (nI 0), .null, .int (nI 0), .null]) wl144 dX12_init_66 qX12_32 rfl wH145 (Nat.le_of_ble_eq_true rfl) rfl rfl rfl (fun wp155 wl158 wH156 wE157 => ?_)
  have wH159 := (wE157 62 (by decide)).trans wH146
  have wH160 := (wE157 63 (by decide)).trans wH147
  have wH161 := (wE157 64 (by decide)).trans wH148
  have wH162 := (wE157 65 (by decide)).trans wH149
  have wH163 := (wE157 66 (by decide)).trans wH150
  have wH164 := (wE157 67 (by decide)).trans wH151
  have wH165 := (wE157 68 (by decide)).trans wH152
  have wH166 := (wE157 69 (by decide)).trans wH142
  have wG167 : Fr [61] wp141 wp155 := Fr.one wE157 (by simp)
  have wF168 : Fr LM hp wp155 := wF154.trans (wG167.mono (by decide))
  refine R_aload_n dX12_init_69 rfl rfl ?_
  refine R_bipush (v := (nI 96)) dX12_init_70 (by decide) ?_
  refine V_newi (N := 96) wl158 dX12_init_72 (nI_pos (by decide)) (nI_clamp (by decide)) (Nat.le_of_ble_eq_true rfl) ⟨Nat.le_of_ble_eq_true rfl, Nat.le_of_ble_eq_true rfl⟩ (fun wp169 wl172 wH170 wE171 => ?_)
  have wH173 := (wE171 61 (by decide)).trans wH156
  have wH174 := (wE171 62 (by decide)).trans wH159
  have wH175 := (wE171 63 (by decide)).trans wH160
  have wH176 := (wE171 64 (by decide)).trans wH161
  have wH177 := (wE171 65 (by decide)).trans wH162
  have wH178 := (wE171 66 (by decide)).trans wH163
  have wH179 := (wE171 67 (by decide)).trans wH164
  have wH180 := (wE171 68 (by decide)).trans wH165
  have wH181 := (wE171 69 (by decide)).trans wH166
  have wG182 : Fr [70] wp155 wp169 := Fr.one wE171 (by simp)
  have wF183 : Fr LM hp wp169 := wF168.trans (wG182.mono (by decide))
  refine V_putF (fs' := [.ref 62, .int (nI 0), .ref 63, .ref 64, .ref 65, .int (nI 0), .int (nI 0), .ref 66, .ref 67, .ref 68, .ref 69, .int (nI 0), .int (nI 0), .ref 70, .null, .null, .null, .null, .int (nI 0), .null, .int (nI 0), .null, .int (nI 0), .null]) wl172 dX12_init_74 qX12_35 rfl wH173 (Nat.le_of_ble_eq_true rfl) rfl rfl rfl (fun wp184 wl187 wH185 wE186 => ?_)
  have wH188 := (wE186 62 (by decide)).trans wH174
  have wH189 := (wE186 63 (by decide)).trans wH175
  have wH190 := (wE186 64 (by decide)).trans wH176
  have wH191 := (wE186 65 (by decide)).trans wH177
  have wH192 := (wE186 66 (by decide)).trans wH178
  have wH193 := (wE186 67 (by decide)).trans wH179
  have wH194 := (wE186 68 (by decide)).trans wH180
  have wH195 := (wE186 69 (by decide)).trans wH181
  have wH196 := (wE186 70 (by decide)).trans wH170
  have wG197 : Fr [61] wp169 wp184 := Fr.one wE186 (by simp)
  have wF198 : Fr LM hp wp184 := wF183.trans (wG197.mono (by decide))
  refine R_aload_n dX12_init_77 rfl rfl ?_
  refine R_bipush (v := (nI 97)) dX12_init_78 (by decide) ?_
  refine V_newi (N := 97) wl187 dX12_init_80 (nI_pos (by decide)) (nI_clamp (by decide)) (Nat.le_of_ble_eq_true rfl) ⟨Nat.le_of_ble_eq_true rfl, Nat.le_of_ble_eq_true rfl⟩ (fun wp199 wl202 wH200 wE201 => ?_)
  have wH203 := (wE201 61 (by decide)).trans wH185
  have wH204 := (wE201 62 (by decide)).trans wH188
  have wH205 := (wE201 63 (by decide)).trans wH189
  have wH206 := (wE201 64 (by decide)).trans wH190
  have wH207 := (wE201 65 (by decide)).trans wH191
  have wH208 := (wE201 66 (by decide)).trans wH192
  have wH209 := (wE201 67 (by decide)).trans wH193
  have wH210 := (wE201 68 (by decide)).trans wH194
  have wH211 := (wE201 69 (by decide)).trans wH195
  have wH212 := (wE201 70 (by decide)).trans wH196
  have wG213 : Fr [71] wp184 wp199 := Fr.one wE201 (by simp)
  have wF214 : Fr LM hp wp199 := wF198.trans (wG213.mono (by decide))
  refine V_putF (fs' := [.ref 62, .int (nI 0), .ref 63, .ref 64, .ref 65, .int (nI 0), .int (nI 0), .ref 66, .ref 67, .ref 68, .ref 69, .int (nI 0), .int (nI 0), .ref 70, .ref 71, .null, .null, .null, .int (nI 0), .null, .int (nI 0), .null, .int (nI 0), .null]) wl202 dX12_init_82 qX12_38 rfl wH203 (Nat.le_of_ble_eq_true rfl) rfl rfl rfl (fun wp215 wl218 wH216 wE217 => ?_)
  have wH219 := (wE217 62 (by decide)).trans wH204
  have wH220 := (wE217 63 (by decide)).trans wH205
  have wH221 := (wE217 64 (by decide)).trans wH206
  have wH222 := (wE217 65 (by decide)).trans wH207
  have wH223 := (wE217 66 (by decide)).trans wH208
  have wH224 := (wE217 67 (by decide)).trans wH209
  have wH225 := (wE217 68 (by decide)).trans wH210
  have wH226 := (wE217 69 (by decide)).trans wH211
  have wH227 := (wE217 70 (by decide)).trans wH212
  have wH228 := (wE217 71 (by decide)).trans wH200
  have wG229 : Fr [61] wp199 wp215 := Fr.one wE217 (by simp)
  have wF230 : Fr LM hp wp215 := wF214.trans (wG229.mono (by decide))
  refine R_aload_n dX12_init_85 rfl rfl ?_
  refine R_bipush (v := (nI 96)) dX12_init_86 (by decide) ?_
  refine V_newi (N := 96) wl218 dX12_init_88 (nI_pos (by decide)) (nI_clamp (by decide)) (Nat.le_of_ble_eq_true rfl) ⟨Nat.le_of_ble_eq_true rfl, Nat.le_of_ble_eq_true rfl⟩ (fun wp231 wl234 wH232 wE233 => ?_)
  have wH235 := (wE233 61 (by decide)).trans wH216
  have wH236 := (wE233 62 (by decide)).trans wH219
  have wH237 := (wE233 63 (by decide)).trans wH220
  have wH238 := (wE233 64 (by decide)).trans wH221
  have wH239 := (wE233 65 (by decide)).trans wH222
  have wH240 := (wE233 66 (by decide)).trans wH223
  have wH241 := (wE233 67 (by decide)).trans wH224
  have wH242 := (wE233 68 (by decide)).trans wH225
  have wH243 := (wE233 69 (by decide)).trans wH226
  have wH244 := (wE233 70 (by decide)).trans wH227
  have wH245 := (wE233 71 (by decide)).trans wH228
  have wG246 : Fr [72] wp215 wp231 := Fr.one wE233 (by simp)
  have wF247 : Fr LM hp wp231 := wF230.trans (wG246.mono (by decide))
  refine V_putF (fs' := [.ref 62, .int (nI 0), .ref 63, .ref 64, .ref 65, .int (nI 0), .int (nI 0), .ref 66, .ref 67, .ref 68, .ref 69, .int (nI 0), .int (nI 0), .ref 70, .ref 71, .ref 72, .null, .null, .int (nI 0), .null, .int (nI 0), .null, .int (nI 0), .null]) wl234 dX12_init_90 qX12_41 rfl wH235 (Nat.le_of_ble_eq_true rfl) rfl rfl rfl (fun wp248 wl251 wH249 wE250 => ?_)
  have wH252 := (wE250 62 (by decide)).trans wH236
  have wH253 := (wE250 63 (by decide)).trans wH237
  have wH254 := (wE250 64 (by decide)).trans wH238
  have wH255 := (wE250 65 (by decide)).trans wH239
  have wH256 := (wE250 66 (by decide)).trans wH240
  have wH257 := (wE250 67 (by decide)).trans wH241
  have wH258 := (wE250 68 (by decide)).trans wH242
  have wH259 := (wE250 69 (by decide)).trans wH243
  have wH260 := (wE250 70 (by decide)).trans wH244
  have wH261 := (wE250 71 (by decide)).trans wH245
  have wH262 := (wE250 72 (by decide)).trans wH232
  have wG263 : Fr [61] wp231 wp248 := Fr.one wE250 (by simp)
  have wF264 : Fr LM hp wp248 := wF247.trans (wG263.mono (by decide))
  refine R_aload_n dX12_init_93 rfl rfl ?_
  refine R_bipush (v := (nI 97)) dX12_init_94 (by decide) ?_
  refine V_newi (N := 97) wl251 dX12_init_96 (nI_pos (by decide)) (nI_clamp (by decide)) (Nat.le_of_ble_eq_true rfl) ⟨Nat.le_of_ble_eq_true rfl, Nat.le_of_ble_eq_true rfl⟩ (fun wp265 wl268 wH266 wE267 => ?_)
  have wH269 := (wE267 61 (by decide)).trans wH249
  have wH270 := (wE267 62 (by decide)).trans wH252
  have wH271 := (wE267 63 (by decide)).trans wH253
  have wH272 := (wE267 64 (by decide)).trans wH254
  have wH273 := (wE267 65 (by decide)).trans wH255
  have wH274 := (wE267 66 (by decide)).trans wH256
  have wH275 := (wE267 67 (by decide)).trans wH257
  have wH276 := (wE267 68 (by decide)).trans wH258
  have wH277 := (wE267 69 (by decide)).trans wH259
  have wH278 := (wE267 70 (by decide)).trans wH260
  have wH279 := (wE267 71 (by decide)).trans wH261
  have wH280 := (wE267 72 (by decide)).trans wH262
  have wG281 : Fr [73] wp248 wp265 := Fr.one wE267 (by simp)
  have wF282 : Fr LM hp wp265 := wF264.trans (wG281.mono (by decide))
  refine V_putF (fs' := [.ref 62, .int (nI 0), .ref 63, .ref 64, .ref 65, .int (nI 0), .int (nI 0), .ref 66, .ref 67, .ref 68, .ref 69, .int (nI 0), .int (nI 0), .ref 70, .ref 71, .ref 72, .ref 73, .null, .int (nI 0), .null, .int (nI 0), .null, .int (nI 0), .null]) wl268 dX12_init_98 qX12_44 rfl wH269 (Nat.le_of_ble_eq_true rfl) rfl rfl rfl (fun wp283 wl286 wH284 wE285 => ?_)
  have wH287 := (wE285 62 (by decide)).trans wH270
  have wH288 := (wE285 63 (by decide)).trans wH271
  have wH289 := (wE285 64 (by decide)).trans wH272
  have wH290 := (wE285 65 (by decide)).trans wH273
  have wH291 := (wE285 66 (by decide)).trans wH274
  have wH292 := (wE285 67 (by decide)).trans wH275
  have wH293 := (wE285 68 (by decide)).trans wH276
  have wH294 := (wE285 69 (by decide)).trans wH277
  have wH295 := (wE285 70 (by decide)).trans wH278
  have wH296 := (wE285 71 (by decide)).trans wH279
  have wH297 := (wE285 72 (by decide)).trans wH280
  have wH298 := (wE285 73 (by decide)).trans wH266
  have wG299 : Fr [61] wp265 wp283 := Fr.one wE285 (by simp)
  have wF300 : Fr LM hp wp283 := wF282.trans (wG299.mono (by decide))
  refine R_aload_n dX12_init_101 rfl rfl ?_
  refine R_bipush (v := (nI 96)) dX12_init_102 (by decide) ?_
  refine V_newi (N := 96) wl286 dX12_init_104 (nI_pos (by decide)) (nI_clamp (by decide)) (Nat.le_of_ble_eq_true rfl) ⟨Nat.le_of_ble_eq_true rfl, Nat.le_of_ble_eq_true rfl⟩ (fun wp301 wl304 wH302 wE303 => ?_)
  have wH305 := (wE303 61 (by decide)).trans wH284
  have wH306 := (wE303 62 (by decide)).trans wH287
  have wH307 := (wE303 63 (by decide)).trans wH288
  have wH308 := (wE303 64 (by decide)).trans wH289
  have wH309 := (wE303 65 (by decide)).trans wH290
  have wH310 := (wE303 66 (by decide)).trans wH291
  have wH311 := (wE303 67 (by decide)).trans wH292
  have wH312 := (wE303 68 (by decide)).trans wH293
  have wH313 := (wE303 69 (by decide)).trans wH294
  have wH314 := (wE303 70 (by decide)).trans wH295
  have wH315 := (wE303 71 (by decide)).trans wH296
  have wH316 := (wE303 72 (by decide)).trans wH297
  have wH317 := (wE303 73 (by decide)).trans wH298
  have wG318 : Fr [74] wp283 wp301 := Fr.one wE303 (by simp)
  have wF319 : Fr LM hp wp301 := wF300.trans (wG318.mono (by decide))
  refine V_putF (fs' := [.ref 62, .int (nI 0), .ref 63, .ref 64, .ref 65, .int (nI 0), .int (nI 0), .ref 66, .ref 67, .ref 68, .ref 69, .int (nI 0), .int (nI 0), .ref 70, .ref 71, .ref 72, .ref 73, .ref 74, .int (nI 0), .null, .int (nI 0), .null, .int (nI 0), .null]) wl304 dX12_init_106 qX12_47 rfl wH305 (Nat.le_of_ble_eq_true rfl) rfl rfl rfl (fun wp320 wl323 wH321 wE322 => ?_)
  have wH324 := (wE322 62 (by decide)).trans wH306
  have wH325 := (wE322 63 (by decide)).trans wH307
  have wH326 := (wE322 64 (by decide)).trans wH308
  have wH327 := (wE322 65 (by decide)).trans wH309
  have wH328 := (wE322 66 (by decide)).trans wH310
  have wH329 := (wE322 67 (by decide)).trans wH311
  have wH330 := (wE322 68 (by decide)).trans wH312
  have wH331 := (wE322 69 (by decide)).trans wH313
  have wH332 := (wE322 70 (by decide)).trans wH314
  have wH333 := (wE322 71 (by decide)).trans wH315
  have wH334 := (wE322 72 (by decide)).trans wH316
  have wH335 := (wE322 73 (by decide)).trans wH317
  have wH336 := (wE322 74 (by decide)).trans wH302
  have wG337 : Fr [61] wp301 wp320 := Fr.one wE322 (by simp)
  have wF338 : Fr LM hp wp320 := wF319.trans (wG337.mono (by decide))
  refine R_aload_n dX12_init_109 rfl rfl ?_
  refine R_bipush (v := (nI 96)) dX12_init_110 (by decide) ?_
  refine V_newi (N := 96) wl323 dX12_init_112 (nI_pos (by decide)) (nI_clamp (by decide)) (Nat.le_of_ble_eq_true rfl) ⟨Nat.le_of_ble_eq_true rfl, Nat.le_of_ble_eq_true rfl⟩ (fun wp339 wl342 wH340 wE341 => ?_)
  have wH343 := (wE341 61 (by decide)).trans wH321
  have wH344 := (wE341 62 (by decide)).trans wH324
  have wH345 := (wE341 63 (by decide)).trans wH325
  have wH346 := (wE341 64 (by decide)).trans wH326
  have wH347 := (wE341 65 (by decide)).trans wH327
  have wH348 := (wE341 66 (by decide)).trans wH328
  have wH349 := (wE341 67 (by decide)).trans wH329
  have wH350 := (wE341 68 (by decide)).trans wH330
  have wH351 := (wE341 69 (by decide)).trans wH331
  have wH352 := (wE341 70 (by decide)).trans wH332
  have wH353 := (wE341 71 (by decide)).trans wH333
  have wH354 := (wE341 72 (by decide)).trans wH334
  have wH355 := (wE341 73 (by decide)).trans wH335
  have wH356 := (wE341 74 (by decide)).trans wH336
  have wG357 : Fr [75] wp320 wp339 := Fr.one wE341 (by simp)
  have wF358 : Fr LM hp wp339 := wF338.trans (wG357.mono (by decide))
  refine V_putF (fs' := [.ref 62, .int (nI 0), .ref 63, .ref 64, .ref 65, .int (nI 0), .int (nI 0), .ref 66, .ref 67, .ref 68, .ref 69, .int (nI 0), .int (nI 0), .ref 70, .ref 71, .ref 72, .ref 73, .ref 74, .int (nI 0), .ref 75, .int (nI 0), .null, .int (nI 0), .null]) wl342 dX12_init_114 qX12_50 rfl wH343 (Nat.le_of_ble_eq_true rfl) rfl rfl rfl (fun wp359 wl362 wH360 wE361 => ?_)
  have wH363 := (wE361 62 (by decide)).trans wH344
  have wH364 := (wE361 63 (by decide)).trans wH345
  have wH365 := (wE361 64 (by decide)).trans wH346
  have wH366 := (wE361 65 (by decide)).trans wH347
  have wH367 := (wE361 66 (by decide)).trans wH348
  have wH368 := (wE361 67 (by decide)).trans wH349
  have wH369 := (wE361 68 (by decide)).trans wH350
  have wH370 := (wE361 69 (by decide)).trans wH351
  have wH371 := (wE361 70 (by decide)).trans wH352
  have wH372 := (wE361 71 (by decide)).trans wH353
  have wH373 := (wE361 72 (by decide)).trans wH354
  have wH374 := (wE361 73 (by decide)).trans wH355
  have wH375 := (wE361 74 (by decide)).trans wH356
  have wH376 := (wE361 75 (by decide)).trans wH340
  have wG377 : Fr [61] wp339 wp359 := Fr.one wE361 (by simp)
  have wF378 : Fr LM hp wp359 := wF358.trans (wG377.mono (by decide))
  refine R_aload_n dX12_init_117 rfl rfl ?_
  refine R_sipush (v := (nI 320)) dX12_init_118 (by decide) ?_
  refine V_newi (N := 320) wl362 dX12_init_121 (nI_pos (by decide)) (nI_clamp (by decide)) (Nat.le_of_ble_eq_true rfl) ⟨Nat.le_of_ble_eq_true rfl, Nat.le_of_ble_eq_true rfl⟩ (fun wp379 wl382 wH380 wE381 => ?_)
  have wH383 := (wE381 61 (by decide)).trans wH360
  have wH384 := (wE381 62 (by decide)).trans wH363
  have wH385 := (wE381 63 (by decide)).trans wH364
  have wH386 := (wE381 64 (by decide)).trans wH365
  have wH387 := (wE381 65 (by decide)).trans wH366
  have wH388 := (wE381 66 (by decide)).trans wH367
  have wH389 := (wE381 67 (by decide)).trans wH368
  have wH390 := (wE381 68 (by decide)).trans wH369
  have wH391 := (wE381 69 (by decide)).trans wH370
  have wH392 := (wE381 70 (by decide)).trans wH371
  have wH393 := (wE381 71 (by decide)).trans wH372
  have wH394 := (wE381 72 (by decide)).trans wH373
  have wH395 := (wE381 73 (by decide)).trans wH374
  have wH396 := (wE381 74 (by decide)).trans wH375
  have wH397 := (wE381 75 (by decide)).trans wH376
  have wG398 : Fr [76] wp359 wp379 := Fr.one wE381 (by simp)
  have wF399 : Fr LM hp wp379 := wF378.trans (wG398.mono (by decide))
  refine V_putF (fs' := [.ref 62, .int (nI 0), .ref 63, .ref 64, .ref 65, .int (nI 0), .int (nI 0), .ref 66, .ref 67, .ref 68, .ref 69, .int (nI 0), .int (nI 0), .ref 70, .ref 71, .ref 72, .ref 73, .ref 74, .int (nI 0), .ref 75, .int (nI 0), .ref 76, .int (nI 0), .null]) wl382 dX12_init_123 qX12_53 rfl wH383 (Nat.le_of_ble_eq_true rfl) rfl rfl rfl (fun wp400 wl403 wH401 wE402 => ?_)
  have wH404 := (wE402 62 (by decide)).trans wH384
  have wH405 := (wE402 63 (by decide)).trans wH385
  have wH406 := (wE402 64 (by decide)).trans wH386
  have wH407 := (wE402 65 (by decide)).trans wH387
  have wH408 := (wE402 66 (by decide)).trans wH388
  have wH409 := (wE402 67 (by decide)).trans wH389
  have wH410 := (wE402 68 (by decide)).trans wH390
  have wH411 := (wE402 69 (by decide)).trans wH391
  have wH412 := (wE402 70 (by decide)).trans wH392
  have wH413 := (wE402 71 (by decide)).trans wH393
  have wH414 := (wE402 72 (by decide)).trans wH394
  have wH415 := (wE402 73 (by decide)).trans wH395
  have wH416 := (wE402 74 (by decide)).trans wH396
  have wH417 := (wE402 75 (by decide)).trans wH397
  have wH418 := (wE402 76 (by decide)).trans wH380
  have wG419 : Fr [61] wp379 wp400 := Fr.one wE402 (by simp)
  have wF420 : Fr LM hp wp400 := wF399.trans (wG419.mono (by decide))
  refine R_aload_n dX12_init_126 rfl rfl ?_
  refine R_bipush (v := (nI 97)) dX12_init_127 (by decide) ?_
  refine V_newi (N := 97) wl403 dX12_init_129 (nI_pos (by decide)) (nI_clamp (by decide)) (Nat.le_of_ble_eq_true rfl) ⟨Nat.le_of_ble_eq_true rfl, Nat.le_of_ble_eq_true rfl⟩ (fun wp421 wl424 wH422 wE423 => ?_)
  have wH425 := (wE423 61 (by decide)).trans wH401
  have wH426 := (wE423 62 (by decide)).trans wH404
  have wH427 := (wE423 63 (by decide)).trans wH405
  have wH428 := (wE423 64 (by decide)).trans wH406
  have wH429 := (wE423 65 (by decide)).trans wH407
  have wH430 := (wE423 66 (by decide)).trans wH408
  have wH431 := (wE423 67 (by decide)).trans wH409
  have wH432 := (wE423 68 (by decide)).trans wH410
  have wH433 := (wE423 69 (by decide)).trans wH411
  have wH434 := (wE423 70 (by decide)).trans wH412
  have wH435 := (wE423 71 (by decide)).trans wH413
  have wH436 := (wE423 72 (by decide)).trans wH414
  have wH437 := (wE423 73 (by decide)).trans wH415
  have wH438 := (wE423 74 (by decide)).trans wH416
  have wH439 := (wE423 75 (by decide)).trans wH417
  have wH440 := (wE423 76 (by decide)).trans wH418
  have wG441 : Fr [77] wp400 wp421 := Fr.one wE423 (by simp)
  have wF442 : Fr LM hp wp421 := wF420.trans (wG441.mono (by decide))
  refine V_putF (fs' := [.ref 62, .int (nI 0), .ref 63, .ref 64, .ref 65, .int (nI 0), .int (nI 0), .ref 66, .ref 67, .ref 68, .ref 69, .int (nI 0), .int (nI 0), .ref 70, .ref 71, .ref 72, .ref 73, .ref 74, .int (nI 0), .ref 75, .int (nI 0), .ref 76, .int (nI 0), .ref 77]) wl424 dX12_init_131 qX12_56 rfl wH425 (Nat.le_of_ble_eq_true rfl) rfl rfl rfl (fun wp443 wl446 wH444 wE445 => ?_)
  have wH447 := (wE445 62 (by decide)).trans wH426
  have wH448 := (wE445 63 (by decide)).trans wH427
  have wH449 := (wE445 64 (by decide)).trans wH428
  have wH450 := (wE445 65 (by decide)).trans wH429
  have wH451 := (wE445 66 (by decide)).trans wH430
  have wH452 := (wE445 67 (by decide)).trans wH431
  have wH453 := (wE445 68 (by decide)).trans wH432
  have wH454 := (wE445 69 (by decide)).trans wH433
  have wH455 := (wE445 70 (by decide)).trans wH434
  have wH456 := (wE445 71 (by decide)).trans wH435
  have wH457 := (wE445 72 (by decide)).trans wH436
  have wH458 := (wE445 73 (by decide)).trans wH437
  have wH459 := (wE445 74 (by decide)).trans wH438
  have wH460 := (wE445 75 (by decide)).trans wH439
  have wH461 := (wE445 76 (by decide)).trans wH440
  have wH462 := (wE445 77 (by decide)).trans wH422
  have wG463 : Fr [61] wp421 wp443 := Fr.one wE445 (by simp)
  have wF464 : Fr LM hp wp443 := wF442.trans (wG463.mono (by decide))
  refine R_aload_n dX12_init_134 rfl rfl ?_
  refine R_getf dX12_init_135 gX12_13 wH444 rfl ?_
  refine R_iconst (v := (nI 3)) dX12_init_138 (by decide) ?_
  refine R_bipush (v := (nI 20)) dX12_init_139 (by decide) ?_
  obtain ⟨wf465, ewf465⟩ : ∃ y, y = upd (fun _ => 0) 3 (nI 20) := ⟨_, rfl⟩
  refine V_iast (f' := wf465) wl446 dX12_init_141 wH448 (by decide) (by decide) ewf465 (fun wp466 wl469 wH467 wE468 => ?_)
  have wH470 := (wE468 61 (by decide)).trans wH444
  have wH471 := (wE468 62 (by decide)).trans wH447
  have wH472 := (wE468 64 (by decide)).trans wH449
  have wH473 := (wE468 65 (by decide)).trans wH450
  have wH474 := (wE468 66 (by decide)).trans wH451
  have wH475 := (wE468 67 (by decide)).trans wH452
  have wH476 := (wE468 68 (by decide)).trans wH453
  have wH477 := (wE468 69 (by decide)).trans wH454
  have wH478 := (wE468 70 (by decide)).trans wH455
  have wH479 := (wE468 71 (by decide)).trans wH456
  have wH480 := (wE468 72 (by decide)).trans wH457
  have wH481 := (wE468 73 (by decide)).trans wH458
  have wH482 := (wE468 74 (by decide)).trans wH459
  have wH483 := (wE468 75 (by decide)).trans wH460
  have wH484 := (wE468 76 (by decide)).trans wH461
  have wH485 := (wE468 77 (by decide)).trans wH462
  have wG486 : Fr [63] wp443 wp466 := Fr.one wE468 (by simp)
  have wF487 : Fr LM hp wp466 := wF464.trans (wG486.mono (by decide))
  exact R_retv dX12_init_142 rfl rfl rfl ⟨wl469, ⟨0, _, _, _, wH470, ⟨_, wH471, fun i hi => absurd hi (by simp), by decide, fun x hx => by simp at hx⟩, ⟨_, wH467, by subst ewf465; exact ⟨rfl, rfl, rfl, rfl, fun i hi => absurd hi (by simp), by decide, fun x hx => by simp at hx, by decide, by decide, by decide, by decide⟩⟩, ⟨_, wH472⟩, ⟨_, wH473, by decide, by decide, fun j hj => absurd hj (by simp)⟩, ⟨_, _, wH474, wH475, rfl, rfl, fun T h => (by cases h), fun T h => (by cases h)⟩, ⟨_, _, wH476, wH477, fun i hi => absurd hi (by simp), by decide, by decide, fun _ => rfl, fun x hx => by simp at hx⟩, ⟨_, wH478⟩, ⟨_, wH479⟩, ⟨_, wH480⟩, ⟨_, wH481⟩, ⟨_, wH482⟩, ⟨_, wH483⟩, ⟨_, wH484⟩, ⟨_, wH485⟩⟩, wF487⟩
end I49
