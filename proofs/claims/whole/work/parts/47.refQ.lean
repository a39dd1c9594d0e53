/-! The reference: confidence -/
theorem shl_tab : ∀ n, n < 10 → nI 1 <<< (nI n &&& 31) = nI (2 ^ n) := by decide +kernel
section R47
variable {l : Launch} {X : EX} {hp : HPt}
set_option maxRecDepth 100000 in
set_option maxHeartbeats 4000000 in
theorem r_cfB {Z : ZT} {i x z n p ab s : Nat} {lo : Option Value} (hn : n ≤ 9) (hs : s < 512) (K : PZ l X Z mX12_confidence 96 [some (.ref 61), some (.int (nI i)), some (.int (nI x)), some (.int (nI z)), some (.int (nI n)), some (.int (nI p)), some (.int (nI ab)), some (.int (nI s)), some (.int (nI (bitC s n))), some (.int (nI n)), lo] [] hp 0 0) : ∀ (d j : Nat), j + d = n → PZ l X Z mX12_confidence 71 [some (.ref 61), some (.int (nI i)), some (.int (nI x)), some (.int (nI z)), some (.int (nI n)), some (.int (nI p)), some (.int (nI ab)), some (.int (nI s)), some (.int (nI (bitC s j))), some (.int (nI j)), lo] [] hp 0 0 := by
  intro d
  induction d with
  | zero =>
    intro j hj
    have hje : j = n := by omega
    subst hje
    refine R_iload dX12_confidence_71 rfl ?_
    refine R_iload dX12_confidence_73 rfl ?_
    refine N_icmp_ge (tgt := 96) dX12_confidence_75 (by decide) (by omega) (by omega) (fun _ => ?_) (fun hc => absurd hc (by omega))
    exact K
  | succ d ih =>
    intro j hj
    refine R_iload dX12_confidence_71 rfl ?_
    refine R_iload dX12_confidence_73 rfl ?_
    refine N_icmp_ge (tgt := 96) dX12_confidence_75 (by decide) (by omega) (by omega) (fun hc => absurd hc (by omega)) (fun _ => ?_)
    refine R_iload dX12_confidence_78 rfl ?_
    refine R_iload dX12_confidence_80 rfl ?_
    refine R_iload dX12_confidence_82 rfl ?_
    refine R_ishr dX12_confidence_84 ?_
    refine R_iconst (v := (nI 1)) dX12_confidence_85 (by decide) ?_
    refine R_iand dX12_confidence_86 ?_
    rw [has_tab s hs j (by omega)]
    refine N_iadd dX12_confidence_87 ?_
    refine R_istore (lv' := [some (.ref 61), some (.int (nI i)), some (.int (nI x)), some (.int (nI z)), some (.int (nI n)), some (.int (nI p)), some (.int (nI ab)), some (.int (nI s)), some (.int (nI ((bitC s j) + (s / 2 ^ j % 2)))), some (.int (nI j)), lo]) dX12_confidence_88 (by decide) rfl ?_
    refine N_iinc (d := 1) (lv' := [some (.ref 61), some (.int (nI i)), some (.int (nI x)), some (.int (nI z)), some (.int (nI n)), some (.int (nI p)), some (.int (nI ab)), some (.int (nI s)), some (.int (nI ((bitC s j) + (s / 2 ^ j % 2)))), some (.int (nI (j + 1))), lo]) dX12_confidence_90 rfl rfl ?_
    refine R_goto (tgt := 71) dX12_confidence_93 (by decide) ?_
    exact ih (j + 1) (by omega)
set_option maxRecDepth 100000 in
set_option maxHeartbeats 4000000 in
theorem r_cfL {Z : ZT} {cs : List Nat} {sc un wd i x z n p : Nat} {ln ac nxx sn sx tl sl st : Int32} {lo : Option Value} (hi : i ≤ cs.length) (hnn : nsh (cs.take i) = n) (hn : n ≤ 9) (hx : x ≤ 10) (hsc : sc ≤ 1) (hp1 : p ≤ 1) (H0 : hp[61]? = some (ob 11 [.ref 62, .int (ln), .ref 63, .ref 64, .ref 65, .int (ac), .int (nxx), .ref 66, .ref 67, .ref 68, .ref 69, .int (sn), .int (sx), .ref 70, .ref 71, .ref 72, .ref 73, .ref 74, .int (tl), .ref 75, .int (sl), .ref 76, .int (st), .ref 77])) (H : RwAt hp 63 (cs, sc, un, wd)) (K : ∀ l8 l9 : Option Value, PZ l X Z mX12_confidence 142 [some (.ref 61), some (.int (nI i)), some (.int (nI x)), some (.int (nI z)), some (.int (nI n)), some (.int (nI p)), some (.int (nI (sumN (wF un x sc (cs.take i) p) (2 ^ n)))), some (.int (nI (2 ^ n))), l8, l9, lo] [] hp 0 0) : ∀ (d s : Nat) (l8 l9 : Option Value), s + d = 2 ^ n → PZ l X Z mX12_confidence 56 [some (.ref 61), some (.int (nI i)), some (.int (nI x)), some (.int (nI z)), some (.int (nI n)), some (.int (nI p)), some (.int (nI (sumN (wF un x sc (cs.take i) p) s))), some (.int (nI s)), l8, l9, lo] [] hp 0 0 := by
  have hp2 := p2_le hn
  have hsh := shl_tab n (by omega)
  intro d
  induction d with
  | zero =>
    intro s l8 l9 hs
    have hse : s = 2 ^ n := by omega
    subst hse
    refine R_iload dX12_confidence_56 rfl ?_
    refine R_iconst (v := (nI 1)) dX12_confidence_58 (by decide) ?_
    refine R_iload dX12_confidence_59 rfl ?_
    refine R_ishl dX12_confidence_61 ?_
    rw [hsh]
    refine N_icmp_ge (tgt := 142) dX12_confidence_62 (by decide) (by omega) (by omega) (fun _ => ?_) (fun hc => absurd hc (by omega))
    exact K l8 l9
  | succ d ih =>
    intro s l8 l9 hs
    have hb := bitC_le s n
    have hc1 := cBu_1 un s (cs.take i) (sc, 0) hsc
    refine R_iload dX12_confidence_56 rfl ?_
    refine R_iconst (v := (nI 1)) dX12_confidence_58 (by decide) ?_
    refine R_iload dX12_confidence_59 rfl ?_
    refine R_ishl dX12_confidence_61 ?_
    rw [hsh]
    refine N_icmp_ge (tgt := 142) dX12_confidence_62 (by decide) (by omega) (by omega) (fun hc => absurd hc (by omega)) (fun _ => ?_)
    refine R_iconst (v := (nI 0)) dX12_confidence_65 (by decide) ?_
    refine R_istore (lv' := [some (.ref 61), some (.int (nI i)), some (.int (nI x)), some (.int (nI z)), some (.int (nI n)), some (.int (nI p)), some (.int (nI (sumN (wF un x sc (cs.take i) p) s))), some (.int (nI s)), some (.int (nI 0)), l9, lo]) dX12_confidence_66 (by decide) rfl ?_
    refine R_iconst (v := (nI 0)) dX12_confidence_68 (by decide) ?_
    refine R_istore (lv' := [some (.ref 61), some (.int (nI i)), some (.int (nI x)), some (.int (nI z)), some (.int (nI n)), some (.int (nI p)), some (.int (nI (sumN (wF un x sc (cs.take i) p) s))), some (.int (nI s)), some (.int (nI 0)), some (.int (nI 0)), lo]) dX12_confidence_69 (by decide) rfl ?_
    refine r_cfB hn (by omega) ?_ n 0 (by omega)
    refine R_iload dX12_confidence_96 rfl ?_
    refine R_aload_n dX12_confidence_98 rfl rfl ?_
    refine R_iload_n dX12_confidence_99 rfl rfl ?_
    refine R_iload dX12_confidence_100 rfl ?_
    refine R_calli (As := [.int (nI i), .int (nI s)]) (st := [.int (nI (sumN (wF un x sc (cs.take i) p) s))]) kX12_caseBut lX12_186 (r_cb hi (by omega) (by omega) H0 H) rfl H0 dX12_confidence_102 rfl rfl (Nat.le_of_ble_eq_true rfl) ⟨by decide, by decide⟩ zX12_caseBut ⟨Nat.le_refl _, Nat.le_refl _⟩ (fun wr3 wp2 wq1 => ?_)
    obtain ⟨rfl, rfl⟩ : wr3 = _ ∧ hp = wp2 := ⟨wq1.1, wq1.2.symm⟩
    refine R_iload dX12_confidence_105 rfl ?_
    refine N_icmp_ne (tgt := 132) dX12_confidence_107 (by decide) (by omega) (by omega) (fun he => ?_) (fun he => ?_)
    · have hF : wF un x sc (cs.take i) p s = 0 := if_neg he
      refine R_iconst (v := (nI 0)) dX12_confidence_132 (by decide) ?_
      refine N_iadd dX12_confidence_133 ?_
      refine R_istore (lv' := [some (.ref 61), some (.int (nI i)), some (.int (nI x)), some (.int (nI z)), some (.int (nI n)), some (.int (nI p)), some (.int (nI ((sumN (wF un x sc (cs.take i) p) s) + 0))), some (.int (nI s)), some (.int (nI (bitC s n))), some (.int (nI n)), lo]) dX12_confidence_134 (by decide) rfl ?_
      refine N_iinc (d := 1) (lv' := [some (.ref 61), some (.int (nI i)), some (.int (nI x)), some (.int (nI z)), some (.int (nI n)), some (.int (nI p)), some (.int (nI ((sumN (wF un x sc (cs.take i) p) s) + 0))), some (.int (nI (s + 1))), some (.int (nI (bitC s n))), some (.int (nI n)), lo]) dX12_confidence_136 rfl rfl ?_
      refine R_goto (tgt := 56) dX12_confidence_139 (by decide) ?_
      have h9 := ih (s + 1) (some (.int (nI (bitC s n)))) (some (.int (nI n))) (by omega)
      rw [show sumN (wF un x sc (cs.take i) p) (s + 1) = sumN (wF un x sc (cs.take i) p) s + wF un x sc (cs.take i) p s from rfl, hF] at h9
      exact h9
    · have hF : wF un x sc (cs.take i) p s = x ^ bitC s n * (10 - x) ^ (n - bitC s n) := by unfold wF wT; rw [if_pos he, hnn]
      refine R_iload_n dX12_confidence_110 rfl rfl ?_
      refine R_iload dX12_confidence_111 rfl ?_
      refine R_stati (As := [.int (nI x), .int (nI (bitC s n))]) (st := [.int (nI (sumN (wF un x sc (cs.take i) p) s))]) kX12_power lX12_189 (r_pow (by omega)) dX12_confidence_113 rfl rfl (Nat.le_of_ble_eq_true rfl) ⟨by decide, by decide⟩ zX12_power ⟨Nat.le_refl _, Nat.le_refl _⟩ (fun wr6 wp5 wq4 => ?_)
      obtain ⟨rfl, rfl⟩ : wr6 = _ ∧ hp = wp5 := ⟨wq4.1, wq4.2.symm⟩
      refine R_bipush (v := (nI 10)) dX12_confidence_116 (by decide) ?_
      refine R_iload_n dX12_confidence_118 rfl rfl ?_
      refine N_isub dX12_confidence_119 (by omega) ?_
      refine R_iload dX12_confidence_120 rfl ?_
      refine R_iload dX12_confidence_122 rfl ?_
      refine N_isub dX12_confidence_124 (by omega) ?_
      refine R_stati (As := [.int (nI (10 - x)), .int (nI (n - (bitC s n)))]) (st := [.int (nI (x ^ bitC s n)), .int (nI (sumN (wF un x sc (cs.take i) p) s))]) kX12_power lX12_189 (r_pow (by omega)) dX12_confidence_125 rfl rfl (Nat.le_of_ble_eq_true rfl) ⟨by decide, by decide⟩ zX12_power ⟨Nat.le_refl _, Nat.le_refl _⟩ (fun wr9 wp8 wq7 => ?_)
      obtain ⟨rfl, rfl⟩ : wr9 = _ ∧ hp = wp8 := ⟨wq7.1, wq7.2.symm⟩
      refine N_imul dX12_confidence_128 ?_
      refine R_goto (tgt := 133) dX12_confidence_129 (by decide) ?_
      refine N_iadd dX12_confidence_133 ?_
      refine R_istore (lv' := [some (.ref 61), some (.int (nI i)), some (.int (nI x)), some (.int (nI z)), some (.int (nI n)), some (.int (nI p)), some (.int (nI ((sumN (wF un x sc (cs.take i) p) s) + ((x ^ bitC s n) * ((10 - x) ^ (n - bitC s n)))))), some (.int (nI s)), some (.int (nI (bitC s n))), some (.int (nI n)), lo]) dX12_confidence_134 (by decide) rfl ?_
      refine N_iinc (d := 1) (lv' := [some (.ref 61), some (.int (nI i)), some (.int (nI x)), some (.int (nI z)), some (.int (nI n)), some (.int (nI p)), some (.int (nI ((sumN (wF un x sc (cs.take i) p) s) + ((x ^ bitC s n) * ((10 - x) ^ (n - bitC s n)))))), some (.int (nI (s + 1))), some (.int (nI (bitC s n))), some (.int (nI n)), lo]) dX12_confidence_136 rfl rfl ?_
      refine R_goto (tgt := 56) dX12_confidence_139 (by decide) ?_
      have h9 := ih (s + 1) (some (.int (nI (bitC s n)))) (some (.int (nI n))) (by omega)
      rw [show sumN (wF un x sc (cs.take i) p) (s + 1) = sumN (wF un x sc (cs.take i) p) s + wF un x sc (cs.take i) p s from rfl, hF] at h9
      exact h9
set_option maxRecDepth 100000 in
set_option maxHeartbeats 4000000 in
theorem r_cfG {Z : ZT} {i x z n p ab tt g : Nat} (K : ∀ lo : Option Value, PZ l X Z mX12_confidence 182 [some (.ref 61), some (.int (nI i)), some (.int (nI x)), some (.int (nI z)), some (.int (nI n)), some (.int (nI p)), some (.int (nI ab)), some (.int (nI tt)), some (.int (nI g)), some (.int (nI 0)), lo] [] hp 0 0) : ∀ (d a b : Nat) (lo : Option Value), b ≤ d → a < 2 ^ 31 → b < 2 ^ 31 → Nat.gcd a b = g → PZ l X Z mX12_confidence 159 [some (.ref 61), some (.int (nI i)), some (.int (nI x)), some (.int (nI z)), some (.int (nI n)), some (.int (nI p)), some (.int (nI ab)), some (.int (nI tt)), some (.int (nI a)), some (.int (nI b)), lo] [] hp 0 0 := by
  intro d
  induction d with
  | zero =>
    intro a b lo hb ha hb2 hg
    have hb0 : b = 0 := by omega
    subst hb0
    rw [Nat.gcd_zero_right] at hg
    subst hg
    refine R_iload dX12_confidence_159 rfl ?_
    refine N_if_eq (tgt := 182) dX12_confidence_161 (by decide) (by omega) (fun _ => ?_) (fun hc => absurd hc (by omega))
    exact K lo
  | succ d ih =>
    intro a b lo hb ha hb2 hg
    refine R_iload dX12_confidence_159 rfl ?_
    refine N_if_eq (tgt := 182) dX12_confidence_161 (by decide) (by omega) (fun h0 => ?_) (fun h0 => ?_)
    · subst h0
      rw [Nat.gcd_zero_right] at hg
      subst hg
      exact K lo
    · have hm : a % b < b := Nat.mod_lt _ (by omega)
      refine R_iload dX12_confidence_164 rfl ?_
      refine R_iload dX12_confidence_166 rfl ?_
      refine N_irem dX12_confidence_168 (by omega) (by omega) (by omega) ?_
      refine R_istore (lv' := [some (.ref 61), some (.int (nI i)), some (.int (nI x)), some (.int (nI z)), some (.int (nI n)), some (.int (nI p)), some (.int (nI ab)), some (.int (nI tt)), some (.int (nI a)), some (.int (nI b)), some (.int (nI (a % b)))]) dX12_confidence_169 (by decide) rfl ?_
      refine R_iload dX12_confidence_171 rfl ?_
      refine R_istore (lv' := [some (.ref 61), some (.int (nI i)), some (.int (nI x)), some (.int (nI z)), some (.int (nI n)), some (.int (nI p)), some (.int (nI ab)), some (.int (nI tt)), some (.int (nI b)), some (.int (nI b)), some (.int (nI (a % b)))]) dX12_confidence_173 (by decide) rfl ?_
      refine R_iload dX12_confidence_175 rfl ?_
      refine R_istore (lv' := [some (.ref 61), some (.int (nI i)), some (.int (nI x)), some (.int (nI z)), some (.int (nI n)), some (.int (nI p)), some (.int (nI ab)), some (.int (nI tt)), some (.int (nI b)), some (.int (nI (a % b))), some (.int (nI (a % b)))]) dX12_confidence_177 (by decide) rfl ?_
      refine R_goto (tgt := 159) dX12_confidence_179 (by decide) ?_
      exact ih b (a % b) _ (by omega) hb2 (by omega) (by rw [Nat.gcd_comm, ← Nat.gcd_rec, Nat.gcd_comm]; exact hg)
set_option maxRecDepth 100000 in
set_option maxHeartbeats 4000000 in
theorem r_conf {ms : List Nat} {cs : List Nat} {sc un wd : Nat} {hs : List TP} {s0 s1 : Option TP} {os : List (Nat × Nat)} {ox : Nat} {i x : Int32} {z : Nat} (hz : z ≤ 1) (hM : MJ hp (ms, (cs, sc, un, wd), hs, s0, s1, os, ox)) : SpI l X mX12_confidence [.ref 61, .int i, .int x, .int (nI z)] hp (fun r hp' => r = (cfA z (ms, (cs, sc, un, wd), hs, s0, s1, os, ox) i x).1 ∧ hp' = hp) := by
  obtain ⟨nx, tl, sl, st, M0, MM, MN, MT, MD, MK, MO, A70, A71, A72, A73, A74, A75, A76, A77⟩ := hM
  obtain ⟨hL, hC3, hs1, hu1, hw1, hw2⟩ := MN.ok
  refine SpI.of pnX12 (Nat.le_of_ble_eq_true rfl) rfl ?_
  refine R_aload_n dX12_confidence_0 rfl rfl ?_
  refine R_iload_n dX12_confidence_1 rfl rfl ?_
  refine R_calli (As := [.int (i)]) (st := []) kX12_isIndex lX12_98 (r_isx (i := i) M0 MN) rfl M0 dX12_confidence_2 rfl rfl (Nat.le_of_ble_eq_true rfl) ⟨by decide, by decide⟩ zX12_isIndex ⟨Nat.le_refl _, Nat.le_refl _⟩ (fun wr3 wp2 wq1 => ?_)
  obtain ⟨rfl, rfl⟩ : wr3 = _ ∧ hp = wp2 := ⟨wq1.1, wq1.2.symm⟩
  cases hb4 : inB i cs.length with
  | false =>
    show PZ _ _ _ _ _ _ (.int (nI 0) :: _) _ _ _
    refine N_if_ne (tgt := 10) dX12_confidence_5 (by decide) (by decide) (fun hc => absurd hc (by decide)) (fun _ => ?_)
    refine R_iconst (v := (-1)) dX12_confidence_8 (by decide) ?_
    exact R_reti dX12_confidence_9 rfl rfl rfl ⟨by unfold cfA; dsimp only; rw [hb4]; rfl, rfl⟩
  | true =>
    show PZ _ _ _ _ _ _ (.int (nI 1) :: _) _ _ _
    obtain ⟨j, hj, rfl⟩ := inB_t (by omega) hb4
    refine N_if_ne (tgt := 10) dX12_confidence_5 (by decide) (by decide) (fun _ => ?_) (fun hc => absurd hc (by decide))
    refine R_iload_n dX12_confidence_10 rfl rfl ?_
    refine R_i2l dX12_confidence_11 ?_
    refine R_lconst (v := 0) dX12_confidence_12 (by decide) ?_
    refine R_ldc2 dX12_confidence_13 nX12_181 ?_
    refine R_stati (As := [.long ((x).toInt64), .long (0), .long (10)]) (st := []) kX12_in lX12_67 (r_inW 0 10 rfl rfl (by decide) (by decide)) dX12_confidence_16 rfl rfl (Nat.le_of_ble_eq_true rfl) ⟨by decide, by decide⟩ zX12_in ⟨Nat.le_refl _, Nat.le_refl _⟩ (fun wr7 wp6 wq5 => ?_)
    obtain ⟨rfl, rfl⟩ : wr7 = _ ∧ hp = wp6 := ⟨wq5.1, wq5.2.symm⟩
    cases hw8 : inW x 0 10 with
    | false =>
      show PZ _ _ _ _ _ _ (.int (nI 0) :: _) _ _ _
      refine N_if_ne (tgt := 25) dX12_confidence_19 (by decide) (by decide) (fun hc => absurd hc (by decide)) (fun _ => ?_)
      refine R_bipush (v := (-2)) dX12_confidence_22 (by decide) ?_
      exact R_reti dX12_confidence_24 rfl rfl rfl ⟨by unfold cfA; dsimp only; rw [hb4, hw8]; rfl, rfl⟩
    | true =>
      show PZ _ _ _ _ _ _ (.int (nI 1) :: _) _ _ _
      obtain ⟨q, -, hq, rfl⟩ := inW_t (by decide) hw8
      refine N_if_ne (tgt := 25) dX12_confidence_19 (by decide) (by decide) (fun _ => ?_) (fun hc => absurd hc (by decide))
      refine R_aload_n dX12_confidence_25 rfl rfl ?_
      refine R_iload_n dX12_confidence_26 rfl rfl ?_
      refine R_calli (As := [.int (nI j)]) (st := []) kX12_shiftsBelow lX12_183 (r_sb (i := j) (by omega) M0 MN) rfl M0 dX12_confidence_27 rfl rfl (Nat.le_of_ble_eq_true rfl) ⟨by decide, by decide⟩ zX12_shiftsBelow ⟨Nat.le_refl _, Nat.le_refl _⟩ (fun wr11 wp10 wq9 => ?_)
      obtain ⟨rfl, rfl⟩ : wr11 = _ ∧ hp = wp10 := ⟨wq9.1, wq9.2.symm⟩
      have hnl : nsh (cs.take j) ≤ 96 := Nat.le_trans (nsh_le _) (by rw [List.length_take]; omega)
      refine R_istore (lv' := [some (.ref 61), some (.int (nI j)), some (.int (nI q)), some (.int (nI z)), some (.int (nI (nsh (cs.take j)))), none, none, none, none, none, none]) dX12_confidence_30 (by decide) rfl ?_
      refine R_iload dX12_confidence_32 rfl ?_
      refine R_bipush (v := (nI 9)) dX12_confidence_34 (by decide) ?_
      refine N_icmp_le (tgt := 42) dX12_confidence_36 (by decide) (by omega) (by omega) (fun h9 => ?_) (fun h9 => ?_)
      · have hp1 := cBu_1 un 0 (cs.take j) (sc, 0) hs1
        have hten := p10_le h9
        have hcl := cfN_le (un := un) (sc := sc) (cs := cs) (i := j) hq (by omega)
        have hp0 : 0 < 10 ^ nsh (cs.take j) := Nat.pow_pos (by decide)
        have hg0 := Nat.gcd_pos_of_pos_right (cfN un sc q cs j) hp0
        have hgl := Nat.gcd_le_right (cfN un sc q cs j) hp0
        refine R_aload_n dX12_confidence_42 rfl rfl ?_
        refine R_iload_n dX12_confidence_43 rfl rfl ?_
        refine R_iconst (v := (nI 0)) dX12_confidence_44 (by decide) ?_
        refine R_calli (As := [.int (nI j), .int (nI 0)]) (st := []) kX12_caseBut lX12_186 (r_cb (i := j) (s := 0) (by omega) (by decide) h9 M0 MN) rfl M0 dX12_confidence_45 rfl rfl (Nat.le_of_ble_eq_true rfl) ⟨by decide, by decide⟩ zX12_caseBut ⟨Nat.le_refl _, Nat.le_refl _⟩ (fun wr14 wp13 wq12 => ?_)
        obtain ⟨rfl, rfl⟩ : wr14 = _ ∧ hp = wp13 := ⟨wq12.1, wq12.2.symm⟩
        refine R_istore (lv' := [some (.ref 61), some (.int (nI j)), some (.int (nI q)), some (.int (nI z)), some (.int (nI (nsh (cs.take j)))), some (.int (nI ((cBu un 0 (sc, 0) (cs.take j)).1))), none, none, none, none, none]) dX12_confidence_48 (by decide) rfl ?_
        refine R_iconst (v := (nI 0)) dX12_confidence_50 (by decide) ?_
        refine R_istore (lv' := [some (.ref 61), some (.int (nI j)), some (.int (nI q)), some (.int (nI z)), some (.int (nI (nsh (cs.take j)))), some (.int (nI ((cBu un 0 (sc, 0) (cs.take j)).1))), some (.int (nI 0)), none, none, none, none]) dX12_confidence_51 (by decide) rfl ?_
        refine R_iconst (v := (nI 0)) dX12_confidence_53 (by decide) ?_
        refine R_istore (lv' := [some (.ref 61), some (.int (nI j)), some (.int (nI q)), some (.int (nI z)), some (.int (nI (nsh (cs.take j)))), some (.int (nI ((cBu un 0 (sc, 0) (cs.take j)).1))), some (.int (nI 0)), some (.int (nI 0)), none, none, none]) dX12_confidence_54 (by decide) rfl ?_
        refine r_cfL (i := j) (n := nsh (cs.take j)) (p := (cBu un 0 (sc, 0) (cs.take j)).1) (by omega) rfl h9 hq hs1 hp1 M0 MN (fun l8 l9 => ?_) (2 ^ nsh (cs.take j)) 0 none none (by omega)
        rw [cf_sum hq hs1 (by omega)]
        refine R_bipush (v := (nI 10)) dX12_confidence_142 (by decide) ?_
        refine R_iload dX12_confidence_144 rfl ?_
        refine R_stati (As := [.int (nI 10), .int (nI (nsh (cs.take j)))]) (st := []) kX12_power lX12_189 (r_pow (a := 10) (n := nsh (cs.take j)) (by omega)) dX12_confidence_146 rfl rfl (Nat.le_of_ble_eq_true rfl) ⟨by decide, by decide⟩ zX12_power ⟨Nat.le_refl _, Nat.le_refl _⟩ (fun wr17 wp16 wq15 => ?_)
        obtain ⟨rfl, rfl⟩ : wr17 = _ ∧ hp = wp16 := ⟨wq15.1, wq15.2.symm⟩
        refine R_istore (lv' := [some (.ref 61), some (.int (nI j)), some (.int (nI q)), some (.int (nI z)), some (.int (nI (nsh (cs.take j)))), some (.int (nI ((cBu un 0 (sc, 0) (cs.take j)).1))), some (.int (nI (cfN un sc q cs j))), some (.int (nI (10 ^ nsh (cs.take j)))), l8, l9, none]) dX12_confidence_149 (by decide) rfl ?_
        refine R_iload dX12_confidence_151 rfl ?_
        refine R_istore (lv' := [some (.ref 61), some (.int (nI j)), some (.int (nI q)), some (.int (nI z)), some (.int (nI (nsh (cs.take j)))), some (.int (nI ((cBu un 0 (sc, 0) (cs.take j)).1))), some (.int (nI (cfN un sc q cs j))), some (.int (nI (10 ^ nsh (cs.take j)))), some (.int (nI (cfN un sc q cs j))), l9, none]) dX12_confidence_153 (by decide) rfl ?_
        refine R_iload dX12_confidence_155 rfl ?_
        refine R_istore (lv' := [some (.ref 61), some (.int (nI j)), some (.int (nI q)), some (.int (nI z)), some (.int (nI (nsh (cs.take j)))), some (.int (nI ((cBu un 0 (sc, 0) (cs.take j)).1))), some (.int (nI (cfN un sc q cs j))), some (.int (nI (10 ^ nsh (cs.take j)))), some (.int (nI (cfN un sc q cs j))), some (.int (nI (10 ^ nsh (cs.take j)))), none]) dX12_confidence_157 (by decide) rfl ?_
        refine r_cfG (fun lo => ?_) (10 ^ nsh (cs.take j)) (cfN un sc q cs j) (10 ^ nsh (cs.take j)) none (Nat.le_refl _) (by omega) (by omega) rfl
        refine R_iload_n dX12_confidence_182 rfl rfl ?_
        refine N_if_eq (tgt := 194) dX12_confidence_183 (by decide) (by omega) (fun hz0 => ?_) (fun hz0 => ?_)
        · refine R_iload dX12_confidence_194 rfl ?_
          refine R_iload dX12_confidence_196 rfl ?_
          refine N_idiv dX12_confidence_198 (by omega) (by omega) (by omega) ?_
          exact R_reti dX12_confidence_199 rfl rfl rfl ⟨by unfold cfA; dsimp only; rw [hb4, hw8, if_pos rfl, if_pos rfl, vN_n (by omega), vN_n (by omega), if_pos h9, if_neg (by omega)]; rfl, rfl⟩
        · refine R_iload dX12_confidence_186 rfl ?_
          refine R_iload dX12_confidence_188 rfl ?_
          refine N_idiv dX12_confidence_190 (by omega) (by omega) (by omega) ?_
          refine R_goto (tgt := 199) dX12_confidence_191 (by decide) ?_
          exact R_reti dX12_confidence_199 rfl rfl rfl ⟨by unfold cfA; dsimp only; rw [hb4, hw8, if_pos rfl, if_pos rfl, vN_n (by omega), vN_n (by omega), if_pos h9, if_pos (by omega)]; rfl, rfl⟩
      · refine R_bipush (v := (-3)) dX12_confidence_39 (by decide) ?_
        exact R_reti dX12_confidence_41 rfl rfl rfl ⟨by unfold cfA; dsimp only; rw [hb4, hw8, if_pos rfl, if_pos rfl, vN_n (by omega), if_neg (by omega)], rfl⟩
set_option maxRecDepth 100000 in
set_option maxHeartbeats 4000000 in
theorem y_cnum {ms : List Nat} {cs : List Nat} {sc un wd : Nat} {hs : List TP} {s0 s1 : Option TP} {os : List (Nat × Nat)} {ox : Nat} {i x : Int32} (hM : MJ hp (ms, (cs, sc, un, wd), hs, s0, s1, os, ox)) : SpI l X mX12_confidenceNumerator [.ref 61, .int (i), .int (x)] hp (fun r hp' => r = (cfA 1 (ms, (cs, sc, un, wd), hs, s0, s1, os, ox) i x).1 ∧ MJ hp' (cfA 1 (ms, (cs, sc, un, wd), hs, s0, s1, os, ox) i x).2 ∧ Fr LM hp hp') := by
  obtain ⟨nx, tl, sl, st, M0, MM, MN, MT, MD, MK, MO, A70, A71, A72, A73, A74, A75, A76, A77⟩ := id hM
  refine SpI.of pnX12 (Nat.le_of_ble_eq_true rfl) rfl ?_
  refine R_aload_n dX12_confidenceNumerator_0 rfl rfl ?_
  refine R_iload_n dX12_confidenceNumerator_1 rfl rfl ?_
  refine R_iload_n dX12_confidenceNumerator_2 rfl rfl ?_
  refine R_iconst (v := (nI 1)) dX12_confidenceNumerator_3 (by decide) ?_
  refine R_calli (As := [.int (i), .int (x), .int (nI 1)]) (st := []) kX12_confidence lX12_192 (r_conf (z := 1) (by decide) hM) rfl M0 dX12_confidenceNumerator_4 rfl rfl (Nat.le_of_ble_eq_true rfl) ⟨by decide, by decide⟩ zX12_confidence ⟨Nat.le_refl _, Nat.le_refl _⟩ (fun wr3 wp2 wq1 => ?_)
  obtain ⟨rfl, rfl⟩ : wr3 = _ ∧ hp = wp2 := ⟨wq1.1, wq1.2.symm⟩
  exact R_reti dX12_confidenceNumerator_7 rfl rfl rfl ⟨rfl, hM, Fr.rf⟩
set_option maxRecDepth 100000 in
set_option maxHeartbeats 4000000 in
theorem y_cden {ms : List Nat} {cs : List Nat} {sc un wd : Nat} {hs : List TP} {s0 s1 : Option TP} {os : List (Nat × Nat)} {ox : Nat} {i x : Int32} (hM : MJ hp (ms, (cs, sc, un, wd), hs, s0, s1, os, ox)) : SpI l X mX12_confidenceDenominator [.ref 61, .int (i), .int (x)] hp (fun r hp' => r = (cfA 0 (ms, (cs, sc, un, wd), hs, s0, s1, os, ox) i x).1 ∧ MJ hp' (cfA 0 (ms, (cs, sc, un, wd), hs, s0, s1, os, ox) i x).2 ∧ Fr LM hp hp') := by
  obtain ⟨nx, tl, sl, st, M0, MM, MN, MT, MD, MK, MO, A70, A71, A72, A73, A74, A75, A76, A77⟩ := id hM
  refine SpI.of pnX12 (Nat.le_of_ble_eq_true rfl) rfl ?_
  refine R_aload_n dX12_confidenceDenominator_0 rfl rfl ?_
  refine R_iload_n dX12_confidenceDenominator_1 rfl rfl ?_
  refine R_iload_n dX12_confidenceDenominator_2 rfl rfl ?_
  refine R_iconst (v := (nI 0)) dX12_confidenceDenominator_3 (by decide) ?_
  refine R_calli (As := [.int (i), .int (x), .int (nI 0)]) (st := []) kX12_confidence lX12_192 (r_conf (z := 0) (by decide) hM) rfl M0 dX12_confidenceDenominator_4 rfl rfl (Nat.le_of_ble_eq_true rfl) ⟨by decide, by decide⟩ zX12_confidence ⟨Nat.le_refl _, Nat.le_refl _⟩ (fun wr3 wp2 wq1 => ?_)
  obtain ⟨rfl, rfl⟩ : wr3 = _ ∧ hp = wp2 := ⟨wq1.1, wq1.2.symm⟩
  exact R_reti dX12_confidenceDenominator_7 rfl rfl rfl ⟨rfl, hM, Fr.rf⟩
end R47
