/-! CONFIDENCE: sums over the lost sets, weights of the two cases, lowest terms -/
def sumN (f : Nat → Nat) : Nat → Nat
  | 0 => 0
  | n + 1 => sumN f n + f n
theorem sumN_add (f : Nat → Nat) (a : Nat) : ∀ b, sumN f (a + b) = sumN f a + sumN (fun s => f (a + s)) b
  | 0 => rfl
  | b + 1 => by
    show sumN f (a + b) + f (a + b) = sumN f a + (sumN (fun s => f (a + s)) b + f (a + b))
    rw [sumN_add f a b]; omega
theorem sumN_cg {f g : Nat → Nat} : ∀ n, (∀ s, s < n → f s = g s) → sumN f n = sumN g n
  | 0, _ => rfl
  | n + 1, h => by
    show sumN f n + f n = sumN g n + g n
    rw [sumN_cg n (fun s hs => h s (by omega)), h n (by omega)]
theorem sumN_mul (f : Nat → Nat) (c : Nat) : ∀ n, sumN (fun s => f s * c) n = sumN f n * c
  | 0 => (Nat.zero_mul c).symm
  | n + 1 => by
    show sumN (fun s => f s * c) n + f n * c = (sumN f n + f n) * c
    rw [sumN_mul f c n, Nat.add_mul]
theorem sumN_plus (f g : Nat → Nat) : ∀ n, sumN (fun s => f s + g s) n = sumN f n + sumN g n
  | 0 => rfl
  | n + 1 => by
    show sumN (fun s => f s + g s) n + (f n + g n) = (sumN f n + f n) + (sumN g n + g n)
    rw [sumN_plus f g n]; omega
theorem sumN_0 : ∀ n, sumN (fun _ => 0) n = 0
  | 0 => rfl
  | n + 1 => by
    show sumN (fun _ => 0) n + 0 = 0
    rw [sumN_0 n]
/-- how many of the first n bits are set -/
def bitC (s : Nat) : Nat → Nat
  | 0 => 0
  | n + 1 => bitC s n + s / 2 ^ n % 2
theorem bitC_le (s : Nat) : ∀ n, bitC s n ≤ n
  | 0 => Nat.le_refl _
  | n + 1 => by
    have h := bitC_le s n
    have h2 : s / 2 ^ n % 2 < 2 := Nat.mod_lt _ (by decide)
    show bitC s n + s / 2 ^ n % 2 ≤ n + 1
    omega
theorem bit_hi {s n j : Nat} (h : j < n) : (2 ^ n + s) / 2 ^ j % 2 = s / 2 ^ j % 2 := by
  obtain ⟨k, rfl⟩ : ∃ k, n = j + (k + 1) := ⟨n - j - 1, by omega⟩
  have e : 2 ^ (j + (k + 1)) = 2 ^ j * (2 * 2 ^ k) := by rw [Nat.pow_add, Nat.pow_succ, Nat.mul_comm (2 ^ k) 2]
  rw [e, Nat.add_comm, Nat.add_mul_div_left _ _ (Nat.two_pow_pos j), Nat.add_mul_mod_self_left]
theorem bit_lo {s n : Nat} (h : s < 2 ^ n) : s / 2 ^ n % 2 = 0 := by rw [Nat.div_eq_of_lt h]
theorem bit_top {s n : Nat} (h : s < 2 ^ n) : (2 ^ n + s) / 2 ^ n % 2 = 1 := by rw [Nat.add_div_left _ (Nat.two_pow_pos n), Nat.div_eq_of_lt h]
theorem bitC_hi {s n : Nat} : ∀ j, j ≤ n → bitC (2 ^ n + s) j = bitC s j
  | 0, _ => rfl
  | j + 1, h => by
    show bitC (2 ^ n + s) j + (2 ^ n + s) / 2 ^ j % 2 = bitC s j + s / 2 ^ j % 2
    rw [bitC_hi j (by omega), bit_hi (by omega)]
theorem bitC_lo {s n : Nat} (h : s < 2 ^ n) : bitC s (n + 1) = bitC s n := by
  show bitC s n + s / 2 ^ n % 2 = _
  rw [bit_lo h]; rfl
theorem bitC_top {s n : Nat} (h : s < 2 ^ n) : bitC (2 ^ n + s) (n + 1) = bitC s n + 1 := by
  show bitC (2 ^ n + s) n + (2 ^ n + s) / 2 ^ n % 2 = _
  rw [bit_top h, bitC_hi n (Nat.le_refl _)]
theorem cBu_hi {un s n : Nat} : ∀ (L : List Nat) (q : Nat × Nat), q.2 + nsh L ≤ n → cBu un (2 ^ n + s) q L = cBu un s q L
  | [], _, _ => rfl
  | c :: t, q, h => by
    have e : cBs un (2 ^ n + s) q c = cBs un s q c := by
      unfold cBs
      by_cases hs : shB c = true
      · have h1 : q.2 < n := by simp only [nsh, hs, if_pos] at h; omega
        have h2 : hasB (2 ^ n + s) q.2 = hasB s q.2 := by unfold hasB; rw [bit_hi h1]
        rw [h2]
      · rw [if_neg hs, if_neg hs]
    have h2 : (cBs un s q c).2 + nsh t ≤ n := by
      have := cBu_n un s [c] q
      have e2 : (cBs un s q c).2 = q.2 + nsh [c] := this
      have e3 : nsh (c :: t) = nsh [c] + nsh t := nsh_app [c] t
      omega
    show cBu un (2 ^ n + s) (cBs un (2 ^ n + s) q c) t = cBu un s (cBs un s q c) t
    rw [e]
    exact cBu_hi t _ h2
theorem cBu_0 (un : Nat) : ∀ (L : List Nat) (q : Nat × Nat), (cBu un 0 q L).1 = cAll un q.1 L
  | [], _ => rfl
  | c :: t, q => by
    have hh : hasB 0 q.2 = false := by unfold hasB; rw [Nat.zero_div]; rfl
    have e : (cBs un 0 q c).1 = cAft un c q.1 := by
      unfold cBs
      rw [hh]
      split <;> rfl
    show (cBu un 0 (cBs un 0 q c) t).1 = cAll un (cAft un c q.1) t
    rw [cBu_0 un t, e]
/-- the weights of the two cases: tenfold with each shift -/
def wSt (un x : Nat) (w : Nat × Nat) (c : Nat) : Nat × Nat := if c = 29 then (w.1 * x, w.2 * 10 + w.1 * (10 - x)) else if c = 30 then (w.1 * 10 + w.2 * (10 - x), w.2 * x) else if c = 26 ∧ un = 1 then (w.1 + w.2, 0) else w
def wts (un x sc : Nat) (L : List Nat) : Nat × Nat := L.foldl (wSt un x) (if sc = 0 then (1, 0) else (0, 1))
theorem wts_s {un x sc : Nat} {cs : List Nat} {j : Nat} (h : j < cs.length) : wts un x sc (cs.take (j + 1)) = wSt un x (wts un x sc (cs.take j)) cs[j] := by unfold wts; rw [take_s h, List.foldl_append]; rfl
theorem ten_ {a x : Nat} (h : x ≤ 10) : a * x + a * (10 - x) = a * 10 := by rw [← Nat.mul_add]; congr 1; omega
theorem wts_sum {un x sc : Nat} (hx : x ≤ 10) {cs : List Nat} : ∀ j, j ≤ cs.length → (wts un x sc (cs.take j)).1 + (wts un x sc (cs.take j)).2 = 10 ^ nsh (cs.take j)
  | 0, _ => by
    show (if sc = 0 then (1, 0) else (0, 1) : Nat × Nat).1 + (if sc = 0 then (1, 0) else (0, 1) : Nat × Nat).2 = 1
    split <;> rfl
  | j + 1, h => by
    have ih := wts_sum (un := un) (sc := sc) hx (cs := cs) j (by omega)
    rw [wts_s (by omega), nsh_s (by omega)]
    obtain ⟨w, hw⟩ : ∃ w, w = wts un x sc (cs.take j) := ⟨_, rfl⟩
    rw [← hw] at ih ⊢
    obtain ⟨w0, w1⟩ := w
    have t0 := ten_ (a := w0) hx
    have t1 := ten_ (a := w1) hx
    unfold wSt
    by_cases h1 : cs[j] = 29
    · have hs : shB cs[j] = true := by rw [h1]; rfl
      rw [if_pos h1, if_pos hs, Nat.pow_succ, ← ih]
      show w0 * x + (w1 * 10 + w0 * (10 - x)) = (w0 + w1) * 10
      rw [Nat.add_mul]; omega
    · rw [if_neg h1]
      by_cases h2 : cs[j] = 30
      · have hs : shB cs[j] = true := by rw [h2]; rfl
        rw [if_pos h2, if_pos hs, Nat.pow_succ, ← ih]
        show w0 * 10 + w1 * (10 - x) + w1 * x = (w0 + w1) * 10
        rw [Nat.add_mul]; omega
      · have hs : ¬ shB cs[j] = true := by unfold shB; rw [decide_eq_true_eq]; omega
        rw [if_neg h2, if_neg hs, Nat.add_zero, ← ih]
        split
        · rfl
        · rfl
/-- the sum over the lost sets that lead to the case p -/
def wT (x n s : Nat) : Nat := x ^ bitC s n * (10 - x) ^ (n - bitC s n)
def wF (un x sc : Nat) (L : List Nat) (p s : Nat) : Nat := if (cBu un s (sc, 0) L).1 = p then wT x (nsh L) s else 0
theorem wT_lo {x n s : Nat} (h : s < 2 ^ n) : wT x (n + 1) s = wT x n s * (10 - x) := by
  have hb := bitC_le s n
  unfold wT
  rw [bitC_lo h, show n + 1 - bitC s n = (n - bitC s n) + 1 by omega, Nat.pow_succ, Nat.mul_assoc]
theorem wT_hi {x n s : Nat} (h : s < 2 ^ n) : wT x (n + 1) (2 ^ n + s) = wT x n s * x := by
  have hb := bitC_le s n
  unfold wT
  rw [bitC_top h, show n + 1 - (bitC s n + 1) = n - bitC s n by omega, Nat.pow_succ, Nat.mul_assoc, Nat.mul_assoc, Nat.mul_comm x]
theorem wR_eq {un x sc : Nat} (hx : x ≤ 10) (hsc : sc ≤ 1) {cs : List Nat} : ∀ j, j ≤ cs.length → sumN (wF un x sc (cs.take j) 0) (2 ^ nsh (cs.take j)) = (wts un x sc (cs.take j)).1 ∧ sumN (wF un x sc (cs.take j) 1) (2 ^ nsh (cs.take j)) = (wts un x sc (cs.take j)).2
  | 0, _ => by
    show (0 + if sc = 0 then 1 else 0) = (if sc = 0 then (1, 0) else (0, 1) : Nat × Nat).1 ∧ (0 + if sc = 1 then 1 else 0) = (if sc = 0 then (1, 0) else (0, 1) : Nat × Nat).2
    rcases (show sc = 0 ∨ sc = 1 by omega) with rfl | rfl
    · exact ⟨rfl, rfl⟩
    · exact ⟨rfl, rfl⟩
  | j + 1, h => by
    obtain ⟨ih0, ih1⟩ := wR_eq (un := un) hx hsc (cs := cs) j (by omega)
    have hj : j < cs.length := by omega
    have hB : ∀ s, cBu un s (sc, 0) (cs.take (j + 1)) = cBs un s (cBu un s (sc, 0) (cs.take j)) cs[j] := fun s => cBu_s hj
    have hN := nsh_s hj
    have hle : ∀ s, (cBu un s (sc, 0) (cs.take j)).1 ≤ 1 := fun s => cBu_1 un s (cs.take j) (sc, 0) hsc
    have hcn : ∀ s, (cBu un s (sc, 0) (cs.take j)).2 = nsh (cs.take j) := fun s => (cBu_n un s (cs.take j) (sc, 0)).trans (Nat.zero_add _)
    have hhi : ∀ s, cBu un (2 ^ nsh (cs.take j) + s) (sc, 0) (cs.take j) = cBu un s (sc, 0) (cs.take j) := fun s => cBu_hi (cs.take j) (sc, 0) (Nat.le_of_eq (Nat.zero_add _))
    have hw := wts_s (un := un) (x := x) (sc := sc) hj
    have hall : sumN (fun s => wT x (nsh (cs.take j)) s) (2 ^ nsh (cs.take j)) = (wts un x sc (cs.take j)).1 + (wts un x sc (cs.take j)).2 := by
      rw [← ih0, ← ih1, ← sumN_plus]
      refine sumN_cg _ (fun s _ => ?_)
      unfold wF
      rcases (show (cBu un s (sc, 0) (cs.take j)).1 = 0 ∨ (cBu un s (sc, 0) (cs.take j)).1 = 1 by have := hle s; omega) with e | e
      · rw [e]; rfl
      · rw [e]; exact (Nat.zero_add _).symm
    rw [hw]
    generalize hn : nsh (cs.take j) = n at *
    generalize hww : wts un x sc (cs.take j) = w at *
    obtain ⟨w0, w1⟩ := w
    have t0 := ten_ (a := w0) hx
    have t1 := ten_ (a := w1) hx
    by_cases hs : shB cs[j] = true
    · rw [if_pos hs] at hN
      have hpow : 2 ^ (n + 1) = 2 ^ n + 2 ^ n := by rw [Nat.pow_succ]; omega
      -- the two halves
      have hlo : ∀ p s, s < 2 ^ n → wF un x sc (cs.take (j + 1)) p s = if cAft un cs[j] 0 = p then wT x n s * (10 - x) else 0 := by
        intro p s h2
        have hf : hasB s n = false := by unfold hasB; rw [bit_lo h2]; rfl
        have ec : (cBu un s (sc, 0) (cs.take (j + 1))).1 = cAft un cs[j] 0 := by
          rw [hB, cBs, if_pos hs, hcn, hf, if_neg (by decide)]
          show cAft un cs[j] (cBu un s (sc, 0) (cs.take j)).1 = cAft un cs[j] 0
          have h29 : cs[j] = 29 ∨ cs[j] = 30 := by unfold shB at hs; exact decide_eq_true_eq.mp hs
          rcases h29 with e | e
          · rw [e]; rfl
          · rw [e]; rfl
        unfold wF
        rw [ec, hN, wT_lo h2]
      have hup : ∀ p s, s < 2 ^ n → wF un x sc (cs.take (j + 1)) p (2 ^ n + s) = wF un x sc (cs.take j) p s * x := by
        intro p s h2
        have hf : hasB (2 ^ n + s) n = true := by unfold hasB; rw [bit_top h2]; rfl
        have ec : (cBu un (2 ^ n + s) (sc, 0) (cs.take (j + 1))).1 = (cBu un s (sc, 0) (cs.take j)).1 := by
          rw [hB, cBs, if_pos hs, hcn, hf, if_pos rfl, hhi]
        unfold wF
        rw [ec, hN, hn, wT_hi h2]
        split
        · rfl
        · exact (Nat.zero_mul x).symm
      have hsum : ∀ p, sumN (wF un x sc (cs.take (j + 1)) p) (2 ^ (n + 1)) = (if cAft un cs[j] 0 = p then (w0 + w1) * (10 - x) else 0) + sumN (wF un x sc (cs.take j) p) (2 ^ n) * x := by
        intro p
        rw [hpow, sumN_add, sumN_cg _ (hlo p), sumN_cg _ (hup p), sumN_mul]
        congr 1
        by_cases hp : cAft un cs[j] 0 = p
        · rw [if_pos hp, ← hall, ← sumN_mul]
          exact sumN_cg _ (fun s _ => if_pos hp)
        · rw [if_neg hp]
          rw [sumN_cg (g := fun _ => 0) _ (fun s _ => if_neg hp), sumN_0]
      rw [hN, hsum 0, hsum 1, ih0, ih1]
      unfold wSt
      have h29 : cs[j] = 29 ∨ cs[j] = 30 := by unfold shB at hs; exact decide_eq_true_eq.mp hs
      rcases h29 with e | e
      · rw [e]
        show 0 + w0 * x = w0 * x ∧ (w0 + w1) * (10 - x) + w1 * x = w1 * 10 + w0 * (10 - x)
        rw [Nat.add_mul]
        exact ⟨Nat.zero_add _, by omega⟩
      · rw [e]
        show (w0 + w1) * (10 - x) + w0 * x = w0 * 10 + w1 * (10 - x) ∧ 0 + w1 * x = w1 * x
        rw [Nat.add_mul]
        exact ⟨by omega, Nat.zero_add _⟩
    · rw [if_neg hs] at hN
      replace hN : nsh (cs.take (j + 1)) = n := hN
      have h29 : ¬ (cs[j] = 29 ∨ cs[j] = 30) := fun z => hs (decide_eq_true z)
      have ec : ∀ s, (cBu un s (sc, 0) (cs.take (j + 1))).1 = cAft un cs[j] (cBu un s (sc, 0) (cs.take j)).1 := fun s => by
        rw [hB, cBs, if_neg hs]
      rw [hN]
      unfold wSt
      rw [if_neg (fun z => h29 (.inl z)), if_neg (fun z => h29 (.inr z))]
      by_cases hu : cs[j] = 26 ∧ un = 1
      · rw [if_pos hu]
        have hc0 : ∀ q, cAft un cs[j] q = 0 := fun q => by
          unfold cAft; rw [if_neg (fun z => h29 (.inl z)), if_neg (fun z => h29 (.inr z)), if_pos hu]
        refine ⟨?_, ?_⟩
        · rw [show (w0 + w1, 0).1 = w0 + w1 from rfl, ← hall]
          refine sumN_cg _ (fun s _ => ?_)
          unfold wF
          rw [ec, hc0, if_pos rfl, hN]
        · rw [show (w0 + w1, 0).2 = 0 from rfl, sumN_cg (g := fun _ => 0) _ (fun s _ => ?_), sumN_0]
          unfold wF
          rw [ec, hc0]; rfl
      · rw [if_neg hu]
        have hc0 : ∀ q, cAft un cs[j] q = q := fun q => by
          unfold cAft; rw [if_neg (fun z => h29 (.inl z)), if_neg (fun z => h29 (.inr z)), if_neg hu]
        have he : ∀ p s, wF un x sc (cs.take (j + 1)) p s = wF un x sc (cs.take j) p s := fun p s => by
          unfold wF
          rw [ec, hc0, hN, hn]
        exact ⟨(sumN_cg _ (fun s _ => he 0 s)).trans ih0, (sumN_cg _ (fun s _ => he 1 s)).trans ih1⟩
/-! lowest terms -/
def rdP (p : Nat) (q : Nat × Nat) : Nat × Nat := if q.1 % p = 0 ∧ q.2 % p = 0 then (q.1 / p, q.2 / p) else q
def redN : Nat → Nat × Nat → Nat × Nat
  | 0, q => q
  | k + 1, q => redN k (rdP 5 (rdP 2 q))
theorem cop2 {g : Nat} (h : ¬ 2 ∣ g) : Nat.Coprime g 2 := by
  have h1 := Nat.gcd_dvd_right g 2
  have h2 := Nat.gcd_dvd_left g 2
  have h3 := Nat.le_of_dvd (by decide) h1
  show Nat.gcd g 2 = 1
  generalize Nat.gcd g 2 = r at *
  rcases (show r = 0 ∨ r = 1 ∨ r = 2 by omega) with rfl | rfl | rfl
  · exact absurd h1 (by decide)
  · rfl
  · exact absurd h2 h
theorem cop5 {g : Nat} (h : ¬ 5 ∣ g) : Nat.Coprime g 5 := by
  have h1 := Nat.gcd_dvd_right g 5
  have h2 := Nat.gcd_dvd_left g 5
  have h3 := Nat.le_of_dvd (by decide) h1
  show Nat.gcd g 5 = 1
  generalize Nat.gcd g 5 = r at *
  rcases (show r = 0 ∨ r = 1 ∨ r = 2 ∨ r = 3 ∨ r = 4 ∨ r = 5 by omega) with rfl | rfl | rfl | rfl | rfl | rfl
  · exact absurd h1 (by decide)
  · rfl
  · exact absurd h1 (by decide)
  · exact absurd h1 (by decide)
  · exact absurd h1 (by decide)
  · exact absurd h2 h
theorem rdP_s {p a b m : Nat} (hp : 0 < p) (hc : ∀ g, ¬ p ∣ g → Nat.Coprime g p) (h : Nat.gcd a b ∣ p * m) : ∃ d, d ∣ a ∧ d ∣ b ∧ rdP p (a, b) = (a / d, b / d) ∧ Nat.gcd (a / d) (b / d) ∣ m := by
  unfold rdP
  by_cases hq : a % p = 0 ∧ b % p = 0
  · have ha := Nat.dvd_of_mod_eq_zero hq.1
    have hb := Nat.dvd_of_mod_eq_zero hq.2
    refine ⟨p, ha, hb, if_pos hq, ?_⟩
    rw [Nat.gcd_div ha hb]
    refine Nat.dvd_of_mul_dvd_mul_left hp ?_
    rw [Nat.mul_div_cancel' (Nat.dvd_gcd ha hb)]
    exact h
  · refine ⟨1, Nat.one_dvd _, Nat.one_dvd _, by rw [if_neg hq, Nat.div_one, Nat.div_one], ?_⟩
    rw [Nat.div_one, Nat.div_one]
    have hn : ¬ p ∣ Nat.gcd a b := fun z => hq ⟨Nat.mod_eq_zero_of_dvd (Nat.dvd_trans z (Nat.gcd_dvd_left a b)), Nat.mod_eq_zero_of_dvd (Nat.dvd_trans z (Nat.gcd_dvd_right a b))⟩
    exact (hc _ hn).dvd_of_dvd_mul_left h
theorem dv_ {a g d : Nat} (hd : d ∣ g) : a / d / (g / d) = a / g := by rw [Nat.div_div_eq_div_mul, Nat.mul_div_cancel' hd]
theorem redN_eq : ∀ (k a b : Nat), Nat.gcd a b ∣ 2 ^ k * 5 ^ k → redN k (a, b) = (a / Nat.gcd a b, b / Nat.gcd a b)
  | 0, a, b, h => by
    have e : Nat.gcd a b = 1 := Nat.dvd_one.mp h
    show (a, b) = _
    rw [e, Nat.div_one, Nat.div_one]
  | k + 1, a, b, h => by
    rw [show 2 ^ (k + 1) * 5 ^ (k + 1) = 2 * (5 * (2 ^ k * 5 ^ k)) by rw [Nat.pow_succ, Nat.pow_succ, Nat.mul_comm (2 ^ k) 2, Nat.mul_comm (5 ^ k) 5, Nat.mul_assoc, Nat.mul_left_comm (2 ^ k)]] at h
    obtain ⟨d, d1, d2, d3, d4⟩ := rdP_s (by decide) (fun g => cop2) h
    obtain ⟨e, e1, e2, e3, e4⟩ := rdP_s (by decide) (fun g => cop5) d4
    show redN k (rdP 5 (rdP 2 (a, b))) = _
    rw [d3, e3, redN_eq k _ _ e4, Nat.gcd_div e1 e2, Nat.gcd_div d1 d2]
    have hd : d ∣ Nat.gcd a b := Nat.dvd_gcd d1 d2
    have he : e ∣ Nat.gcd a b / d := by rw [← Nat.gcd_div d1 d2]; exact Nat.dvd_gcd e1 e2
    rw [dv_ he, dv_ he, dv_ hd, dv_ hd]
theorem redN_10 {a n : Nat} (h : n ≤ 9) : redN 9 (a, 10 ^ n) = (a / Nat.gcd a (10 ^ n), 10 ^ n / Nat.gcd a (10 ^ n)) := by
  refine redN_eq 9 _ _ (Nat.dvd_trans (Nat.gcd_dvd_right _ _) ?_)
  rw [← Nat.mul_pow]
  exact Nat.pow_dvd_pow 10 h
theorem rdP_le {p a b : Nat} : (rdP p (a, b)).1 ≤ a ∧ (rdP p (a, b)).2 ≤ b := by
  unfold rdP
  split
  · exact ⟨Nat.div_le_self _ _, Nat.div_le_self _ _⟩
  · exact ⟨Nat.le_refl _, Nat.le_refl _⟩
/-! the two calls -/
def wP (w : Nat × Nat) (p : Nat) : Nat := if p = 1 then w.2 else w.1
def cfN (un sc x : Nat) (cs : List Nat) (i : Nat) : Nat := wP (wts un x sc (cs.take i)) (cAt un sc cs i)
def cfR (un sc x : Nat) (cs : List Nat) (i : Nat) : Nat × Nat := (cfN un sc x cs i / Nat.gcd (cfN un sc x cs i) (10 ^ nsh (cs.take i)), 10 ^ nsh (cs.take i) / Nat.gcd (cfN un sc x cs i) (10 ^ nsh (cs.take i)))
def cfA (z : Nat) (A : AS) (i x : Int32) : Int32 × AS := match A with
  | (_, (cs, sc, un, _), _) => (if inB i cs.length = true then (if inW x 0 10 = true then (if nsh (cs.take (vN i)) ≤ 9 then nI (if z = 1 then (cfR un sc (vN x) cs (vN i)).1 else (cfR un sc (vN x) cs (vN i)).2) else -3) else -2) else -1, A)
theorem cfN_le {un sc x i : Nat} {cs : List Nat} (hx : x ≤ 10) (hi : i ≤ cs.length) : cfN un sc x cs i ≤ 10 ^ nsh (cs.take i) := by
  have h := wts_sum (un := un) (sc := sc) hx (cs := cs) i hi
  unfold cfN wP
  split <;> omega
theorem p10_le {n : Nat} (h : n ≤ 9) : 10 ^ n ≤ 1000000000 := Nat.le_trans (Nat.pow_le_pow_right (by decide) h) (Nat.le_of_ble_eq_true rfl)
theorem p2_le {n : Nat} (h : n ≤ 9) : 2 ^ n ≤ 512 := Nat.le_trans (Nat.pow_le_pow_right (by decide) h) (Nat.le_of_ble_eq_true rfl)
/-- the reference's sum is the class's weight -/
theorem cf_sum {un sc x i : Nat} {cs : List Nat} (hx : x ≤ 10) (hsc : sc ≤ 1) (hi : i ≤ cs.length) : sumN (wF un x sc (cs.take i) (cBu un 0 (sc, 0) (cs.take i)).1) (2 ^ nsh (cs.take i)) = cfN un sc x cs i := by
  obtain ⟨h0, h1⟩ := wR_eq (un := un) hx hsc (cs := cs) i hi
  rw [cBu_0]
  show sumN (wF un x sc (cs.take i) (cAt un sc cs i)) _ = _
  unfold cfN wP
  have hle := cAt_le (un := un) (cs := cs) (i := i) hsc
  rcases (show cAt un sc cs i = 0 ∨ cAt un sc cs i = 1 by omega) with e | e
  · rw [e]; exact h0
  · rw [e]; exact h1
theorem nsh_le : ∀ L : List Nat, nsh L ≤ L.length
  | [] => Nat.le_refl _
  | c :: t => by
    have := nsh_le t
    simp only [nsh, List.length_cons]
    split <;> omega
