/-! a generator for each power of an odd prime up to 50001: found by trial, by the kernel -/
def lpB (f : Nat → Bool → Bool) (n : Nat) : Bool := Nat.rec true (fun k ih => f k ih) n
/-- d, d + 1, .. up to the root: no divisor (n odd) -/
def trB (n : Nat) : Bool := lpB (fun k ih => cond (Nat.blt n ((226 - k) * (226 - k))) true (cond (Nat.beq (n % (226 - k)) 0) false ih)) 224
theorem trB_spec {n : Nat} (hn : n < 51000) (ho : n % 2 = 1) (hp : Pr n) : trB n = true := by
  unfold trB
  have key : ∀ j, j ≤ 224 → lpB (fun k ih => cond (Nat.blt n ((226 - k) * (226 - k))) true (cond (Nat.beq (n % (226 - k)) 0) false ih)) j = true := by
    intro j
    induction j with
    | zero => intro _; rfl
    | succ j ih =>
      intro hj
      show cond (Nat.blt n ((226 - j) * (226 - j))) true (cond (Nat.beq (n % (226 - j)) 0) false (lpB _ j)) = true
      cases h1 : Nat.blt n ((226 - j) * (226 - j)) with
      | true => rfl
      | false =>
        have h2 : ¬ n < (226 - j) * (226 - j) := fun h => by
          rw [Nat.blt_eq.mpr h] at h1; cases h1
        cases h3 : Nat.beq (n % (226 - j)) 0 with
        | true =>
          exfalso
          exact not_pr_of (p := 226 - j) (by omega) (by omega) (Nat.dvd_of_mod_eq_zero (Nat.eq_of_beq_eq_true h3)) hp
        | false => exact ih (by omega)
  exact key 224 (by omega)
/-- by r = 1, 2, .. up to the root of m: neither the power of m / r nor that of r is one -/
def orB (q m g : Nat) : Bool := lpB (fun k ih => cond (Nat.blt m ((225 - k) * (225 - k))) true (cond (Nat.beq (m % (225 - k)) 0) (cond (Nat.beq (g ^ (225 - k) % q) 1) false (cond (Nat.beq (225 - k) 1) ih (cond (Nat.beq (g ^ (m / (225 - k)) % q) 1) false ih))) ih)) 225
theorem orB_spec {q m g : Nat} (hq : 2 ≤ q) (hm : m < 50625) (hm1 : 2 ≤ m) (h1 : g ^ m % q = 1) (h : orB q m g = true) : IsOrd q g m := by
  have hq1 : 1 % q = 1 := Nat.mod_eq_of_lt hq
  -- what the loop has looked at
  have key : ∀ j, lpB (fun k ih => cond (Nat.blt m ((225 - k) * (225 - k))) true (cond (Nat.beq (m % (225 - k)) 0) (cond (Nat.beq (g ^ (225 - k) % q) 1) false (cond (Nat.beq (225 - k) 1) ih (cond (Nat.beq (g ^ (m / (225 - k)) % q) 1) false ih))) ih)) j = true → j ≤ 225 → ∀ r, 226 - j ≤ r → r ≤ 225 → r * r ≤ m → m % r = 0 → ¬ g ^ r % q = 1 ∧ (2 ≤ r → ¬ g ^ (m / r) % q = 1) := by
    intro j
    induction j with
    | zero => intro _ _ r h1 h2; omega
    | succ j ih =>
      intro hj hle r h2 h3 h4 h5
      change cond (Nat.blt m ((225 - j) * (225 - j))) true (cond (Nat.beq (m % (225 - j)) 0) (cond (Nat.beq (g ^ (225 - j) % q) 1) false (cond (Nat.beq (225 - j) 1) (lpB _ j) (cond (Nat.beq (g ^ (m / (225 - j)) % q) 1) false (lpB _ j)))) (lpB _ j)) = true at hj
      cases c1 : Nat.blt m ((225 - j) * (225 - j)) with
      | true =>
        exfalso
        have h6 : m < (225 - j) * (225 - j) := Nat.blt_eq.mp c1
        have h7 : (225 - j) * (225 - j) ≤ r * r := Nat.mul_le_mul (by omega) (by omega)
        omega
      | false =>
        rw [c1] at hj
        change cond (Nat.beq (m % (225 - j)) 0) (cond (Nat.beq (g ^ (225 - j) % q) 1) false (cond (Nat.beq (225 - j) 1) (lpB _ j) (cond (Nat.beq (g ^ (m / (225 - j)) % q) 1) false (lpB _ j)))) (lpB _ j) = true at hj
        cases c2 : Nat.beq (m % (225 - j)) 0 with
        | false =>
          rw [c2] at hj
          have hne : r ≠ 225 - j := fun e => by
            rw [← e, h5] at c2; cases c2
          exact ih hj (by omega) r (by omega) h3 h4 h5
        | true =>
          rw [c2] at hj
          change cond (Nat.beq (g ^ (225 - j) % q) 1) false (cond (Nat.beq (225 - j) 1) (lpB _ j) (cond (Nat.beq (g ^ (m / (225 - j)) % q) 1) false (lpB _ j))) = true at hj
          cases c3 : Nat.beq (g ^ (225 - j) % q) 1 with
          | true => rw [c3] at hj; cases hj
          | false =>
            rw [c3] at hj
            change cond (Nat.beq (225 - j) 1) (lpB _ j) (cond (Nat.beq (g ^ (m / (225 - j)) % q) 1) false (lpB _ j)) = true at hj
            have n3 : ¬ g ^ (225 - j) % q = 1 := fun e => by rw [e] at c3; cases c3
            cases c4 : Nat.beq (225 - j) 1 with
            | true =>
              rw [c4] at hj
              have e1 : 225 - j = 1 := Nat.eq_of_beq_eq_true c4
              by_cases hr : r = 225 - j
              · rw [hr]; exact ⟨n3, fun h => by omega⟩
              · exact ih hj (by omega) r (by omega) h3 h4 h5
            | false =>
              rw [c4] at hj
              change cond (Nat.beq (g ^ (m / (225 - j)) % q) 1) false (lpB _ j) = true at hj
              cases c5 : Nat.beq (g ^ (m / (225 - j)) % q) 1 with
              | true => rw [c5] at hj; cases hj
              | false =>
                rw [c5] at hj
                have n5 : ¬ g ^ (m / (225 - j)) % q = 1 := fun e => by rw [e] at c5; cases c5
                by_cases hr : r = 225 - j
                · rw [hr]; exact ⟨n3, fun _ => n5⟩
                · exact ih hj (by omega) r (by omega) h3 h4 h5
  have all := key 225 h (by omega)
  have hc : Nat.Coprime q g := cop_of_pow (k := m) (by omega) (by rw [h1, hq1])
  obtain ⟨e, he, -⟩ := ord_ex (by omega) hc
  have hd : e ∣ m := ord_dvd he (by rw [h1, hq1])
  obtain ⟨k, hk⟩ := hd
  have he1 : g ^ e % q = 1 := by rw [he.2.1, hq1]
  by_cases hk1 : k = 1
  · rw [hk1, Nat.mul_one] at hk; rw [hk]; exact he
  · exfalso
    have hk0 : k ≠ 0 := fun z => by rw [z, Nat.mul_zero] at hk; omega
    have e0 := he.1
    rcases Nat.le_total e k with hl | hl
    · have s1 : e * e ≤ m := by rw [hk]; exact Nat.mul_le_mul_left e hl
      have s2 : e ≤ 225 := by
        apply Classical.byContradiction
        intro hc2
        have : 226 * 226 ≤ e * e := Nat.mul_le_mul (by omega) (by omega)
        omega
      exact (all e (by omega) s2 s1 (by rw [hk]; exact Nat.mul_mod_right e k)).1 he1
    · have s1 : k * k ≤ m := by rw [hk]; exact Nat.mul_le_mul_right k hl
      have s2 : k ≤ 225 := by
        apply Classical.byContradiction
        intro hc2
        have : 226 * 226 ≤ k * k := Nat.mul_le_mul (by omega) (by omega)
        omega
      have s3 : m / k = e := by rw [hk]; exact Nat.mul_div_cancel e (by omega)
      have := (all k (by omega) s2 s1 (by rw [hk]; exact Nat.mul_mod_left e k)).2 (by omega)
      rw [s3] at this
      exact this he1
/-- one of these generates -/
def gnB (q m : Nat) : Bool := [2, 3, 5, 6, 7, 10, 11, 13, 14, 15, 17, 19, 21, 22, 23, 26, 29, 31, 34, 35, 37, 38, 39, 41, 43, 46, 47, 51, 53, 58, 59, 61, 62, 66, 67, 69, 71, 73].any (fun g => cond (Nat.beq (g ^ m % q) 1) (orB q m g) false)
theorem gnB_spec {q m : Nat} (hq : 2 ≤ q) (hm : m < 50625) (hm1 : 2 ≤ m) (h : gnB q m = true) : ∃ g, IsOrd q g m := by
  obtain ⟨g, -, hg⟩ := List.any_eq_true.mp h
  cases c : Nat.beq (g ^ m % q) 1 with
  | true =>
    rw [c] at hg
    exact ⟨g, orB_spec hq hm hm1 (Nat.eq_of_beq_eq_true c) hg⟩
  | false => rw [c] at hg; cases hg
/-- the odd numbers 2 k + 3 for k from lo on, n of them -/
def chB (lo n : Nat) : Bool := lpB (fun k ih => cond (trB (2 * (lo + k) + 3)) (cond (gnB (2 * (lo + k) + 3) (2 * (lo + k) + 2)) ih false) ih) n
theorem chB_spec {lo : Nat} : ∀ {n : Nat}, chB lo n = true → ∀ k, k < n → trB (2 * (lo + k) + 3) = true → gnB (2 * (lo + k) + 3) (2 * (lo + k) + 2) = true
  | 0, _, k, hk, _ => absurd hk (Nat.not_lt_zero k)
  | n + 1, h, k, hk, ht => by
    change cond (trB (2 * (lo + n) + 3)) (cond (gnB (2 * (lo + n) + 3) (2 * (lo + n) + 2)) (chB lo n) false) (chB lo n) = true at h
    cases c1 : trB (2 * (lo + n) + 3) with
    | false =>
      rw [c1] at h
      by_cases e : k = n
      · subst e; rw [c1] at ht; cases ht
      · exact chB_spec h k (by omega) ht
    | true =>
      rw [c1] at h
      change cond (gnB (2 * (lo + n) + 3) (2 * (lo + n) + 2)) (chB lo n) false = true at h
      cases c2 : gnB (2 * (lo + n) + 3) (2 * (lo + n) + 2) with
      | false => rw [c2] at h; cases h
      | true =>
        rw [c2] at h
        by_cases e : k = n
        · subst e; exact c2
        · exact chB_spec h k (by omega) ht
theorem ch_0 : chB 0 2500 = true := by decide +kernel
theorem ch_1 : chB 2500 2500 = true := by decide +kernel
theorem ch_2 : chB 5000 2500 = true := by decide +kernel
theorem ch_3 : chB 7500 2500 = true := by decide +kernel
theorem ch_4 : chB 10000 2500 = true := by decide +kernel
theorem ch_5 : chB 12500 2500 = true := by decide +kernel
theorem ch_6 : chB 15000 2500 = true := by decide +kernel
theorem ch_7 : chB 17500 2500 = true := by decide +kernel
theorem ch_8 : chB 20000 2500 = true := by decide +kernel
theorem ch_9 : chB 22500 2500 = true := by decide +kernel
theorem pr_gen {p : Nat} (hp : Pr p) (ho : p % 2 = 1) (hb : p ≤ 50001) : ∃ g, IsOrd p g (p - 1) := by
  have h2 := hp.1
  have h3 : 3 ≤ p := by omega
  have ht := trB_spec (by omega) ho hp
  have key : ∀ lo k, chB lo 2500 = true → k < 2500 → p = 2 * (lo + k) + 3 → ∃ g, IsOrd p g (p - 1) := by
    intro lo k hc hk he
    have h := chB_spec hc k hk (by rw [← he]; exact ht)
    rw [← he, show 2 * (lo + k) + 2 = p - 1 by omega] at h
    exact gnB_spec h2 (by omega) (by omega) h
  obtain ⟨j, hj⟩ : ∃ j, p = 2 * j + 3 := ⟨(p - 3) / 2, by omega⟩
  rcases (show j < 2500 ∨ (2500 ≤ j ∧ j < 5000) ∨ (5000 ≤ j ∧ j < 7500) ∨ (7500 ≤ j ∧ j < 10000) ∨ (10000 ≤ j ∧ j < 12500) ∨ (12500 ≤ j ∧ j < 15000) ∨ (15000 ≤ j ∧ j < 17500) ∨ (17500 ≤ j ∧ j < 20000) ∨ (20000 ≤ j ∧ j < 22500) ∨ (22500 ≤ j ∧ j < 25000) by omega) with h | h | h | h | h | h | h | h | h | h
  · exact key 0 j ch_0 (by omega) (by omega)
  · exact key 2500 (j - 2500) ch_1 (by omega) (by omega)
  · exact key 5000 (j - 5000) ch_2 (by omega) (by omega)
  · exact key 7500 (j - 7500) ch_3 (by omega) (by omega)
  · exact key 10000 (j - 10000) ch_4 (by omega) (by omega)
  · exact key 12500 (j - 12500) ch_5 (by omega) (by omega)
  · exact key 15000 (j - 15000) ch_6 (by omega) (by omega)
  · exact key 17500 (j - 17500) ch_7 (by omega) (by omega)
  · exact key 20000 (j - 20000) ch_8 (by omega) (by omega)
  · exact key 22500 (j - 22500) ch_9 (by omega) (by omega)
/-- the powers 2 to 9 of the primes up to 223 -/
def ppB : Bool := lpB (fun k ih => cond (trB (2 * k + 3)) (cond (lpB (fun t jh => cond (Nat.ble ((2 * k + 3) ^ (t + 2)) 50001) (cond (gnB ((2 * k + 3) ^ (t + 2)) ((2 * k + 3) ^ (t + 1) * (2 * k + 2))) jh false) jh) 9) ih false) ih) 112
theorem pp_ok : ppB = true := by decide +kernel
theorem lp_spec2 {c : Nat → Bool} {d : Nat → Bool} : ∀ {n : Nat}, lpB (fun k ih => cond (c k) (cond (d k) ih false) ih) n = true → ∀ k, k < n → c k = true → d k = true
  | 0, _, k, hk, _ => absurd hk (Nat.not_lt_zero k)
  | n + 1, h, k, hk, ht => by
    change cond (c n) (cond (d n) (lpB _ n) false) (lpB _ n) = true at h
    cases c1 : c n with
    | false =>
      rw [c1] at h
      by_cases e : k = n
      · subst e; rw [c1] at ht; cases ht
      · exact lp_spec2 h k (by omega) ht
    | true =>
      rw [c1] at h
      change cond (d n) (lpB _ n) false = true at h
      cases c2 : d n with
      | false => rw [c2] at h; cases h
      | true =>
        rw [c2] at h
        by_cases e : k = n
        · subst e; exact c2
        · exact lp_spec2 h k (by omega) ht
theorem pp_gen {p t : Nat} (hp : Pr p) (ho : p % 2 = 1) (ht : 1 ≤ t) (hb : p ^ t ≤ 50001) : ∃ g, IsOrd (p ^ t) g (p ^ (t - 1) * (p - 1)) := by
  have h2 := hp.1
  by_cases h1 : t = 1
  · subst h1
    rw [Nat.pow_one] at hb
    rw [Nat.pow_one, Nat.sub_self, Nat.pow_zero, Nat.one_mul]
    exact pr_gen hp ho hb
  · obtain ⟨s, rfl⟩ : ∃ s, t = s + 2 := ⟨t - 2, by omega⟩
    have hpp : p ^ 2 ≤ p ^ (s + 2) := Nat.pow_le_pow_right (by omega) (by omega)
    have hp223 : p ≤ 223 := by
      apply Classical.byContradiction
      intro hc
      have : 224 * 224 ≤ p * p := Nat.mul_le_mul (by omega) (by omega)
      rw [Nat.pow_two] at hpp
      omega
    have hs : s < 9 := by
      apply Classical.byContradiction
      intro hc
      have h3 : 3 ^ 11 ≤ p ^ 11 := Nat.pow_le_pow_left (by omega) 11
      have h4 : p ^ 11 ≤ p ^ (s + 2) := Nat.pow_le_pow_right (by omega) (by omega)
      have h5 : (3 : Nat) ^ 11 = 177147 := by decide
      omega
    obtain ⟨k, hk⟩ : ∃ k, p = 2 * k + 3 := ⟨(p - 3) / 2, by omega⟩
    have tr := trB_spec (by omega) ho hp
    have h6 := lp_spec2 pp_ok k (by omega) (by rw [← hk]; exact tr)
    have h7 := lp_spec2 h6 s hs (by rw [← hk]; exact Nat.ble_eq_true_of_le hb)
    rw [← hk, show 2 * k + 2 = p - 1 by omega] at h7
    rw [show s + 2 - 1 = s + 1 by omega]
    have hpos : 1 ≤ p ^ (s + 1) := Nat.pow_pos (by omega)
    have hm : p ^ (s + 1) * (p - 1) ≤ p ^ (s + 2) := by
      rw [Nat.pow_succ p (s + 1)]
      exact Nat.mul_le_mul_left _ (by omega)
    have hm2 : 1 * 2 ≤ p ^ (s + 1) * (p - 1) := Nat.mul_le_mul hpos (by omega)
    have hq2 : 2 ≤ p ^ (s + 2) := by
      have : p * p ≤ p ^ (s + 2) := by rw [← Nat.pow_two]; exact hpp
      have : 2 * 2 ≤ p * p := Nat.mul_le_mul h2 h2
      omega
    exact gnB_spec hq2 (by omega) (by omega) h7
theorem two_gen {t : Nat} (h1 : 3 ≤ t) (h2 : t ≤ 15) : IsOrd (2 ^ t) 5 (2 ^ (t - 2)) := by
  have all : ∀ s, s < 13 → orB (2 ^ (s + 3)) (2 ^ (s + 1)) 5 = true ∧ 5 ^ (2 ^ (s + 1)) % 2 ^ (s + 3) = 1 := by decide +kernel
  obtain ⟨s, rfl⟩ : ∃ s, t = s + 3 := ⟨t - 3, by omega⟩
  obtain ⟨a1, a2⟩ := all s (by omega)
  rw [show s + 3 - 2 = s + 1 by omega]
  have h3 : 2 ^ (s + 1) ≤ 2 ^ 13 := Nat.pow_le_pow_right (by decide) (by omega)
  have h4 : 2 ^ 1 ≤ 2 ^ (s + 1) := Nat.pow_le_pow_right (by decide) (by omega)
  have h5 : 2 ^ 3 ≤ 2 ^ (s + 3) := Nat.pow_le_pow_right (by decide) (by omega)
  exact orB_spec (by omega) (by omega) (by omega) a2 a1
