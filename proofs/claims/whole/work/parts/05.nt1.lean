/-! numbers, plain: primes, congruences, orders -/
def Pr (p : Nat) : Prop := 2 ≤ p ∧ ∀ d, d ∣ p → d = 1 ∨ d = p
theorem pr_cop {p a : Nat} (h : Pr p) (ha : ¬ p ∣ a) : Nat.Coprime p a := by
  rcases h.2 (Nat.gcd p a) (Nat.gcd_dvd_left p a) with e | e
  · exact e
  · exact absurd (e ▸ Nat.gcd_dvd_right p a) ha
theorem pr_dvd_mul {p a b : Nat} (h : Pr p) (hd : p ∣ a * b) : p ∣ a ∨ p ∣ b := by
  by_cases ha : p ∣ a
  · exact Or.inl ha
  · exact Or.inr ((pr_cop h ha).dvd_of_dvd_mul_left hd)
theorem pr_dvd_pow {p a : Nat} (h : Pr p) : ∀ {k : Nat}, p ∣ a ^ k → p ∣ a
  | 0, hd => by
    rw [Nat.pow_zero] at hd
    have := Nat.le_of_dvd (by omega) hd
    have := h.1
    omega
  | k + 1, hd => by
    rw [Nat.pow_succ] at hd
    rcases pr_dvd_mul h hd with q | q
    · exact pr_dvd_pow h q
    · exact q
theorem pr_eq {p q : Nat} (hp : Pr p) (hq : Pr q) (h : p ∣ q) : p = q := by
  rcases hq.2 p h with e | e
  · have := hp.1; omega
  · exact e
theorem pr_ex {n : Nat} (hn : 2 ≤ n) : ∃ p, Pr p ∧ p ∣ n ∧ ∀ j, 2 ≤ j → j ∣ n → p ≤ j := by
  obtain ⟨p, ⟨h1, h2⟩, h3⟩ := pk_least (fun k => 2 ≤ k ∧ k ∣ n) ⟨n, hn, Nat.dvd_refl n⟩
  have h4 : ∀ j, 2 ≤ j → j ∣ n → p ≤ j := fun j a b => Nat.not_lt.mp fun c => h3 j c ⟨a, b⟩
  refine ⟨p, ⟨h1, fun d hd => ?_⟩, h2, h4⟩
  have hp : 0 < p := by omega
  have hle := Nat.le_of_dvd hp hd
  by_cases h : 2 ≤ d
  · exact Or.inr (Nat.le_antisymm hle (h4 d h (Nat.dvd_trans hd h2)))
  · have : d ≠ 0 := fun e => by rw [e] at hd; have := Nat.eq_zero_of_zero_dvd hd; omega
    exact Or.inl (by omega)
/-- by trial: no divisor up to the root -/
theorem pr_trial {n : Nat} (hn : 2 ≤ n) (h : ∀ p, 2 ≤ p → p * p ≤ n → ¬ p ∣ n) : Pr n := by
  obtain ⟨p, hp, hd, hm⟩ := pr_ex hn
  by_cases hs : p * p ≤ n
  · exact absurd hd (h p hp.1 hs)
  · obtain ⟨k, hk⟩ := hd
    by_cases h1 : k = 1
    · rw [h1, Nat.mul_one] at hk; rw [hk]; exact hp
    · exfalso
      have hk0 : k ≠ 0 := fun e => by rw [e, Nat.mul_zero] at hk; omega
      have h2 := hm k (by omega) ⟨p, by rw [hk, Nat.mul_comm]⟩
      exact hs (by rw [hk]; exact Nat.mul_le_mul_left p h2)
theorem not_pr_of {n p : Nat} (h2 : 2 ≤ p) (hs : p * p ≤ n) (hd : p ∣ n) : ¬ Pr n := by
  intro h
  rcases h.2 p hd with e | e
  · omega
  · subst e
    have : p * 2 ≤ p * p := Nat.mul_le_mul_left p h2
    omega
theorem md_cancel {n c x y : Nat} (hc : Nat.Coprime n c) (h : c * x % n = c * y % n) : x % n = y % n := by
  have key : ∀ {x y : Nat}, c * x % n = c * y % n → y ≤ x → x % n = y % n := by
    intro x y h hl
    have h1 : (c * x - c * y) % n = 0 := Nat.sub_mod_eq_zero_of_mod_eq h
    rw [← Nat.mul_sub] at h1
    have h2 : n ∣ x - y := hc.dvd_of_dvd_mul_left (Nat.dvd_of_mod_eq_zero h1)
    obtain ⟨k, hk⟩ := h2
    have : x = y + n * k := by omega
    rw [this, Nat.add_mul_mod_self_left]
  rcases Nat.le_total y x with hl | hl
  · exact key h hl
  · exact (key h.symm hl).symm
theorem md_mul {n a b c d : Nat} (h1 : a % n = b % n) (h2 : c % n = d % n) : a * c % n = b * d % n := by
  rw [Nat.mul_mod, h1, h2, ← Nat.mul_mod]
theorem md_pow {n a b : Nat} (h : a % n = b % n) (k : Nat) : a ^ k % n = b ^ k % n := by
  rw [Nat.pow_mod, h, ← Nat.pow_mod]
theorem md_dvd {m n a b : Nat} (hd : m ∣ n) (h : a % n = b % n) : a % m = b % m := by
  rw [← Nat.mod_mod_of_dvd a hd, h, Nat.mod_mod_of_dvd b hd]
theorem md_iff {n a b : Nat} (hl : b ≤ a) : a % n = b % n ↔ n ∣ a - b := by
  constructor
  · intro h; exact Nat.dvd_of_mod_eq_zero (Nat.sub_mod_eq_zero_of_mod_eq h)
  · rintro ⟨k, hk⟩
    have : a = b + n * k := by omega
    rw [this, Nat.add_mul_mod_self_left]
/-- congruent by both of two that share nothing: by their product -/
theorem md_both {m n a b : Nat} (hc : Nat.Coprime m n) (h1 : a % m = b % m) (h2 : a % n = b % n) : a % (m * n) = b % (m * n) := by
  have key : ∀ {a b : Nat}, b ≤ a → a % m = b % m → a % n = b % n → a % (m * n) = b % (m * n) := by
    intro a b hl h1 h2
    exact (md_iff hl).mpr (hc.mul_dvd_of_dvd_of_dvd ((md_iff hl).mp h1) ((md_iff hl).mp h2))
  rcases Nat.le_total b a with hl | hl
  · exact key hl h1 h2
  · exact (key hl h1.symm h2.symm).symm
theorem md_split {m n a b : Nat} (hc : Nat.Coprime m n) : a % (m * n) = b % (m * n) ↔ a % m = b % m ∧ a % n = b % n :=
  ⟨fun h => ⟨md_dvd (Nat.dvd_mul_right m n) h, md_dvd (Nat.dvd_mul_left n m) h⟩, fun h => md_both hc h.1 h.2⟩
theorem cop_mod {n a : Nat} : Nat.gcd n (a % n) = Nat.gcd n a := by
  rw [Nat.gcd_comm n (a % n), ← Nat.gcd_rec, ]
def IsOrd (n a e : Nat) : Prop := 0 < e ∧ a ^ e % n = 1 % n ∧ ∀ k, 0 < k → k < e → ¬ a ^ k % n = 1 % n
theorem pow_one_mul {n a e : Nat} (h : a ^ e % n = 1 % n) (k : Nat) : a ^ (e * k) % n = 1 % n := by
  rw [Nat.pow_mul]
  have := md_pow h k
  rw [this, Nat.one_pow]
theorem pow_one_dvd {n a e k : Nat} (h : a ^ e % n = 1 % n) (hd : e ∣ k) : a ^ k % n = 1 % n := by
  obtain ⟨q, rfl⟩ := hd
  exact pow_one_mul h q
theorem pow_mod_ord {n a e : Nat} (h : a ^ e % n = 1 % n) (k : Nat) : a ^ k % n = a ^ (k % e) % n := by
  have h1 : a ^ k = a ^ (e * (k / e)) * a ^ (k % e) := by rw [← Nat.pow_add, Nat.div_add_mod]
  rw [h1]
  have := md_mul (pow_one_mul h (k / e)) (rfl : a ^ (k % e) % n = a ^ (k % e) % n)
  rw [this, Nat.one_mul]
theorem ord_dvd {n a e k : Nat} (h : IsOrd n a e) (hk : a ^ k % n = 1 % n) : e ∣ k := by
  apply Nat.dvd_of_mod_eq_zero
  apply Classical.byContradiction
  intro hr
  have h1 := pow_mod_ord h.2.1 k
  rw [hk] at h1
  exact h.2.2 (k % e) (Nat.pos_of_ne_zero hr) (Nat.mod_lt _ h.1) h1.symm
theorem ord_iff {n a e k : Nat} (h : IsOrd n a e) : a ^ k % n = 1 % n ↔ e ∣ k := ⟨ord_dvd h, fun hd => pow_one_dvd h.2.1 hd⟩
theorem ord_of {n a e : Nat} (h : ∀ k, a ^ k % n = 1 % n ↔ e ∣ k) (he : 0 < e) : IsOrd n a e :=
  ⟨he, (h e).mpr (Nat.dvd_refl e), fun k h1 h2 h3 => by
    have := Nat.le_of_dvd h1 ((h k).mp h3)
    omega⟩
theorem ord_one {n a e f : Nat} (h : IsOrd n a e) (h2 : IsOrd n a f) : e = f :=
  Nat.dvd_antisymm (ord_dvd h h2.2.1) (ord_dvd h2 h.2.1)
theorem pow_cop {n a : Nat} (h : Nat.Coprime n a) (k : Nat) : Nat.Coprime n (a ^ k) := h.pow_right k
theorem cop_of_pow {n a k : Nat} (hk : 0 < k) (h : a ^ k % n = 1 % n) : Nat.Coprime n a := by
  have h1 : Nat.gcd n (a ^ k) = 1 := by
    rw [← cop_mod, h, cop_mod]; exact Nat.gcd_one_right n
  have h2 : Nat.Coprime n (a ^ k) := h1
  refine Nat.Coprime.coprime_dvd_right ?_ h2
  obtain ⟨j, rfl⟩ : ∃ j, k = j + 1 := ⟨k - 1, by omega⟩
  rw [Nat.pow_succ]
  exact Nat.dvd_mul_left a (a ^ j)
