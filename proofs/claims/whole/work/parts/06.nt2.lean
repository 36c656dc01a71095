/-! numbers: how many -/
/-- an injection of those of p (below n) into those of q (below m): no more -/
theorem ct_inj {p : Nat → Bool} : ∀ {n m : Nat} {q : Nat → Bool} (f : Nat → Nat), (∀ i, i < n → p i = true → f i < m ∧ q (f i) = true) → (∀ i j, i < n → j < n → p i = true → p j = true → f i = f j → i = j) → fb_ct p n ≤ fb_ct q m
  | 0, _, _, _, _, _ => Nat.zero_le _
  | n + 1, m, q, f, hf, hi => by
    rw [fb_ct_succ]
    by_cases hp : p n = true
    · obtain ⟨h1, h2⟩ := hf n (Nat.lt_succ_self n) hp
      have hu := fb_ct_upd q false h1
      rw [h2] at hu
      have ih : fb_ct p n ≤ fb_ct (fun k => if k = f n then false else q k) m := by
        refine ct_inj f (fun i hin hpi => ?_) (fun i j a b => hi i j (by omega) (by omega))
        obtain ⟨h3, h4⟩ := hf i (by omega) hpi
        refine ⟨h3, ?_⟩
        have hne : ¬ f i = f n := fun e => by
          have := hi i n (by omega) (by omega) hpi hp e
          omega
        simp [hne, h4]
      rw [if_pos rfl, if_neg (by decide)] at hu
      rw [if_pos hp]
      omega
    · rw [if_neg hp]
      exact ct_inj f (fun i a => hf i (by omega)) (fun i j a b => hi i j (by omega) (by omega))
theorem ct_mul_pair (P Q : Nat → Bool) {m : Nat} (hm : 0 < m) : ∀ k, fb_ct (fun c => P (c % m) && Q (c / m)) (m * k) = fb_ct P m * fb_ct Q k
  | 0 => by rw [Nat.mul_zero]; rfl
  | k + 1 => by
    rw [Nat.mul_succ, fb_ct_split, ct_mul_pair P Q hm k, fb_ct_succ]
    have h : fb_ct (fun i => P ((m * k + i) % m) && Q ((m * k + i) / m)) m = fb_ct (fun i => P i && Q k) m := by
      apply fb_ct_cong
      intro i hi
      rw [Nat.mul_add_mod, Nat.mod_eq_of_lt hi, Nat.mul_add_div hm, Nat.div_eq_of_lt hi, Nat.add_zero]
    rw [h]
    by_cases hq : Q k = true
    · rw [if_pos hq, Nat.mul_add, Nat.mul_one]
      congr 1
      apply fb_ct_cong
      intro i _
      rw [hq, Bool.and_true]
    · rw [if_neg hq, Nat.add_zero]
      have h0 : fb_ct (fun i => P i && Q k) m = 0 := fb_ct_zero.mpr (fun i _ => by
        rw [show Q k = false by simpa using hq, Bool.and_false])
      rw [h0, Nat.add_zero]
/-- the pair of rests tells the number -/
theorem crt_inj {m k a b : Nat} (hc : Nat.Coprime m k) (ha : a < m * k) (hb : b < m * k) (h1 : a % m = b % m) (h2 : a % k = b % k) : a = b := by
  have := md_both hc h1 h2
  rwa [Nat.mod_eq_of_lt ha, Nat.mod_eq_of_lt hb] at this
theorem crt_code {m : Nat} (hm : 0 < m) {i j i' j' : Nat} (hi : i < m) (hi' : i' < m) (h : i + m * j = i' + m * j') : i = i' ∧ j = j' := by
  have h1 : (i + m * j) % m = (i' + m * j') % m := by rw [h]
  rw [Nat.add_mul_mod_self_left, Nat.add_mul_mod_self_left, Nat.mod_eq_of_lt hi, Nat.mod_eq_of_lt hi'] at h1
  subst h1
  exact ⟨rfl, Nat.eq_of_mul_eq_mul_left hm (by omega)⟩
theorem crt_lt {m k i j : Nat} (hi : i < m) (hj : j < k) : i + m * j < m * k := by
  have : m * (j + 1) ≤ m * k := Nat.mul_le_mul_left m hj
  rw [Nat.mul_succ] at this
  omega
theorem crt_ex {m k : Nat} (hc : Nat.Coprime m k) (hm : 0 < m) (hk : 0 < k) {i j : Nat} (hi : i < m) (hj : j < k) : ∃ a, a < m * k ∧ a % m = i ∧ a % k = j := by
  obtain ⟨a, h1, h2⟩ := fb_onto (n := m * k) (f := fun a => a % m + m * (a % k)) (fun a _ => crt_lt (Nat.mod_lt a hm) (Nat.mod_lt a hk)) (fun a b hab hb e => by
    obtain ⟨e1, e2⟩ := crt_code hm (Nat.mod_lt a hm) (Nat.mod_lt b hm) e
    have := crt_inj hc (by omega) hb e1 e2
    omega) (crt_lt hi hj)
  obtain ⟨e1, e2⟩ := crt_code hm (Nat.mod_lt a hm) hi h2
  exact ⟨a, h1, e1, e2⟩
/-- how many do by both: the product -/
theorem ct_crt (P Q : Nat → Bool) {m k : Nat} (hc : Nat.Coprime m k) (hm : 0 < m) (hk : 0 < k) : fb_ct (fun a => P (a % m) && Q (a % k)) (m * k) = fb_ct P m * fb_ct Q k := by
  rw [← ct_mul_pair P Q hm k]
  apply Nat.le_antisymm
  · refine ct_inj (fun a => a % m + m * (a % k)) (fun a ha h => ⟨crt_lt (Nat.mod_lt a hm) (Nat.mod_lt a hk), ?_⟩) (fun a b ha hb _ _ e => ?_)
    · rw [Nat.add_mul_mod_self_left, Nat.mod_mod, Nat.add_mul_div_left _ _ hm, Nat.div_eq_of_lt (Nat.mod_lt a hm), Nat.zero_add]
      exact h
    · obtain ⟨e1, e2⟩ := crt_code hm (Nat.mod_lt a hm) (Nat.mod_lt b hm) e
      exact crt_inj hc ha hb e1 e2
  · have hex : ∀ c, c < m * k → ∃ a, a < m * k ∧ a % m = c % m ∧ a % k = c / m := fun c hcl => crt_ex hc hm hk (Nat.mod_lt c hm) (Nat.div_lt_of_lt_mul hcl)
    refine ct_inj (fun c => if h : c < m * k then Classical.choose (hex c h) else 0) (fun c hcl h => ?_) (fun c d h1 h2 _ _ e => ?_)
    · have hs := Classical.choose_spec (hex c hcl)
      simp only [dif_pos hcl]
      refine ⟨hs.1, ?_⟩
      rw [hs.2.1, hs.2.2]
      exact h
    · simp only [dif_pos h1, dif_pos h2] at e
      have s1 := Classical.choose_spec (hex c h1)
      have s2 := Classical.choose_spec (hex d h2)
      rw [e] at s1
      have a1 : c % m = d % m := s1.2.1.symm.trans s2.2.1
      have a2 : c / m = d / m := s1.2.2.symm.trans s2.2.2
      rw [← Nat.div_add_mod c m, ← Nat.div_add_mod d m, a1, a2]
/-- the multiples of s below s d -/
theorem ct_mult {s : Nat} (hs : 0 < s) : ∀ d, fb_ct (fun j => decide (s ∣ j)) (s * d) = d
  | 0 => by rw [Nat.mul_zero]; rfl
  | d + 1 => by
    rw [Nat.mul_succ, fb_ct_split, ct_mult hs d]
    congr 1
    obtain ⟨s', rfl⟩ : ∃ s', s = s' + 1 := ⟨s - 1, by omega⟩
    rw [Nat.add_comm s' 1, fb_ct_split]
    have h1 : fb_ct (fun k => decide (1 + s' ∣ (1 + s') * d + k)) 1 = 1 := by
      rw [fb_ct_succ]
      simp [fb_ct, Nat.dvd_mul_right]
    have h2 : fb_ct (fun k => decide (1 + s' ∣ (1 + s') * d + (1 + k))) s' = 0 := fb_ct_zero.mpr (fun k hk => by
      rw [decide_eq_false_iff_not]
      intro hd
      have h3 : 1 + s' ∣ 1 + k := (Nat.dvd_add_right (Nat.dvd_mul_right _ _)).mp hd
      have := Nat.le_of_dvd (by omega) h3
      omega)
    rw [h1, h2]
/-- how many j below m have m | j e -/
theorem ct_kill {m e : Nat} (hm : 0 < m) : fb_ct (fun j => decide (m ∣ j * e)) m = Nat.gcd e m := by
  have hd : 0 < Nat.gcd e m := Nat.gcd_pos_of_pos_right e hm
  obtain ⟨s, hs⟩ := Nat.gcd_dvd_right e m
  obtain ⟨t, ht⟩ := Nat.gcd_dvd_left e m
  have hs0 : 0 < s := Nat.pos_of_ne_zero fun h => by rw [h, Nat.mul_zero] at hs; omega
  have hco : Nat.Coprime s t := by
    have h1 := Nat.gcd_mul_left (Nat.gcd e m) t s
    rw [← ht, ← hs] at h1
    have h2 : Nat.gcd e m * 1 = Nat.gcd e m * Nat.gcd t s := by rw [← h1, Nat.mul_one]
    have h3 := Nat.eq_of_mul_eq_mul_left hd h2
    exact (Nat.gcd_comm s t).trans h3.symm
  have h4 : fb_ct (fun j => decide (m ∣ j * e)) m = fb_ct (fun j => decide (s ∣ j)) (s * Nat.gcd e m) := by
    have hm2 : m = s * Nat.gcd e m := by rw [Nat.mul_comm]; exact hs
    rw [← hm2]
    apply fb_ct_cong
    intro j _
    apply decide_eq_decide.mpr
    constructor
    · intro h
      have h5 : Nat.gcd e m * s ∣ Nat.gcd e m * (j * t) := by
        rw [← hs, Nat.mul_left_comm, ← ht]; exact h
      exact hco.dvd_of_dvd_mul_right (Nat.dvd_of_mul_dvd_mul_left hd h5)
    · rintro ⟨q, rfl⟩
      exact ⟨q * t, by
        have a1 : e = Nat.gcd e m * t := ht
        have a2 : m = Nat.gcd e m * s := hs
        calc s * q * e = s * q * (Nat.gcd e m * t) := by rw [← a1]
          _ = Nat.gcd e m * s * (q * t) := by
            rw [Nat.mul_comm (s * q), Nat.mul_assoc, Nat.mul_left_comm t, Nat.mul_assoc, Nat.mul_comm t q]
          _ = m * (q * t) := by rw [← a2]⟩
  rw [h4, ct_mult hs0]
/-- a unit's powers come to one -/
theorem ord_ex {n a : Nat} (hn : 0 < n) (hc : Nat.Coprime n a) : ∃ e, IsOrd n a e ∧ e ≤ n := by
  obtain ⟨i, j, h1, h2, h3⟩ := fb_twice (m := n) (n := n + 1) (f := fun i => a ^ i % n) (fun i _ => Nat.mod_lt _ hn) (Nat.lt_succ_self n)
  have h4 : a ^ (j - i) % n = 1 % n := by
    apply md_cancel (pow_cop hc i)
    rw [← Nat.pow_add, Nat.mul_one, Nat.add_sub_cancel' (by omega)]
    exact h3.symm
  obtain ⟨e, ⟨k1, k2⟩, k3⟩ := pk_least (fun e => 0 < e ∧ a ^ e % n = 1 % n) ⟨j - i, by omega, h4⟩
  refine ⟨e, ⟨k1, k2, fun k a1 a2 a3 => k3 k a2 ⟨a1, a3⟩⟩, ?_⟩
  have : ¬ (j - i) < e := fun h => k3 _ h ⟨by omega, h4⟩
  omega
