/-! words of 64 bits, more -/
theorem wB_low {m : Nat} (hm : m < 64) (j : Nat) : wB (((1 : Int64) <<< ((nI m).toInt64 &&& 63)) - 1) j = decide (j < m) := by
  have h0 := Nat.two_pow_pos m
  have h1 := wb_lt2 hm
  have e : ((1 : Int64) <<< ((nI m).toInt64 &&& 63)) - 1 = lN (2 ^ m - 1) := by
    rw [w_shl1 hm]
    exact lN_sub (b := 1) h0
  unfold wB
  rw [e, uN_lN (by omega), Nat.testBit_two_pow_sub_one]
theorem wB_high {s j : Nat} (hs : s < 64) (hj : j < 64) : wB ((-1 : Int64) <<< ((nI s).toInt64 &&& 63)) j = decide (s ≤ j) := by
  have e0 : (-1 : Int64) = lN (2 ^ 64 - 1) := by decide
  unfold wB
  rw [e0, wb_shl _ hs, uN_lNm, Nat.testBit_mod_two_pow, decide_eq_true hj, Bool.true_and, Nat.testBit_mul_two_pow]
  by_cases h : s ≤ j
  · rw [Nat.testBit_two_pow_sub_one, decide_eq_true (show j ≥ s from h), decide_eq_true (show j - s < 64 by omega)]
    rfl
  · rw [decide_eq_false (show ¬ j ≥ s from h), Bool.false_and]
/-- the lowest bit -/
theorem low_bit {n : Nat} (h : 0 < n) : ∃ t m, n = 2 ^ t * (2 * m + 1) ∧ n.testBit t = true ∧ ∀ j, j < t → n.testBit j = false := by
  obtain ⟨t, q, e, hq⟩ := pp_ex (Nat.le_refl 2) n n h (Nat.le_refl n)
  have hq2 : q % 2 = 1 := by
    rcases Nat.mod_two_eq_zero_or_one q with z | z
    · exact absurd (Nat.dvd_of_mod_eq_zero z) hq
    · exact z
  refine ⟨t, q / 2, by rw [show 2 * (q / 2) + 1 = q by omega]; exact e, ?_, fun j hj => ?_⟩
  · rw [e, Nat.testBit_two_pow_mul, Nat.sub_self, Nat.testBit_zero, hq2]
    simp
  · rw [e, Nat.testBit_two_pow_mul]
    simp
    omega
theorem low_pred {t m j : Nat} : (2 ^ t * (2 * m + 1) - 1).testBit j = if j < t then true else if j = t then false else (2 ^ t * (2 * m + 1)).testBit j := by
  have h0 := Nat.two_pow_pos t
  have e1 : 2 ^ t * (2 * m + 1) - 1 = 2 ^ t * (2 * m) + (2 ^ t - 1) := by rw [Nat.mul_add, Nat.mul_one]; omega
  rw [e1, Nat.testBit_two_pow_mul_add _ (by omega)]
  by_cases h : j < t
  · rw [if_pos h, if_pos h, Nat.testBit_two_pow_sub_one, decide_eq_true h]
  · rw [if_neg h, if_neg h]
    by_cases h2 : j = t
    · rw [if_pos h2, h2, Nat.sub_self, Nat.testBit_zero]
      simp
    · rw [if_neg h2, Nat.testBit_two_pow_mul, decide_eq_true (show j ≥ t by omega), Bool.true_and]
      obtain ⟨i, hi⟩ : ∃ i, j - t = i + 1 := ⟨j - t - 1, by omega⟩
      rw [hi, Nat.testBit_succ, Nat.testBit_succ]
      congr 1
      omega
theorem uN_pred {W : Int64} (h : 0 < uN W) : uN (W - 1) = uN W - 1 := by
  obtain ⟨n, hn, rfl⟩ := wb_of W
  rw [uN_lN hn] at h ⊢
  have : lN n - 1 = lN (n - 1) := lN_sub (b := 1) h
  rw [this, uN_lN (by omega)]
theorem uN_neg {W : Int64} (h : 0 < uN W) : uN (-W) = 2 ^ 64 - uN W := by
  obtain ⟨n, hn, rfl⟩ := wb_of W
  rw [uN_lN hn] at h ⊢
  have e : (-(lN n)).toBitVec = -(BitVec.ofNat 64 n) := rfl
  have e2 : uN (-(lN n)) = (-(BitVec.ofNat 64 n)).toNat := rfl
  rw [e2, BitVec.toNat_neg, BitVec.toNat_ofNat, Nat.mod_eq_of_lt hn, Nat.mod_eq_of_lt (by omega)]
/-- the lowest bit alone; the word without it -/
theorem low_word {W : Int64} (h : ¬ W = 0) : ∃ t, t < 64 ∧ wB W t = true ∧ (∀ j, j < t → wB W j = false) ∧ (W &&& (-W)) - 1 = lN (2 ^ t - 1) ∧ ∀ j, wB (W &&& (W - 1)) j = (decide (t < j) && wB W j) := by
  have hp : 0 < uN W := Nat.pos_of_ne_zero (fun z => h (uN_inj z))
  obtain ⟨t, m, e, ht, hl⟩ := low_bit hp
  have ht64 : t < 64 := Nat.not_le.mp (fun z => by
    have := wB_big (W := W) z
    unfold wB at this
    rw [ht] at this
    exact Bool.noConfusion this)
  have h1 : ∀ j, (uN W - 1).testBit j = if j < t then true else if j = t then false else (uN W).testBit j := fun j => by
    rw [e]; exact low_pred
  have hand : uN (W &&& (-W)) = 2 ^ t := by
    have e2 : uN (W &&& (-W)) = uN W &&& uN (-W) := UInt64.toNat_and _ _
    rw [e2, uN_neg hp]
    apply Nat.eq_of_testBit_eq
    intro j
    have hlt := uN_lt W
    rw [Nat.testBit_and, Nat.testBit_two_pow, show 2 ^ 64 - uN W = 2 ^ 64 - ((uN W - 1) + 1) by omega, Nat.testBit_two_pow_sub_succ (by omega), h1 j]
    by_cases z : j < t
    · rw [hl j z, Bool.false_and, decide_eq_false (by omega)]
    · rw [if_neg z]
      by_cases z2 : j = t
      · rw [if_pos z2, z2, ht, decide_eq_true ht64, decide_eq_true rfl]; rfl
      · rw [if_neg z2, decide_eq_false (show ¬ t = j by omega)]
        cases (uN W).testBit j <;> simp
  refine ⟨t, ht64, ht, hl, ?_, fun j => ?_⟩
  · have h0 := Nat.two_pow_pos t
    have e3 : W &&& (-W) = lN (2 ^ t) := uN_inj (by rw [hand, uN_lN (wb_lt2 ht64)])
    rw [e3]
    exact lN_sub (b := 1) h0
  · rw [wB_and]
    have e4 : wB (W - 1) j = (uN W - 1).testBit j := by unfold wB; rw [uN_pred hp]
    rw [e4, h1 j]
    by_cases z : j < t
    · have : wB W j = false := hl j z
      rw [this, Bool.false_and, Bool.and_false]
    · rw [if_neg z]
      by_cases z2 : j = t
      · rw [if_pos z2, Bool.and_false, decide_eq_false (by omega), Bool.false_and]
      · rw [if_neg z2, decide_eq_true (show t < j by omega), Bool.true_and]
        show (wB W j && wB W j) = wB W j
        exact Bool.and_self _
theorem ct_below {t N : Nat} (h : t ≤ N) : fb_ct (fun j => decide (j < t)) N = t := by
  obtain ⟨d, rfl⟩ : ∃ d, N = t + d := ⟨N - t, by omega⟩
  rw [fb_ct_split, fb_ct_all.mpr (fun k hk => decide_eq_true hk), fb_ct_zero.mpr (fun k hk => decide_eq_false (by omega)), Nat.add_zero]
