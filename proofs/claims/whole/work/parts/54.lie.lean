/-! who lies to two: few, by the kernel -/
theorem trB_conv {n : Nat} (h3 : 3 ≤ n) (hn : n < 51000) (ho : n % 2 = 1) (h : trB n = true) : Pr n := by
  have key : ∀ j, lpB (fun k ih => cond (Nat.blt n ((226 - k) * (226 - k))) true (cond (Nat.beq (n % (226 - k)) 0) false ih)) j = true → j ≤ 224 → ∀ q, 227 - j ≤ q → q ≤ 226 → q * q ≤ n → ¬ q ∣ n := by
    intro j
    induction j with
    | zero => intro _ _ q h1 h2; omega
    | succ j ih =>
      intro hj hle q h1 h2 h4 h5
      change cond (Nat.blt n ((226 - j) * (226 - j))) true (cond (Nat.beq (n % (226 - j)) 0) false (lpB _ j)) = true at hj
      cases c1 : Nat.blt n ((226 - j) * (226 - j)) with
      | true =>
        have h6 : n < (226 - j) * (226 - j) := Nat.blt_eq.mp c1
        have h7 : (226 - j) * (226 - j) ≤ q * q := Nat.mul_le_mul (by omega) (by omega)
        omega
      | false =>
        rw [c1] at hj
        change cond (Nat.beq (n % (226 - j)) 0) false (lpB _ j) = true at hj
        cases c2 : Nat.beq (n % (226 - j)) 0 with
        | true => rw [c2] at hj; cases hj
        | false =>
          rw [c2] at hj
          by_cases e : q = 226 - j
          · rw [← e, Nat.mod_eq_zero_of_dvd h5] at c2; cases c2
          · exact ih hj (by omega) q (by omega) h2 h4 h5
  refine pr_trial (by omega) (fun p hp hpp hd => ?_)
  have hp226 : p ≤ 226 := Nat.not_lt.mp fun hb => by
    have := Nat.mul_le_mul (show 227 ≤ p by omega) (show 227 ≤ p by omega)
    omega
  by_cases e : p = 2
  · subst e
    have := Nat.mod_eq_zero_of_dvd hd
    omega
  · exact key 224 h (by omega) p (by omega) hp226 hpp hd
theorem strong_level {n a k : Nat} (hn : 3 ≤ n) (h : Strong n a) (hd : 2 ^ (k + 1) ∣ n - 1) (h1 : a ^ ((n - 1) / 2 ^ k) % n = 1) : a ^ ((n - 1) / 2 ^ (k + 1)) % n = 1 ∨ a ^ ((n - 1) / 2 ^ (k + 1)) % n = n - 1 := by
  obtain ⟨s, d, ⟨e1, e2⟩, h⟩ := h
  have h1n : 1 % n = 1 := Nat.mod_eq_of_lt (by omega)
  have hks : k + 1 ≤ s := by
    refine Nat.not_lt.mp fun q => ?_
    have h3 : 2 ^ (s + 1) ∣ 2 ^ s * d := by
      rw [← e1]
      exact Nat.dvd_trans (Nat.pow_dvd_pow 2 (by omega)) hd
    rw [Nat.pow_succ] at h3
    have h4 := Nat.dvd_of_mul_dvd_mul_left (Nat.two_pow_pos s) h3
    have := Nat.mod_eq_zero_of_dvd h4
    omega
  have q : ∀ j, j ≤ s → (n - 1) / 2 ^ j = 2 ^ (s - j) * d := fun j hj => by
    rw [e1, show 2 ^ s * d = 2 ^ j * (2 ^ (s - j) * d) by rw [← Nat.mul_assoc, ← Nat.pow_add]; congr 2; omega, Nat.mul_div_cancel_left _ (Nat.two_pow_pos j)]
  rw [q (k + 1) hks]
  rw [q k (by omega)] at h1
  rcases h with h | ⟨r, r1, r2⟩
  · left
    rw [← h1n]
    exact pow_one_dvd (by rw [h, h1n]) (Nat.dvd_mul_left d _)
  · have hsq : a ^ (2 ^ (r + 1) * d) % n = 1 % n := by
      rw [← sq_step, r2, ← Nat.pow_two, neg_pow (by omega), h1n]
      rfl
    by_cases c1 : r < s - (k + 1)
    · left
      rw [← h1n]
      exact pow_one_dvd hsq (Nat.mul_dvd_mul_right (Nat.pow_dvd_pow 2 (by omega)) d)
    · by_cases c2 : r = s - (k + 1)
      · right
        rw [← c2]; exact r2
      · exfalso
        have : a ^ (2 ^ r * d) % n = 1 % n := pow_one_dvd (by rw [h1, h1n]) (Nat.mul_dvd_mul_right (Nat.pow_dvd_pow 2 (by omega)) d)
        rw [r2, h1n] at this
        omega
theorem strong_fermat {n a : Nat} (hn : 3 ≤ n) (h : Strong n a) : a ^ (n - 1) % n = 1 := by
  obtain ⟨s, d, ⟨e1, e2⟩, h⟩ := h
  have h1n : 1 % n = 1 := Nat.mod_eq_of_lt (by omega)
  rw [e1, ← h1n]
  rcases h with h | ⟨r, r1, r2⟩
  · exact pow_one_dvd (by rw [h, h1n]) (Nat.dvd_mul_left d _)
  · have hsq : a ^ (2 ^ (r + 1) * d) % n = 1 % n := by
      rw [← sq_step, r2, ← Nat.pow_two, neg_pow (by omega), h1n]
      rfl
    exact pow_one_dvd hsq (Nat.mul_dvd_mul_right (Nat.pow_dvd_pow 2 (by omega)) d)
def lvB (n k : Nat) (ih : Bool) : Bool := cond (Nat.beq ((n - 1) % k) 0) (cond (Nat.beq (2 ^ ((n - 1) / k) % n) (n - 1)) true (cond (Nat.beq (2 ^ ((n - 1) / k) % n) 1) ih false)) true
theorem lvB_of {n k : Nat} {ih : Bool} (hn : 3 ≤ n) (h : Strong n 2) (h1 : 2 ^ ((n - 1) / 2 ^ k) % n = 1) (hi : 2 ^ ((n - 1) / 2 ^ (k + 1)) % n = 1 → ih = true) : lvB n (2 ^ (k + 1)) ih = true := by
  unfold lvB
  cases c1 : Nat.beq ((n - 1) % 2 ^ (k + 1)) 0 with
  | false => rfl
  | true =>
    have hd : 2 ^ (k + 1) ∣ n - 1 := Nat.dvd_of_mod_eq_zero (Nat.eq_of_beq_eq_true c1)
    show cond (Nat.beq (2 ^ ((n - 1) / 2 ^ (k + 1)) % n) (n - 1)) true (cond (Nat.beq (2 ^ ((n - 1) / 2 ^ (k + 1)) % n) 1) ih false) = true
    rcases strong_level hn h hd h1 with q | q
    · rw [q, hi q]
      cases Nat.beq 1 (n - 1) <;> rfl
    · rw [q, show Nat.beq (n - 1) (n - 1) = true from Nat.beq_eq ▸ rfl]
      rfl
def liB (n : Nat) : Bool := cond (Nat.beq (2 ^ (n - 1) % n) 1) (cond (lvB n 2 (lvB n 4 (lvB n 8 true))) (cond (trB n) false true) false) false
theorem liB_of {n : Nat} (hn : 3 ≤ n) (hb : n < 51000) (ho : n % 2 = 1) (h : Strong n 2) (hp : ¬ Pr n) : liB n = true := by
  have h0 := strong_fermat hn h
  unfold liB
  rw [h0, show Nat.beq 1 1 = true from rfl]
  show cond (lvB n 2 (lvB n 4 (lvB n 8 true))) (cond (trB n) false true) false = true
  have e : lvB n 2 (lvB n 4 (lvB n 8 true)) = true := by
    refine lvB_of (k := 0) hn h (by rw [Nat.pow_zero, Nat.div_one]; exact h0) (fun q1 => ?_)
    refine lvB_of (k := 1) hn h q1 (fun q2 => ?_)
    exact lvB_of (k := 2) hn h q2 (fun _ => rfl)
  rw [e]
  show cond (trB n) false true = true
  cases c : trB n with
  | true => exact absurd (trB_conv hn hb ho c) hp
  | false => rfl
def liC (lo n : Nat) : Nat := Nat.rec 0 (fun k ih => cond (liB (2 * (lo + k) + 3)) (ih + 1) ih) n
theorem li_0 : Nat.ble (liC 0 2500) 6 = true := by decide +kernel
theorem li_1 : Nat.ble (liC 2500 2500) 1 = true := by decide +kernel
theorem li_2 : Nat.ble (liC 5000 2500) 1 = true := by decide +kernel
theorem li_3 : Nat.ble (liC 7500 2500) 1 = true := by decide +kernel
theorem li_4 : Nat.ble (liC 10000 2500) 0 = true := by decide +kernel
theorem li_5 : Nat.ble (liC 12500 2500) 2 = true := by decide +kernel
theorem li_6 : Nat.ble (liC 15000 2500) 2 = true := by decide +kernel
theorem li_7 : Nat.ble (liC 17500 2500) 1 = true := by decide +kernel
theorem li_8 : Nat.ble (liC 20000 2500) 1 = true := by decide +kernel
theorem li_9 : Nat.ble (liC 22500 2500) 1 = true := by decide +kernel
/-- who is no prime, but looks strongly so to all up to k -/
def FooledP (k n : Nat) : Prop := ¬ Pr n ∧ ∀ a, 2 ≤ a → a ≤ k → Strong n a
noncomputable def FoolB (k x : Nat) : Bool := cb (x % 2 = 1 ∧ 3 ≤ x ∧ FooledP k x)
theorem fool_step (lo : Nat) : ∀ n, lo + n ≤ 25000 → fb_ct (FoolB 2) (2 * (lo + n) + 3) ≤ fb_ct (FoolB 2) (2 * lo + 3) + liC lo n
  | 0, _ => Nat.le_refl _
  | n + 1, hb => by
    have ih := fool_step lo n (by omega)
    have e : 2 * (lo + (n + 1)) + 3 = 2 * (lo + n) + 3 + 1 + 1 := by omega
    rw [e, fb_ct_succ, fb_ct_succ]
    have ev : FoolB 2 (2 * (lo + n) + 3 + 1) = false := cb_f (fun q => by have := q.1; omega)
    rw [ev]
    show fb_ct (FoolB 2) (2 * (lo + n) + 3) + (if FoolB 2 (2 * (lo + n) + 3) = true then 1 else 0) + 0 ≤ fb_ct (FoolB 2) (2 * lo + 3) + cond (liB (2 * (lo + n) + 3)) (liC lo n + 1) (liC lo n)
    by_cases q : FoolB 2 (2 * (lo + n) + 3) = true
    · obtain ⟨q1, q2, q3, q4⟩ := cb_of q
      rw [if_pos q, liB_of q2 (by omega) q1 (q4 2 (by omega) (by omega)) q3]
      show _ ≤ _ + (liC lo n + 1)
      omega
    · rw [if_neg q]
      have : liC lo n ≤ cond (liB (2 * (lo + n) + 3)) (liC lo n + 1) (liC lo n) := by
        cases liB (2 * (lo + n) + 3) with
        | true => exact Nat.le_succ _
        | false => exact Nat.le_refl _
      omega
theorem fool_small {x : Nat} (h : x < 9) : FoolB 2 x = false := by
  refine cb_f (fun ⟨q1, q2, q3, _⟩ => q3 ?_)
  refine pr_trial (by omega) (fun p hp hpp hd => ?_)
  have : p < 3 := Nat.not_le.mp fun hb => by
    have := Nat.mul_le_mul hb hb
    omega
  have : p = 2 := by omega
  subst this
  have := Nat.mod_eq_zero_of_dvd hd
  omega
theorem fool_few : fb_ct (FoolB 2) 50002 ≤ 16 := by
  have h0 := fool_step 0 2500 (by omega)
  have h1 := fool_step 2500 2500 (by omega)
  have h2 := fool_step 5000 2500 (by omega)
  have h3 := fool_step 7500 2500 (by omega)
  have h4 := fool_step 10000 2500 (by omega)
  have h5 := fool_step 12500 2500 (by omega)
  have h6 := fool_step 15000 2500 (by omega)
  have h7 := fool_step 17500 2500 (by omega)
  have h8 := fool_step 20000 2500 (by omega)
  have h9 := fool_step 22500 2500 (by omega)
  have hz : fb_ct (FoolB 2) 3 = 0 := fb_ct_zero.mpr (fun k hk => fool_small (by omega))
  have k0 := Nat.le_of_ble_eq_true li_0
  have k1 := Nat.le_of_ble_eq_true li_1
  have k2 := Nat.le_of_ble_eq_true li_2
  have k3 := Nat.le_of_ble_eq_true li_3
  have k4 := Nat.le_of_ble_eq_true li_4
  have k5 := Nat.le_of_ble_eq_true li_5
  have k6 := Nat.le_of_ble_eq_true li_6
  have k7 := Nat.le_of_ble_eq_true li_7
  have k8 := Nat.le_of_ble_eq_true li_8
  have k9 := Nat.le_of_ble_eq_true li_9
  generalize liC 0 2500 = c0 at *
  generalize liC 2500 2500 = c1 at *
  generalize liC 5000 2500 = c2 at *
  generalize liC 7500 2500 = c3 at *
  generalize liC 10000 2500 = c4 at *
  generalize liC 12500 2500 = c5 at *
  generalize liC 15000 2500 = c6 at *
  generalize liC 17500 2500 = c7 at *
  generalize liC 20000 2500 = c8 at *
  generalize liC 22500 2500 = c9 at *
  have hm := fb_ct_mono (FoolB 2) (show 50002 ≤ 2 * (22500 + 2500) + 3 by omega)
  have e0 : 2 * (0 + 2500) + 3 = 2 * 2500 + 3 := rfl
  have e1 : 2 * (2500 + 2500) + 3 = 2 * 5000 + 3 := rfl
  have e2 : 2 * (5000 + 2500) + 3 = 2 * 7500 + 3 := rfl
  have e3 : 2 * (7500 + 2500) + 3 = 2 * 10000 + 3 := rfl
  have e4 : 2 * (10000 + 2500) + 3 = 2 * 12500 + 3 := rfl
  have e5 : 2 * (12500 + 2500) + 3 = 2 * 15000 + 3 := rfl
  have e6 : 2 * (15000 + 2500) + 3 = 2 * 17500 + 3 := rfl
  have e7 : 2 * (17500 + 2500) + 3 = 2 * 20000 + 3 := rfl
  have e8 : 2 * (20000 + 2500) + 3 = 2 * 22500 + 3 := rfl
  rw [e0] at h0
  rw [e1] at h1
  rw [e2] at h2
  rw [e3] at h3
  rw [e4] at h4
  rw [e5] at h5
  rw [e6] at h6
  rw [e7] at h7
  rw [e8] at h8
  have hz : fb_ct (FoolB 2) (2 * 0 + 3) = 0 := hz
  omega
/-- two rows of counts, the one within the other -/
theorem ct_flat {p q : Nat → Bool} {X Y : Nat} (h : X ≤ Y) (e : fb_ct q X = fb_ct q Y) (hs : ∀ z, p z = true → q z = true) : fb_ct p X = fb_ct p Y := by
  obtain ⟨d, rfl⟩ : ∃ d, Y = X + d := ⟨Y - X, by omega⟩
  rw [fb_ct_split] at e
  have h0 : fb_ct (fun k => q (X + k)) d = 0 := by omega
  have h1 := fb_ct_zero.mp h0
  have h2 : fb_ct (fun k => p (X + k)) d = 0 := fb_ct_zero.mpr (fun k hk => by
    cases c : p (X + k) with
    | false => rfl
    | true => exact absurd (h1 k hk) (by rw [hs _ c]; decide))
  rw [fb_ct_split, h2, Nat.add_zero]
/-- the loop that counts odd ones and tells the i-th -/
theorem ith_odd {J : Int32 → Int32 → Prop} {post : Int32 → Prop} {p : Nat → Bool} {N lo : Nat} {i : Int32} (hN : N < 1000000) (hlo : lo ≤ N + 1) (hodd : lo % 2 = 1) (hi : -1 ≤ i.toInt) (h0 : fb_ct p lo = 0) (hev : ∀ k, k % 2 = 0 → p k = false) (hpost : ∀ r, Ith p N i r → post r)
    (hend : ∀ f k, N ≤ k → k ≤ N + 1 → (i = -1 → post (nI f)) → (¬ i = -1 → post (-4)) → J (nI f) (nI k))
    (hstep : ∀ f k, f ≤ k → lo ≤ k → k < N → k % 2 = 1 → (p k = false → J (nI f) (nI (k + 2))) → (p k = true → nI f = i → post (nI k)) → (p k = true → ¬ nI f = i → J (nI (f + 1)) (nI (k + 2))) → J (nI f) (nI k)) : J (nI 0) (nI lo) := by
  have key : ∀ (d k f : Nat), N ≤ k + d → k ≤ N + 1 → lo ≤ k → k % 2 = 1 → f = fb_ct p k → (0 ≤ i.toInt → (f : Int) ≤ i.toInt) → J (nI f) (nI k) := by
    intro d
    induction d with
    | zero =>
      intro k f hk hk2 hlk hko hf hfi
      have hfN : f = fb_ct p N := by
        by_cases e : k = N
        · rw [hf, e]
        · have : k = N + 1 := by omega
          rw [hf, this, fb_ct_succ, hev N (by omega)]
          rfl
      refine hend f k (by omega) hk2 (fun e => hpost _ (Or.inl ⟨e, by rw [hfN]⟩)) (fun e => hpost _ (Or.inr (Or.inr ⟨?_, ?_, rfl⟩)))
      · have : i.toInt ≠ -1 := fun q => e (i_m1.mp q)
        omega
      · have : i.toInt ≠ -1 := fun q => e (i_m1.mp q)
        rw [← hfN]
        exact hfi (by omega)
    | succ d ih =>
      intro k f hk hk2 hlk hko hf hfi
      by_cases hkN : N ≤ k
      · exact ih k f (by omega) hk2 hlk hko hf hfi
      have hle := fb_ct_le p k
      have hft : (nI f).toInt = (f : Int) := nI_toInt (by omega)
      have ev := hev (k + 1) (by omega)
      have e2 : fb_ct p (k + 2) = fb_ct p k + (if p k = true then 1 else 0) := by
        rw [show k + 2 = k + 1 + 1 from rfl, fb_ct_succ, fb_ct_succ, ev]
        rfl
      refine hstep f k (by omega) hlk (by omega) hko (fun hp => ?_) (fun hp e => hpost _ (Or.inr (Or.inl ⟨?_, k, by omega, hp, ?_, rfl⟩))) (fun hp e => ?_)
      · exact ih (k + 2) f (by omega) (by omega) (by omega) (by omega) (by rw [e2, hp, ← hf]; rfl) hfi
      · rw [← e, hft]; omega
      · rw [← e, hft, hf]
      · refine ih (k + 2) (f + 1) (by omega) (by omega) (by omega) (by omega) (by rw [e2, if_pos hp, ← hf]) (fun h => ?_)
        have h1 := hfi h
        have h2 : (f : Int) ≠ i.toInt := fun q => e (i_eq.mpr (by rw [hft]; exact q))
        omega
  exact key N lo 0 (by omega) hlo (Nat.le_refl lo) hodd h0.symm (fun h => h)
theorem two_ex : ∀ (b x : Nat), x ≤ b → 1 ≤ x → ∃ t m, Two x t m
  | 0, x, h, h1 => by omega
  | b + 1, x, h, h1 => by
    by_cases e : x % 2 = 1
    · exact ⟨0, x, by rw [Nat.pow_zero, Nat.one_mul], e⟩
    · obtain ⟨t, m, h2, h3⟩ := two_ex b (x / 2) (by omega) (by omega)
      refine ⟨t + 1, m, ?_, h3⟩
      rw [Nat.pow_succ, Nat.mul_comm (2 ^ t) 2, Nat.mul_assoc, ← h2]
      omega
theorem two_fun {P : Nat → Nat} {m : Nat} (h : ∀ i, i < m → 1 ≤ P i) : ∃ v w : Nat → Nat, ∀ i, i < m → Two (P i) (v i) (w i) := by
  have : ∀ i, ∃ q : Nat × Nat, i < m → Two (P i) q.1 q.2 := fun i => by
    by_cases hi : i < m
    · obtain ⟨t, u, h2⟩ := two_ex (P i) (P i) (Nat.le_refl _) (h i hi)
      exact ⟨(t, u), fun _ => h2⟩
    · exact ⟨(0, 0), fun q => absurd q hi⟩
  obtain ⟨f, hf⟩ := Classical.axiomOfChoice this
  exact ⟨fun i => (f i).1, fun i => (f i).2, fun i hi => hf i hi⟩
theorem shl_1 {s : Nat} (h : s < 31) : (1 : Int32) <<< (nI s &&& 31) = nI (2 ^ s) := by
  have h1 : nI s &&& 31 = nI s := by
    rw [pk_andN (m := 31) (by omega) 5 rfl, Nat.mod_eq_of_lt (by omega)]
  have h2 : ∀ s, s < 32 → ((nI s).toBitVec.smod 32).toNat = s := by decide
  have h3 : 1 * 2 ^ s < 2 ^ 32 := by
    rw [Nat.one_mul]
    exact Nat.pow_lt_pow_right (by decide) (by omega)
  rw [h1, show (1 : Int32) = nI 1 from rfl, pk_shlN (nI s) s (h2 s (by omega)) h3, Nat.one_mul]
theorem pow_prod {n c : Nat} {P T : Nat → Nat} {m : Nat} (h : FacF n P T m) (hc : ∀ i, i < m → c ≤ P i) : c ^ m ≤ n := by
  rw [← prodF_const, h.1]
  refine prodF_le (fun i hi => Nat.le_trans (hc i hi) (pow_ge1 (h.2.1 i hi).1.1 (h.2.1 i hi).2))
