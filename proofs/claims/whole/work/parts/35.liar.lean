theorem odd_fac {n : Nat} {P T : Nat → Nat} {m : Nat} (h : FacF n P T m) (ho : n % 2 = 1) : ∀ i, i < m → P i % 2 = 1 := fun i hi => by
  rcases Nat.mod_two_eq_zero_or_one (P i) with h1 | h1
  · exfalso
    have h2 : P i ∣ n := by
      rw [h.1]
      refine Nat.dvd_trans ?_ (prodF_dvd (f := fun i => P i ^ T i) hi)
      exact Nat.dvd_trans (Nat.dvd_refl _) (by
        have h3 := (h.2.1 i hi).2
        obtain ⟨s, hs⟩ : ∃ s, T i = s + 1 := ⟨T i - 1, by omega⟩
        show P i ∣ P i ^ T i
        rw [hs, Nat.pow_succ]
        exact Nat.dvd_mul_left _ _)
    have := Nat.mod_eq_zero_of_dvd (Nat.dvd_trans (Nat.dvd_of_mod_eq_zero h1) h2)
    omega
  · exact h1
theorem fac_dvd {n : Nat} {P T : Nat → Nat} {m : Nat} (h : FacF n P T m) {i : Nat} (hi : i < m) : P i ∣ n := by
  rw [h.1]
  refine Nat.dvd_trans ?_ (prodF_dvd (f := fun i => P i ^ T i) hi)
  have h3 := (h.2.1 i hi).2
  obtain ⟨s, hs⟩ : ∃ s, T i = s + 1 := ⟨T i - 1, by omega⟩
  show P i ∣ P i ^ T i
  rw [hs, Nat.pow_succ]
  exact Nat.dvd_mul_left _ _
theorem not_dvd_pred {p n : Nat} (hp : Pr p) (hn : 1 ≤ n) (h : p ∣ n) : ¬ p ∣ n - 1 := fun hd => by
  have h1 : p ∣ n - (n - 1) := Nat.dvd_sub h hd
  rw [show n - (n - 1) = 1 by omega] at h1
  have := Nat.le_of_dvd (by decide) h1
  have := hp.1
  omega
/-- what shares only with p - 1 -/
theorem gcd_un {P T : Nat → Nat} {i e : Nat} (hp : Pr (P i)) (ht : 1 ≤ T i) (hn : ¬ P i ∣ e) : Nat.gcd e (un P T i) = Nat.gcd e (P i - 1) := by
  rw [un_eq hp.1 ht]
  exact Nat.Coprime.gcd_mul_left_cancel_right _ (Nat.Coprime.pow_left _ (pr_cop hp hn))
/-- LIED TO: how many it looks prime to -/
theorem looks_ct {n : Nat} {P T : Nat → Nat} {m : Nat} (h : FacF n P T m) (hn : n ≤ 50001) (h3 : 3 ≤ n) (ho : n % 2 = 1) : fb_ct (OB (n - 1) n) n = prodF (fun i => Nat.gcd (n - 1) (P i - 1)) m := by
  rw [roo_fac h hn (by omega)]
  refine prodF_cong (fun i hi => ?_)
  have h1 := odd_fac h ho i hi
  unfold rooA
  rw [if_neg (fun q => by omega)]
  exact gcd_un (h.2.1 i hi).1 (h.2.1 i hi).2 (not_dvd_pred (h.2.1 i hi).1 (by omega) (fac_dvd h hi))
theorem neg1_iff {n z : Nat} (hn : 2 ≤ n) : z % n = n - 1 ↔ (z + 1) % n = 0 := by
  constructor
  · intro h
    rw [Nat.add_mod, h, Nat.mod_eq_of_lt (show 1 < n by omega), show n - 1 + 1 = n by omega, Nat.mod_self]
  · intro h
    have hl := Nat.mod_lt z (show 0 < n by omega)
    have h2 : (z % n + 1) % n = 0 := by rw [Nat.add_mod, Nat.mod_mod, ← Nat.add_mod]; exact h
    by_cases hc : z % n + 1 < n
    · rw [Nat.mod_eq_of_lt hc] at h2; omega
    · omega
theorem prodF_mul (f g : Nat → Nat) : ∀ m, prodF (fun i => f i * g i) m = prodF f m * prodF g m
  | 0 => rfl
  | m + 1 => by
    show prodF (fun i => f i * g i) m * (f m * g m) = prodF f m * f m * (prodF g m * g m)
    rw [prodF_mul f g m, Nat.mul_mul_mul_comm]
theorem prodF_const (c : Nat) : ∀ m, prodF (fun _ => c) m = c ^ m
  | 0 => rfl
  | m + 1 => by
    show prodF (fun _ => c) m * c = c ^ (m + 1)
    rw [prodF_const c m, Nat.pow_succ]
theorem prodF_zero {f : Nat → Nat} {i : Nat} : ∀ {m : Nat}, i < m → f i = 0 → prodF f m = 0
  | 0, h, _ => absurd h (Nat.not_lt_zero _)
  | m + 1, h, h0 => by
    show prodF f m * f m = 0
    by_cases e : i = m
    · subst e; rw [h0, Nat.mul_zero]
    · rw [prodF_zero (by omega) h0, Nat.zero_mul]
/-- all primes have rest 1 by c: so has the number -/
theorem prodF_one {c : Nat} {P T : Nat → Nat} : ∀ {m : Nat}, (∀ i, i < m → P i % c = 1 % c) → prodF (fun i => P i ^ T i) m % c = 1 % c
  | 0, _ => rfl
  | m + 1, h => by
    have h1 := prodF_one (T := T) (m := m) (fun i hi => h i (by omega))
    have h2 : P m ^ T m % c = 1 ^ T m % c := md_pow (h m (by omega)) (T m)
    rw [Nat.one_pow] at h2
    exact (md_mul h1 h2).trans (by rw [Nat.one_mul])
/-- the strong ones among all, when n - 1 = 2^s d, p_i - 1 = 2^(v i) (w i), f the least of the v i -/
theorem strong_ct {n s d f : Nat} {P T v w : Nat → Nat} {m : Nat} (h : FacF n P T m) (hn : n ≤ 50001) (h3 : 3 ≤ n) (ho : n % 2 = 1) (hs : Two (n - 1) s d) (hv : ∀ i, i < m → Two (P i - 1) (v i) (w i)) (hf1 : ∀ i, i < m → f ≤ v i) (hf2 : ∃ i, i < m ∧ v i = f) : fb_ct (fun a => cb (Strong n a)) n = prodF (fun i => Nat.gcd d (w i)) m * (1 + fb_sm (fun r => 2 ^ (r * m)) f) := by
  have hdn : ∀ i, i < m → ¬ P i ∣ d := fun i hi hd => not_dvd_pred (h.2.1 i hi).1 (by omega) (fac_dvd h hi) (by rw [hs.1]; exact Nat.dvd_trans hd (Nat.dvd_mul_left _ _))
  have hd1 : 1 ≤ d := by have := hs.2; omega
  have n2 : n ≥ 2 := by omega
  -- rest one at d
  have c0 : fb_ct (OB d n) n = prodF (fun i => Nat.gcd d (w i)) m := by
    rw [roo_fac h hn hd1]
    refine prodF_cong (fun i hi => ?_)
    have h1 := odd_fac h ho i hi
    unfold rooA
    rw [if_neg (fun q => by omega), gcd_un (h.2.1 i hi).1 (h.2.1 i hi).2 (hdn i hi), (hv i hi).1]
    exact Nat.Coprime.gcd_mul_left_cancel_right _ (Nat.Coprime.pow_left _ (pr_cop pr_two (fun q => by have := hs.2; omega)))
  -- rest -1 at 2^r d
  have cr : ∀ r, fb_ct (NB (2 ^ r * d) n) n = if r < f then 2 ^ (r * m) * prodF (fun i => Nat.gcd d (w i)) m else 0 := by
    intro r
    rw [ct_fac (NB (2 ^ r * d)) (NB_mul _) (by unfold NB; simp [Nat.mod_one]) h]
    have e1 : prodF (fun i => fb_ct (NB (2 ^ r * d) (P i ^ T i)) (P i ^ T i)) m = prodF (fun i => if r < v i then 2 ^ r * Nat.gcd d (w i) else 0) m := prodF_cong (fun i hi => neg_ct (h.2.1 i hi).1 (odd_fac h ho i hi) (h.2.1 i hi).2 (by have := (fac_at h hi).1; omega) (hv i hi) hs.2 (hdn i hi))
    rw [e1]
    by_cases hr : r < f
    · rw [if_pos hr]
      have e2 : prodF (fun i => if r < v i then 2 ^ r * Nat.gcd d (w i) else 0) m = prodF (fun i => 2 ^ r * Nat.gcd d (w i)) m := prodF_cong (fun i hi => if_pos (by have := hf1 i hi; omega))
      rw [e2, prodF_mul, prodF_const, ← Nat.pow_mul]
    · rw [if_neg hr]
      obtain ⟨i, hi, e⟩ := hf2
      exact prodF_zero hi (if_neg (by omega))
  -- f is at most s
  have hfs : f ≤ s := by
    have e1 : n % 2 ^ f = 1 % 2 ^ f := by
      rw [h.1]
      refine prodF_one (fun i hi => ?_)
      have h4 := (hv i hi).1
      have h5 := (h.2.1 i hi).1.1
      have h6 : 2 ^ f ∣ P i - 1 := by
        rw [h4]
        exact Nat.dvd_trans (Nat.pow_dvd_pow 2 (hf1 i hi)) (Nat.dvd_mul_right _ _)
      exact (md_iff (by omega)).mpr h6
    have e2 : 2 ^ f ∣ n - 1 := (md_iff (by omega)).mp e1
    rw [hs.1] at e2
    apply Classical.byContradiction
    intro hc
    have e3 : 2 ^ (s + 1) ∣ 2 ^ s * d := Nat.dvd_trans (Nat.pow_dvd_pow 2 (by omega)) e2
    rw [Nat.pow_succ] at e3
    have := Nat.dvd_of_mul_dvd_mul_left (Nat.two_pow_pos s) e3
    have := hs.2
    omega
  have hq1 : 1 % n = 1 := Nat.mod_eq_of_lt (by omega)
  -- one after the other
  have step : ∀ k, fb_ct (fun a => cb (a ^ d % n = 1 ∨ ∃ r, r < k ∧ a ^ (2 ^ r * d) % n = n - 1)) n = fb_ct (OB d n) n + fb_sm (fun r => fb_ct (NB (2 ^ r * d) n) n) k := by
    intro k
    induction k with
    | zero =>
      show _ = fb_ct (OB d n) n + 0
      rw [Nat.add_zero]
      refine fb_ct_cong (fun a _ => ?_)
      apply Bool.eq_iff_iff.mpr
      unfold OB
      rw [decide_eq_true_iff, hq1]
      constructor
      · intro q
        rcases cb_of q with q | ⟨r, q1, -⟩
        · exact q
        · omega
      · exact fun q => cb_t (Or.inl q)
    | succ k ih =>
      rw [fb_sm_succ, ← Nat.add_assoc, ← ih, ← fb_ct_or]
      · refine fb_ct_cong (fun a _ => ?_)
        apply Bool.eq_iff_iff.mpr
        rw [Bool.or_eq_true]
        unfold NB
        rw [decide_eq_true_iff, ← neg1_iff n2]
        constructor
        · intro q
          rcases cb_of q with q | ⟨r, q1, q2⟩
          · exact Or.inl (cb_t (Or.inl q))
          · by_cases e : r = k
            · subst e; exact Or.inr q2
            · exact Or.inl (cb_t (Or.inr ⟨r, by omega, q2⟩))
        · rintro (q | q)
          · rcases cb_of q with q | ⟨r, q1, q2⟩
            · exact cb_t (Or.inl q)
            · exact cb_t (Or.inr ⟨r, by omega, q2⟩)
          · exact cb_t (Or.inr ⟨k, by omega, q⟩)
      · intro a _ hh
        have q2 := of_decide_eq_true hh.2
        rw [← neg1_iff n2] at q2
        -- once one or -1, then one for ever
        have one : a ^ (2 ^ k * d) % n = 1 := by
          rcases cb_of hh.1 with q | ⟨r, q1, q⟩
          · have := pow_one_dvd (n := n) (e := d) (k := 2 ^ k * d) (by rw [q, hq1]) (Nat.dvd_mul_left _ _)
            rw [this, hq1]
          · have sq : a ^ (2 ^ (r + 1) * d) % n = 1 % n := by
              rw [← sq_step, q]
              have := neg_pow (q := n) n2 2
              rw [Nat.pow_two] at this
              rw [this, hq1]; rfl
            have := pow_one_dvd (k := 2 ^ k * d) sq (Nat.mul_dvd_mul_right (Nat.pow_dvd_pow 2 (by omega)) d)
            rw [this, hq1]
        rw [one] at q2
        omega
  have fin : fb_ct (fun a => cb (Strong n a)) n = fb_ct (fun a => cb (a ^ d % n = 1 ∨ ∃ r, r < s ∧ a ^ (2 ^ r * d) % n = n - 1)) n := fb_ct_cong (fun a _ => cb_iff ⟨by
    rintro ⟨s', d', q1, q2⟩
    obtain ⟨rfl, rfl⟩ := two_one hs q1
    exact q2, fun q => ⟨s, d, hs, q⟩⟩)
  rw [fin, step s, c0]
  have e5 : fb_sm (fun r => fb_ct (NB (2 ^ r * d) n) n) s = prodF (fun i => Nat.gcd d (w i)) m * fb_sm (fun r => 2 ^ (r * m)) f := by
    obtain ⟨z, rfl⟩ : ∃ z, s = f + z := ⟨s - f, by omega⟩
    rw [fb_sm_split]
    have e6 : fb_sm (fun k => fb_ct (NB (2 ^ (f + k) * d) n) n) z = 0 := by
      have : fb_sm (fun k => fb_ct (NB (2 ^ (f + k) * d) n) n) z = fb_sm (fun _ => 0) z := fb_sm_cong (fun k _ => by rw [cr, if_neg (by omega)])
      rw [this, fb_sm_const, Nat.mul_zero]
    rw [e6, Nat.add_zero]
    have e7 : ∀ j, j ≤ f → fb_sm (fun r => fb_ct (NB (2 ^ r * d) n) n) j = prodF (fun i => Nat.gcd d (w i)) m * fb_sm (fun r => 2 ^ (r * m)) j := by
      intro j
      induction j with
      | zero => intro _; rfl
      | succ j ih =>
        intro hj
        rw [fb_sm_succ, fb_sm_succ, ih (by omega), cr, if_pos (by omega), Nat.mul_add, Nat.mul_comm (2 ^ (j * m))]
    exact e7 f (Nat.le_refl f)
  rw [e5, Nat.mul_add, Nat.mul_one]
/-- those that look prime to all their units -/
theorem korselt {n : Nat} {P T : Nat → Nat} {m : Nat} (h : FacF n P T m) (hn : n ≤ 50001) (h3 : 3 ≤ n) (ho : n % 2 = 1) : (∀ a, 1 ≤ a → a < n → Nat.Coprime n a → a ^ (n - 1) % n = 1) ↔ ∀ i, i < m → T i = 1 ∧ P i - 1 ∣ n - 1 := by
  obtain ⟨l1, x, l2⟩ := lam_fac h hn
  have hq1 : 1 % n = 1 := Nat.mod_eq_of_lt (by omega)
  have e1 : (∀ a, 1 ≤ a → a < n → Nat.Coprime n a → a ^ (n - 1) % n = 1) ↔ lcmF (cyF P T) m ∣ n - 1 := by
    constructor
    · intro ha
      have hx : Nat.Coprime n x := cop_of_pow l2.1 l2.2.1
      have hx2 : Nat.Coprime n (x % n) := by
        show Nat.gcd n (x % n) = 1
        rw [cop_mod]; exact hx
      have hx1 : 1 ≤ x % n := Nat.pos_of_ne_zero (fun e => by
        rw [e] at hx2
        have : Nat.gcd n 0 = 1 := hx2
        rw [Nat.gcd_zero_right] at this
        omega)
      have := ha (x % n) hx1 (Nat.mod_lt _ (by omega)) hx2
      rw [← Nat.pow_mod] at this
      exact ord_dvd l2 (by rw [this, hq1])
    · intro hd a _ _ hc
      rw [pow_one_dvd (l1 a hc) hd, hq1]
  have e2 : ∀ k, lcmF (cyF P T) k ∣ n - 1 ↔ ∀ i, i < k → cyF P T i ∣ n - 1 := by
    intro k
    induction k with
    | zero => exact ⟨fun _ i hi => by omega, fun _ => Nat.one_dvd _⟩
    | succ k ih =>
      show Nat.lcm (lcmF (cyF P T) k) (cyF P T k) ∣ n - 1 ↔ _
      rw [Nat.lcm_dvd_iff, ih]
      constructor
      · rintro ⟨q1, q2⟩ i hi
        by_cases e : i = k
        · subst e; exact q2
        · exact q1 i (by omega)
      · exact fun q => ⟨fun i hi => q i (by omega), q k (by omega)⟩
  rw [e1, e2]
  constructor
  · intro q i hi
    have h1 := odd_fac h ho i hi
    have h5 := q i hi
    unfold cyF at h5
    rw [if_neg (fun q => by omega), un_eq (h.2.1 i hi).1.1 (h.2.1 i hi).2] at h5
    have ht : T i = 1 := by
      apply Classical.byContradiction
      intro hc
      have h6 := (h.2.1 i hi).2
      have h7 : P i ∣ P i ^ (T i - 1) := by
        obtain ⟨s, hs⟩ : ∃ s, T i - 1 = s + 1 := ⟨T i - 2, by omega⟩
        rw [hs, Nat.pow_succ]
        exact Nat.dvd_mul_left _ _
      exact not_dvd_pred (h.2.1 i hi).1 (by omega) (fac_dvd h hi) (Nat.dvd_trans (Nat.dvd_trans h7 (Nat.dvd_mul_right _ _)) h5)
    rw [ht, Nat.sub_self, Nat.pow_zero, Nat.one_mul] at h5
    exact ⟨ht, h5⟩
  · intro q i hi
    have h1 := odd_fac h ho i hi
    unfold cyF
    rw [if_neg (fun q => by omega), un_eq (h.2.1 i hi).1.1 (h.2.1 i hi).2, (q i hi).1, Nat.sub_self, Nat.pow_zero, Nat.one_mul]
    exact (q i hi).2
/-- a prime looks strongly prime to all -/
theorem pr_strong {n a : Nat} (hp : Pr n) (ho : n % 2 = 1) (hn : n ≤ 50001) (h1 : 1 ≤ a) (ha : a < n) : Strong n a := by
  have h2 := hp.1
  have hq1 : 1 % n = 1 := Nat.mod_eq_of_lt (by omega)
  obtain ⟨s, d, hs⟩ : ∃ s d, Two (n - 1) s d := by
    have key : ∀ k, 1 ≤ k → ∃ s d, Two k s d := by
      intro k
      induction k using Nat.strongRecOn with
      | ind k ih =>
        intro hk
        rcases Nat.mod_two_eq_zero_or_one k with q | q
        · obtain ⟨s, d, h5⟩ := ih (k / 2) (by omega) (by omega)
          refine ⟨s + 1, d, ?_, h5.2⟩
          rw [Nat.pow_succ, Nat.mul_comm (2 ^ s) 2, Nat.mul_assoc, ← h5.1]
          omega
        · exact ⟨0, k, by rw [Nat.pow_zero, Nat.one_mul], q⟩
    exact key (n - 1) (by omega)
  refine ⟨s, d, hs, ?_⟩
  have hfer : a ^ (n - 1) % n = 1 := by
    have hc := (cy_pp hp (Nat.le_refl 1) (by rw [Nat.pow_one]; exact hn)).1 a (by
      rw [Nat.pow_one]
      exact pr_cop hp (fun hd => by have := Nat.le_of_dvd h1 hd; omega))
    have hcn : cyF (fun _ => n) (fun _ => 1) 0 = un (fun _ => n) (fun _ => 1) 0 := if_neg (fun q => absurd q.2 (by decide))
    rw [hcn, un_eq (P := fun _ => n) (T := fun _ => 1) (i := 0) h2 (Nat.le_refl 1), Nat.pow_one, Nat.sub_self, Nat.pow_zero, Nat.one_mul, hq1] at hc
    exact hc
  rw [hs.1] at hfer
  obtain ⟨r, ⟨r1, r2⟩, r3⟩ := pk_least (fun r => r ≤ s ∧ a ^ (2 ^ r * d) % n = 1) ⟨s, Nat.le_refl s, hfer⟩
  by_cases hr : r = 0
  · subst hr
    rw [Nat.pow_zero, Nat.one_mul] at r2
    exact Or.inl r2
  · obtain ⟨t, rfl⟩ : ∃ t, r = t + 1 := ⟨r - 1, by omega⟩
    refine Or.inr ⟨t, by omega, ?_⟩
    have hne : ¬ a ^ (2 ^ t * d) % n = 1 := fun e => r3 t (by omega) ⟨by omega, e⟩
    rw [neg1_iff (by omega)]
    rw [← sq_step] at r2
    generalize hz : a ^ (2 ^ t * d) % n = z at r2 hne
    have hzn : z < n := by rw [← hz]; exact Nat.mod_lt _ (by omega)
    have hz1 : 1 ≤ z := Nat.pos_of_ne_zero (fun e => by rw [e, Nat.zero_mul, Nat.zero_mod] at r2; omega)
    have hz2 : 1 ≤ z * z := Nat.mul_pos hz1 hz1
    have h6 : n ∣ z * z - 1 := (md_iff hz2).mp (by rw [r2, hq1])
    have e6 : z * z - 1 = (z - 1) * (z + 1) := by
      rw [Nat.sub_mul, Nat.one_mul, Nat.mul_add, Nat.mul_one]
      omega
    rw [e6] at h6
    rw [Nat.add_mod, hz, ← Nat.add_mod_mod, Nat.add_mod_mod]
    rcases pr_dvd_mul hp h6 with h7 | h7
    · have : z - 1 = 0 := by
        apply Classical.byContradiction
        intro hc
        have := Nat.le_of_dvd (by omega) h7
        omega
      omega
    · have h8 := Nat.mod_eq_zero_of_dvd h7
      rw [Nat.add_mod, Nat.mod_eq_of_lt hzn, ← Nat.add_mod_mod] at h8 ⊢
      simpa using h8
/-- powers by a number that need share nothing: the exponents by how many units there are, once great enough -/
theorem euler_any {n : Nat} {P T : Nat → Nat} {m a E F : Nat} (h : FacF n P T m) (hn : n ≤ 50001) (hE : ∀ i, i < m → T i ≤ E) (hF : ∀ i, i < m → T i ≤ F) (he : E % prodF (un P T) m = F % prodF (un P T) m) : a ^ E % n = a ^ F % n := by
  have key : ∀ k, k ≤ m → a ^ E % prodF (fun i => P i ^ T i) k = a ^ F % prodF (fun i => P i ^ T i) k := by
    intro k
    induction k with
    | zero => intro _; show a ^ E % 1 = a ^ F % 1; rw [Nat.mod_one, Nat.mod_one]
    | succ k ih =>
      intro hk
      show a ^ E % (prodF (fun i => P i ^ T i) k * P k ^ T k) = a ^ F % (prodF (fun i => P i ^ T i) k * P k ^ T k)
      refine md_both (fac_cop h (k := k) (by omega) (Nat.le_refl k)) (ih (by omega)) ?_
      obtain ⟨p1, p2⟩ := h.2.1 k (by omega)
      have hle := (fac_at h (show k < m by omega)).1
      by_cases hd : P k ∣ a
      · obtain ⟨c, rfl⟩ := hd
        have z : ∀ G, T k ≤ G → (P k * c) ^ G % P k ^ T k = 0 := fun G hG => by
          apply Nat.mod_eq_zero_of_dvd
          rw [Nat.mul_pow]
          exact Nat.dvd_trans (Nat.pow_dvd_pow _ hG) (Nat.dvd_mul_right _ _)
        rw [z E (hE k (by omega)), z F (hF k (by omega))]
      · have hc := (cy_pp p1 p2 (by omega)).1 a ((gcd_pp p1 p2).mpr hd)
        have hcy : cyF (fun _ => P k) (fun _ => T k) 0 = cyF P T k := rfl
        rw [hcy] at hc
        have hu : a ^ un P T k % P k ^ T k = 1 % P k ^ T k := by
          refine pow_one_dvd hc ?_
          unfold cyF
          by_cases q : P k = 2 ∧ 2 < T k
          · rw [if_pos q]
            have hue := un_eq (P := P) (T := T) p1.1 p2
            rw [q.1] at hue
            have : 2 ∣ un P T k := by
              rw [hue]
              obtain ⟨s, hs⟩ : ∃ s, T k - 1 = s + 1 := ⟨T k - 2, by omega⟩
              rw [hs, Nat.pow_succ]
              exact ⟨2 ^ s * (2 - 1), by rw [Nat.mul_comm (2 ^ s) 2, Nat.mul_assoc]⟩
            exact ⟨2, by omega⟩
          · rw [if_neg q]; exact Nat.dvd_refl _
        have hL : a ^ prodF (un P T) m % P k ^ T k = 1 % P k ^ T k := pow_one_dvd hu (prodF_dvd (f := un P T) (by omega))
        rw [pow_mod_ord hL E, pow_mod_ord hL F, he]
  rw [h.1]
  exact key m (Nat.le_refl m)
theorem exp_le_un {n : Nat} {P T : Nat → Nat} {m i : Nat} (h : FacF n P T m) (hi : i < m) : T i ≤ prodF (un P T) m := by
  have h1 := (h.2.1 i hi).1.1
  have h2 := (h.2.1 i hi).2
  have h3 := un_eq (P := P) (T := T) h1 h2
  have h4 : T i - 1 < 2 ^ (T i - 1) := Nat.lt_two_pow_self
  have h5 : 2 ^ (T i - 1) ≤ P i ^ (T i - 1) := Nat.pow_le_pow_left h1 _
  have h6 : P i ^ (T i - 1) * 1 ≤ P i ^ (T i - 1) * (P i - 1) := Nat.mul_le_mul_left _ (by omega)
  have h7 := Nat.le_of_dvd (prodF_pos (fun i hi => (fac_un h i hi).1)) (prodF_dvd (f := un P T) hi)
  omega
