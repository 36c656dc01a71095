/-! how many units, how many powers are one: by the primes -/
theorem fac_cop {n : Nat} {P T : Nat → Nat} {m : Nat} (h : FacF n P T m) : ∀ {k : Nat}, k < m → ∀ {j : Nat}, j ≤ k → Nat.Coprime (prodF (fun i => P i ^ T i) j) (P k ^ T k)
  | k, hk, 0, _ => Nat.coprime_one_left _
  | k, hk, j + 1, hj => by
    refine Nat.Coprime.mul_left (fac_cop h hk (by omega)) ?_
    refine Nat.Coprime.pow _ _ (pr_cop (h.2.1 j (by omega)).1 (fun hd => ?_))
    have h1 := pr_eq (h.2.1 j (by omega)).1 (h.2.1 k hk).1 hd
    have h2 := h.2.2 j k (by omega) hk
    omega
/-- the first k of the primes -/
theorem fac_pre {n : Nat} {P T : Nat → Nat} {m : Nat} (h : FacF n P T m) {k : Nat} (hk : k ≤ m) : FacF (prodF (fun i => P i ^ T i) k) P T k :=
  ⟨rfl, fun i hi => h.2.1 i (by omega), fun i j h1 h2 => h.2.2 i j h1 (by omega)⟩
theorem ct_fac (R : Nat → Nat → Bool) (hmul : ∀ m k a, Nat.Coprime m k → R (m * k) a = (R m (a % m) && R k (a % k))) (h1 : R 1 0 = true) {n : Nat} {P T : Nat → Nat} {m : Nat} (h : FacF n P T m) : fb_ct (R n) n = prodF (fun i => fb_ct (R (P i ^ T i)) (P i ^ T i)) m := by
  have key : ∀ k, k ≤ m → fb_ct (R (prodF (fun i => P i ^ T i) k)) (prodF (fun i => P i ^ T i) k) = prodF (fun i => fb_ct (R (P i ^ T i)) (P i ^ T i)) k := by
    intro k
    induction k with
    | zero =>
      intro _
      show fb_ct (R 1) 1 = 1
      rw [fb_ct_succ, h1]
      rfl
    | succ k ih =>
      intro hk
      show fb_ct (R (prodF (fun i => P i ^ T i) k * P k ^ T k)) (prodF (fun i => P i ^ T i) k * P k ^ T k) = prodF (fun i => fb_ct (R (P i ^ T i)) (P i ^ T i)) k * fb_ct (R (P k ^ T k)) (P k ^ T k)
      rw [← ih (by omega)]
      have hc := fac_cop h (k := k) (by omega) (Nat.le_refl k)
      have hp1 : 0 < prodF (fun i => P i ^ T i) k := fac_n1 (fac_pre h (by omega))
      have hp2 : 0 < P k ^ T k := Nat.pow_pos (by have := (h.2.1 k (by omega)).1.1; omega)
      rw [← ct_crt _ _ hc hp1 hp2]
      exact fb_ct_cong (fun a _ => hmul _ _ a hc)
  rw [h.1]
  exact key m (Nat.le_refl m)
def UB (n a : Nat) : Bool := decide (Nat.gcd n a = 1)
/-- how many units -/
def U (n : Nat) : Nat := fb_ct (UB n) n
theorem UB_mul (m k a : Nat) (_ : Nat.Coprime m k) : UB (m * k) a = (UB m (a % m) && UB k (a % k)) := by
  unfold UB
  rw [← Bool.decide_and]
  apply decide_eq_decide.mpr
  rw [cop_mod, cop_mod]
  exact Nat.coprime_mul_iff_left
theorem gcd_pp {p t a : Nat} (hp : Pr p) (ht : 1 ≤ t) : Nat.gcd (p ^ t) a = 1 ↔ ¬ p ∣ a := by
  constructor
  · intro h hd
    have h1 : p ∣ Nat.gcd (p ^ t) a := Nat.dvd_gcd (by
      obtain ⟨s, rfl⟩ : ∃ s, t = s + 1 := ⟨t - 1, by omega⟩
      rw [Nat.pow_succ]; exact Nat.dvd_mul_left p _) hd
    rw [h] at h1
    have := Nat.le_of_dvd (by omega) h1
    have := hp.1
    omega
  · intro h
    exact Nat.Coprime.pow_left t (pr_cop hp h)
theorem U_pp {p t : Nat} (hp : Pr p) (ht : 1 ≤ t) : U (p ^ t) = p ^ (t - 1) * (p - 1) := by
  obtain ⟨s, rfl⟩ : ∃ s, t = s + 1 := ⟨t - 1, by omega⟩
  have h1 : fb_ct (fun j => decide (p ∣ j)) (p ^ (s + 1)) = p ^ s := by
    rw [Nat.pow_succ, Nat.mul_comm]
    exact ct_mult (by have := hp.1; omega) (p ^ s)
  have h2 := fb_ct_not (fun j => decide (p ∣ j)) (p ^ (s + 1))
  have h3 : fb_ct (fun k => !decide (p ∣ k)) (p ^ (s + 1)) = U (p ^ (s + 1)) := fb_ct_cong (fun a _ => by
    unfold UB
    rw [← decide_not]
    exact decide_eq_decide.mpr (gcd_pp hp (by omega)).symm)
  rw [h1, h3] at h2
  show U (p ^ (s + 1)) = p ^ s * (p - 1)
  have e : p ^ s * (p - 1) = p ^ (s + 1) - p ^ s := by rw [Nat.mul_sub, Nat.mul_one, Nat.pow_succ]
  rw [e]
  exact Nat.eq_sub_of_add_eq' h2
theorem U_fac {n : Nat} {P T : Nat → Nat} {m : Nat} (h : FacF n P T m) : U n = prodF (un P T) m := by
  unfold U
  rw [ct_fac UB UB_mul (by decide) h]
  refine prodF_cong (fun i hi => ?_)
  obtain ⟨h1, h2⟩ := h.2.1 i hi
  rw [un_eq h1.1 h2]
  exact U_pp h1 h2
/-- the powers of one of order m are apart -/
theorem ord_inj {q g m i j : Nat} (h : IsOrd q g m) (hi : i < m) (hj : j < m) (e : g ^ i % q = g ^ j % q) : i = j := by
  have hc : Nat.Coprime q g := cop_of_pow h.1 h.2.1
  have key : ∀ {i j : Nat}, i ≤ j → j < m → g ^ i % q = g ^ j % q → i = j := by
    intro i j hl hj e
    have h1 : g ^ (j - i) % q = 1 % q := by
      apply md_cancel (pow_cop hc i)
      rw [← Nat.pow_add, Nat.mul_one, Nat.add_sub_cancel' hl]
      exact e.symm
    have h2 := ord_dvd h h1
    apply Classical.byContradiction
    intro hne
    have := Nat.le_of_dvd (by omega) h2
    omega
  rcases Nat.le_total i j with hl | hl
  · exact key hl hj e
  · exact (key hl hi e.symm).symm
/-- so many as there are units: all of them -/
theorem ord_onto {q g m : Nat} (hq : 0 < q) (h : IsOrd q g m) (hU : U q = m) {a : Nat} (ha : a < q) (hc : Nat.gcd q a = 1) : ∃ j, j < m ∧ g ^ j % q = a := by
  apply Classical.byContradiction
  intro hno
  have hcg : Nat.Coprime q g := cop_of_pow h.1 h.2.1
  have h1 : fb_ct (fun _ => true) (m + 1) ≤ fb_ct (UB q) q := by
    refine ct_inj (fun i => if i = m then a else g ^ i % q) (fun i hi _ => ?_) (fun i j hi hj _ _ e => ?_)
    · by_cases e : i = m
      · rw [if_pos e]; exact ⟨ha, decide_eq_true hc⟩
      · rw [if_neg e]
        exact ⟨Nat.mod_lt _ hq, decide_eq_true (by rw [cop_mod]; exact pow_cop hcg i)⟩
    · by_cases e1 : i = m
      · by_cases e2 : j = m
        · omega
        · rw [if_pos e1, if_neg e2] at e
          exact absurd ⟨j, by omega, e.symm⟩ hno
      · by_cases e2 : j = m
        · rw [if_neg e1, if_pos e2] at e
          exact absurd ⟨i, by omega, e⟩ hno
        · rw [if_neg e1, if_neg e2] at e
          exact ord_inj h (by omega) (by omega) e
  rw [fb_ct_all.mpr (fun _ _ => rfl)] at h1
  have : fb_ct (UB q) q = m := hU
  omega
/-- how many have rest one at their e-th power -/
def OB (e n a : Nat) : Bool := decide (a ^ e % n = 1 % n)
theorem OB_mul (e m k a : Nat) (hc : Nat.Coprime m k) : OB e (m * k) a = (OB e m (a % m) && OB e k (a % k)) := by
  unfold OB
  rw [← Nat.pow_mod, ← Nat.pow_mod, ← Bool.decide_and]
  exact decide_eq_decide.mpr (md_split hc)
theorem pow_pow_mod (g j e q : Nat) : (g ^ j % q) ^ e % q = g ^ (j * e) % q := by rw [← Nat.pow_mod, ← Nat.pow_mul]
theorem cyc_ct {q g m e : Nat} (hq : 0 < q) (h : IsOrd q g m) (hU : U q = m) (he : 1 ≤ e) : fb_ct (OB e q) q = Nat.gcd e m := by
  rw [← ct_kill h.1]
  have hcg : Nat.Coprime q g := cop_of_pow h.1 h.2.1
  apply Nat.le_antisymm
  · have hex : ∀ a, a < q → OB e q a = true → ∃ j, j < m ∧ g ^ j % q = a := fun a ha ho => by
      refine ord_onto hq h hU ha ?_
      exact cop_of_pow he (of_decide_eq_true ho)
    refine ct_inj (fun a => if hh : a < q ∧ OB e q a = true then Classical.choose (hex a hh.1 hh.2) else 0) (fun a ha ho => ?_) (fun a b ha hb h1 h2 e1 => ?_)
    · have hs := Classical.choose_spec (hex a ha ho)
      simp only [dif_pos (show a < q ∧ OB e q a = true from ⟨ha, ho⟩)]
      refine ⟨hs.1, decide_eq_true ?_⟩
      have h3 := of_decide_eq_true ho
      rw [← hs.2, pow_pow_mod] at h3
      exact ord_dvd h h3
    · simp only [dif_pos (show a < q ∧ OB e q a = true from ⟨ha, h1⟩), dif_pos (show b < q ∧ OB e q b = true from ⟨hb, h2⟩)] at e1
      have s1 := Classical.choose_spec (hex a ha h1)
      have s2 := Classical.choose_spec (hex b hb h2)
      rw [← s1.2, ← s2.2, e1]
  · refine ct_inj (fun j => g ^ j % q) (fun j hj hd => ⟨Nat.mod_lt _ hq, decide_eq_true ?_⟩) (fun i j hi hj _ _ e1 => ord_inj h hi hj e1)
    rw [pow_pow_mod]
    exact pow_one_dvd h.2.1 (of_decide_eq_true hd)
/-- by every power of a prime up to 50001 but 8, 16, ..: one cycle -/
theorem one_cycle {p t : Nat} (hp : Pr p) (ht : 1 ≤ t) (hb : p ^ t ≤ 50001) (hn : ¬ (p = 2 ∧ 2 < t)) : ∃ g, IsOrd (p ^ t) g (p ^ (t - 1) * (p - 1)) := by
  rcases Nat.mod_two_eq_zero_or_one p with he | ho
  · have h2 : p = 2 := (pr_eq ⟨by omega, fun d hd => by
      have := Nat.le_of_dvd (by omega) hd
      rcases (show d = 0 ∨ d = 1 ∨ d = 2 by omega) with rfl | rfl | rfl
      · have := Nat.eq_zero_of_zero_dvd hd; omega
      · exact Or.inl rfl
      · exact Or.inr rfl⟩ hp (Nat.dvd_of_mod_eq_zero he)).symm
    subst h2
    rcases (show t = 1 ∨ t = 2 by omega) with rfl | rfl
    · exact ⟨1, by decide, by decide, fun k h1 h2 => by
        have h3 : k < 1 := h2
        omega⟩
    · refine ⟨3, by decide, by decide, fun k h1 h2 => ?_⟩
      have h3 : k < 2 := h2
      have : k = 1 := by omega
      subst this
      decide
  · exact pp_gen hp ho ht hb
