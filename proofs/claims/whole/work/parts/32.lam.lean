/-! 8, 16, ..: two cycles; the greatest order; how many powers are one -/
theorem inj_onto {q k : Nat} (f : Nat → Nat) (hf : ∀ i, i < k → f i < q ∧ Nat.gcd q (f i) = 1) (hi : ∀ i j, i < k → j < k → f i = f j → i = j) (hU : U q = k) {a : Nat} (ha : a < q) (hc : Nat.gcd q a = 1) : ∃ i, i < k ∧ f i = a := by
  apply Classical.byContradiction
  intro hno
  have h1 : fb_ct (fun _ => true) (k + 1) ≤ fb_ct (UB q) q := by
    refine ct_inj (fun i => if i = k then a else f i) (fun i hi2 _ => ?_) (fun i j hi2 hj _ _ e => ?_)
    · by_cases e : i = k
      · rw [if_pos e]; exact ⟨ha, decide_eq_true hc⟩
      · rw [if_neg e]
        exact ⟨(hf i (by omega)).1, decide_eq_true (hf i (by omega)).2⟩
    · by_cases e1 : i = k
      · by_cases e2 : j = k
        · omega
        · rw [if_pos e1, if_neg e2] at e
          exact absurd ⟨j, by omega, e.symm⟩ hno
      · by_cases e2 : j = k
        · rw [if_neg e1, if_pos e2] at e
          exact absurd ⟨i, by omega, e⟩ hno
        · rw [if_neg e1, if_neg e2] at e
          exact hi i j (by omega) (by omega) e
  rw [fb_ct_all.mpr (fun _ _ => rfl)] at h1
  have : fb_ct (UB q) q = k := hU
  omega
theorem bij_ct {q k : Nat} (f : Nat → Nat) (hf : ∀ i, i < k → f i < q ∧ Nat.gcd q (f i) = 1) (hi : ∀ i j, i < k → j < k → f i = f j → i = j) (hU : U q = k) (R : Nat → Bool) (hR : ∀ a, a < q → R a = true → Nat.gcd q a = 1) : fb_ct R q = fb_ct (fun i => R (f i)) k := by
  apply Nat.le_antisymm
  · have hex : ∀ a, a < q → R a = true → ∃ i, i < k ∧ f i = a := fun a ha hr => inj_onto f hf hi hU ha (hR a ha hr)
    refine ct_inj (fun a => if hh : a < q ∧ R a = true then Classical.choose (hex a hh.1 hh.2) else 0) (fun a ha ho => ?_) (fun a b ha hb h1 h2 e1 => ?_)
    · have hs := Classical.choose_spec (hex a ha ho)
      simp only [dif_pos (show a < q ∧ R a = true from ⟨ha, ho⟩)]
      exact ⟨hs.1, by rw [hs.2]; exact ho⟩
    · simp only [dif_pos (show a < q ∧ R a = true from ⟨ha, h1⟩), dif_pos (show b < q ∧ R b = true from ⟨hb, h2⟩)] at e1
      have s1 := Classical.choose_spec (hex a ha h1)
      have s2 := Classical.choose_spec (hex b hb h2)
      rw [← s1.2, ← s2.2, e1]
  · exact ct_inj f (fun i hi2 hr => ⟨(hf i hi2).1, hr⟩) (fun i j h1 h2 _ _ e => hi i j h1 h2 e)
theorem pr_two : Pr 2 := ⟨by omega, fun d hd => by
  have := Nat.le_of_dvd (by omega) hd
  rcases (show d = 0 ∨ d = 1 ∨ d = 2 by omega) with rfl | rfl | rfl
  · have := Nat.eq_zero_of_zero_dvd hd; omega
  · exact Or.inl rfl
  · exact Or.inr rfl⟩
theorem neg_pow {q : Nat} (hq : 2 ≤ q) : ∀ x, (q - 1) ^ x % q = if x % 2 = 0 then 1 else q - 1
  | 0 => by rw [Nat.pow_zero, Nat.mod_eq_of_lt hq]; rfl
  | x + 1 => by
    have ih := neg_pow hq x
    rw [Nat.pow_succ, Nat.mul_mod, ih, Nat.mod_eq_of_lt (show q - 1 < q by omega)]
    rcases Nat.mod_two_eq_zero_or_one x with h | h
    · rw [if_pos h, if_neg (by omega), Nat.one_mul, Nat.mod_eq_of_lt (by omega)]
    · rw [if_neg (by omega), if_pos (by omega)]
      have e : (q - 1) * (q - 1) = 1 + q * (q - 2) := by
        obtain ⟨r, rfl⟩ : ∃ r, q = r + 2 := ⟨q - 2, by omega⟩
        show (r + 1) * (r + 1) = 1 + (r + 2) * r
        rw [Nat.succ_mul, Nat.mul_succ, Nat.add_mul]
        omega
      rw [e, Nat.add_mul_mod_self_left, Nat.mod_eq_of_lt hq]
/-- a sign and a power of 5, by 2 to the t -/
theorem two_one_iff {t x y : Nat} (h3 : 3 ≤ t) (h15 : t ≤ 15) : ((2 ^ t - 1) ^ x * 5 ^ y) % 2 ^ t = 1 % 2 ^ t ↔ 2 ∣ x ∧ 2 ^ (t - 2) ∣ y := by
  have ho := two_gen h3 h15
  have h8 : 2 ^ 3 ≤ 2 ^ t := Nat.pow_le_pow_right (by decide) h3
  have hd4 : 4 ∣ 2 ^ t := by
    have : 2 ^ 2 ∣ 2 ^ t := Nat.pow_dvd_pow 2 (by omega)
    exact this
  have hm4 : (2 ^ t - 1) % 4 = 3 := by
    obtain ⟨k, hk⟩ := hd4
    omega
  constructor
  · intro h
    have h1 := md_dvd hd4 h
    have hx : 2 ∣ x := by
      have e1 : (2 ^ t - 1) ^ x * 5 ^ y % 4 = 3 ^ x * 1 ^ y % 4 := md_mul (md_pow hm4 x) (md_pow (by decide) y)
      rw [e1, Nat.one_pow, Nat.mul_one] at h1
      have e2 := neg_pow (q := 4) (by decide) x
      rw [show (4 - 1 : Nat) = 3 from rfl] at e2
      rw [e2] at h1
      rcases Nat.mod_two_eq_zero_or_one x with h5 | h5
      · exact Nat.dvd_of_mod_eq_zero h5
      · rw [if_neg (by omega)] at h1
        exact absurd h1 (by decide)
    refine ⟨hx, ord_dvd ho ?_⟩
    have e3 := neg_pow (q := 2 ^ t) (by omega) x
    rw [if_pos (Nat.mod_eq_zero_of_dvd hx)] at e3
    have e4 : (2 ^ t - 1) ^ x * 5 ^ y % 2 ^ t = 1 * 5 ^ y % 2 ^ t := md_mul (by rw [e3, Nat.mod_eq_of_lt (by omega)]) rfl
    rw [e4, Nat.one_mul] at h
    exact h
  · rintro ⟨hx, hy⟩
    have e3 := neg_pow (q := 2 ^ t) (by omega) x
    rw [if_pos (Nat.mod_eq_zero_of_dvd hx)] at e3
    have e4 : (2 ^ t - 1) ^ x * 5 ^ y % 2 ^ t = 1 * 1 % 2 ^ t := md_mul (by rw [e3, Nat.mod_eq_of_lt (by omega)]) (pow_one_dvd ho.2.1 hy)
    rw [e4]
def E2 (t c : Nat) : Nat := ((2 ^ t - 1) ^ (c % 2) * 5 ^ (c / 2)) % 2 ^ t
theorem E2_ok {t : Nat} (h3 : 3 ≤ t) (h15 : t ≤ 15) : (∀ c, c < 2 * 2 ^ (t - 2) → E2 t c < 2 ^ t ∧ Nat.gcd (2 ^ t) (E2 t c) = 1) ∧ (∀ c d, c < 2 * 2 ^ (t - 2) → d < 2 * 2 ^ (t - 2) → E2 t c = E2 t d → c = d) ∧ U (2 ^ t) = 2 * 2 ^ (t - 2) := by
  have ho := two_gen h3 h15
  have h8 : 2 ^ 3 ≤ 2 ^ t := Nat.pow_le_pow_right (by decide) h3
  have hd4 : 4 ∣ 2 ^ t := by
    have : 2 ^ 2 ∣ 2 ^ t := Nat.pow_dvd_pow 2 (by omega)
    exact this
  have hm4 : (2 ^ t - 1) % 4 = 3 := by
    obtain ⟨k, hk⟩ := hd4
    omega
  have hcn : Nat.Coprime (2 ^ t) (2 ^ t - 1) := (gcd_pp pr_two (by omega)).mpr (fun hd => by omega)
  have hc5 : Nat.Coprime (2 ^ t) 5 := (gcd_pp pr_two (by omega)).mpr (by decide)
  refine ⟨fun c _ => ⟨Nat.mod_lt _ (by omega), ?_⟩, fun c d hc hd e => ?_, ?_⟩
  · unfold E2
    rw [cop_mod]
    exact (pow_cop hcn _).mul_right (pow_cop hc5 _)
  · unfold E2 at e
    have e4 := md_dvd hd4 e
    have q1 : ∀ s j, (2 ^ t - 1) ^ s * 5 ^ j % 4 = 3 ^ s % 4 := fun s j => by
      have : (2 ^ t - 1) ^ s * 5 ^ j % 4 = 3 ^ s * 1 ^ j % 4 := md_mul (md_pow hm4 s) (md_pow (by decide) j)
      rw [this, Nat.one_pow, Nat.mul_one]
    rw [q1, q1] at e4
    have hs : c % 2 = d % 2 := by
      rcases Nat.mod_two_eq_zero_or_one c with h1 | h1 <;> rcases Nat.mod_two_eq_zero_or_one d with h2 | h2
      · omega
      · rw [h1, h2] at e4; exact absurd e4 (by decide)
      · rw [h1, h2] at e4; exact absurd e4 (by decide)
      · omega
    rw [hs] at e
    have e5 := md_cancel (pow_cop hcn (d % 2)) e
    have := ord_inj ho (by omega) (by omega) e5
    omega
  · rw [U_pp pr_two (by omega)]
    show 2 ^ (t - 1) * 1 = 2 * 2 ^ (t - 2)
    obtain ⟨s, rfl⟩ : ∃ s, t = s + 2 := ⟨t - 2, by omega⟩
    show 2 ^ (s + 1) * 1 = 2 * 2 ^ s
    rw [Nat.mul_one, Nat.pow_succ, Nat.mul_comm]
theorem E2_pow (t c e : Nat) : E2 t c ^ e % 2 ^ t = ((2 ^ t - 1) ^ (c % 2 * e) * 5 ^ (c / 2 * e)) % 2 ^ t := by
  unfold E2
  rw [← Nat.pow_mod, Nat.mul_pow, ← Nat.pow_mul, ← Nat.pow_mul]
theorem two_ct {t e : Nat} (h3 : 3 ≤ t) (h15 : t ≤ 15) (he : 1 ≤ e) : fb_ct (OB e (2 ^ t)) (2 ^ t) = Nat.gcd e 2 * Nat.gcd e (2 ^ (t - 2)) := by
  obtain ⟨h1, h2, hU⟩ := E2_ok h3 h15
  have hm : 0 < 2 ^ (t - 2) := Nat.two_pow_pos _
  rw [bij_ct (E2 t) h1 h2 hU (OB e (2 ^ t)) (fun a _ ho => cop_of_pow he (of_decide_eq_true ho)), ← ct_kill (m := 2) (e := e) (by decide), ← ct_kill (e := e) hm, ← ct_mul_pair _ _ (by decide)]
  refine fb_ct_cong (fun c _ => ?_)
  unfold OB
  rw [← Bool.decide_and]
  apply decide_eq_decide.mpr
  rw [E2_pow]
  exact two_one_iff h3 h15
theorem pow_lt_exp {t : Nat} (h : 2 ^ t ≤ 50001) : t ≤ 15 := by
  apply Classical.byContradiction
  intro hc
  have : 2 ^ 16 ≤ 2 ^ t := Nat.pow_le_pow_right (by decide) (by omega)
  have h2 : (2 : Nat) ^ 16 = 65536 := by decide
  omega
/-- how many have rest one at the e-th power, by the primes -/
theorem roo_fac {n e : Nat} {P T : Nat → Nat} {m : Nat} (h : FacF n P T m) (hn : n ≤ 50001) (he : 1 ≤ e) : fb_ct (OB e n) n = prodF (rooA e P T) m := by
  rw [ct_fac (OB e) (OB_mul e) (by unfold OB; simp [Nat.mod_one]) h]
  refine prodF_cong (fun i hi => ?_)
  obtain ⟨h1, h2⟩ := h.2.1 i hi
  have hle := (fac_at h hi).1
  unfold rooA
  by_cases hc : P i = 2 ∧ 2 < T i
  · rw [if_pos hc]
    have hu := un_eq (P := P) (T := T) h1.1 h2
    rw [hc.1] at hu hle ⊢
    have hu2 : un P T i / 2 = 2 ^ (T i - 2) := by
      rw [hu]
      obtain ⟨s, hs⟩ : ∃ s, T i = s + 2 := ⟨T i - 2, by omega⟩
      rw [hs]
      show 2 ^ (s + 1) * 1 / 2 = 2 ^ s
      rw [Nat.mul_one, Nat.pow_succ, Nat.mul_div_cancel _ (by decide)]
    rw [hu2]
    exact two_ct (by omega) (pow_lt_exp (by omega)) he
  · rw [if_neg hc, un_eq h1.1 h2]
    obtain ⟨g, hg⟩ := one_cycle h1 h2 (by omega) hc
    exact cyc_ct (Nat.pow_pos (by have := h1.1; omega)) hg (U_pp h1 h2) he
theorem ord_crt {m k x e f : Nat} (hc : Nat.Coprime m k) (h1 : IsOrd m x e) (h2 : IsOrd k x f) : IsOrd (m * k) x (Nat.lcm e f) := by
  refine ord_of (fun j => ?_) (Nat.lcm_pos h1.1 h2.1)
  rw [md_split hc, ord_iff h1, ord_iff h2, Nat.lcm_dvd_iff]
/-- by a power of a prime: the cycle's length kills every unit, and one has it as order -/
theorem cy_pp {p t : Nat} (hp : Pr p) (ht : 1 ≤ t) (hb : p ^ t ≤ 50001) : (∀ a, Nat.gcd (p ^ t) a = 1 → a ^ cyF (fun _ => p) (fun _ => t) 0 % p ^ t = 1 % p ^ t) ∧ ∃ x, IsOrd (p ^ t) x (cyF (fun _ => p) (fun _ => t) 0) := by
  have hq : 0 < p ^ t := Nat.pow_pos (by have := hp.1; omega)
  have hu := un_eq (P := fun _ => p) (T := fun _ => t) (i := 0) hp.1 ht
  unfold cyF
  dsimp only at hu ⊢
  by_cases hc : p = 2 ∧ 2 < t
  · rw [if_pos hc]
    obtain ⟨rfl, h2⟩ := hc
    have h15 := pow_lt_exp hb
    have hu2 : un (fun _ => 2) (fun _ => t) 0 / 2 = 2 ^ (t - 2) := by
      rw [hu]
      obtain ⟨s, rfl⟩ : ∃ s, t = s + 2 := ⟨t - 2, by omega⟩
      show 2 ^ (s + 1) * 1 / 2 = 2 ^ s
      rw [Nat.mul_one, Nat.pow_succ, Nat.mul_div_cancel _ (by decide)]
    rw [hu2]
    obtain ⟨h5, h6, hU⟩ := E2_ok (t := t) (by omega) h15
    refine ⟨fun a ha => ?_, 5, two_gen (by omega) h15⟩
    obtain ⟨c, hc1, hc2⟩ := inj_onto (E2 t) h5 h6 hU (Nat.mod_lt a hq) (by rw [cop_mod]; exact ha)
    rw [Nat.pow_mod, ← hc2, E2_pow, two_one_iff (by omega) h15]
    refine ⟨?_, Nat.dvd_mul_left _ _⟩
    have : 2 ∣ 2 ^ (t - 2) := by
      have : 2 ^ 1 ∣ 2 ^ (t - 2) := Nat.pow_dvd_pow 2 (by omega)
      exact this
    exact Nat.dvd_trans this (Nat.dvd_mul_left _ _)
  · rw [if_neg hc, hu]
    obtain ⟨g, hg⟩ := one_cycle hp ht hb hc
    refine ⟨fun a ha => ?_, g, hg⟩
    obtain ⟨j, hj, e⟩ := ord_onto hq hg (U_pp hp ht) (Nat.mod_lt a hq) (by rw [cop_mod]; exact ha)
    rw [Nat.pow_mod, ← e, pow_pow_mod]
    exact pow_one_dvd hg.2.1 (Nat.dvd_mul_left _ _)
/-- the greatest order kills all units, and one has it -/
theorem lam_fac {n : Nat} {P T : Nat → Nat} {m : Nat} (h : FacF n P T m) (hn : n ≤ 50001) : (∀ a, Nat.gcd n a = 1 → a ^ lcmF (cyF P T) m % n = 1 % n) ∧ ∃ x, IsOrd n x (lcmF (cyF P T) m) := by
  have key : ∀ k, k ≤ m → (∀ a, Nat.gcd (prodF (fun i => P i ^ T i) k) a = 1 → a ^ lcmF (cyF P T) k % prodF (fun i => P i ^ T i) k = 1 % prodF (fun i => P i ^ T i) k) ∧ ∃ x, IsOrd (prodF (fun i => P i ^ T i) k) x (lcmF (cyF P T) k) := by
    intro k
    induction k with
    | zero =>
      intro _
      refine ⟨fun a _ => ?_, 1, Nat.one_pos, rfl, fun k h1 h2 => ?_⟩
      · show a ^ 1 % 1 = 1 % 1
        rw [Nat.mod_one]
      · have : k < 1 := h2
        omega
    | succ k ih =>
      intro hk
      obtain ⟨h1, x, h2⟩ := ih (by omega)
      obtain ⟨p1, p2⟩ := h.2.1 k (by omega)
      have hle := (fac_at h (show k < m by omega)).1
      obtain ⟨h3, y, h4⟩ := cy_pp p1 p2 (by omega)
      have hc := fac_cop h (k := k) (by omega) (Nat.le_refl k)
      have hp1 : 0 < prodF (fun i => P i ^ T i) k := fac_n1 (fac_pre h (by omega))
      have hp2 : 0 < P k ^ T k := Nat.pow_pos (by have := p1.1; omega)
      have hcy : cyF (fun _ => P k) (fun _ => T k) 0 = cyF P T k := rfl
      rw [hcy] at h3 h4
      refine ⟨fun a ha => ?_, ?_⟩
      · show a ^ Nat.lcm (lcmF (cyF P T) k) (cyF P T k) % (prodF (fun i => P i ^ T i) k * P k ^ T k) = 1 % (prodF (fun i => P i ^ T i) k * P k ^ T k)
        obtain ⟨g1, g2⟩ := Nat.coprime_mul_iff_left.mp ha
        exact (md_split hc).mpr ⟨pow_one_dvd (h1 a g1) (Nat.dvd_lcm_left _ _), pow_one_dvd (h3 a g2) (Nat.dvd_lcm_right _ _)⟩
      · obtain ⟨z, -, z1, z2⟩ := crt_ex hc hp1 hp2 (Nat.mod_lt x hp1) (Nat.mod_lt y hp2)
        refine ⟨z, ord_crt hc ?_ ?_⟩
        · rw [← ord_mod, z1, ord_mod]; exact h2
        · rw [← ord_mod, z2, ord_mod]; exact h4
  rw [h.1]
  exact key m (Nat.le_refl m)
