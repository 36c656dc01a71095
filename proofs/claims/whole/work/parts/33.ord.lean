/-! how many have a given order; generators -/
noncomputable def cb (c : Prop) : Bool := @decide c (Classical.propDecidable c)
theorem cb_t {c : Prop} (h : c) : cb c = true := @decide_eq_true c (Classical.propDecidable c) h
theorem cb_of {c : Prop} (h : cb c = true) : c := @of_decide_eq_true c (Classical.propDecidable c) h
theorem cb_f {c : Prop} (h : ¬ c) : cb c = false := @decide_eq_false c (Classical.propDecidable c) h
theorem cb_iff {c d : Prop} (h : c ↔ d) : cb c = cb d := by
  by_cases q : c
  · rw [cb_t q, cb_t (h.mp q)]
  · rw [cb_f q, cb_f (fun r => q (h.mpr r))]
theorem pow_divs {p : Nat} (hp : Pr p) : ∀ (r : Nat) {e : Nat}, e ∣ p ^ r → ∃ j, j ≤ r ∧ e = p ^ j
  | 0, e, h => ⟨0, Nat.le_refl 0, by rw [Nat.pow_zero] at h ⊢; exact Nat.eq_one_of_dvd_one h⟩
  | r + 1, e, h => by
    by_cases hd : p ∣ e
    · obtain ⟨f, hf⟩ := hd
      have h1 : f ∣ p ^ r := by
        rw [hf, Nat.pow_succ, Nat.mul_comm (p ^ r) p] at h
        exact Nat.dvd_of_mul_dvd_mul_left (by have := hp.1; omega) h
      obtain ⟨j, hj, e1⟩ := pow_divs hp r h1
      exact ⟨j + 1, by omega, by rw [hf, e1, Nat.pow_succ, Nat.mul_comm]⟩
    · have hc : Nat.Coprime e (p ^ (r + 1)) := (Nat.Coprime.pow_left (r + 1) (pr_cop hp hd)).symm
      exact ⟨0, by omega, by rw [Nat.pow_zero]; exact Nat.Coprime.eq_one_of_dvd hc h⟩
noncomputable def OrdB (e n a : Nat) : Bool := cb (IsOrd n a e)
/-- those of order p^s, and those that the power before kills: all that p^s kills -/
theorem ord_pp {n p s : Nat} (hp : Pr p) (hs : 1 ≤ s) : fb_ct (OrdB (p ^ s) n) n + fb_ct (OB (p ^ (s - 1)) n) n = fb_ct (OB (p ^ s) n) n := by
  obtain ⟨r, rfl⟩ : ∃ r, s = r + 1 := ⟨s - 1, by omega⟩
  rw [Nat.add_sub_cancel]
  have h2 := hp.1
  have hlt : p ^ r < p ^ (r + 1) := Nat.pow_lt_pow_right (by omega) (by omega)
  rw [← fb_ct_or (p := OrdB (p ^ (r + 1)) n) (q := OB (p ^ r) n)]
  · refine fb_ct_cong (fun a _ => ?_)
    apply Bool.eq_iff_iff.mpr
    rw [Bool.or_eq_true]
    constructor
    · rintro (h | h)
      · exact decide_eq_true (cb_of h).2.1
      · exact decide_eq_true (pow_one_dvd (of_decide_eq_true h) (Nat.pow_dvd_pow p (by omega)))
    · intro h
      have h3 := of_decide_eq_true h
      by_cases h4 : a ^ (p ^ r) % n = 1 % n
      · exact Or.inr (decide_eq_true h4)
      · left
        apply cb_t
        refine ord_of (fun k => ⟨fun hk => ?_, fun hd => pow_one_dvd h3 hd⟩) (Nat.pow_pos (by omega))
        -- the gcd of k and p^(r+1) kills too; it is a power of p
        apply Classical.byContradiction
        intro hnd
        obtain ⟨e, ⟨e1, e2⟩, e3⟩ := pk_least (fun e => 0 < e ∧ a ^ e % n = 1 % n) ⟨p ^ (r + 1), Nat.pow_pos (by omega), h3⟩
        have ho : IsOrd n a e := ⟨e1, e2, fun k a1 a2 a3 => e3 k a2 ⟨a1, a3⟩⟩
        have d1 := ord_dvd ho h3
        have d2 := ord_dvd ho hk
        obtain ⟨j, hj, hj2⟩ : ∃ j, j ≤ r + 1 ∧ e = p ^ j := pow_divs hp (r + 1) d1
        by_cases hjr : j = r + 1
        · rw [hj2, hjr] at d2; exact hnd d2
        · exact h4 (pow_one_dvd e2 (by rw [hj2]; exact Nat.pow_dvd_pow p (by omega)))
  · intro a _ hh
    have h1 := cb_of hh.1
    exact h1.2.2 (p ^ r) (Nat.pow_pos (by omega)) hlt (of_decide_eq_true hh.2)
theorem ord_mulct {n e f : Nat} (hn : 0 < n) (he : 1 ≤ e) (hf : 1 ≤ f) (hc : Nat.Coprime e f) : fb_ct (OrdB (e * f) n) n = fb_ct (OrdB e n) n * fb_ct (OrdB f n) n := by
  obtain ⟨u, -, u1, u2⟩ := crt_ex hc he hf (i := 1 % e) (j := 0) (Nat.mod_lt _ he) hf
  obtain ⟨v, -, v1, v2⟩ := crt_ex hc he hf (i := 0) (j := 1 % f) he (Nat.mod_lt _ hf)
  have fu : f ∣ u := Nat.dvd_of_mod_eq_zero u2
  have ev : e ∣ v := Nat.dvd_of_mod_eq_zero v1
  -- powers by u, v
  have hxu : ∀ x, x ^ e % n = 1 % n → x ^ u % n = x % n := fun x h => by
    rw [pow_mod_ord h u, u1, ← pow_mod_ord h 1, Nat.pow_one]
  have hyv : ∀ y, y ^ f % n = 1 % n → y ^ v % n = y % n := fun y h => by
    rw [pow_mod_ord h v, v2, ← pow_mod_ord h 1, Nat.pow_one]
  have hxv : ∀ x, x ^ e % n = 1 % n → x ^ v % n = 1 % n := fun x h => pow_one_dvd h ev
  have hyu : ∀ y, y ^ f % n = 1 % n → y ^ u % n = 1 % n := fun y h => pow_one_dvd h fu
  have mu : ∀ x y, x ^ e % n = 1 % n → y ^ f % n = 1 % n → (x * y) ^ u % n = x % n ∧ (x * y) ^ v % n = y % n := fun x y hx hy => by
    rw [Nat.mul_pow, Nat.mul_pow]
    constructor
    · have : x ^ u * y ^ u % n = x * 1 % n := md_mul (hxu x hx) (hyu y hy)
      rw [this, Nat.mul_one]
    · have : x ^ v * y ^ v % n = 1 * y % n := md_mul (hxv x hx) (hyv y hy)
      rw [this, Nat.one_mul]
  have eu : ∀ j, e ∣ u * j ↔ e ∣ j := fun j => by
    have : Nat.Coprime e u := by
      show Nat.gcd e u = 1
      rw [← cop_mod, u1, cop_mod]; exact Nat.gcd_one_right e
    exact ⟨fun h => this.dvd_of_dvd_mul_left h, fun h => Nat.dvd_trans h (Nat.dvd_mul_left _ _)⟩
  have fv : ∀ j, f ∣ v * j ↔ f ∣ j := fun j => by
    have : Nat.Coprime f v := by
      show Nat.gcd f v = 1
      rw [← cop_mod, v2, cop_mod]; exact Nat.gcd_one_right f
    exact ⟨fun h => this.dvd_of_dvd_mul_left h, fun h => Nat.dvd_trans h (Nat.dvd_mul_left _ _)⟩
  have ef : ∀ k, e * f ∣ k ↔ e ∣ k ∧ f ∣ k := fun k => ⟨fun h => ⟨Nat.dvd_trans (Nat.dvd_mul_right _ _) h, Nat.dvd_trans (Nat.dvd_mul_left _ _) h⟩, fun h => hc.mul_dvd_of_dvd_of_dvd h.1 h.2⟩
  rw [← ct_mul_pair _ _ hn]
  apply Nat.le_antisymm
  · refine ct_inj (fun z => z ^ u % n + n * (z ^ v % n)) (fun z hz ho => ⟨crt_lt (Nat.mod_lt _ hn) (Nat.mod_lt _ hn), ?_⟩) (fun z z' hz hz' h1 h2 e1 => ?_)
    · have ho := cb_of ho
      rw [Nat.add_mul_mod_self_left, Nat.mod_mod, Nat.add_mul_div_left _ _ hn, Nat.div_eq_of_lt (Nat.mod_lt _ hn), Nat.zero_add, Bool.and_eq_true]
      refine ⟨cb_t (ord_mod.mpr (ord_of (fun j => ?_) he)), cb_t (ord_mod.mpr (ord_of (fun j => ?_) hf))⟩
      · rw [← Nat.pow_mul, ord_iff ho, ef, eu]
        exact ⟨fun h => h.1, fun h => ⟨h, Nat.dvd_trans fu (Nat.dvd_mul_right _ _)⟩⟩
      · rw [← Nat.pow_mul, ord_iff ho, ef, fv]
        exact ⟨fun h => h.2, fun h => ⟨Nat.dvd_trans ev (Nat.dvd_mul_right _ _), h⟩⟩
    · have o1 := cb_of h1
      have o2 := cb_of h2
      obtain ⟨q1, q2⟩ := crt_code hn (Nat.mod_lt _ hn) (Nat.mod_lt _ hn) e1
      have k : ∀ z, IsOrd n z (e * f) → z ^ u * z ^ v % n = z % n := fun z ho => by
        have huv : (u + v) % (e * f) = 1 % (e * f) := by
          refine md_both hc ?_ ?_
          · rw [Nat.add_mod, u1, v1, Nat.add_zero, Nat.mod_mod]
          · rw [Nat.add_mod, u2, v2, Nat.zero_add, Nat.mod_mod]
        rw [← Nat.pow_add, pow_mod_ord ho.2.1 (u + v), huv, ← pow_mod_ord ho.2.1 1, Nat.pow_one]
      have q3 : z % n = z' % n := by rw [← k z o1, ← k z' o2]; exact md_mul q1 q2
      rwa [Nat.mod_eq_of_lt hz, Nat.mod_eq_of_lt hz'] at q3
  · refine ct_inj (fun c => (c % n) * (c / n) % n) (fun c hcl ho => ⟨Nat.mod_lt _ hn, ?_⟩) (fun c d h1 h2 h3 h4 e1 => ?_)
    · rw [Bool.and_eq_true] at ho
      have o1 := cb_of ho.1
      have o2 := cb_of ho.2
      refine cb_t (ord_mod.mpr (ord_of (fun j => ⟨fun h => ?_, fun h => ?_⟩) (Nat.mul_pos he hf)))
      · obtain ⟨m1, m2⟩ := mu _ _ o1.2.1 o2.2.1
        rw [ef]
        constructor
        · apply ord_dvd o1
          have : ((c % n) * (c / n)) ^ (j * u) % n = 1 % n := pow_one_mul h u
          rw [Nat.mul_comm j u, Nat.pow_mul, Nat.pow_mod, m1, ← Nat.pow_mod] at this
          exact this
        · apply ord_dvd o2
          have : ((c % n) * (c / n)) ^ (j * v) % n = 1 % n := pow_one_mul h v
          rw [Nat.mul_comm j v, Nat.pow_mul, Nat.pow_mod, m2, ← Nat.pow_mod] at this
          exact this
      · obtain ⟨d1, d2⟩ := (ef j).mp h
        rw [Nat.mul_pow]
        have : (c % n) ^ j * (c / n) ^ j % n = 1 * 1 % n := md_mul (pow_one_dvd o1.2.1 d1) (pow_one_dvd o2.2.1 d2)
        rw [this]
    · rw [Bool.and_eq_true] at h3 h4
      obtain ⟨m1, m2⟩ := mu _ _ (cb_of h3.1).2.1 (cb_of h3.2).2.1
      obtain ⟨m3, m4⟩ := mu _ _ (cb_of h4.1).2.1 (cb_of h4.2).2.1
      have a1 : c % n % n = d % n % n := by rw [← m1, ← m3]; exact md_pow e1 u
      have a2 : c / n % n = d / n % n := by rw [← m2, ← m4]; exact md_pow e1 v
      rw [Nat.mod_mod, Nat.mod_mod] at a1
      rw [Nat.mod_eq_of_lt (Nat.div_lt_of_lt_mul h1), Nat.mod_eq_of_lt (Nat.div_lt_of_lt_mul h2)] at a2
      rw [← Nat.div_add_mod c n, ← Nat.div_add_mod d n, a1, a2]
/-- how many have order e, by the primes of e -/
theorem ord_fac {n e : Nat} (hn : 0 < n) {Q S : Nat → Nat} {k : Nat} (h : FacF e Q S k) : fb_ct (OrdB e n) n = prodF (fun i => fb_ct (OB (Q i ^ S i) n) n - fb_ct (OB (Q i ^ (S i - 1)) n) n) k := by
  have key : ∀ j, j ≤ k → fb_ct (OrdB (prodF (fun i => Q i ^ S i) j) n) n = prodF (fun i => fb_ct (OB (Q i ^ S i) n) n - fb_ct (OB (Q i ^ (S i - 1)) n) n) j := by
    intro j
    induction j with
    | zero =>
      intro _
      show fb_ct (OrdB 1 n) n = 1
      have h1 : fb_ct (OrdB 1 n) n = fb_ct (fun a => decide (a = 1 % n)) n := fb_ct_cong (fun a ha => by
        apply Bool.eq_iff_iff.mpr
        rw [decide_eq_true_iff]
        constructor
        · intro h
          have h2 := (cb_of h).2.1
          rwa [Nat.pow_one, Nat.mod_eq_of_lt ha] at h2
        · intro h
          refine cb_t ⟨Nat.one_pos, by rw [Nat.pow_one, h, Nat.mod_mod], fun k a b => by omega⟩)
      rw [h1]
      have h3 := fb_ct_upd (fun _ => false) true (i := 1 % n) (n := n) (Nat.mod_lt _ hn)
      have h4 : fb_ct (fun a => decide (a = 1 % n)) n = fb_ct (fun a => if a = 1 % n then true else false) n := fb_ct_cong (fun a _ => by
        by_cases e : a = 1 % n
        · rw [if_pos e]; exact decide_eq_true e
        · rw [if_neg e]; exact decide_eq_false e)
      have h5 : fb_ct (fun _ => false) n = 0 := fb_ct_zero.mpr (fun _ _ => rfl)
      rw [h4]
      rw [h5, if_neg (by decide), if_pos rfl] at h3
      omega
    | succ j ih =>
      intro hj
      show fb_ct (OrdB (prodF (fun i => Q i ^ S i) j * Q j ^ S j) n) n = prodF _ j * (fb_ct (OB (Q j ^ S j) n) n - fb_ct (OB (Q j ^ (S j - 1)) n) n)
      obtain ⟨p1, p2⟩ := h.2.1 j (by omega)
      rw [ord_mulct hn (fac_n1 (fac_pre h (by omega))) (Nat.pow_pos (by have := p1.1; omega)) (fac_cop h (k := j) (by omega) (Nat.le_refl j)), ih (by omega)]
      congr 1
      have := ord_pp (n := n) p1 p2
      omega
  rw [h.1]
  exact key k (Nat.le_refl k)
/-- one of order m generates all: those of order m are the powers by what shares nothing with m -/
theorem ord_powg {n g m j : Nat} (h : IsOrd n g m) : IsOrd n (g ^ j % n) m ↔ Nat.gcd m j = 1 := by
  rw [ord_mod]
  constructor
  · intro ho
    have hd := Nat.gcd_dvd_left m j
    obtain ⟨t, ht⟩ := hd
    obtain ⟨s, hs⟩ := Nat.gcd_dvd_right m j
    have hg : 0 < Nat.gcd m j := Nat.gcd_pos_of_pos_left j h.1
    have h1 : (g ^ j) ^ t % n = 1 % n := by
      rw [← Nat.pow_mul]
      refine pow_one_dvd h.2.1 ⟨s, ?_⟩
      calc j * t = Nat.gcd m j * s * t := by rw [← hs]
        _ = Nat.gcd m j * t * s := by rw [Nat.mul_assoc, Nat.mul_comm s t, ← Nat.mul_assoc]
        _ = m * s := by rw [← ht]
    have h2 := ord_dvd ho h1
    have ht0 : 0 < t := Nat.pos_of_ne_zero (fun e => by rw [e, Nat.mul_zero] at ht; have := h.1; omega)
    have h3 := Nat.le_of_dvd ht0 h2
    apply Classical.byContradiction
    intro hne
    have : 2 * t ≤ Nat.gcd m j * t := Nat.mul_le_mul_right t (by omega)
    omega
  · intro hc
    refine ord_of (fun k => ?_) h.1
    rw [← Nat.pow_mul, ord_iff h]
    have hcc : Nat.Coprime m j := hc
    exact ⟨fun hd => hcc.dvd_of_dvd_mul_left hd, fun hd => Nat.dvd_trans hd (Nat.dvd_mul_left _ _)⟩
theorem gen_ct {n g m : Nat} (hn : 0 < n) (h : IsOrd n g m) (hU : U n = m) : fb_ct (OrdB m n) n = U m := by
  have hcg : Nat.Coprime n g := cop_of_pow h.1 h.2.1
  rw [bij_ct (fun j => g ^ j % n) (fun i _ => ⟨Nat.mod_lt _ hn, by rw [cop_mod]; exact pow_cop hcg i⟩) (fun i j hi hj e => ord_inj h hi hj e) hU (OrdB m n) (fun a _ ho => cop_of_pow h.1 (cb_of ho).2.1)]
  refine fb_ct_cong (fun j _ => ?_)
  apply Bool.eq_iff_iff.mpr
  exact ⟨fun q => decide_eq_true ((ord_powg h).mp (cb_of q)), fun q => cb_t ((ord_powg h).mpr (of_decide_eq_true q))⟩
/-- an order divides the greatest -/
theorem ord_lam {n : Nat} {P T : Nat → Nat} {m a e : Nat} (h : FacF n P T m) (hn : n ≤ 50001) (ho : IsOrd n a e) : e ∣ lcmF (cyF P T) m :=
  ord_dvd ho ((lam_fac h hn).1 a (cop_of_pow ho.1 ho.2.1))
