/-! numbers that look prime: how many they lie to; those that lie to all; primes look so to all -/
def NB (x n a : Nat) : Bool := decide ((a ^ x + 1) % n = 0)
theorem NB_mul (x m k a : Nat) (hc : Nat.Coprime m k) : NB x (m * k) a = (NB x m (a % m) && NB x k (a % k)) := by
  unfold NB
  rw [← Bool.decide_and]
  apply decide_eq_decide.mpr
  have h : ∀ q, ((a % q) ^ x + 1) % q = (a ^ x + 1) % q := fun q => by
    rw [Nat.add_mod, ← Nat.pow_mod, ← Nat.add_mod]
  rw [h, h]
  have := md_split (a := a ^ x + 1) (b := 0) hc
  rwa [Nat.zero_mod, Nat.zero_mod, Nat.zero_mod] at this
/-- a solution of j x = c by m, and all of them -/
theorem ct_sol {m x c j0 : Nat} (hm : 0 < m) (h0 : j0 * x % m = c % m) : fb_ct (fun j => decide (j * x % m = c % m)) m = Nat.gcd x m := by
  rw [← ct_kill hm]
  have hj : (j0 % m) * x % m = c % m := by rw [← h0, Nat.mod_mul_mod]
  have hlt := Nat.mod_lt j0 hm
  apply Nat.le_antisymm
  · refine ct_inj (fun j => (j + (m - j0 % m)) % m) (fun j hjl hs => ⟨Nat.mod_lt _ hm, decide_eq_true ?_⟩) (fun i j hi hj2 _ _ e => ?_)
    · have hs := of_decide_eq_true hs
      apply Nat.dvd_of_mod_eq_zero
      rw [Nat.mod_mul_mod, Nat.add_mul]
      have e1 : (j * x + (m - j0 % m) * x) % m = ((j0 % m) * x + (m - j0 % m) * x) % m := by
        rw [Nat.add_mod, hs, ← hj, ← Nat.add_mod]
      rw [e1, ← Nat.add_mul, Nat.add_sub_cancel' (by omega)]
      exact Nat.mul_mod_right m x
    · have e1 : ∀ j, j < m → ((j + (m - j0 % m)) % m + j0 % m) % m = j := fun j hjl => by
        rw [Nat.mod_add_mod]
        rw [show j + (m - j0 % m) + j0 % m = j + m by omega, Nat.add_mod_right, Nat.mod_eq_of_lt hjl]
      have a1 := e1 i hi
      have a2 := e1 j hj2
      rw [← a1, ← a2, e]
  · refine ct_inj (fun j => (j + j0 % m) % m) (fun j hjl hs => ⟨Nat.mod_lt _ hm, decide_eq_true ?_⟩) (fun i j hi hj2 _ _ e => ?_)
    · have hs := Nat.mod_eq_zero_of_dvd (of_decide_eq_true hs)
      rw [Nat.mod_mul_mod, Nat.add_mul, Nat.add_mod, hs, Nat.zero_add, Nat.mod_mod]
      exact hj
    · have e1 : ∀ j, j < m → ((j + j0 % m) % m + (m - j0 % m)) % m = j := fun j hjl => by
        rw [Nat.mod_add_mod]
        rw [show j + j0 % m + (m - j0 % m) = j + m by omega, Nat.add_mod_right, Nat.mod_eq_of_lt hjl]
      have a1 := e1 i hi
      have a2 := e1 j hj2
      rw [← a1, ← a2, e]
/-- a multiple of x that has the rest of the gcd -/
theorem bez (x m : Nat) (hm : 0 < m) : ∃ j, j * x % m = Nat.gcd x m % m := by
  -- the multiples of x by m are those of the gcd: as many
  have hd : 0 < Nat.gcd x m := Nat.gcd_pos_of_pos_right x hm
  obtain ⟨s, hs⟩ := Nat.gcd_dvd_right x m
  obtain ⟨t, ht⟩ := Nat.gcd_dvd_left x m
  have hs0 : 0 < s := Nat.pos_of_ne_zero fun h => by rw [h, Nat.mul_zero] at hs; omega
  have hco : Nat.Coprime s t := by
    have h1 := Nat.gcd_mul_left (Nat.gcd x m) t s
    rw [← ht, ← hs] at h1
    have h2 : Nat.gcd x m * 1 = Nat.gcd x m * Nat.gcd t s := by rw [← h1, Nat.mul_one]
    exact (Nat.gcd_comm s t).trans (Nat.eq_of_mul_eq_mul_left hd h2).symm
  obtain ⟨e, ho, -⟩ := ord_ex hs0 hco
  refine ⟨t ^ (e - 1), ?_⟩
  have h3 : t ^ (e - 1) * t % s = 1 % s := by rw [← Nat.pow_succ, show (e - 1).succ = e by have := ho.1; omega]; exact ho.2.1
  have h4 : t ^ (e - 1) * x = Nat.gcd x m * (t ^ (e - 1) * t) := by
    calc t ^ (e - 1) * x = t ^ (e - 1) * (Nat.gcd x m * t) := by rw [← ht]
      _ = _ := by rw [Nat.mul_left_comm]
  rw [h4]
  have h5 : Nat.gcd x m * (t ^ (e - 1) * t) % (Nat.gcd x m * s) = Nat.gcd x m * 1 % (Nat.gcd x m * s) := by
    rw [Nat.mul_mod_mul_left, Nat.mul_mod_mul_left, h3]
  rw [← hs, Nat.mul_one] at h5
  exact h5
/-- by an odd power of a prime -1 is half way round -/
theorem half_neg {q g h : Nat} (hq : 3 ≤ q) (hp : ∃ p t, Pr p ∧ q = p ^ t ∧ p % 2 = 1 ∧ 1 ≤ t) (ho : IsOrd q g (2 * h)) (hh : 1 ≤ h) : (g ^ h + 1) % q = 0 := by
  obtain ⟨p, t, pp, rfl, podd, ht⟩ := hp
  have h1 : g ^ (2 * h) % p ^ t = 1 % p ^ t := ho.2.1
  -- p^t divides (g^h - 1)(g^h + 1); p can't divide both
  have hg1 : 1 ≤ g ^ h := Nat.pos_of_ne_zero (fun e => by
    have : g ^ (2 * h) = 0 := by rw [Nat.mul_comm, Nat.pow_mul, e]
    rw [this, Nat.zero_mod, Nat.mod_eq_of_lt (by omega)] at h1
    omega)
  have h2 : p ^ t ∣ (g ^ h - 1) * (g ^ h + 1) := by
    have e : g ^ (2 * h) - 1 = (g ^ h - 1) * (g ^ h + 1) := by
      rw [Nat.mul_comm 2 h, Nat.pow_mul, Nat.pow_two, Nat.sub_mul, Nat.one_mul, Nat.mul_add, Nat.mul_one]
      omega
    rw [← e]
    have hge : 1 ≤ g ^ (2 * h) := by
      rw [Nat.mul_comm, Nat.pow_mul]; exact Nat.pow_pos hg1
    exact (md_iff hge).mp h1
  by_cases hd : p ∣ g ^ h - 1
  · have hnd : ¬ p ∣ g ^ h + 1 := fun hd2 => by
      have h3 : p ∣ (g ^ h + 1) - (g ^ h - 1) := Nat.dvd_sub hd2 hd
      rw [show g ^ h + 1 - (g ^ h - 1) = 2 by omega] at h3
      have := Nat.le_of_dvd (by decide) h3
      have := pp.1
      omega
    have hc : Nat.Coprime (p ^ t) (g ^ h + 1) := Nat.Coprime.pow_left t (pr_cop pp hnd)
    have h4 : p ^ t ∣ g ^ h - 1 := hc.dvd_of_dvd_mul_right h2
    exact absurd ((md_iff hg1).mpr h4) (ho.2.2 h (by omega) (by omega))
  · have hc : Nat.Coprime (p ^ t) (g ^ h - 1) := Nat.Coprime.pow_left t (pr_cop pp hd)
    exact Nat.mod_eq_zero_of_dvd (hc.dvd_of_dvd_mul_left h2)
theorem neg_iff {q g h k : Nat} (hq : 3 ≤ q) (ho : IsOrd q g (2 * h)) (hh : 1 ≤ h) (hn : (g ^ h + 1) % q = 0) : (g ^ k + 1) % q = 0 ↔ k % (2 * h) = h % (2 * h) := by
  -- g^k = -1 = g^h
  have hc : Nat.Coprime q g := cop_of_pow ho.1 ho.2.1
  have e1 : (g ^ k + 1) % q = 0 ↔ g ^ k % q = g ^ h % q := by
    constructor
    · intro h1
      have : (g ^ k + 1) % q = (g ^ h + 1) % q := by rw [h1, hn]
      have k2 : ∀ x : Nat, (x + 1 + (q - 1)) % q = x % q := fun x => by
        rw [show x + 1 + (q - 1) = x + q by omega, Nat.add_mod_right]
      rw [← k2 (g ^ k), Nat.add_mod, this, ← Nat.add_mod, k2]
    · intro h1
      rw [Nat.add_mod, h1, ← Nat.add_mod, hn]
  rw [e1]
  constructor
  · intro h1
    have h2 := pow_mod_ord ho.2.1 k
    have h3 := pow_mod_ord ho.2.1 h
    rw [h2, h3] at h1
    exact ord_inj ho (Nat.mod_lt _ ho.1) (Nat.mod_lt _ ho.1) h1
  · intro h1
    rw [pow_mod_ord ho.2.1 k, pow_mod_ord ho.2.1 h, h1]
/-- by an odd power of a prime p, p - 1 = 2^v w: how many have rest -1 at the power 2^r d, d odd and without p -/
theorem neg_ct {p t v w r d : Nat} (hp : Pr p) (podd : p % 2 = 1) (ht : 1 ≤ t) (hb : p ^ t ≤ 50001) (hv : Two (p - 1) v w) (hd : d % 2 = 1) (hpd : ¬ p ∣ d) : fb_ct (NB (2 ^ r * d) (p ^ t)) (p ^ t) = if r < v then 2 ^ r * Nat.gcd d w else 0 := by
  have h2 := hp.1
  have hq3 : 3 ≤ p ^ t := Nat.le_trans (by omega) (pow_ge1 h2 ht)
  obtain ⟨g, hg⟩ := pp_gen hp podd ht hb
  have hv1 : 1 ≤ v := by
    apply Classical.byContradiction
    intro hc
    have : v = 0 := by omega
    subst this
    have e1 := hv.1
    rw [Nat.pow_zero, Nat.one_mul] at e1
    have := hv.2
    omega
  have hw1 : 1 ≤ w := Nat.pos_of_ne_zero (fun e => by have := hv.2; omega)
  have hpt1 : 1 ≤ p ^ (t - 1) := Nat.pow_pos (by omega)
  -- the order is 2 h, h = 2^(v-1) p^(t-1) w
  have hm : p ^ (t - 1) * (p - 1) = 2 * (2 ^ (v - 1) * (p ^ (t - 1) * w)) := by
    obtain ⟨v', rfl⟩ : ∃ v', v = v' + 1 := ⟨v - 1, by omega⟩
    rw [hv.1, Nat.add_sub_cancel, Nat.pow_succ, Nat.mul_left_comm, Nat.mul_comm (2 ^ v') 2, Nat.mul_assoc]
  have hU := U_pp hp ht
  rw [hm] at hg hU
  generalize hh : 2 ^ (v - 1) * (p ^ (t - 1) * w) = h at hg hU hm
  have hh1 : 1 ≤ h := by
    rw [← hh]
    exact Nat.mul_pos (Nat.two_pow_pos _) (Nat.mul_pos hpt1 hw1)
  have hneg := half_neg hq3 ⟨p, t, hp, rfl, podd, ht⟩ hg hh1
  have hcg : Nat.Coprime (p ^ t) g := cop_of_pow hg.1 hg.2.1
  have hx1 : 1 ≤ 2 ^ r * d := Nat.mul_pos (Nat.two_pow_pos r) (by omega)
  rw [bij_ct (fun j => g ^ j % p ^ t) (fun i _ => ⟨Nat.mod_lt _ (by omega), by rw [cop_mod]; exact pow_cop hcg i⟩) (fun i j hi hj e => ord_inj hg hi hj e) hU (NB (2 ^ r * d) (p ^ t)) (fun a _ hn => by
    have hn := of_decide_eq_true hn
    -- a^x = -1: its square is one
    have h5 : a ^ (2 ^ r * d * 2) % p ^ t = 1 % p ^ t := by
      rw [Nat.pow_mul, Nat.pow_two]
      have hle : 1 ≤ a ^ (2 ^ r * d) * a ^ (2 ^ r * d) := by
        have : a ^ (2 ^ r * d) ≠ 0 := fun e => by rw [e, Nat.zero_add, Nat.mod_eq_of_lt (by omega)] at hn; omega
        exact Nat.mul_pos (by omega) (by omega)
      refine (md_iff hle).mpr ?_
      have e6 : a ^ (2 ^ r * d) * a ^ (2 ^ r * d) - 1 = (a ^ (2 ^ r * d) - 1) * (a ^ (2 ^ r * d) + 1) := by
        generalize a ^ (2 ^ r * d) = z at *
        rw [Nat.sub_mul, Nat.one_mul, Nat.mul_add, Nat.mul_one]
        omega
      rw [e6]
      exact Nat.dvd_trans (Nat.dvd_of_mod_eq_zero hn) (Nat.dvd_mul_left _ _)
    exact cop_of_pow (Nat.mul_pos hx1 (by decide)) h5)]
  have e1 : fb_ct (fun j => NB (2 ^ r * d) (p ^ t) (g ^ j % p ^ t)) (2 * h) = fb_ct (fun j => decide (j * (2 ^ r * d) % (2 * h) = h % (2 * h))) (2 * h) := fb_ct_cong (fun j _ => by
    unfold NB
    apply decide_eq_decide.mpr
    rw [← neg_iff hq3 hg hh1 hneg, Nat.add_mod, pow_pow_mod, ← Nat.add_mod])
  rw [e1]
  have hodd : (p ^ (t - 1) * w) % 2 = 1 := by
    rw [Nat.mul_mod, hv.2, Nat.pow_mod, podd, Nat.one_pow]
  have hgd : Nat.gcd d (p ^ (t - 1) * w) = Nat.gcd d w := Nat.Coprime.gcd_mul_left_cancel_right w (Nat.Coprime.pow_left (t - 1) (pr_cop hp hpd))
  by_cases hr : r < v
  · rw [if_pos hr]
    -- a solution: h = 2^r (2^(v-1-r) W), 2h = 2^r (2^(v-r) W); d shares nothing with what is left but odd ones
    have hgc : Nat.gcd (2 ^ r * d) (2 * h) = 2 ^ r * Nat.gcd d w := by
      have e2 : 2 * h = 2 ^ r * (2 ^ (v - r) * (p ^ (t - 1) * w)) := by
        rw [← hh, ← Nat.mul_assoc (2 ^ r), ← Nat.pow_add, show r + (v - r) = (v - 1) + 1 by omega, Nat.pow_succ, Nat.mul_comm (2 ^ (v - 1)) 2, Nat.mul_assoc]
      rw [e2, Nat.gcd_mul_left]
      congr 1
      rw [← hgd]
      refine Nat.Coprime.gcd_mul_left_cancel_right _ ?_
      exact Nat.Coprime.pow_left _ (pr_cop pr_two (fun h => by omega))
    -- gcd divides h: so j0 exists
    obtain ⟨s, hs⟩ : ∃ s, h = Nat.gcd (2 ^ r * d) (2 * h) * s := by
      rw [hgc]
      have : 2 ^ r * Nat.gcd d w ∣ h := by
        rw [← hh]
        refine Nat.mul_dvd_mul (Nat.pow_dvd_pow 2 (by omega)) (Nat.dvd_trans (Nat.gcd_dvd_right d w) (Nat.dvd_mul_left _ _))
      obtain ⟨s, hs⟩ := this
      exact ⟨s, hs⟩
    obtain ⟨j1, hj1⟩ := bez (2 ^ r * d) (2 * h) (by omega)
    have hsol : (j1 * s) * (2 ^ r * d) % (2 * h) = h % (2 * h) := by
      have : j1 * s * (2 ^ r * d) % (2 * h) = Nat.gcd (2 ^ r * d) (2 * h) * s % (2 * h) := by
        rw [Nat.mul_right_comm]
        exact md_mul hj1 rfl
      rw [this, ← hs]
    rw [ct_sol (by omega) hsol, hgc]
  · rw [if_neg hr]
    refine fb_ct_zero.mpr (fun j _ => decide_eq_false (fun e => ?_))
    -- 2^v divides 2h and j 2^r d, not h
    have h6 : 2 ^ v ∣ 2 * h := by
      rw [← hh, ← Nat.mul_assoc, Nat.mul_comm 2, ← Nat.pow_succ, show (v - 1).succ = v by omega]
      exact Nat.dvd_mul_right _ _
    have h7 : 2 ^ v ∣ j * (2 ^ r * d) := Nat.dvd_trans (Nat.dvd_trans (Nat.pow_dvd_pow 2 (by omega)) (Nat.dvd_mul_right (2 ^ r) d)) (Nat.dvd_mul_left _ _)
    have h8 : 2 ^ v ∣ h := by
      have h9 := md_dvd h6 e
      rw [Nat.mod_eq_zero_of_dvd h7] at h9
      exact Nat.dvd_of_mod_eq_zero h9.symm
    rw [← hh] at h8
    obtain ⟨v', rfl⟩ : ∃ v', v = v' + 1 := ⟨v - 1, by omega⟩
    rw [Nat.add_sub_cancel, Nat.pow_succ] at h8
    have h10 := Nat.dvd_of_mul_dvd_mul_left (Nat.two_pow_pos v') h8
    omega
