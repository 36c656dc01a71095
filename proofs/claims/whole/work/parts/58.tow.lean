/-! towers: numbers -/
theorem pp_ex {p : Nat} (hp : 2 ≤ p) : ∀ (B n : Nat), 1 ≤ n → n ≤ B → ∃ t q, n = p ^ t * q ∧ ¬ p ∣ q
  | 0, n, h1, h2 => by omega
  | B + 1, n, h1, h2 => by
    by_cases hd : p ∣ n
    · obtain ⟨c, rfl⟩ := hd
      have hc : 1 ≤ c := Nat.pos_of_ne_zero (fun e => by subst e; rw [Nat.mul_zero] at h1; omega)
      have h3 : 2 * c ≤ p * c := Nat.mul_le_mul_right c hp
      obtain ⟨t, q, h4, h5⟩ := pp_ex hp B c hc (by omega)
      refine ⟨t + 1, q, ?_, h5⟩
      rw [Nat.pow_succ, Nat.mul_comm (p ^ t) p, Nat.mul_assoc, ← h4]
    · exact ⟨0, n, by rw [Nat.pow_zero, Nat.one_mul], hd⟩
theorem fac_exB : ∀ (B n : Nat), 1 ≤ n → (∀ p, Pr p → p ∣ n → p < B) → ∃ P T m, FacF n P T m ∧ ∀ i, i < m → P i < B
  | 0, n, h1, h => by
    by_cases h2 : n = 1
    · subst h2
      exact ⟨fun _ => 0, fun _ => 0, 0, fac_none _ _, fun i hi => by omega⟩
    · obtain ⟨p, hp, hd, -⟩ := pr_ex (n := n) (by omega)
      exact absurd (h p hp hd) (Nat.not_lt_zero p)
  | B + 1, n, h1, h => by
    by_cases hB : Pr B ∧ B ∣ n
    · obtain ⟨t, q, e, hq⟩ := pp_ex hB.1.1 n n h1 (Nat.le_refl n)
      have hq1 : 1 ≤ q := Nat.pos_of_ne_zero (fun z => hq (by rw [z]; exact Nat.dvd_zero B))
      have ht : 1 ≤ t := Nat.pos_of_ne_zero (fun z => hq (by rw [z, Nat.pow_zero, Nat.one_mul] at e; rw [← e]; exact hB.2))
      obtain ⟨P, T, m, h2, h3⟩ := fac_exB B q hq1 (fun p hp hd => by
        have h4 := h p hp (by rw [e]; exact Nat.dvd_trans hd (Nat.dvd_mul_left q _))
        have h5 : p ≠ B := fun z => hq (z ▸ hd)
        omega)
      have h6 := fac_more h2 hB.1 ht h3
      rw [Nat.mul_comm, ← e] at h6
      refine ⟨_, _, _, h6, fun i hi => ?_⟩
      by_cases hi2 : i = m
      · rw [if_pos hi2]; omega
      · rw [if_neg hi2]; have := h3 i (by omega); omega
    · obtain ⟨P, T, m, h2, h3⟩ := fac_exB B n h1 (fun p hp hd => by
        have h4 := h p hp hd
        have h5 : p ≠ B := fun z => hB (z ▸ ⟨hp, hd⟩)
        omega)
      exact ⟨P, T, m, h2, fun i hi => by have := h3 i hi; omega⟩
theorem fac_ex {n : Nat} (h : 1 ≤ n) : ∃ P T m, FacF n P T m := by
  obtain ⟨P, T, m, h2, -⟩ := fac_exB (n + 1) n h (fun p _ hd => by have := Nat.le_of_dvd h hd; omega)
  exact ⟨P, T, m, h2⟩
theorem U_mul {m k : Nat} (hc : Nat.Coprime m k) (hm : 0 < m) (hk : 0 < k) : U (m * k) = U m * U k := by
  unfold U
  rw [← ct_crt (UB m) (UB k) hc hm hk]
  exact fb_ct_cong (fun a _ => UB_mul m k a hc)
theorem U_one : U 1 = 1 := by decide
theorem U_le (n : Nat) : U n ≤ n := fb_ct_le _ _
theorem U_pos {n : Nat} (h : 1 ≤ n) : 1 ≤ U n := by
  obtain ⟨P, T, m, hF⟩ := fac_ex h
  rw [U_fac hF]
  exact prodF_pos (fun i hi => (fac_un hF i hi).1)
theorem U_odd {m : Nat} (ho : m % 2 = 1) : m < 2 ^ U m := by
  have h1 : m ≤ 2 ^ U m := by
    apply Classical.byContradiction
    intro hc
    have h2 : fb_ct (fun _ => true) (U m + 1) ≤ fb_ct (UB m) m := by
      refine ct_inj (fun k => 2 ^ k) (fun k hk _ => ⟨?_, ?_⟩) (fun i j hi hj _ _ e => ?_)
      · have : 2 ^ k ≤ 2 ^ U m := Nat.pow_le_pow_right (by decide) (by omega)
        omega
      · refine decide_eq_true ?_
        have : Nat.Coprime m 2 := (pr_cop pr_two (fun hd => by have := Nat.mod_eq_zero_of_dvd hd; omega)).symm
        exact this.pow_right k
      · exact (Nat.pow_right_inj (a := 2) (by decide)).mp e
    rw [fb_ct_all.mpr (fun _ _ => rfl)] at h2
    unfold U at h2
    omega
  have h3 := U_pos (n := m) (by omega)
  obtain ⟨s, hs⟩ : ∃ s, U m = s + 1 := ⟨U m - 1, by omega⟩
  rw [hs, Nat.pow_succ] at h1 ⊢
  omega
theorem U_big {m : Nat} (hm : 1 ≤ m) : m < 2 ^ (U m + 1) := by
  obtain ⟨t, q, e, hq⟩ := pp_ex (Nat.le_refl 2) m m hm (Nat.le_refl m)
  have ho : q % 2 = 1 := by
    rcases Nat.mod_two_eq_zero_or_one q with h | h
    · exact absurd (Nat.dvd_of_mod_eq_zero h) hq
    · exact h
  have h1 := U_odd ho
  have h2 := U_pos (n := q) (by omega)
  by_cases ht : t = 0
  · rw [ht, Nat.pow_zero, Nat.one_mul] at e
    subst e
    rw [Nat.pow_succ]; omega
  · have hU : U m = 2 ^ (t - 1) * U q := by
      rw [e, U_mul ((pr_cop pr_two hq).pow_left t) (Nat.two_pow_pos t) (by omega), U_pp pr_two (by omega)]
      rw [show 2 - 1 = 1 from rfl, Nat.mul_one]
    have h3 : t - 1 < 2 ^ (t - 1) := Nat.lt_two_pow_self
    have h4 : t * U q ≤ 2 ^ (t - 1) * U q := Nat.mul_le_mul_right _ (by omega)
    have h5 : t + U q ≤ t * U q + 1 := by
      obtain ⟨x, rfl⟩ : ∃ x, t = x + 1 := ⟨t - 1, by omega⟩
      obtain ⟨y, hy⟩ : ∃ y, U q = y + 1 := ⟨U q - 1, by omega⟩
      rw [hy, Nat.add_mul, Nat.mul_add]
      omega
    have h6 : m < 2 ^ t * 2 ^ U q := by
      rw [e]; exact Nat.mul_lt_mul_of_pos_left h1 (Nat.two_pow_pos t)
    rw [← Nat.pow_add] at h6
    exact Nat.lt_of_lt_of_le h6 (Nat.pow_le_pow_right (by decide) (by omega))
/-- a number's power by n: exponents by U n, once great enough -/
theorem euler_U {n a E F : Nat} (h1 : 1 ≤ n) (hn : n ≤ 50001) (hE : U n < 2 ^ E) (hF : U n < 2 ^ F) (he : E % U n = F % U n) : a ^ E % n = a ^ F % n := by
  obtain ⟨P, T, m, hf⟩ := fac_ex h1
  rw [U_fac hf] at *
  have z : ∀ G, prodF (un P T) m < 2 ^ G → ∀ i, i < m → T i ≤ G := fun G hG i hi => by
    have h1 := (hf.2.1 i hi).1.1
    have h2 := (hf.2.1 i hi).2
    have h3 := un_eq (P := P) (T := T) h1 h2
    have h5 : 2 ^ (T i - 1) ≤ P i ^ (T i - 1) := Nat.pow_le_pow_left h1 _
    have h6 : P i ^ (T i - 1) * 1 ≤ P i ^ (T i - 1) * (P i - 1) := Nat.mul_le_mul_left _ (by omega)
    have h7 := Nat.le_of_dvd (prodF_pos (fun i hi => (fac_un hf i hi).1)) (prodF_dvd (f := un P T) hi)
    have h8 : 2 ^ (T i - 1) < 2 ^ G := by omega
    have := (Nat.pow_lt_pow_iff_right (a := 2) (by decide)).mp h8
    omega
  exact euler_any hf hn (z E hE) (z F hF) he
def tw (c : Nat → Nat) : Nat → Nat → Nat
  | _, 0 => 1
  | at', d + 1 => c at' ^ tw c (at' + 1) d
def szF (n : Nat) : Nat → Nat
  | 0 => n
  | i + 1 => U (szF n i)
theorem szF_b {n : Nat} (h : 1 ≤ n) : ∀ i, 1 ≤ szF n i ∧ szF n i ≤ n
  | 0 => ⟨h, Nat.le_refl n⟩
  | i + 1 => ⟨U_pos (szF_b h i).1, Nat.le_trans (U_le _) (szF_b h i).2⟩
theorem tw_pos {c : Nat → Nat} : ∀ (d i : Nat), (∀ j, i ≤ j → j < i + d → 1 ≤ c j) → 1 ≤ tw c i d
  | 0, _, _ => Nat.le_refl 1
  | d + 1, i, h => Nat.pow_pos (h i (by omega) (by omega))
theorem min_pow {c T K : Nat} (hc : 1 ≤ c) : min (c ^ min T K) K = min (c ^ T) K := by
  by_cases h : T ≤ K
  · rw [Nat.min_eq_left h]
  · rw [Nat.min_eq_right (show K ≤ T by omega)]
    by_cases h1 : c = 1
    · subst h1; rw [Nat.one_pow, Nat.one_pow]
    · have h2 : ∀ x, x < c ^ x := fun x => Nat.lt_pow_self (by omega)
      have h3 := h2 K
      have h4 : c ^ K ≤ c ^ T := Nat.pow_le_pow_right (by omega) (by omega)
      rw [Nat.min_eq_right (show K ≤ c ^ K by omega), Nat.min_eq_right (show K ≤ c ^ T by omega)]
/-- e stands for T by m: the same rest, and the same or both great -/
def Sub (m e T : Nat) : Prop := e % m = T % m ∧ (e = T ∨ (m < 2 ^ e ∧ m < 2 ^ T))
theorem lift_b {v m : Nat} (hm : 1 ≤ m) : (v < m → lift v m = v) ∧ (m ≤ v → m ≤ lift v m ∧ lift v m < 2 * m) ∧ lift v m % m = v % m := by
  unfold lift
  refine ⟨fun h => if_pos h, fun h => ?_, ?_⟩
  · rw [if_neg (by omega)]
    have := Nat.mod_lt v (show 0 < m by omega)
    omega
  · by_cases h : v < m
    · rw [if_pos h]
    · rw [if_neg h, Nat.add_mod_right, Nat.mod_mod]
theorem lift_lt {v m : Nat} (hm : 1 ≤ m) : lift v m < 2 * m := by
  by_cases h : v < m
  · rw [(lift_b hm).1 h]; omega
  · exact ((lift_b hm).2.1 (by omega)).2
theorem lift_pos {v m : Nat} (hm : 1 ≤ m) (hv : 1 ≤ v) : 1 ≤ lift v m := by
  by_cases h : v < m
  · rw [(lift_b hm).1 h]; exact hv
  · have := ((lift_b (v := v) hm).2.1 (by omega)).1; omega
/-- both the same, or both at m and above with the same rest -/
def Like (m x y : Nat) : Prop := x = y ∨ (m ≤ x ∧ m ≤ y ∧ x % m = y % m)
theorem lift_like {v m : Nat} (hm : 1 ≤ m) : Like m (lift v m) v := by
  by_cases h : v < m
  · exact Or.inl ((lift_b hm).1 h)
  · have := (lift_b (v := v) hm).2
    exact Or.inr ⟨(this.1 (by omega)).1, by omega, this.2⟩
theorem Like.mul {m x y u v : Nat} (h : Like m x y) (k : Like m u v) (hx : 1 ≤ x) (hy : 1 ≤ y) (hu : 1 ≤ u) (hv : 1 ≤ v) : Like m (x * u) (y * v) := by
  have z : ∀ {a b : Nat}, 1 ≤ b → a ≤ a * b := fun {a b} h => Nat.le_mul_of_pos_right a h
  have z2 : ∀ {a b : Nat}, 1 ≤ b → a ≤ b * a := fun {a b} h => Nat.le_mul_of_pos_left a h
  rcases h with rfl | ⟨h1, h2, h3⟩ <;> rcases k with rfl | ⟨k1, k2, k3⟩
  · exact Or.inl rfl
  · exact Or.inr ⟨Nat.le_trans k1 (z2 hx), Nat.le_trans k2 (z2 hx), md_mul rfl k3⟩
  · exact Or.inr ⟨Nat.le_trans h1 (z hu), Nat.le_trans h2 (z hu), md_mul h3 rfl⟩
  · exact Or.inr ⟨Nat.le_trans h1 (z hu), Nat.le_trans h2 (z hv), md_mul h3 k3⟩
theorem Like.tr {m x y v : Nat} (h : Like m x y) (k : Like m y v) : Like m x v := by
  rcases h with rfl | ⟨h1, h2, h3⟩
  · exact k
  · rcases k with rfl | ⟨k1, k2, k3⟩
    · exact Or.inr ⟨h1, h2, h3⟩
    · exact Or.inr ⟨h1, k2, h3.trans k3⟩
theorem Like.pow {m x y : Nat} (h : Like m x y) (hx : 1 ≤ x) (hy : 1 ≤ y) : ∀ k, Like m (x ^ k) (y ^ k)
  | 0 => Or.inl rfl
  | k + 1 => by
    rw [Nat.pow_succ, Nat.pow_succ]
    exact (Like.pow h hx hy k).mul h (Nat.pow_pos hx) (Nat.pow_pos hy) hx hy
/-- a level of the tower: what stands for it above, gives what stands for it here -/
theorem sub_step {n c e T r : Nat} (h1 : 1 ≤ n) (hn : n ≤ 50001) (hc : 1 ≤ c) (h : Sub (U n) e T) (hr : Like n r (c ^ e)) : Sub n r (c ^ T) := by
  have hb := U_big h1
  have hs : n < 2 ^ n := Nat.lt_two_pow_self
  have up : ∀ {x y : Nat}, x ≤ y → 2 ^ x ≤ 2 ^ y := fun h => Nat.pow_le_pow_right (by decide) h
  have hcong : c ^ e % n = c ^ T % n := by
    rcases h.2 with rfl | ⟨h2, h3⟩
    · rfl
    · exact euler_U h1 hn h2 h3 h.1
  have hrm : r % n = c ^ e % n := by
    rcases hr with rfl | ⟨-, -, h4⟩
    · rfl
    · exact h4
  refine ⟨hrm.trans hcong, ?_⟩
  by_cases h1c : c = 1
  · subst h1c
    rw [Nat.one_pow] at hr ⊢
    rcases hr with rfl | ⟨h4, h5, -⟩
    · exact Or.inl rfl
    · exact Or.inr ⟨Nat.lt_of_lt_of_le hs (up h4), Nat.lt_of_lt_of_le hs (up h5)⟩
  · have big : ∀ x, U n < 2 ^ x → n < 2 ^ (c ^ x) := fun x hx => by
      have : 2 ^ x ≤ c ^ x := Nat.pow_le_pow_left (by omega) x
      exact Nat.lt_of_lt_of_le hb (up (by omega))
    rcases h.2 with rfl | ⟨h2, h3⟩
    · rcases hr with rfl | ⟨h4, h5, -⟩
      · exact Or.inl rfl
      · exact Or.inr ⟨Nat.lt_of_lt_of_le hs (up h4), Nat.lt_of_lt_of_le hs (up h5)⟩
    · refine Or.inr ⟨?_, big T h3⟩
      rcases hr with rfl | ⟨h4, h5, -⟩
      · exact big e h2
      · exact Nat.lt_of_lt_of_le hs (up h4)
theorem tow_class {n c T s : Nat} (h1 : 1 ≤ n) (hn : n ≤ 50001) (hs : s = U n) (hT : 1000000 ≤ T) : c ^ (T % s + s) % n = c ^ T % n := by
  have h2 := U_le n
  have h3 : ∀ x, x < 2 ^ x := fun x => Nat.lt_two_pow_self
  have h4 := h3 T
  have h5 := h3 (T % s + s)
  subst hs
  refine euler_U h1 hn (by omega) (by omega) ?_
  rw [Nat.add_mod_right, Nat.mod_mod]
