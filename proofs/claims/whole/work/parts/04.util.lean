/-! ints and longs as numbers; truth as 0 and 1 -/
abbrev tn (x : Int32) : Nat := x.toNatClampNeg
abbrev tl (x : Int64) : Nat := x.toNatClampNeg
noncomputable def zb (c : Prop) : Int32 := @ite _ c (Classical.propDecidable c) 1 0
theorem zb_t {c : Prop} (h : c) : zb c = 1 := if_pos h
theorem zb_f {c : Prop} (h : ¬ c) : zb c = 0 := if_neg h
theorem zb_01 (c : Prop) : zb c = 0 ∨ zb c = 1 := by
  by_cases h : c
  · exact Or.inr (zb_t h)
  · exact Or.inl (zb_f h)
theorem zb_0 {c : Prop} (h : zb c = 0) : ¬ c := fun q => by
  rw [zb_t q] at h; exact absurd h (by decide)
theorem zb_1 {c : Prop} (h : ¬ zb c = 0) : c := by
  by_cases q : c
  · exact q
  · exact absurd (zb_f q) h
theorem zb_c {c d : Prop} (h : c ↔ d) : zb c = zb d := by
  by_cases q : c
  · rw [zb_t q, zb_t (h.mp q)]
  · rw [zb_f q, zb_f (fun r => q (h.mpr r))]
theorem tn_nI {n : Nat} (h : n < 2 ^ 31) : tn (nI n) = n := nI_clamp h
theorem tl_lN {n : Nat} (h : n < 2 ^ 63) : tl (lN n) = n := by
  show (lN n).toInt.toNat = n
  rw [pk_lT h]; rfl
theorem of_i {x : Int32} (h : 0 ≤ x.toInt) : ∃ n : Nat, n < 2 ^ 31 ∧ x = nI n ∧ x.toInt = n := by
  obtain ⟨j, h1, h2⟩ := nI_of (x := x) (fun q => by
    have := Int32.lt_iff_toInt_lt.mp q
    rw [Int32.toInt_zero] at this
    omega)
  exact ⟨j, h1, h2, by rw [h2, nI_toInt h1]⟩
theorem of_l {x : Int64} (h : 0 ≤ x.toInt) : ∃ n : Nat, n < 2 ^ 63 ∧ x = lN n ∧ x.toInt = n := by
  obtain ⟨j, h1, h2⟩ := pk_lOf (x := x) (fun q => by
    have := Int64.lt_iff_toInt_lt.mp q
    rw [Int64.toInt_zero] at this
    omega)
  exact ⟨j, h1, h2, by rw [h2, pk_lT h1]⟩
theorem i_lt {x y : Int32} : x < y ↔ x.toInt < y.toInt := Int32.lt_iff_toInt_lt
theorem i_le {x y : Int32} : x ≤ y ↔ x.toInt ≤ y.toInt := Int32.le_iff_toInt_le
theorem l_lt {x y : Int64} : x < y ↔ x.toInt < y.toInt := Int64.lt_iff_toInt_lt
theorem l_le {x y : Int64} : x ≤ y ↔ x.toInt ≤ y.toInt := Int64.le_iff_toInt_le
theorem i_eq {x y : Int32} : x = y ↔ x.toInt = y.toInt := Int32.toInt_inj.symm
theorem l_eq {x y : Int64} : x = y ↔ x.toInt = y.toInt := Int64.toInt_inj.symm
theorem il_t (x : Int32) : x.toInt64.toInt = x.toInt := Int32.toInt_toInt64 x
theorem ql_le {x y : Int64} {A B : Prop} (a b : Nat) (f : a ≤ b → A) (g : b < a → B) (hx : x = lN a := by rfl) (hy : y = lN b := by rfl) (ha : a < 2 ^ 63 := by omega) (hb : b < 2 ^ 63 := by omega) : (x ≤ y → A) ∧ (¬ x ≤ y → B) := by
  subst hx hy
  rw [pk_lLE ha hb]
  exact ⟨f, fun z => g (by omega)⟩
theorem ql_lt {x y : Int64} {A B : Prop} (a b : Nat) (f : a < b → A) (g : b ≤ a → B) (hx : x = lN a := by rfl) (hy : y = lN b := by rfl) (ha : a < 2 ^ 63 := by omega) (hb : b < 2 ^ 63 := by omega) : (x < y → A) ∧ (¬ x < y → B) := by
  subst hx hy
  rw [pk_lLT ha hb]
  exact ⟨f, fun z => g (by omega)⟩
theorem ql_eq {x y : Int64} {A B : Prop} (a b : Nat) (f : a = b → A) (g : a ≠ b → B) (hx : x = lN a := by rfl) (hy : y = lN b := by rfl) (ha : a < 2 ^ 63 := by omega) (hb : b < 2 ^ 63 := by omega) : (x = y → A) ∧ (¬ x = y → B) := by
  subst hx hy
  rw [pk_lEQ ha hb]
  exact ⟨f, g⟩
theorem nI_nz {n : Nat} (h0 : 0 < n) (h : n < 2 ^ 31) : ¬ nI n = 0 := nI_ne0 h0 h
theorem lN_nz {n : Nat} (h0 : 0 < n) (h : n < 2 ^ 63) : ¬ lN n = 0 := fun q => by
  have := (pk_lEQ h (by decide : 0 < 2 ^ 63)).mp q
  omega
theorem ar_heap {D : va_G} {ws : va_W} {t : State} {H : Heap} (ht : t.heap = H) (hP : va_P D vwCl ws H) : va_P D vwCl ws t.heap := by rw [ht]; exact hP
