/-! the primes of a number, as the class holds them -/
def prodF (f : Nat → Nat) : Nat → Nat
  | 0 => 1
  | k + 1 => prodF f k * f k
theorem prodF_cong {f g : Nat → Nat} : ∀ {m : Nat}, (∀ i, i < m → f i = g i) → prodF f m = prodF g m
  | 0, _ => rfl
  | m + 1, h => by
    show prodF f m * f m = prodF g m * g m
    rw [prodF_cong (fun i hi => h i (by omega)), h m (by omega)]
theorem prodF_pos {f : Nat → Nat} : ∀ {m : Nat}, (∀ i, i < m → 1 ≤ f i) → 1 ≤ prodF f m
  | 0, _ => Nat.le_refl 1
  | m + 1, h => Nat.mul_pos (prodF_pos (fun i hi => h i (by omega))) (h m (by omega))
theorem prodF_dvd {f : Nat → Nat} : ∀ {m i : Nat}, i < m → f i ∣ prodF f m
  | 0, _, h => absurd h (Nat.not_lt_zero _)
  | m + 1, i, h => by
    by_cases e : i = m
    · subst e; exact Nat.dvd_mul_left _ _
    · exact Nat.dvd_trans (prodF_dvd (by omega)) (Nat.dvd_mul_right _ _)
theorem prodF_mono {f : Nat → Nat} {k : Nat} : ∀ {m : Nat}, k ≤ m → (∀ i, i < m → 1 ≤ f i) → prodF f k ≤ prodF f m
  | 0, h, _ => by
    have : k = 0 := by omega
    subst this; exact Nat.le_refl _
  | m + 1, h, hf => by
    by_cases e : k = m + 1
    · subst e; exact Nat.le_refl _
    · have h1 := prodF_mono (f := f) (k := k) (m := m) (by omega) (fun i hi => hf i (by omega))
      have h2 : prodF f m * 1 ≤ prodF f m * f m := Nat.mul_le_mul_left _ (hf m (by omega))
      rw [Nat.mul_one] at h2
      exact Nat.le_trans h1 h2
theorem prodF_le {f g : Nat → Nat} : ∀ {m : Nat}, (∀ i, i < m → f i ≤ g i) → prodF f m ≤ prodF g m
  | 0, _ => Nat.le_refl _
  | m + 1, h => Nat.mul_le_mul (prodF_le (fun i hi => h i (by omega))) (h m (by omega))
def FacF (n : Nat) (P T : Nat → Nat) (m : Nat) : Prop := n = prodF (fun i => P i ^ T i) m ∧ (∀ i, i < m → Pr (P i) ∧ 1 ≤ T i) ∧ ∀ i j, i < j → j < m → P i < P j
theorem FacF.cong {n : Nat} {P T P' T' : Nat → Nat} {m : Nat} (h : FacF n P T m) (hP : ∀ i, i < m → P' i = P i) (hT : ∀ i, i < m → T' i = T i) : FacF n P' T' m := by
  refine ⟨?_, fun i hi => by rw [hP i hi, hT i hi]; exact h.2.1 i hi, fun i j h1 h2 => by rw [hP i (by omega), hP j h2]; exact h.2.2 i j h1 h2⟩
  rw [h.1]
  exact prodF_cong (fun i hi => by rw [hP i hi, hT i hi])
theorem fac_ge {n : Nat} {P T : Nat → Nat} {m : Nat} (h : FacF n P T m) : ∀ i, i < m → i + 2 ≤ P i
  | 0, hi => (h.2.1 0 hi).1.1
  | i + 1, hi => by
    have h1 := fac_ge h i (by omega)
    have h2 := h.2.2 i (i + 1) (by omega) hi
    omega
theorem pow_ge1 {p t : Nat} (hp : 2 ≤ p) (ht : 1 ≤ t) : p ≤ p ^ t := by
  obtain ⟨s, rfl⟩ : ∃ s, t = s + 1 := ⟨t - 1, by omega⟩
  rw [Nat.pow_succ]
  have : 1 * p ≤ p ^ s * p := Nat.mul_le_mul_right p (Nat.pow_pos (by omega))
  omega
theorem fac_few {n : Nat} {P T : Nat → Nat} {m : Nat} (h : FacF n P T m) (hn : n ≤ 300000) : m ≤ 7 := by
  apply Classical.byContradiction
  intro hc
  have h1 : prodF (fun i => i + 2) 8 ≤ prodF (fun i => P i ^ T i) 8 := prodF_le (fun i hi => Nat.le_trans (fac_ge h i (by omega)) (pow_ge1 (h.2.1 i (by omega)).1.1 (h.2.1 i (by omega)).2))
  have h2 : prodF (fun i => P i ^ T i) 8 ≤ prodF (fun i => P i ^ T i) m := prodF_mono (by omega) (fun i hi => Nat.pow_pos (by have := (h.2.1 i hi).1.1; omega))
  have h3 : prodF (fun i => i + 2) 8 = 362880 := by decide
  rw [← h.1] at h2
  omega
theorem fac_n1 {n : Nat} {P T : Nat → Nat} {m : Nat} (h : FacF n P T m) : 1 ≤ n := by
  rw [h.1]
  exact prodF_pos (fun i hi => Nat.pow_pos (by have := (h.2.1 i hi).1.1; omega))
theorem fac_at {n : Nat} {P T : Nat → Nat} {m i : Nat} (h : FacF n P T m) (hi : i < m) : P i ^ T i ≤ n ∧ 2 ≤ P i ∧ 1 ≤ T i ∧ P i ≤ P i ^ T i ∧ T i < P i ^ T i := by
  have h1 := (h.2.1 i hi).1.1
  have h2 := (h.2.1 i hi).2
  refine ⟨?_, h1, h2, pow_ge1 h1 h2, ?_⟩
  · refine Nat.le_of_dvd (fac_n1 h) ?_
    rw [h.1]
    exact prodF_dvd (f := fun i => P i ^ T i) hi
  · exact Nat.lt_of_lt_of_le Nat.lt_two_pow_self (Nat.pow_le_pow_left h1 _)
/-- one prime more -/
theorem fac_more {n : Nat} {P T : Nat → Nat} {m p t : Nat} (h : FacF n P T m) (hp : Pr p) (ht : 1 ≤ t) (hlt : ∀ i, i < m → P i < p) : FacF (n * p ^ t) (fun i => if i = m then p else P i) (fun i => if i = m then t else T i) (m + 1) := by
  refine ⟨?_, fun i hi => ?_, fun i j h1 h2 => ?_⟩
  · show n * p ^ t = prodF _ m * ((if m = m then p else P m) ^ (if m = m then t else T m))
    rw [if_pos rfl, if_pos rfl]
    congr 1
    rw [h.1]
    refine prodF_cong (fun i hi => ?_)
    have hne : ¬ i = m := by omega
    dsimp only
    rw [if_neg hne, if_neg hne]
  · dsimp only
    by_cases e : i = m
    · rw [if_pos e, if_pos e]; exact ⟨hp, ht⟩
    · rw [if_neg e, if_neg e]; exact h.2.1 i (by omega)
  · dsimp only
    have hne : ¬ i = m := by omega
    by_cases e : j = m
    · rw [if_neg hne, if_pos e]; exact hlt i (by omega)
    · rw [if_neg hne, if_neg e]; exact h.2.2 i j h1 (by omega)
theorem fac_none : ∀ P T : Nat → Nat, FacF 1 P T 0 := fun P T => ⟨rfl, fun i h => by omega, fun i j h1 h2 => by omega⟩
abbrev PP (b : Nat) (a : As) : Nat → Nat := fun i => tn (a b i)
abbrev TT (b : Nat) (a : As) : Nat → Nat := fun i => tn (a (b + 2) i)
/-- the rows b, b + 2 and the count b hold the primes of n -/
def Fac (b n : Nat) (g : Gs) (a : As) : Prop := FacF n (PP b a) (TT b a) (tn (g b)) ∧ n ≤ 100000 ∧ g b = nI (tn (g b)) ∧ ∀ i, i < tn (g b) → a b i = nI (tn (a b i)) ∧ a (b + 2) i = nI (tn (a (b + 2) i))
theorem Fac.few {b n : Nat} {g : Gs} {a : As} (h : Fac b n g a) : tn (g b) ≤ 7 := fac_few h.1 (by have := h.2.1; omega)
def pre_X0_takeOut (b : Nat) (g : Gs) (a : As) (w : Ws) (p0 p1 : Int32) : Prop := 2 ≤ p0.toInt ∧ 1 ≤ p1.toInt ∧ ∃ m, m < 8 ∧ g b = nI m
set_option maxHeartbeats 4000000 in
set_option maxRecDepth 100000 in
theorem met_X0_takeOut (l : Launch) (b : Nat) (hb2 : b < 2) (D : va_G) (cy : Nat → ClassId) (ad : Nat → Nat) (sz : Nat) (g : Gs) (a : As) (w : Ws) (p0 : Int32) (p1 : Int32) (post : Int32 → Gs → As → Ws → Prop)
  (hV : ∀ (J8 : Int32 → Int32 → Int32 → Gs → As → Ws → Prop),
    (∀ (x3 : Int32) (x4 : Int32) (x5 : Int32) (g_ : Gs) (a_ : As) (w_ : Ws), (((32 : Int32) ≤ x5 → (((8 : Int32) ≤ (g_ b) → post x3 g_ a_ w_) ∧ (¬ (8 : Int32) ≤ (g_ b) → vp_in (g_ b) 8 ∧ (vp_in (g_ b) 8 ∧ (post x3 (va_up g_ b ((g_ b) + (1 : Int32))) (va_up (va_up a_ b (upd (a_ b) (g_ b).toNatClampNeg p0)) (b + 2) (upd (a_ (b + 2)) (g_ b).toNatClampNeg x4)) w_))))) ∧ (¬ (32 : Int32) ≤ x5 → ((p0 ≤ (1 : Int32) → (((8 : Int32) ≤ (g_ b) → post x3 g_ a_ w_) ∧ (¬ (8 : Int32) ≤ (g_ b) → vp_in (g_ b) 8 ∧ (vp_in (g_ b) 8 ∧ (post x3 (va_up g_ b ((g_ b) + (1 : Int32))) (va_up (va_up a_ b (upd (a_ b) (g_ b).toNatClampNeg p0)) (b + 2) (upd (a_ (b + 2)) (g_ b).toNatClampNeg x4)) w_))))) ∧ (¬ p0 ≤ (1 : Int32) → ¬ p0 = 0 ∧ ((((x3 - x3 / p0 * p0) = 0 → J8 (x3 / p0) (x4 + 1) (x5 + 1) g_ a_ w_) ∧ (¬ (x3 - x3 / p0 * p0) = 0 → (((8 : Int32) ≤ (g_ b) → post x3 g_ a_ w_) ∧ (¬ (8 : Int32) ≤ (g_ b) → vp_in (g_ b) 8 ∧ (vp_in (g_ b) 8 ∧ (post x3 (va_up g_ b ((g_ b) + (1 : Int32))) (va_up (va_up a_ b (upd (a_ b) (g_ b).toNatClampNeg p0)) (b + 2) (upd (a_ (b + 2)) (g_ b).toNatClampNeg x4)) w_))))))))))) → J8 x3 x4 x5 g_ a_ w_) →
    J8 p1 (0 : Int32) (0 : Int32) g a w) :
  Met l yX0_takeOut wsX0_takeOut ({ frames := 0, cells := 0, slots := 0, locals := 0 } : Room) (va_Pc [.ref (ad (1 + 3 * b)), .int p0, .int p1] (ArP D cy sz (caW ad cy g a w))) (va_Qi (fun (r : Int32) (u : Gs × As × Ws) => post r u.1 u.2.1 u.2.2) (fun u t => va_P D vwCl (caW ad cy u.1 u.2.1 u.2.2) t.heap) (va_A (caW ad cy g a w) sz)) 0 0 (va_A (caW ad cy g a w) sz) := by
  match b, hb2 with
  | 0, _ =>
    refine Met.ofW (cc := cX0_takeOut) (maxL := 6) (ret := (some .int)) (by decide) rfl ?_
    intro p e s m args below meth c s₁ B hml hv
    obtain ⟨rfl, hsz, hP, hK, hD0, hN⟩ := hv
    have hx := B.exec
    have hb := B.bytes
    have hr := B.returns
    have hts := atoms_spec (ws := wsX0_takeOut) B.pre
    have hown : s.vm.findClass RX0 = some m.cls := findClass_of_methodNamed B.named
    have hlocks := B.notSynchronized
    subst hsz
    have hD := hD0.self (sz := s.heap.size)
    have hP : va_P D vwCl (caW ad cy g a w) s.heap := hP
    have hD : va_D (va_A (caW ad cy g a w) s.heap.size) (caW ad cy g a w) := hD
    have hS : va_S (va_A (caW ad cy g a w) s.heap.size) s.heap s.heap [] := va_S.rf
    have hA : ∀ q : Nat, s.heap.size ≤ q → va_A (caW ad cy g a w) s.heap.size q := fun q h => Or.inr h
    obtain ⟨J8, iJ8, oJ8⟩ : ∃ J : Int32 → Int32 → Int32 → Gs → As → Ws → Prop, (∀ (x3 : Int32) (x4 : Int32) (x5 : Int32) (g_ : Gs) (a_ : As) (w_ : Ws), (∀ (H : Heap) (locs : List Loc), va_P D vwCl (caW ad cy g_ a_ w_) H → va_S (va_A (caW ad cy g a w) s.heap.size) s.heap H locs → ∀ ls : Array Slot, lv_has ls 6 [(0, .ref (ad 1)), (1, .int p0), (3, .int x3), (4, .int x4), (5, .int x5)] → W p l e (headSpec wsX0_takeOut ({ frames := 0, cells := 0, slots := 0, locals := 0 } : Room)).room s m [.ref (ad 1), .int p0, .int p1].toArray below meth c H locs 0 0 (MQ below (va_Qi (fun (r : Int32) (u : Gs × As × Ws) => post r u.1 u.2.1 u.2.2) (fun u t => va_P D vwCl (caW ad cy u.1 u.2.1 u.2.2) t.heap) (va_A (caW ad cy g a w) s.heap.size)) [.ref (ad 1), .int p0, .int p1].toArray s 0 0 (va_A (caW ad cy g a w) s.heap.size)) (F0 m 8 ls [])) → J x3 x4 x5 g_ a_ w_) ∧ (∀ (x3 : Int32) (x4 : Int32) (x5 : Int32) (g_ : Gs) (a_ : As) (w_ : Ws), J x3 x4 x5 g_ a_ w_ → (∀ (H : Heap) (locs : List Loc), va_P D vwCl (caW ad cy g_ a_ w_) H → va_S (va_A (caW ad cy g a w) s.heap.size) s.heap H locs → ∀ ls : Array Slot, lv_has ls 6 [(0, .ref (ad 1)), (1, .int p0), (3, .int x3), (4, .int x4), (5, .int x5)] → W p l e (headSpec wsX0_takeOut ({ frames := 0, cells := 0, slots := 0, locals := 0 } : Room)).room s m [.ref (ad 1), .int p0, .int p1].toArray below meth c H locs 0 0 (MQ below (va_Qi (fun (r : Int32) (u : Gs × As × Ws) => post r u.1 u.2.1 u.2.2) (fun u t => va_P D vwCl (caW ad cy u.1 u.2.1 u.2.2) t.heap) (va_A (caW ad cy g a w) s.heap.size)) [.ref (ad 1), .int p0, .int p1].toArray s 0 0 (va_A (caW ad cy g a w) s.heap.size)) (F0 m 8 ls []))) := ⟨fun (x3 : Int32) (x4 : Int32) (x5 : Int32) (g_ : Gs) (a_ : As) (w_ : Ws) => (∀ (H : Heap) (locs : List Loc), va_P D vwCl (caW ad cy g_ a_ w_) H → va_S (va_A (caW ad cy g a w) s.heap.size) s.heap H locs → ∀ ls : Array Slot, lv_has ls 6 [(0, .ref (ad 1)), (1, .int p0), (3, .int x3), (4, .int x4), (5, .int x5)] → W p l e (headSpec wsX0_takeOut ({ frames := 0, cells := 0, slots := 0, locals := 0 } : Room)).room s m [.ref (ad 1), .int p0, .int p1].toArray below meth c H locs 0 0 (MQ below (va_Qi (fun (r : Int32) (u : Gs × As × Ws) => post r u.1 u.2.1 u.2.2) (fun u t => va_P D vwCl (caW ad cy u.1 u.2.1 u.2.2) t.heap) (va_A (caW ad cy g a w) s.heap.size)) [.ref (ad 1), .int p0, .int p1].toArray s 0 0 (va_A (caW ad cy g a w) s.heap.size)) (F0 m 8 ls [])), fun _ _ _ _ _ _ h => h, fun _ _ _ _ _ _ h => h⟩
    have hV := hV J8
    replace hV := hV (by
      intro x3 x4 x5 g_ a_ w_ hV
      refine iJ8 x3 x4 x5 g_ a_ w_ ?_
      intro H locs hP hS ls hl
      refine lv_iload hx hb dX0_takeOut_8 (lv_at hl 4 rfl) ?_
      refine lv_bipush (v := (32 : Int32)) hx hb dX0_takeOut_10 (by decide) ?_
      refine lv_icmp_ge (tgt := 39) hx hb dX0_takeOut_12 (by decide) (fun c_12 => ?_) (fun c_12 => ?_)
      · have hV := hV.1 c_12
        refine lv_aload_n hx hb dX0_takeOut_39 rfl (lv_at hl 0 rfl) ?_
        refine va_get (D := D) (ci := 0) (v := .int (g_ 0)) (C := RX0) (T := TX0) (N := 3) hx hb hts (by decide +kernel) hown hK hP 1 rfl rfl 2 (by decide) (hts (.fieldLink RX0 16 "PowerRests$Factors" "kinds" "I") (by decide +kernel)) (fun _ h9 => h9) rfl dX0_takeOut_40 ?_
        refine lv_bipush (v := (8 : Int32)) hx hb dX0_takeOut_43 (by decide) ?_
        refine lv_icmp_ge (tgt := 79) hx hb dX0_takeOut_45 (by decide) (fun c_45 => ?_) (fun c_45 => ?_)
        · have hV := hV.1 c_45
          refine lv_iload_n hx hb dX0_takeOut_79 rfl (lv_at hl 2 rfl) ?_
          exact W.iret (v := x3) hx hb hr (fun t ht hW => ⟨⟨_, (g_, a_, w_), rfl, hV, ar_heap ht hP⟩, hS.F ht⟩) hS.2.2 dX0_takeOut_80
        · have hV := hV.2 c_45
          refine lv_aload_n hx hb dX0_takeOut_48 rfl (lv_at hl 0 rfl) ?_
          refine va_get (D := D) (ci := 0) (v := .ref (ad 2)) (C := RX0) (T := TX0) (N := 3) hx hb hts (by decide +kernel) hown hK hP 1 rfl rfl 0 (by decide) (hts (.fieldLink RX0 9 "PowerRests$Factors" "primes" "[I") (by decide +kernel)) (fun _ h9 => h9) rfl dX0_takeOut_49 ?_
          refine lv_aload_n hx hb dX0_takeOut_52 rfl (lv_at hl 0 rfl) ?_
          refine va_get (D := D) (ci := 0) (v := .int (g_ 0)) (C := RX0) (T := TX0) (N := 3) hx hb hts (by decide +kernel) hown hK hP 1 rfl rfl 2 (by decide) (hts (.fieldLink RX0 16 "PowerRests$Factors" "kinds" "I") (by decide +kernel)) (fun _ h9 => h9) rfl dX0_takeOut_53 ?_
          refine lv_iload_n hx hb dX0_takeOut_56 rfl (lv_at hl 1 rfl) ?_
          obtain ⟨h_57, hV⟩ := hV
          refine va_iast (f := (a_ 0)) hx hb hK hP (caD hD) hS 2 0 rfl rfl h_57 dX0_takeOut_57 (fun H locs hP _ hS => ?_)
          have hP : va_P D vwCl (caW ad cy g_ (va_up a_ 0 (upd (a_ 0) (g_ 0).toNatClampNeg p0)) w_) H := hP
          refine lv_aload_n hx hb dX0_takeOut_58 rfl (lv_at hl 0 rfl) ?_
          refine va_get (D := D) (ci := 0) (v := .ref (ad 3)) (C := RX0) (T := TX0) (N := 3) hx hb hts (by decide +kernel) hown hK hP 1 rfl rfl 1 (by decide) (hts (.fieldLink RX0 13 "PowerRests$Factors" "times" "[I") (by decide +kernel)) (fun _ h9 => h9) rfl dX0_takeOut_59 ?_
          refine lv_aload_n hx hb dX0_takeOut_62 rfl (lv_at hl 0 rfl) ?_
          refine va_get (D := D) (ci := 0) (v := .int (g_ 0)) (C := RX0) (T := TX0) (N := 3) hx hb hts (by decide +kernel) hown hK hP 1 rfl rfl 2 (by decide) (hts (.fieldLink RX0 16 "PowerRests$Factors" "kinds" "I") (by decide +kernel)) (fun _ h9 => h9) rfl dX0_takeOut_63 ?_
          refine lv_iload hx hb dX0_takeOut_66 (lv_at hl 3 rfl) ?_
          obtain ⟨h_68, hV⟩ := hV
          refine va_iast (f := (a_ 2)) hx hb hK hP (caD hD) hS 3 0 rfl rfl h_68 dX0_takeOut_68 (fun H locs hP _ hS => ?_)
          have hP : va_P D vwCl (caW ad cy g_ (va_up (va_up a_ 0 (upd (a_ 0) (g_ 0).toNatClampNeg p0)) 2 (upd (a_ 2) (g_ 0).toNatClampNeg x4)) w_) H := hP
          refine lv_aload_n hx hb dX0_takeOut_69 rfl (lv_at hl 0 rfl) ?_
          refine lv_dup hx hb dX0_takeOut_70 rfl ?_
          refine va_get (D := D) (ci := 0) (v := .int (g_ 0)) (C := RX0) (T := TX0) (N := 3) hx hb hts (by decide +kernel) hown hK hP 1 rfl rfl 2 (by decide) (hts (.fieldLink RX0 16 "PowerRests$Factors" "kinds" "I") (by decide +kernel)) (fun _ h9 => h9) rfl dX0_takeOut_71 ?_
          refine lv_iconst (v := (1 : Int32)) hx hb dX0_takeOut_74 (by decide) ?_
          refine lv_iadd hx hb dX0_takeOut_75 ?_
          refine va_put (D := D) (ci := 0) (v := .int ((g_ 0) + (1 : Int32))) (ty := .int) (C := RX0) (T := TX0) (N := 3) hx hb hts (by decide +kernel) tyX0 tyX0_ok nmX0 hown hK hP (caD hD) hS 1 rfl rfl 2 (by decide) (hts (.fieldLink RX0 16 "PowerRests$Factors" "kinds" "I") (by decide +kernel)) (fun _ h9 => h9) rfl (by decide +kernel) rfl rfl (Nat.le_of_ble_eq_true rfl) dX0_takeOut_76 (fun H locs hP _ hS => ?_)
          have hP : va_P D vwCl (caW ad cy (va_up g_ 0 ((g_ 0) + (1 : Int32))) (va_up (va_up a_ 0 (upd (a_ 0) (g_ 0).toNatClampNeg p0)) 2 (upd (a_ 2) (g_ 0).toNatClampNeg x4)) w_) H := hP
          refine lv_iload_n hx hb dX0_takeOut_79 rfl (lv_at hl 2 rfl) ?_
          exact W.iret (v := x3) hx hb hr (fun t ht hW => ⟨⟨_, ((va_up g_ 0 ((g_ 0) + (1 : Int32))), (va_up (va_up a_ 0 (upd (a_ 0) (g_ 0).toNatClampNeg p0)) 2 (upd (a_ 2) (g_ 0).toNatClampNeg x4)), w_), rfl, hV, ar_heap ht hP⟩, hS.F ht⟩) hS.2.2 dX0_takeOut_80
      · have hV := hV.2 c_12
        refine lv_iload_n hx hb dX0_takeOut_15 rfl (lv_at hl 1 rfl) ?_
        refine lv_iconst (v := (1 : Int32)) hx hb dX0_takeOut_16 (by decide) ?_
        refine lv_icmp_le (tgt := 39) hx hb dX0_takeOut_17 (by decide) (fun c_17 => ?_) (fun c_17 => ?_)
        · have hV := hV.1 c_17
          refine lv_aload_n hx hb dX0_takeOut_39 rfl (lv_at hl 0 rfl) ?_
          refine va_get (D := D) (ci := 0) (v := .int (g_ 0)) (C := RX0) (T := TX0) (N := 3) hx hb hts (by decide +kernel) hown hK hP 1 rfl rfl 2 (by decide) (hts (.fieldLink RX0 16 "PowerRests$Factors" "kinds" "I") (by decide +kernel)) (fun _ h9 => h9) rfl dX0_takeOut_40 ?_
          refine lv_bipush (v := (8 : Int32)) hx hb dX0_takeOut_43 (by decide) ?_
          refine lv_icmp_ge (tgt := 79) hx hb dX0_takeOut_45 (by decide) (fun c_45 => ?_) (fun c_45 => ?_)
          · have hV := hV.1 c_45
            refine lv_iload_n hx hb dX0_takeOut_79 rfl (lv_at hl 2 rfl) ?_
            exact W.iret (v := x3) hx hb hr (fun t ht hW => ⟨⟨_, (g_, a_, w_), rfl, hV, ar_heap ht hP⟩, hS.F ht⟩) hS.2.2 dX0_takeOut_80
          · have hV := hV.2 c_45
            refine lv_aload_n hx hb dX0_takeOut_48 rfl (lv_at hl 0 rfl) ?_
            refine va_get (D := D) (ci := 0) (v := .ref (ad 2)) (C := RX0) (T := TX0) (N := 3) hx hb hts (by decide +kernel) hown hK hP 1 rfl rfl 0 (by decide) (hts (.fieldLink RX0 9 "PowerRests$Factors" "primes" "[I") (by decide +kernel)) (fun _ h9 => h9) rfl dX0_takeOut_49 ?_
            refine lv_aload_n hx hb dX0_takeOut_52 rfl (lv_at hl 0 rfl) ?_
            refine va_get (D := D) (ci := 0) (v := .int (g_ 0)) (C := RX0) (T := TX0) (N := 3) hx hb hts (by decide +kernel) hown hK hP 1 rfl rfl 2 (by decide) (hts (.fieldLink RX0 16 "PowerRests$Factors" "kinds" "I") (by decide +kernel)) (fun _ h9 => h9) rfl dX0_takeOut_53 ?_
            refine lv_iload_n hx hb dX0_takeOut_56 rfl (lv_at hl 1 rfl) ?_
            obtain ⟨h_57, hV⟩ := hV
            refine va_iast (f := (a_ 0)) hx hb hK hP (caD hD) hS 2 0 rfl rfl h_57 dX0_takeOut_57 (fun H locs hP _ hS => ?_)
            have hP : va_P D vwCl (caW ad cy g_ (va_up a_ 0 (upd (a_ 0) (g_ 0).toNatClampNeg p0)) w_) H := hP
            refine lv_aload_n hx hb dX0_takeOut_58 rfl (lv_at hl 0 rfl) ?_
            refine va_get (D := D) (ci := 0) (v := .ref (ad 3)) (C := RX0) (T := TX0) (N := 3) hx hb hts (by decide +kernel) hown hK hP 1 rfl rfl 1 (by decide) (hts (.fieldLink RX0 13 "PowerRests$Factors" "times" "[I") (by decide +kernel)) (fun _ h9 => h9) rfl dX0_takeOut_59 ?_
            refine lv_aload_n hx hb dX0_takeOut_62 rfl (lv_at hl 0 rfl) ?_
            refine va_get (D := D) (ci := 0) (v := .int (g_ 0)) (C := RX0) (T := TX0) (N := 3) hx hb hts (by decide +kernel) hown hK hP 1 rfl rfl 2 (by decide) (hts (.fieldLink RX0 16 "PowerRests$Factors" "kinds" "I") (by decide +kernel)) (fun _ h9 => h9) rfl dX0_takeOut_63 ?_
            refine lv_iload hx hb dX0_takeOut_66 (lv_at hl 3 rfl) ?_
            obtain ⟨h_68, hV⟩ := hV
            refine va_iast (f := (a_ 2)) hx hb hK hP (caD hD) hS 3 0 rfl rfl h_68 dX0_takeOut_68 (fun H locs hP _ hS => ?_)
            have hP : va_P D vwCl (caW ad cy g_ (va_up (va_up a_ 0 (upd (a_ 0) (g_ 0).toNatClampNeg p0)) 2 (upd (a_ 2) (g_ 0).toNatClampNeg x4)) w_) H := hP
            refine lv_aload_n hx hb dX0_takeOut_69 rfl (lv_at hl 0 rfl) ?_
            refine lv_dup hx hb dX0_takeOut_70 rfl ?_
            refine va_get (D := D) (ci := 0) (v := .int (g_ 0)) (C := RX0) (T := TX0) (N := 3) hx hb hts (by decide +kernel) hown hK hP 1 rfl rfl 2 (by decide) (hts (.fieldLink RX0 16 "PowerRests$Factors" "kinds" "I") (by decide +kernel)) (fun _ h9 => h9) rfl dX0_takeOut_71 ?_
            refine lv_iconst (v := (1 : Int32)) hx hb dX0_takeOut_74 (by decide) ?_
            refine lv_iadd hx hb dX0_takeOut_75 ?_
            refine va_put (D := D) (ci := 0) (v := .int ((g_ 0) + (1 : Int32))) (ty := .int) (C := RX0) (T := TX0) (N := 3) hx hb hts (by decide +kernel) tyX0 tyX0_ok nmX0 hown hK hP (caD hD) hS 1 rfl rfl 2 (by decide) (hts (.fieldLink RX0 16 "PowerRests$Factors" "kinds" "I") (by decide +kernel)) (fun _ h9 => h9) rfl (by decide +kernel) rfl rfl (Nat.le_of_ble_eq_true rfl) dX0_takeOut_76 (fun H locs hP _ hS => ?_)
            have hP : va_P D vwCl (caW ad cy (va_up g_ 0 ((g_ 0) + (1 : Int32))) (va_up (va_up a_ 0 (upd (a_ 0) (g_ 0).toNatClampNeg p0)) 2 (upd (a_ 2) (g_ 0).toNatClampNeg x4)) w_) H := hP
            refine lv_iload_n hx hb dX0_takeOut_79 rfl (lv_at hl 2 rfl) ?_
            exact W.iret (v := x3) hx hb hr (fun t ht hW => ⟨⟨_, ((va_up g_ 0 ((g_ 0) + (1 : Int32))), (va_up (va_up a_ 0 (upd (a_ 0) (g_ 0).toNatClampNeg p0)) 2 (upd (a_ 2) (g_ 0).toNatClampNeg x4)), w_), rfl, hV, ar_heap ht hP⟩, hS.F ht⟩) hS.2.2 dX0_takeOut_80
        · have hV := hV.2 c_17
          refine lv_iload_n hx hb dX0_takeOut_20 rfl (lv_at hl 2 rfl) ?_
          refine lv_iload_n hx hb dX0_takeOut_21 rfl (lv_at hl 1 rfl) ?_
          obtain ⟨h_22, hV⟩ := hV
          refine lv_irem hx hb dX0_takeOut_22 h_22 ?_
          refine lv_if_ne (tgt := 39) hx hb dX0_takeOut_23 (by decide) (fun c_23 => ?_) (fun c_23 => ?_)
          · have hV := hV.2 c_23
            refine lv_aload_n hx hb dX0_takeOut_39 rfl (lv_at hl 0 rfl) ?_
            refine va_get (D := D) (ci := 0) (v := .int (g_ 0)) (C := RX0) (T := TX0) (N := 3) hx hb hts (by decide +kernel) hown hK hP 1 rfl rfl 2 (by decide) (hts (.fieldLink RX0 16 "PowerRests$Factors" "kinds" "I") (by decide +kernel)) (fun _ h9 => h9) rfl dX0_takeOut_40 ?_
            refine lv_bipush (v := (8 : Int32)) hx hb dX0_takeOut_43 (by decide) ?_
            refine lv_icmp_ge (tgt := 79) hx hb dX0_takeOut_45 (by decide) (fun c_45 => ?_) (fun c_45 => ?_)
            · have hV := hV.1 c_45
              refine lv_iload_n hx hb dX0_takeOut_79 rfl (lv_at hl 2 rfl) ?_
              exact W.iret (v := x3) hx hb hr (fun t ht hW => ⟨⟨_, (g_, a_, w_), rfl, hV, ar_heap ht hP⟩, hS.F ht⟩) hS.2.2 dX0_takeOut_80
            · have hV := hV.2 c_45
              refine lv_aload_n hx hb dX0_takeOut_48 rfl (lv_at hl 0 rfl) ?_
              refine va_get (D := D) (ci := 0) (v := .ref (ad 2)) (C := RX0) (T := TX0) (N := 3) hx hb hts (by decide +kernel) hown hK hP 1 rfl rfl 0 (by decide) (hts (.fieldLink RX0 9 "PowerRests$Factors" "primes" "[I") (by decide +kernel)) (fun _ h9 => h9) rfl dX0_takeOut_49 ?_
              refine lv_aload_n hx hb dX0_takeOut_52 rfl (lv_at hl 0 rfl) ?_
              refine va_get (D := D) (ci := 0) (v := .int (g_ 0)) (C := RX0) (T := TX0) (N := 3) hx hb hts (by decide +kernel) hown hK hP 1 rfl rfl 2 (by decide) (hts (.fieldLink RX0 16 "PowerRests$Factors" "kinds" "I") (by decide +kernel)) (fun _ h9 => h9) rfl dX0_takeOut_53 ?_
              refine lv_iload_n hx hb dX0_takeOut_56 rfl (lv_at hl 1 rfl) ?_
              obtain ⟨h_57, hV⟩ := hV
              refine va_iast (f := (a_ 0)) hx hb hK hP (caD hD) hS 2 0 rfl rfl h_57 dX0_takeOut_57 (fun H locs hP _ hS => ?_)
              have hP : va_P D vwCl (caW ad cy g_ (va_up a_ 0 (upd (a_ 0) (g_ 0).toNatClampNeg p0)) w_) H := hP
              refine lv_aload_n hx hb dX0_takeOut_58 rfl (lv_at hl 0 rfl) ?_
              refine va_get (D := D) (ci := 0) (v := .ref (ad 3)) (C := RX0) (T := TX0) (N := 3) hx hb hts (by decide +kernel) hown hK hP 1 rfl rfl 1 (by decide) (hts (.fieldLink RX0 13 "PowerRests$Factors" "times" "[I") (by decide +kernel)) (fun _ h9 => h9) rfl dX0_takeOut_59 ?_
              refine lv_aload_n hx hb dX0_takeOut_62 rfl (lv_at hl 0 rfl) ?_
              refine va_get (D := D) (ci := 0) (v := .int (g_ 0)) (C := RX0) (T := TX0) (N := 3) hx hb hts (by decide +kernel) hown hK hP 1 rfl rfl 2 (by decide) (hts (.fieldLink RX0 16 "PowerRests$Factors" "kinds" "I") (by decide +kernel)) (fun _ h9 => h9) rfl dX0_takeOut_63 ?_
              refine lv_iload hx hb dX0_takeOut_66 (lv_at hl 3 rfl) ?_
              obtain ⟨h_68, hV⟩ := hV
              refine va_iast (f := (a_ 2)) hx hb hK hP (caD hD) hS 3 0 rfl rfl h_68 dX0_takeOut_68 (fun H locs hP _ hS => ?_)
              have hP : va_P D vwCl (caW ad cy g_ (va_up (va_up a_ 0 (upd (a_ 0) (g_ 0).toNatClampNeg p0)) 2 (upd (a_ 2) (g_ 0).toNatClampNeg x4)) w_) H := hP
              refine lv_aload_n hx hb dX0_takeOut_69 rfl (lv_at hl 0 rfl) ?_
              refine lv_dup hx hb dX0_takeOut_70 rfl ?_
              refine va_get (D := D) (ci := 0) (v := .int (g_ 0)) (C := RX0) (T := TX0) (N := 3) hx hb hts (by decide +kernel) hown hK hP 1 rfl rfl 2 (by decide) (hts (.fieldLink RX0 16 "PowerRests$Factors" "kinds" "I") (by decide +kernel)) (fun _ h9 => h9) rfl dX0_takeOut_71 ?_
              refine lv_iconst (v := (1 : Int32)) hx hb dX0_takeOut_74 (by decide) ?_
              refine lv_iadd hx hb dX0_takeOut_75 ?_
              refine va_put (D := D) (ci := 0) (v := .int ((g_ 0) + (1 : Int32))) (ty := .int) (C := RX0) (T := TX0) (N := 3) hx hb hts (by decide +kernel) tyX0 tyX0_ok nmX0 hown hK hP (caD hD) hS 1 rfl rfl 2 (by decide) (hts (.fieldLink RX0 16 "PowerRests$Factors" "kinds" "I") (by decide +kernel)) (fun _ h9 => h9) rfl (by decide +kernel) rfl rfl (Nat.le_of_ble_eq_true rfl) dX0_takeOut_76 (fun H locs hP _ hS => ?_)
              have hP : va_P D vwCl (caW ad cy (va_up g_ 0 ((g_ 0) + (1 : Int32))) (va_up (va_up a_ 0 (upd (a_ 0) (g_ 0).toNatClampNeg p0)) 2 (upd (a_ 2) (g_ 0).toNatClampNeg x4)) w_) H := hP
              refine lv_iload_n hx hb dX0_takeOut_79 rfl (lv_at hl 2 rfl) ?_
              exact W.iret (v := x3) hx hb hr (fun t ht hW => ⟨⟨_, ((va_up g_ 0 ((g_ 0) + (1 : Int32))), (va_up (va_up a_ 0 (upd (a_ 0) (g_ 0).toNatClampNeg p0)) 2 (upd (a_ 2) (g_ 0).toNatClampNeg x4)), w_), rfl, hV, ar_heap ht hP⟩, hS.F ht⟩) hS.2.2 dX0_takeOut_80
          · have hV := hV.1 c_23
            refine lv_iload_n hx hb dX0_takeOut_26 rfl (lv_at hl 2 rfl) ?_
            refine lv_iload_n hx hb dX0_takeOut_27 rfl (lv_at hl 1 rfl) ?_
            refine lv_idiv hx hb dX0_takeOut_28 h_22 ?_
            refine lv_istore_n (lv' := [(3, .int (x3 / p0)), (0, .ref (ad 1)), (1, .int p0), (4, .int x4), (5, .int x5)]) hx hb dX0_takeOut_29 rfl hl (by decide) rfl (fun ls hl => ?_)
            refine lv_iinc (v := x4 + 1) (lv' := [(4, .int (x4 + 1)), (3, .int (x3 / p0)), (0, .ref (ad 1)), (1, .int p0), (5, .int x5)]) hx hb dX0_takeOut_30 hl (k := 3) rfl rfl (by decide) rfl (fun ls hl => ?_)
            refine lv_iinc (v := x5 + 1) (lv' := [(5, .int (x5 + 1)), (4, .int (x4 + 1)), (3, .int (x3 / p0)), (0, .ref (ad 1)), (1, .int p0)]) hx hb dX0_takeOut_33 hl (k := 4) rfl rfl (by decide) rfl (fun ls hl => ?_)
            refine lv_goto (tgt := 8) hx hb dX0_takeOut_36 (by decide) ?_
            exact oJ8 _ _ _ _ _ _ hV _ _ hP hS _ (lv_sub hl [3, 4, 2, 1, 0] rfl))
    have hl := lv_entry ([.ref (ad 1), .int p0, .int p1]) (n := 6) (Nat.le_of_ble_eq_true rfl)
    rw [lg_entry_eq]
    generalize (lg_sl ([.ref (ad 1), .int p0, .int p1]) ++ List.replicate (6 - (lg_sl ([.ref (ad 1), .int p0, .int p1])).length) Slot.unset).toArray = ls at hl ⊢
    have hl : lv_has ls 6 [(0, .ref (ad 1)), (1, .int p0), (2, .int p1)] := hl
    refine lv_iload_n hx hb dX0_takeOut_0 rfl (lv_at hl 2 rfl) ?_
    refine lv_istore_n (lv' := [(3, .int p1), (0, .ref (ad 1)), (1, .int p0), (2, .int p1)]) hx hb dX0_takeOut_1 rfl hl (by decide) rfl (fun ls hl => ?_)
    refine lv_iconst (v := (0 : Int32)) hx hb dX0_takeOut_2 (by decide) ?_
    refine lv_istore (lv' := [(4, .int (0 : Int32)), (3, .int p1), (0, .ref (ad 1)), (1, .int p0), (2, .int p1)]) hx hb dX0_takeOut_3 hl (by decide) rfl (fun ls hl => ?_)
    refine lv_iconst (v := (0 : Int32)) hx hb dX0_takeOut_5 (by decide) ?_
    refine lv_istore (lv' := [(5, .int (0 : Int32)), (4, .int (0 : Int32)), (3, .int p1), (0, .ref (ad 1)), (1, .int p0), (2, .int p1)]) hx hb dX0_takeOut_6 hl (by decide) rfl (fun ls hl => ?_)
    exact oJ8 _ _ _ _ _ _ hV _ _ hP hS _ (lv_sub hl [3, 4, 2, 1, 0] rfl)
  | 1, _ =>
    refine Met.ofW (cc := cX0_takeOut) (maxL := 6) (ret := (some .int)) (by decide) rfl ?_
    intro p e s m args below meth c s₁ B hml hv
    obtain ⟨rfl, hsz, hP, hK, hD0, hN⟩ := hv
    have hx := B.exec
    have hb := B.bytes
    have hr := B.returns
    have hts := atoms_spec (ws := wsX0_takeOut) B.pre
    have hown : s.vm.findClass RX0 = some m.cls := findClass_of_methodNamed B.named
    have hlocks := B.notSynchronized
    subst hsz
    have hD := hD0.self (sz := s.heap.size)
    have hP : va_P D vwCl (caW ad cy g a w) s.heap := hP
    have hD : va_D (va_A (caW ad cy g a w) s.heap.size) (caW ad cy g a w) := hD
    have hS : va_S (va_A (caW ad cy g a w) s.heap.size) s.heap s.heap [] := va_S.rf
    have hA : ∀ q : Nat, s.heap.size ≤ q → va_A (caW ad cy g a w) s.heap.size q := fun q h => Or.inr h
    obtain ⟨J8, iJ8, oJ8⟩ : ∃ J : Int32 → Int32 → Int32 → Gs → As → Ws → Prop, (∀ (x3 : Int32) (x4 : Int32) (x5 : Int32) (g_ : Gs) (a_ : As) (w_ : Ws), (∀ (H : Heap) (locs : List Loc), va_P D vwCl (caW ad cy g_ a_ w_) H → va_S (va_A (caW ad cy g a w) s.heap.size) s.heap H locs → ∀ ls : Array Slot, lv_has ls 6 [(0, .ref (ad 4)), (1, .int p0), (3, .int x3), (4, .int x4), (5, .int x5)] → W p l e (headSpec wsX0_takeOut ({ frames := 0, cells := 0, slots := 0, locals := 0 } : Room)).room s m [.ref (ad 4), .int p0, .int p1].toArray below meth c H locs 0 0 (MQ below (va_Qi (fun (r : Int32) (u : Gs × As × Ws) => post r u.1 u.2.1 u.2.2) (fun u t => va_P D vwCl (caW ad cy u.1 u.2.1 u.2.2) t.heap) (va_A (caW ad cy g a w) s.heap.size)) [.ref (ad 4), .int p0, .int p1].toArray s 0 0 (va_A (caW ad cy g a w) s.heap.size)) (F0 m 8 ls [])) → J x3 x4 x5 g_ a_ w_) ∧ (∀ (x3 : Int32) (x4 : Int32) (x5 : Int32) (g_ : Gs) (a_ : As) (w_ : Ws), J x3 x4 x5 g_ a_ w_ → (∀ (H : Heap) (locs : List Loc), va_P D vwCl (caW ad cy g_ a_ w_) H → va_S (va_A (caW ad cy g a w) s.heap.size) s.heap H locs → ∀ ls : Array Slot, lv_has ls 6 [(0, .ref (ad 4)), (1, .int p0), (3, .int x3), (4, .int x4), (5, .int x5)] → W p l e (headSpec wsX0_takeOut ({ frames := 0, cells := 0, slots := 0, locals := 0 } : Room)).room s m [.ref (ad 4), .int p0, .int p1].toArray below meth c H locs 0 0 (MQ below (va_Qi (fun (r : Int32) (u : Gs × As × Ws) => post r u.1 u.2.1 u.2.2) (fun u t => va_P D vwCl (caW ad cy u.1 u.2.1 u.2.2) t.heap) (va_A (caW ad cy g a w) s.heap.size)) [.ref (ad 4), .int p0, .int p1].toArray s 0 0 (va_A (caW ad cy g a w) s.heap.size)) (F0 m 8 ls []))) := ⟨fun (x3 : Int32) (x4 : Int32) (x5 : Int32) (g_ : Gs) (a_ : As) (w_ : Ws) => (∀ (H : Heap) (locs : List Loc), va_P D vwCl (caW ad cy g_ a_ w_) H → va_S (va_A (caW ad cy g a w) s.heap.size) s.heap H locs → ∀ ls : Array Slot, lv_has ls 6 [(0, .ref (ad 4)), (1, .int p0), (3, .int x3), (4, .int x4), (5, .int x5)] → W p l e (headSpec wsX0_takeOut ({ frames := 0, cells := 0, slots := 0, locals := 0 } : Room)).room s m [.ref (ad 4), .int p0, .int p1].toArray below meth c H locs 0 0 (MQ below (va_Qi (fun (r : Int32) (u : Gs × As × Ws) => post r u.1 u.2.1 u.2.2) (fun u t => va_P D vwCl (caW ad cy u.1 u.2.1 u.2.2) t.heap) (va_A (caW ad cy g a w) s.heap.size)) [.ref (ad 4), .int p0, .int p1].toArray s 0 0 (va_A (caW ad cy g a w) s.heap.size)) (F0 m 8 ls [])), fun _ _ _ _ _ _ h => h, fun _ _ _ _ _ _ h => h⟩
    have hV := hV J8
    replace hV := hV (by
      intro x3 x4 x5 g_ a_ w_ hV
      refine iJ8 x3 x4 x5 g_ a_ w_ ?_
      intro H locs hP hS ls hl
      refine lv_iload hx hb dX0_takeOut_8 (lv_at hl 4 rfl) ?_
      refine lv_bipush (v := (32 : Int32)) hx hb dX0_takeOut_10 (by decide) ?_
      refine lv_icmp_ge (tgt := 39) hx hb dX0_takeOut_12 (by decide) (fun c_12 => ?_) (fun c_12 => ?_)
      · have hV := hV.1 c_12
        refine lv_aload_n hx hb dX0_takeOut_39 rfl (lv_at hl 0 rfl) ?_
        refine va_get (D := D) (ci := 0) (v := .int (g_ 1)) (C := RX0) (T := TX0) (N := 3) hx hb hts (by decide +kernel) hown hK hP 4 rfl rfl 2 (by decide) (hts (.fieldLink RX0 16 "PowerRests$Factors" "kinds" "I") (by decide +kernel)) (fun _ h9 => h9) rfl dX0_takeOut_40 ?_
        refine lv_bipush (v := (8 : Int32)) hx hb dX0_takeOut_43 (by decide) ?_
        refine lv_icmp_ge (tgt := 79) hx hb dX0_takeOut_45 (by decide) (fun c_45 => ?_) (fun c_45 => ?_)
        · have hV := hV.1 c_45
          refine lv_iload_n hx hb dX0_takeOut_79 rfl (lv_at hl 2 rfl) ?_
          exact W.iret (v := x3) hx hb hr (fun t ht hW => ⟨⟨_, (g_, a_, w_), rfl, hV, ar_heap ht hP⟩, hS.F ht⟩) hS.2.2 dX0_takeOut_80
        · have hV := hV.2 c_45
          refine lv_aload_n hx hb dX0_takeOut_48 rfl (lv_at hl 0 rfl) ?_
          refine va_get (D := D) (ci := 0) (v := .ref (ad 5)) (C := RX0) (T := TX0) (N := 3) hx hb hts (by decide +kernel) hown hK hP 4 rfl rfl 0 (by decide) (hts (.fieldLink RX0 9 "PowerRests$Factors" "primes" "[I") (by decide +kernel)) (fun _ h9 => h9) rfl dX0_takeOut_49 ?_
          refine lv_aload_n hx hb dX0_takeOut_52 rfl (lv_at hl 0 rfl) ?_
          refine va_get (D := D) (ci := 0) (v := .int (g_ 1)) (C := RX0) (T := TX0) (N := 3) hx hb hts (by decide +kernel) hown hK hP 4 rfl rfl 2 (by decide) (hts (.fieldLink RX0 16 "PowerRests$Factors" "kinds" "I") (by decide +kernel)) (fun _ h9 => h9) rfl dX0_takeOut_53 ?_
          refine lv_iload_n hx hb dX0_takeOut_56 rfl (lv_at hl 1 rfl) ?_
          obtain ⟨h_57, hV⟩ := hV
          refine va_iast (f := (a_ 1)) hx hb hK hP (caD hD) hS 5 0 rfl rfl h_57 dX0_takeOut_57 (fun H locs hP _ hS => ?_)
          have hP : va_P D vwCl (caW ad cy g_ (va_up a_ 1 (upd (a_ 1) (g_ 1).toNatClampNeg p0)) w_) H := hP
          refine lv_aload_n hx hb dX0_takeOut_58 rfl (lv_at hl 0 rfl) ?_
          refine va_get (D := D) (ci := 0) (v := .ref (ad 6)) (C := RX0) (T := TX0) (N := 3) hx hb hts (by decide +kernel) hown hK hP 4 rfl rfl 1 (by decide) (hts (.fieldLink RX0 13 "PowerRests$Factors" "times" "[I") (by decide +kernel)) (fun _ h9 => h9) rfl dX0_takeOut_59 ?_
          refine lv_aload_n hx hb dX0_takeOut_62 rfl (lv_at hl 0 rfl) ?_
          refine va_get (D := D) (ci := 0) (v := .int (g_ 1)) (C := RX0) (T := TX0) (N := 3) hx hb hts (by decide +kernel) hown hK hP 4 rfl rfl 2 (by decide) (hts (.fieldLink RX0 16 "PowerRests$Factors" "kinds" "I") (by decide +kernel)) (fun _ h9 => h9) rfl dX0_takeOut_63 ?_
          refine lv_iload hx hb dX0_takeOut_66 (lv_at hl 3 rfl) ?_
          obtain ⟨h_68, hV⟩ := hV
          refine va_iast (f := (a_ 3)) hx hb hK hP (caD hD) hS 6 0 rfl rfl h_68 dX0_takeOut_68 (fun H locs hP _ hS => ?_)
          have hP : va_P D vwCl (caW ad cy g_ (va_up (va_up a_ 1 (upd (a_ 1) (g_ 1).toNatClampNeg p0)) 3 (upd (a_ 3) (g_ 1).toNatClampNeg x4)) w_) H := hP
          refine lv_aload_n hx hb dX0_takeOut_69 rfl (lv_at hl 0 rfl) ?_
          refine lv_dup hx hb dX0_takeOut_70 rfl ?_
          refine va_get (D := D) (ci := 0) (v := .int (g_ 1)) (C := RX0) (T := TX0) (N := 3) hx hb hts (by decide +kernel) hown hK hP 4 rfl rfl 2 (by decide) (hts (.fieldLink RX0 16 "PowerRests$Factors" "kinds" "I") (by decide +kernel)) (fun _ h9 => h9) rfl dX0_takeOut_71 ?_
          refine lv_iconst (v := (1 : Int32)) hx hb dX0_takeOut_74 (by decide) ?_
          refine lv_iadd hx hb dX0_takeOut_75 ?_
          refine va_put (D := D) (ci := 0) (v := .int ((g_ 1) + (1 : Int32))) (ty := .int) (C := RX0) (T := TX0) (N := 3) hx hb hts (by decide +kernel) tyX0 tyX0_ok nmX0 hown hK hP (caD hD) hS 4 rfl rfl 2 (by decide) (hts (.fieldLink RX0 16 "PowerRests$Factors" "kinds" "I") (by decide +kernel)) (fun _ h9 => h9) rfl (by decide +kernel) rfl rfl (Nat.le_of_ble_eq_true rfl) dX0_takeOut_76 (fun H locs hP _ hS => ?_)
          have hP : va_P D vwCl (caW ad cy (va_up g_ 1 ((g_ 1) + (1 : Int32))) (va_up (va_up a_ 1 (upd (a_ 1) (g_ 1).toNatClampNeg p0)) 3 (upd (a_ 3) (g_ 1).toNatClampNeg x4)) w_) H := hP
          refine lv_iload_n hx hb dX0_takeOut_79 rfl (lv_at hl 2 rfl) ?_
          exact W.iret (v := x3) hx hb hr (fun t ht hW => ⟨⟨_, ((va_up g_ 1 ((g_ 1) + (1 : Int32))), (va_up (va_up a_ 1 (upd (a_ 1) (g_ 1).toNatClampNeg p0)) 3 (upd (a_ 3) (g_ 1).toNatClampNeg x4)), w_), rfl, hV, ar_heap ht hP⟩, hS.F ht⟩) hS.2.2 dX0_takeOut_80
      · have hV := hV.2 c_12
        refine lv_iload_n hx hb dX0_takeOut_15 rfl (lv_at hl 1 rfl) ?_
        refine lv_iconst (v := (1 : Int32)) hx hb dX0_takeOut_16 (by decide) ?_
        refine lv_icmp_le (tgt := 39) hx hb dX0_takeOut_17 (by decide) (fun c_17 => ?_) (fun c_17 => ?_)
        · have hV := hV.1 c_17
          refine lv_aload_n hx hb dX0_takeOut_39 rfl (lv_at hl 0 rfl) ?_
          refine va_get (D := D) (ci := 0) (v := .int (g_ 1)) (C := RX0) (T := TX0) (N := 3) hx hb hts (by decide +kernel) hown hK hP 4 rfl rfl 2 (by decide) (hts (.fieldLink RX0 16 "PowerRests$Factors" "kinds" "I") (by decide +kernel)) (fun _ h9 => h9) rfl dX0_takeOut_40 ?_
          refine lv_bipush (v := (8 : Int32)) hx hb dX0_takeOut_43 (by decide) ?_
          refine lv_icmp_ge (tgt := 79) hx hb dX0_takeOut_45 (by decide) (fun c_45 => ?_) (fun c_45 => ?_)
          · have hV := hV.1 c_45
            refine lv_iload_n hx hb dX0_takeOut_79 rfl (lv_at hl 2 rfl) ?_
            exact W.iret (v := x3) hx hb hr (fun t ht hW => ⟨⟨_, (g_, a_, w_), rfl, hV, ar_heap ht hP⟩, hS.F ht⟩) hS.2.2 dX0_takeOut_80
          · have hV := hV.2 c_45
            refine lv_aload_n hx hb dX0_takeOut_48 rfl (lv_at hl 0 rfl) ?_
            refine va_get (D := D) (ci := 0) (v := .ref (ad 5)) (C := RX0) (T := TX0) (N := 3) hx hb hts (by decide +kernel) hown hK hP 4 rfl rfl 0 (by decide) (hts (.fieldLink RX0 9 "PowerRests$Factors" "primes" "[I") (by decide +kernel)) (fun _ h9 => h9) rfl dX0_takeOut_49 ?_
            refine lv_aload_n hx hb dX0_takeOut_52 rfl (lv_at hl 0 rfl) ?_
            refine va_get (D := D) (ci := 0) (v := .int (g_ 1)) (C := RX0) (T := TX0) (N := 3) hx hb hts (by decide +kernel) hown hK hP 4 rfl rfl 2 (by decide) (hts (.fieldLink RX0 16 "PowerRests$Factors" "kinds" "I") (by decide +kernel)) (fun _ h9 => h9) rfl dX0_takeOut_53 ?_
            refine lv_iload_n hx hb dX0_takeOut_56 rfl (lv_at hl 1 rfl) ?_
            obtain ⟨h_57, hV⟩ := hV
            refine va_iast (f := (a_ 1)) hx hb hK hP (caD hD) hS 5 0 rfl rfl h_57 dX0_takeOut_57 (fun H locs hP _ hS => ?_)
            have hP : va_P D vwCl (caW ad cy g_ (va_up a_ 1 (upd (a_ 1) (g_ 1).toNatClampNeg p0)) w_) H := hP
            refine lv_aload_n hx hb dX0_takeOut_58 rfl (lv_at hl 0 rfl) ?_
            refine va_get (D := D) (ci := 0) (v := .ref (ad 6)) (C := RX0) (T := TX0) (N := 3) hx hb hts (by decide +kernel) hown hK hP 4 rfl rfl 1 (by decide) (hts (.fieldLink RX0 13 "PowerRests$Factors" "times" "[I") (by decide +kernel)) (fun _ h9 => h9) rfl dX0_takeOut_59 ?_
            refine lv_aload_n hx hb dX0_takeOut_62 rfl (lv_at hl 0 rfl) ?_
            refine va_get (D := D) (ci := 0) (v := .int (g_ 1)) (C := RX0) (T := TX0) (N := 3) hx hb hts (by decide +kernel) hown hK hP 4 rfl rfl 2 (by decide) (hts (.fieldLink RX0 16 "PowerRests$Factors" "kinds" "I") (by decide +kernel)) (fun _ h9 => h9) rfl dX0_takeOut_63 ?_
            refine lv_iload hx hb dX0_takeOut_66 (lv_at hl 3 rfl) ?_
            obtain ⟨h_68, hV⟩ := hV
            refine va_iast (f := (a_ 3)) hx hb hK hP (caD hD) hS 6 0 rfl rfl h_68 dX0_takeOut_68 (fun H locs hP _ hS => ?_)
            have hP : va_P D vwCl (caW ad cy g_ (va_up (va_up a_ 1 (upd (a_ 1) (g_ 1).toNatClampNeg p0)) 3 (upd (a_ 3) (g_ 1).toNatClampNeg x4)) w_) H := hP
            refine lv_aload_n hx hb dX0_takeOut_69 rfl (lv_at hl 0 rfl) ?_
            refine lv_dup hx hb dX0_takeOut_70 rfl ?_
            refine va_get (D := D) (ci := 0) (v := .int (g_ 1)) (C := RX0) (T := TX0) (N := 3) hx hb hts (by decide +kernel) hown hK hP 4 rfl rfl 2 (by decide) (hts (.fieldLink RX0 16 "PowerRests$Factors" "kinds" "I") (by decide +kernel)) (fun _ h9 => h9) rfl dX0_takeOut_71 ?_
            refine lv_iconst (v := (1 : Int32)) hx hb dX0_takeOut_74 (by decide) ?_
            refine lv_iadd hx hb dX0_takeOut_75 ?_
            refine va_put (D := D) (ci := 0) (v := .int ((g_ 1) + (1 : Int32))) (ty := .int) (C := RX0) (T := TX0) (N := 3) hx hb hts (by decide +kernel) tyX0 tyX0_ok nmX0 hown hK hP (caD hD) hS 4 rfl rfl 2 (by decide) (hts (.fieldLink RX0 16 "PowerRests$Factors" "kinds" "I") (by decide +kernel)) (fun _ h9 => h9) rfl (by decide +kernel) rfl rfl (Nat.le_of_ble_eq_true rfl) dX0_takeOut_76 (fun H locs hP _ hS => ?_)
            have hP : va_P D vwCl (caW ad cy (va_up g_ 1 ((g_ 1) + (1 : Int32))) (va_up (va_up a_ 1 (upd (a_ 1) (g_ 1).toNatClampNeg p0)) 3 (upd (a_ 3) (g_ 1).toNatClampNeg x4)) w_) H := hP
            refine lv_iload_n hx hb dX0_takeOut_79 rfl (lv_at hl 2 rfl) ?_
            exact W.iret (v := x3) hx hb hr (fun t ht hW => ⟨⟨_, ((va_up g_ 1 ((g_ 1) + (1 : Int32))), (va_up (va_up a_ 1 (upd (a_ 1) (g_ 1).toNatClampNeg p0)) 3 (upd (a_ 3) (g_ 1).toNatClampNeg x4)), w_), rfl, hV, ar_heap ht hP⟩, hS.F ht⟩) hS.2.2 dX0_takeOut_80
        · have hV := hV.2 c_17
          refine lv_iload_n hx hb dX0_takeOut_20 rfl (lv_at hl 2 rfl) ?_
          refine lv_iload_n hx hb dX0_takeOut_21 rfl (lv_at hl 1 rfl) ?_
          obtain ⟨h_22, hV⟩ := hV
          refine lv_irem hx hb dX0_takeOut_22 h_22 ?_
          refine lv_if_ne (tgt := 39) hx hb dX0_takeOut_23 (by decide) (fun c_23 => ?_) (fun c_23 => ?_)
          · have hV := hV.2 c_23
            refine lv_aload_n hx hb dX0_takeOut_39 rfl (lv_at hl 0 rfl) ?_
            refine va_get (D := D) (ci := 0) (v := .int (g_ 1)) (C := RX0) (T := TX0) (N := 3) hx hb hts (by decide +kernel) hown hK hP 4 rfl rfl 2 (by decide) (hts (.fieldLink RX0 16 "PowerRests$Factors" "kinds" "I") (by decide +kernel)) (fun _ h9 => h9) rfl dX0_takeOut_40 ?_
            refine lv_bipush (v := (8 : Int32)) hx hb dX0_takeOut_43 (by decide) ?_
            refine lv_icmp_ge (tgt := 79) hx hb dX0_takeOut_45 (by decide) (fun c_45 => ?_) (fun c_45 => ?_)
            · have hV := hV.1 c_45
              refine lv_iload_n hx hb dX0_takeOut_79 rfl (lv_at hl 2 rfl) ?_
              exact W.iret (v := x3) hx hb hr (fun t ht hW => ⟨⟨_, (g_, a_, w_), rfl, hV, ar_heap ht hP⟩, hS.F ht⟩) hS.2.2 dX0_takeOut_80
            · have hV := hV.2 c_45
              refine lv_aload_n hx hb dX0_takeOut_48 rfl (lv_at hl 0 rfl) ?_
              refine va_get (D := D) (ci := 0) (v := .ref (ad 5)) (C := RX0) (T := TX0) (N := 3) hx hb hts (by decide +kernel) hown hK hP 4 rfl rfl 0 (by decide) (hts (.fieldLink RX0 9 "PowerRests$Factors" "primes" "[I") (by decide +kernel)) (fun _ h9 => h9) rfl dX0_takeOut_49 ?_
              refine lv_aload_n hx hb dX0_takeOut_52 rfl (lv_at hl 0 rfl) ?_
              refine va_get (D := D) (ci := 0) (v := .int (g_ 1)) (C := RX0) (T := TX0) (N := 3) hx hb hts (by decide +kernel) hown hK hP 4 rfl rfl 2 (by decide) (hts (.fieldLink RX0 16 "PowerRests$Factors" "kinds" "I") (by decide +kernel)) (fun _ h9 => h9) rfl dX0_takeOut_53 ?_
              refine lv_iload_n hx hb dX0_takeOut_56 rfl (lv_at hl 1 rfl) ?_
              obtain ⟨h_57, hV⟩ := hV
              refine va_iast (f := (a_ 1)) hx hb hK hP (caD hD) hS 5 0 rfl rfl h_57 dX0_takeOut_57 (fun H locs hP _ hS => ?_)
              have hP : va_P D vwCl (caW ad cy g_ (va_up a_ 1 (upd (a_ 1) (g_ 1).toNatClampNeg p0)) w_) H := hP
              refine lv_aload_n hx hb dX0_takeOut_58 rfl (lv_at hl 0 rfl) ?_
              refine va_get (D := D) (ci := 0) (v := .ref (ad 6)) (C := RX0) (T := TX0) (N := 3) hx hb hts (by decide +kernel) hown hK hP 4 rfl rfl 1 (by decide) (hts (.fieldLink RX0 13 "PowerRests$Factors" "times" "[I") (by decide +kernel)) (fun _ h9 => h9) rfl dX0_takeOut_59 ?_
              refine lv_aload_n hx hb dX0_takeOut_62 rfl (lv_at hl 0 rfl) ?_
              refine va_get (D := D) (ci := 0) (v := .int (g_ 1)) (C := RX0) (T := TX0) (N := 3) hx hb hts (by decide +kernel) hown hK hP 4 rfl rfl 2 (by decide) (hts (.fieldLink RX0 16 "PowerRests$Factors" "kinds" "I") (by decide +kernel)) (fun _ h9 => h9) rfl dX0_takeOut_63 ?_
              refine lv_iload hx hb dX0_takeOut_66 (lv_at hl 3 rfl) ?_
              obtain ⟨h_68, hV⟩ := hV
              refine va_iast (f := (a_ 3)) hx hb hK hP (caD hD) hS 6 0 rfl rfl h_68 dX0_takeOut_68 (fun H locs hP _ hS => ?_)
              have hP : va_P D vwCl (caW ad cy g_ (va_up (va_up a_ 1 (upd (a_ 1) (g_ 1).toNatClampNeg p0)) 3 (upd (a_ 3) (g_ 1).toNatClampNeg x4)) w_) H := hP
              refine lv_aload_n hx hb dX0_takeOut_69 rfl (lv_at hl 0 rfl) ?_
              refine lv_dup hx hb dX0_takeOut_70 rfl ?_
              refine va_get (D := D) (ci := 0) (v := .int (g_ 1)) (C := RX0) (T := TX0) (N := 3) hx hb hts (by decide +kernel) hown hK hP 4 rfl rfl 2 (by decide) (hts (.fieldLink RX0 16 "PowerRests$Factors" "kinds" "I") (by decide +kernel)) (fun _ h9 => h9) rfl dX0_takeOut_71 ?_
              refine lv_iconst (v := (1 : Int32)) hx hb dX0_takeOut_74 (by decide) ?_
              refine lv_iadd hx hb dX0_takeOut_75 ?_
              refine va_put (D := D) (ci := 0) (v := .int ((g_ 1) + (1 : Int32))) (ty := .int) (C := RX0) (T := TX0) (N := 3) hx hb hts (by decide +kernel) tyX0 tyX0_ok nmX0 hown hK hP (caD hD) hS 4 rfl rfl 2 (by decide) (hts (.fieldLink RX0 16 "PowerRests$Factors" "kinds" "I") (by decide +kernel)) (fun _ h9 => h9) rfl (by decide +kernel) rfl rfl (Nat.le_of_ble_eq_true rfl) dX0_takeOut_76 (fun H locs hP _ hS => ?_)
              have hP : va_P D vwCl (caW ad cy (va_up g_ 1 ((g_ 1) + (1 : Int32))) (va_up (va_up a_ 1 (upd (a_ 1) (g_ 1).toNatClampNeg p0)) 3 (upd (a_ 3) (g_ 1).toNatClampNeg x4)) w_) H := hP
              refine lv_iload_n hx hb dX0_takeOut_79 rfl (lv_at hl 2 rfl) ?_
              exact W.iret (v := x3) hx hb hr (fun t ht hW => ⟨⟨_, ((va_up g_ 1 ((g_ 1) + (1 : Int32))), (va_up (va_up a_ 1 (upd (a_ 1) (g_ 1).toNatClampNeg p0)) 3 (upd (a_ 3) (g_ 1).toNatClampNeg x4)), w_), rfl, hV, ar_heap ht hP⟩, hS.F ht⟩) hS.2.2 dX0_takeOut_80
          · have hV := hV.1 c_23
            refine lv_iload_n hx hb dX0_takeOut_26 rfl (lv_at hl 2 rfl) ?_
            refine lv_iload_n hx hb dX0_takeOut_27 rfl (lv_at hl 1 rfl) ?_
            refine lv_idiv hx hb dX0_takeOut_28 h_22 ?_
            refine lv_istore_n (lv' := [(3, .int (x3 / p0)), (0, .ref (ad 4)), (1, .int p0), (4, .int x4), (5, .int x5)]) hx hb dX0_takeOut_29 rfl hl (by decide) rfl (fun ls hl => ?_)
            refine lv_iinc (v := x4 + 1) (lv' := [(4, .int (x4 + 1)), (3, .int (x3 / p0)), (0, .ref (ad 4)), (1, .int p0), (5, .int x5)]) hx hb dX0_takeOut_30 hl (k := 3) rfl rfl (by decide) rfl (fun ls hl => ?_)
            refine lv_iinc (v := x5 + 1) (lv' := [(5, .int (x5 + 1)), (4, .int (x4 + 1)), (3, .int (x3 / p0)), (0, .ref (ad 4)), (1, .int p0)]) hx hb dX0_takeOut_33 hl (k := 4) rfl rfl (by decide) rfl (fun ls hl => ?_)
            refine lv_goto (tgt := 8) hx hb dX0_takeOut_36 (by decide) ?_
            exact oJ8 _ _ _ _ _ _ hV _ _ hP hS _ (lv_sub hl [3, 4, 2, 1, 0] rfl))
    have hl := lv_entry ([.ref (ad 4), .int p0, .int p1]) (n := 6) (Nat.le_of_ble_eq_true rfl)
    rw [lg_entry_eq]
    generalize (lg_sl ([.ref (ad 4), .int p0, .int p1]) ++ List.replicate (6 - (lg_sl ([.ref (ad 4), .int p0, .int p1])).length) Slot.unset).toArray = ls at hl ⊢
    have hl : lv_has ls 6 [(0, .ref (ad 4)), (1, .int p0), (2, .int p1)] := hl
    refine lv_iload_n hx hb dX0_takeOut_0 rfl (lv_at hl 2 rfl) ?_
    refine lv_istore_n (lv' := [(3, .int p1), (0, .ref (ad 4)), (1, .int p0), (2, .int p1)]) hx hb dX0_takeOut_1 rfl hl (by decide) rfl (fun ls hl => ?_)
    refine lv_iconst (v := (0 : Int32)) hx hb dX0_takeOut_2 (by decide) ?_
    refine lv_istore (lv' := [(4, .int (0 : Int32)), (3, .int p1), (0, .ref (ad 4)), (1, .int p0), (2, .int p1)]) hx hb dX0_takeOut_3 hl (by decide) rfl (fun ls hl => ?_)
    refine lv_iconst (v := (0 : Int32)) hx hb dX0_takeOut_5 (by decide) ?_
    refine lv_istore (lv' := [(5, .int (0 : Int32)), (4, .int (0 : Int32)), (3, .int p1), (0, .ref (ad 4)), (1, .int p0), (2, .int p1)]) hx hb dX0_takeOut_6 hl (by decide) rfl (fun ls hl => ?_)
    exact oJ8 _ _ _ _ _ _ hV _ _ hP hS _ (lv_sub hl [3, 4, 2, 1, 0] rfl)
def post_X0_takeOut (b : Nat) (g : Gs) (a : As) (w : Ws) (p0 p1 r : Int32) (g' : Gs) (a' : As) (w' : Ws) : Prop :=
  ∃ t q, tn p1 = tn p0 ^ t * q ∧ ¬ tn p0 ∣ q ∧ t < 32 ∧ r = nI q ∧ g' = va_up g b (g b + 1) ∧ a' = va_up (va_up a b (upd (a b) (tn (g b)) p0)) (b + 2) (upd (a (b + 2)) (tn (g b)) (nI t)) ∧ w' = w
set_option maxRecDepth 4000 in
theorem spec_X0_takeOut (l : Launch) (b : Nat) (hb2 : b < 2) (D : va_G) (cy : Nat → ClassId) (ad : Nat → Nat) (sz : Nat) (g : Gs) (a : As) (w : Ws) (p0 : Int32) (p1 : Int32) (hpre : pre_X0_takeOut b g a w p0 p1) : Met l yX0_takeOut wsX0_takeOut ({ frames := 0, cells := 0, slots := 0, locals := 0 } : Room) (va_Pc [.ref (ad (1 + 3 * b)), .int p0, .int p1] (ArP D cy sz (caW ad cy g a w))) (va_Qi (fun (r : Int32) (u : Gs × As × Ws) => (post_X0_takeOut b g a w p0 p1) r u.1 u.2.1 u.2.2) (fun u t => va_P D vwCl (caW ad cy u.1 u.2.1 u.2.2) t.heap) (va_A (caW ad cy g a w) sz)) 0 0 (va_A (caW ad cy g a w) sz) := by
  apply met_X0_takeOut
  · exact hb2
  intro J hJ
  obtain ⟨h0, h1, m, hm, hgm⟩ := hpre
  obtain ⟨p, hp, rfl, hp2⟩ := of_i (x := p0) (by omega)
  obtain ⟨n, hn, rfl, hn2⟩ := of_i (x := p1) (by omega)
  have hend : ∀ (t q : Nat), n = p ^ t * q → ¬ p ∣ q → t < 32 → (((8 : Int32) ≤ g b → post_X0_takeOut b g a w (nI p) (nI n) (nI q) g a w) ∧ (¬ (8 : Int32) ≤ g b → vp_in (g b) 8 ∧ (vp_in (g b) 8 ∧ post_X0_takeOut b g a w (nI p) (nI n) (nI q) (va_up g b (g b + 1)) (va_up (va_up a b (upd (a b) (g b).toNatClampNeg (nI p))) (b + 2) (upd (a (b + 2)) (g b).toNatClampNeg (nI t))) w))) := by
    intro t q he hd ht
    rw [hgm]
    refine pk_le 8 m (fun h => absurd h (by omega)) (fun _ => ⟨pk_in m 8 hm, pk_in m 8 hm, ⟨t, q, ?_, ?_, ht, rfl, by rw [hgm], by rw [hgm], rfl⟩⟩)
    · rw [tn_nI hn, tn_nI hp]; exact he
    · rw [tn_nI hp]; exact hd
  have key : ∀ (d t q : Nat), t + d = 32 → 1 ≤ q → n = p ^ t * q → J (nI q) (nI t) (nI t) g a w := by
    intro d
    induction d with
    | zero =>
      intro t q ht hq he
      have : t = 32 := by omega
      subst this
      have h5 : 2 ^ 32 ≤ p ^ 32 := Nat.pow_le_pow_left (by omega) 32
      have h6 : p ^ 32 * 1 ≤ p ^ 32 * q := Nat.mul_le_mul_left _ hq
      omega
    | succ d ih =>
      intro t q ht hq he
      have hql : q ≤ n := by
        have : 1 * q ≤ p ^ t * q := Nat.mul_le_mul_right q (Nat.pow_pos (by omega))
        omega
      refine hJ _ _ _ _ _ _ (pk_le 32 t (fun h => absurd h (by omega)) (fun _ => pk_le p 1 (fun h => absurd h (by omega)) (fun _ => ⟨nI_nz (by omega) hp, ?_⟩)))
      rw [pk_rem (by omega) (by omega) hp, pk_div (by omega) (by omega) hp, nI_1]
      have hl := Nat.mod_lt q (show 0 < p by omega)
      refine pk_eq (q % p) 0 (fun h => ?_) (fun h => hend t q he (fun hd => h (Nat.mod_eq_zero_of_dvd hd)) (by omega))
      have hqd := Nat.mul_div_cancel' (Nat.dvd_of_mod_eq_zero h)
      refine ih (t + 1) (q / p) (by omega) ?_ ?_
      · exact Nat.div_pos (Nat.le_of_dvd (by omega) (Nat.dvd_of_mod_eq_zero h)) (by omega)
      · rw [he, Nat.pow_succ, Nat.mul_assoc, hqd]
  exact key 32 0 n rfl (by omega) (by rw [Nat.pow_zero, Nat.one_mul])
theorem up_up {α : Type} (f : Nat → α) (i : Nat) (x y : α) : va_up (va_up f i x) i y = va_up f i y := bx_uu f i x y
theorem up_row (a : As) (b : Nat) (x y x' y' : Nat → Int32) : va_up (va_up (va_up (va_up a b x) (b + 2) y) b x') (b + 2) y' = va_up (va_up a b x') (b + 2) y' := by
  funext j
  unfold va_up
  by_cases h1 : j = b + 2
  · simp [h1]
  · by_cases h2 : j = b
    · simp [h2]
    · simp [h1, h2]
theorem up_0 {α : Type} (f : Nat → α) (i : Nat) (x : α) : va_up f i x i = x := if_pos rfl
theorem up_n {α : Type} (f : Nat → α) {i j : Nat} (x : α) (h : j ≠ i) : va_up f i x j = f j := if_neg h
def pre_X0_split (b : Nat) (g : Gs) (a : As) (w : Ws) (p0 : Int32) : Prop := 0 ≤ p0.toInt ∧ p0.toInt ≤ 100000
set_option maxHeartbeats 4000000 in
set_option maxRecDepth 100000 in
theorem met_X0_split (l : Launch) (b : Nat) (hb2 : b < 2) (D : va_G) (cy : Nat → ClassId) (ad : Nat → Nat) (sz : Nat) (g : Gs) (a : As) (w : Ws) (p0 : Int32) (post : Gs → As → Ws → Prop)
  (hV : ∀ (J9 : Int32 → Int32 → Gs → As → Ws → Prop),
    (∀ (x2 : Int32) (x3 : Int32) (g_ : Gs) (a_ : As) (w_ : Ws), (((1000 : Int32) ≤ x3 → ((x2 ≤ (1 : Int32) → post g_ a_ w_) ∧ (¬ x2 ≤ (1 : Int32) → pre_X0_takeOut b g_ a_ w_ x2 x2 ∧ (∀ (r50 : Int32) (g50 : Gs) (a50 : As) (w50 : Ws), post_X0_takeOut b g_ a_ w_ x2 x2 r50 g50 a50 w50 → post g50 a50 w50)))) ∧ (¬ (1000 : Int32) ≤ x3 → ((x2 < (x3 * x3) → ((x2 ≤ (1 : Int32) → post g_ a_ w_) ∧ (¬ x2 ≤ (1 : Int32) → pre_X0_takeOut b g_ a_ w_ x2 x2 ∧ (∀ (r50 : Int32) (g50 : Gs) (a50 : As) (w50 : Ws), post_X0_takeOut b g_ a_ w_ x2 x2 r50 g50 a50 w50 → post g50 a50 w50)))) ∧ (¬ x2 < (x3 * x3) → ¬ x3 = 0 ∧ ((((x2 - x2 / x3 * x3) = 0 → pre_X0_takeOut b g_ a_ w_ x3 x2 ∧ (∀ (r32 : Int32) (g32 : Gs) (a32 : As) (w32 : Ws), post_X0_takeOut b g_ a_ w_ x3 x2 r32 g32 a32 w32 → J9 r32 (x3 + 1) g32 a32 w32)) ∧ (¬ (x2 - x2 / x3 * x3) = 0 → J9 x2 (x3 + 1) g_ a_ w_))))))) → J9 x2 x3 g_ a_ w_) →
    J9 p0 (2 : Int32) (va_up g b (0 : Int32)) a w) :
  Met l yX0_split wsX0_split ({ frames := 1, cells := 0, slots := 0, locals := 25 } : Room) (va_Pc [.ref (ad (1 + 3 * b)), .int p0] (ArP D cy sz (caW ad cy g a w))) (va_Qv (fun (u : Gs × As × Ws) => post u.1 u.2.1 u.2.2) (fun u t => va_P D vwCl (caW ad cy u.1 u.2.1 u.2.2) t.heap) (va_A (caW ad cy g a w) sz)) 0 0 (va_A (caW ad cy g a w) sz) := by
  match b, hb2 with
  | 0, _ =>
    refine Met.ofW (cc := cX0_split) (maxL := 4) (ret := none) (by decide) rfl ?_
    intro p e s m args below meth c s₁ B hml hv
    obtain ⟨rfl, hsz, hP, hK, hD0, hN⟩ := hv
    have hx := B.exec
    have hb := B.bytes
    have hr := B.returns
    have hts := atoms_spec (ws := wsX0_split) B.pre
    have hown : s.vm.findClass RX0 = some m.cls := findClass_of_methodNamed B.named
    have hlocks := B.notSynchronized
    subst hsz
    have hD := hD0.self (sz := s.heap.size)
    have hP : va_P D vwCl (caW ad cy g a w) s.heap := hP
    have hD : va_D (va_A (caW ad cy g a w) s.heap.size) (caW ad cy g a w) := hD
    have hS : va_S (va_A (caW ad cy g a w) s.heap.size) s.heap s.heap [] := va_S.rf
    have hA : ∀ q : Nat, s.heap.size ≤ q → va_A (caW ad cy g a w) s.heap.size q := fun q h => Or.inr h
    obtain ⟨J9, iJ9, oJ9⟩ : ∃ J : Int32 → Int32 → Gs → As → Ws → Prop, (∀ (x2 : Int32) (x3 : Int32) (g_ : Gs) (a_ : As) (w_ : Ws), (∀ (H : Heap) (locs : List Loc), va_P D vwCl (caW ad cy g_ a_ w_) H → va_S (va_A (caW ad cy g a w) s.heap.size) s.heap H locs → ∀ ls : Array Slot, lv_has ls 4 [(0, .ref (ad 1)), (2, .int x2), (3, .int x3)] → W p l e (headSpec wsX0_split ({ frames := 1, cells := 0, slots := 0, locals := 25 } : Room)).room s m [.ref (ad 1), .int p0].toArray below meth c H locs 0 0 (MQ below (va_Qv (fun (u : Gs × As × Ws) => post u.1 u.2.1 u.2.2) (fun u t => va_P D vwCl (caW ad cy u.1 u.2.1 u.2.2) t.heap) (va_A (caW ad cy g a w) s.heap.size)) [.ref (ad 1), .int p0].toArray s 0 0 (va_A (caW ad cy g a w) s.heap.size)) (F0 m 9 ls [])) → J x2 x3 g_ a_ w_) ∧ (∀ (x2 : Int32) (x3 : Int32) (g_ : Gs) (a_ : As) (w_ : Ws), J x2 x3 g_ a_ w_ → (∀ (H : Heap) (locs : List Loc), va_P D vwCl (caW ad cy g_ a_ w_) H → va_S (va_A (caW ad cy g a w) s.heap.size) s.heap H locs → ∀ ls : Array Slot, lv_has ls 4 [(0, .ref (ad 1)), (2, .int x2), (3, .int x3)] → W p l e (headSpec wsX0_split ({ frames := 1, cells := 0, slots := 0, locals := 25 } : Room)).room s m [.ref (ad 1), .int p0].toArray below meth c H locs 0 0 (MQ below (va_Qv (fun (u : Gs × As × Ws) => post u.1 u.2.1 u.2.2) (fun u t => va_P D vwCl (caW ad cy u.1 u.2.1 u.2.2) t.heap) (va_A (caW ad cy g a w) s.heap.size)) [.ref (ad 1), .int p0].toArray s 0 0 (va_A (caW ad cy g a w) s.heap.size)) (F0 m 9 ls []))) := ⟨fun (x2 : Int32) (x3 : Int32) (g_ : Gs) (a_ : As) (w_ : Ws) => (∀ (H : Heap) (locs : List Loc), va_P D vwCl (caW ad cy g_ a_ w_) H → va_S (va_A (caW ad cy g a w) s.heap.size) s.heap H locs → ∀ ls : Array Slot, lv_has ls 4 [(0, .ref (ad 1)), (2, .int x2), (3, .int x3)] → W p l e (headSpec wsX0_split ({ frames := 1, cells := 0, slots := 0, locals := 25 } : Room)).room s m [.ref (ad 1), .int p0].toArray below meth c H locs 0 0 (MQ below (va_Qv (fun (u : Gs × As × Ws) => post u.1 u.2.1 u.2.2) (fun u t => va_P D vwCl (caW ad cy u.1 u.2.1 u.2.2) t.heap) (va_A (caW ad cy g a w) s.heap.size)) [.ref (ad 1), .int p0].toArray s 0 0 (va_A (caW ad cy g a w) s.heap.size)) (F0 m 9 ls [])), fun _ _ _ _ _ h => h, fun _ _ _ _ _ h => h⟩
    have hV := hV J9
    replace hV := hV (by
      intro x2 x3 g_ a_ w_ hV
      refine iJ9 x2 x3 g_ a_ w_ ?_
      intro H locs hP hS ls hl
      refine lv_iload_n hx hb dX0_split_9 rfl (lv_at hl 2 rfl) ?_
      refine lv_sipush (v := (1000 : Int32)) hx hb dX0_split_10 (by decide) ?_
      refine lv_icmp_ge (tgt := 42) hx hb dX0_split_13 (by decide) (fun c_13 => ?_) (fun c_13 => ?_)
      · have hV := hV.1 c_13
        refine lv_iload_n hx hb dX0_split_42 rfl (lv_at hl 1 rfl) ?_
        refine lv_iconst (v := (1 : Int32)) hx hb dX0_split_43 (by decide) ?_
        refine lv_icmp_le (tgt := 54) hx hb dX0_split_44 (by decide) (fun c_44 => ?_) (fun c_44 => ?_)
        · have hV := hV.1 c_44
          exact W.vret hx hb hr (fun t ht hW => ⟨⟨(g_, a_, w_), rfl, hV, ar_heap ht hP⟩, hS.F ht⟩) hS.2.2 dX0_split_54
        · have hV := hV.2 c_44
          refine lv_aload_n hx hb dX0_split_47 rfl (lv_at hl 0 rfl) ?_
          refine lv_iload_n hx hb dX0_split_48 rfl (lv_at hl 1 rfl) ?_
          refine lv_iload_n hx hb dX0_split_49 rfl (lv_at hl 1 rfl) ?_
          obtain ⟨h_50, hV⟩ := hV
          refine cw_i (va_runV (As := [.int x2, .int x2]) (rest := []) ⟨hx, hb, hml, hown, hts⟩ (spec_X0_takeOut l 0 (by decide) D cy ad _ g_ a_ w_ x2 x2 h_50) (cwV 2 hts gX0_split_X0_takeOut rfl rfl rfl (by decide +kernel) ⟨Nat.le_of_ble_eq_true rfl, Nat.le_of_ble_eq_true rfl⟩) (ar_preV hN hK hP (caD hD) (ci := 0) (q0 := 1) rfl rfl) rfl rfl hl.1 rfl (lv_room (Nat.le_of_ble_eq_true rfl)) dX0_split_50 ⟨Nat.zero_le _, Nat.zero_le _⟩) hS (caD hD) hA (fun r50 u_50 H locs q_50 hP hS => ?_)
          obtain ⟨g50, a50, w50⟩ := u_50
          have hV := hV r50 g50 a50 w50 q_50
          have hP : va_P D vwCl (caW ad cy g50 a50 w50) H := hP
          refine lv_pop hx hb dX0_split_53 rfl ?_
          exact W.vret hx hb hr (fun t ht hW => ⟨⟨(g50, a50, w50), rfl, hV, ar_heap ht hP⟩, hS.F ht⟩) hS.2.2 dX0_split_54
      · have hV := hV.2 c_13
        refine lv_iload_n hx hb dX0_split_16 rfl (lv_at hl 2 rfl) ?_
        refine lv_iload_n hx hb dX0_split_17 rfl (lv_at hl 2 rfl) ?_
        refine lv_imul hx hb dX0_split_18 ?_
        refine lv_iload_n hx hb dX0_split_19 rfl (lv_at hl 1 rfl) ?_
        refine lv_icmp_gt (tgt := 42) hx hb dX0_split_20 (by decide) (fun c_20 => ?_) (fun c_20 => ?_)
        · have hV := hV.1 c_20
          refine lv_iload_n hx hb dX0_split_42 rfl (lv_at hl 1 rfl) ?_
          refine lv_iconst (v := (1 : Int32)) hx hb dX0_split_43 (by decide) ?_
          refine lv_icmp_le (tgt := 54) hx hb dX0_split_44 (by decide) (fun c_44 => ?_) (fun c_44 => ?_)
          · have hV := hV.1 c_44
            exact W.vret hx hb hr (fun t ht hW => ⟨⟨(g_, a_, w_), rfl, hV, ar_heap ht hP⟩, hS.F ht⟩) hS.2.2 dX0_split_54
          · have hV := hV.2 c_44
            refine lv_aload_n hx hb dX0_split_47 rfl (lv_at hl 0 rfl) ?_
            refine lv_iload_n hx hb dX0_split_48 rfl (lv_at hl 1 rfl) ?_
            refine lv_iload_n hx hb dX0_split_49 rfl (lv_at hl 1 rfl) ?_
            obtain ⟨h_50, hV⟩ := hV
            refine cw_i (va_runV (As := [.int x2, .int x2]) (rest := []) ⟨hx, hb, hml, hown, hts⟩ (spec_X0_takeOut l 0 (by decide) D cy ad _ g_ a_ w_ x2 x2 h_50) (cwV 2 hts gX0_split_X0_takeOut rfl rfl rfl (by decide +kernel) ⟨Nat.le_of_ble_eq_true rfl, Nat.le_of_ble_eq_true rfl⟩) (ar_preV hN hK hP (caD hD) (ci := 0) (q0 := 1) rfl rfl) rfl rfl hl.1 rfl (lv_room (Nat.le_of_ble_eq_true rfl)) dX0_split_50 ⟨Nat.zero_le _, Nat.zero_le _⟩) hS (caD hD) hA (fun r50 u_50 H locs q_50 hP hS => ?_)
            obtain ⟨g50, a50, w50⟩ := u_50
            have hV := hV r50 g50 a50 w50 q_50
            have hP : va_P D vwCl (caW ad cy g50 a50 w50) H := hP
            refine lv_pop hx hb dX0_split_53 rfl ?_
            exact W.vret hx hb hr (fun t ht hW => ⟨⟨(g50, a50, w50), rfl, hV, ar_heap ht hP⟩, hS.F ht⟩) hS.2.2 dX0_split_54
        · have hV := hV.2 c_20
          refine lv_iload_n hx hb dX0_split_23 rfl (lv_at hl 1 rfl) ?_
          refine lv_iload_n hx hb dX0_split_24 rfl (lv_at hl 2 rfl) ?_
          obtain ⟨h_25, hV⟩ := hV
          refine lv_irem hx hb dX0_split_25 h_25 ?_
          refine lv_if_ne (tgt := 36) hx hb dX0_split_26 (by decide) (fun c_26 => ?_) (fun c_26 => ?_)
          · have hV := hV.2 c_26
            refine lv_iinc (v := x3 + 1) (lv' := [(3, .int (x3 + 1)), (0, .ref (ad 1)), (2, .int x2)]) hx hb dX0_split_36 hl (k := 2) rfl rfl (by decide) rfl (fun ls hl => ?_)
            refine lv_goto (tgt := 9) hx hb dX0_split_39 (by decide) ?_
            exact oJ9 _ _ _ _ _ hV _ _ hP hS _ (lv_sub hl [1, 2, 0] rfl)
          · have hV := hV.1 c_26
            refine lv_aload_n hx hb dX0_split_29 rfl (lv_at hl 0 rfl) ?_
            refine lv_iload_n hx hb dX0_split_30 rfl (lv_at hl 2 rfl) ?_
            refine lv_iload_n hx hb dX0_split_31 rfl (lv_at hl 1 rfl) ?_
            obtain ⟨h_32, hV⟩ := hV
            refine cw_i (va_runV (As := [.int x3, .int x2]) (rest := []) ⟨hx, hb, hml, hown, hts⟩ (spec_X0_takeOut l 0 (by decide) D cy ad _ g_ a_ w_ x3 x2 h_32) (cwV 2 hts gX0_split_X0_takeOut rfl rfl rfl (by decide +kernel) ⟨Nat.le_of_ble_eq_true rfl, Nat.le_of_ble_eq_true rfl⟩) (ar_preV hN hK hP (caD hD) (ci := 0) (q0 := 1) rfl rfl) rfl rfl hl.1 rfl (lv_room (Nat.le_of_ble_eq_true rfl)) dX0_split_32 ⟨Nat.zero_le _, Nat.zero_le _⟩) hS (caD hD) hA (fun r32 u_32 H locs q_32 hP hS => ?_)
            obtain ⟨g32, a32, w32⟩ := u_32
            have hV := hV r32 g32 a32 w32 q_32
            have hP : va_P D vwCl (caW ad cy g32 a32 w32) H := hP
            refine lv_istore_n (lv' := [(2, .int r32), (0, .ref (ad 1)), (3, .int x3)]) hx hb dX0_split_35 rfl hl (by decide) rfl (fun ls hl => ?_)
            refine lv_iinc (v := x3 + 1) (lv' := [(3, .int (x3 + 1)), (2, .int r32), (0, .ref (ad 1))]) hx hb dX0_split_36 hl (k := 2) rfl rfl (by decide) rfl (fun ls hl => ?_)
            refine lv_goto (tgt := 9) hx hb dX0_split_39 (by decide) ?_
            exact oJ9 _ _ _ _ _ hV _ _ hP hS _ (lv_sub hl [2, 1, 0] rfl))
    have hl := lv_entry ([.ref (ad 1), .int p0]) (n := 4) (Nat.le_of_ble_eq_true rfl)
    rw [lg_entry_eq]
    generalize (lg_sl ([.ref (ad 1), .int p0]) ++ List.replicate (4 - (lg_sl ([.ref (ad 1), .int p0])).length) Slot.unset).toArray = ls at hl ⊢
    have hl : lv_has ls 4 [(0, .ref (ad 1)), (1, .int p0)] := hl
    refine lv_aload_n hx hb dX0_split_0 rfl (lv_at hl 0 rfl) ?_
    refine lv_iconst (v := (0 : Int32)) hx hb dX0_split_1 (by decide) ?_
    refine va_put (D := D) (ci := 0) (v := .int (0 : Int32)) (ty := .int) (C := RX0) (T := TX0) (N := 3) hx hb hts (by decide +kernel) tyX0 tyX0_ok nmX0 hown hK hP (caD hD) hS 1 rfl rfl 2 (by decide) (hts (.fieldLink RX0 16 "PowerRests$Factors" "kinds" "I") (by decide +kernel)) (fun _ h9 => h9) rfl (by decide +kernel) rfl rfl (Nat.le_of_ble_eq_true rfl) dX0_split_2 (fun H locs hP _ hS => ?_)
    have hP : va_P D vwCl (caW ad cy (va_up g 0 (0 : Int32)) a w) H := hP
    refine lv_iload_n hx hb dX0_split_5 rfl (lv_at hl 1 rfl) ?_
    refine lv_istore_n (lv' := [(2, .int p0), (0, .ref (ad 1)), (1, .int p0)]) hx hb dX0_split_6 rfl hl (by decide) rfl (fun ls hl => ?_)
    refine lv_iconst (v := (2 : Int32)) hx hb dX0_split_7 (by decide) ?_
    refine lv_istore_n (lv' := [(3, .int (2 : Int32)), (2, .int p0), (0, .ref (ad 1)), (1, .int p0)]) hx hb dX0_split_8 rfl hl (by decide) rfl (fun ls hl => ?_)
    exact oJ9 _ _ _ _ _ hV _ _ hP hS _ (lv_sub hl [2, 1, 0] rfl)
  | 1, _ =>
    refine Met.ofW (cc := cX0_split) (maxL := 4) (ret := none) (by decide) rfl ?_
    intro p e s m args below meth c s₁ B hml hv
    obtain ⟨rfl, hsz, hP, hK, hD0, hN⟩ := hv
    have hx := B.exec
    have hb := B.bytes
    have hr := B.returns
    have hts := atoms_spec (ws := wsX0_split) B.pre
    have hown : s.vm.findClass RX0 = some m.cls := findClass_of_methodNamed B.named
    have hlocks := B.notSynchronized
    subst hsz
    have hD := hD0.self (sz := s.heap.size)
    have hP : va_P D vwCl (caW ad cy g a w) s.heap := hP
    have hD : va_D (va_A (caW ad cy g a w) s.heap.size) (caW ad cy g a w) := hD
    have hS : va_S (va_A (caW ad cy g a w) s.heap.size) s.heap s.heap [] := va_S.rf
    have hA : ∀ q : Nat, s.heap.size ≤ q → va_A (caW ad cy g a w) s.heap.size q := fun q h => Or.inr h
    obtain ⟨J9, iJ9, oJ9⟩ : ∃ J : Int32 → Int32 → Gs → As → Ws → Prop, (∀ (x2 : Int32) (x3 : Int32) (g_ : Gs) (a_ : As) (w_ : Ws), (∀ (H : Heap) (locs : List Loc), va_P D vwCl (caW ad cy g_ a_ w_) H → va_S (va_A (caW ad cy g a w) s.heap.size) s.heap H locs → ∀ ls : Array Slot, lv_has ls 4 [(0, .ref (ad 4)), (2, .int x2), (3, .int x3)] → W p l e (headSpec wsX0_split ({ frames := 1, cells := 0, slots := 0, locals := 25 } : Room)).room s m [.ref (ad 4), .int p0].toArray below meth c H locs 0 0 (MQ below (va_Qv (fun (u : Gs × As × Ws) => post u.1 u.2.1 u.2.2) (fun u t => va_P D vwCl (caW ad cy u.1 u.2.1 u.2.2) t.heap) (va_A (caW ad cy g a w) s.heap.size)) [.ref (ad 4), .int p0].toArray s 0 0 (va_A (caW ad cy g a w) s.heap.size)) (F0 m 9 ls [])) → J x2 x3 g_ a_ w_) ∧ (∀ (x2 : Int32) (x3 : Int32) (g_ : Gs) (a_ : As) (w_ : Ws), J x2 x3 g_ a_ w_ → (∀ (H : Heap) (locs : List Loc), va_P D vwCl (caW ad cy g_ a_ w_) H → va_S (va_A (caW ad cy g a w) s.heap.size) s.heap H locs → ∀ ls : Array Slot, lv_has ls 4 [(0, .ref (ad 4)), (2, .int x2), (3, .int x3)] → W p l e (headSpec wsX0_split ({ frames := 1, cells := 0, slots := 0, locals := 25 } : Room)).room s m [.ref (ad 4), .int p0].toArray below meth c H locs 0 0 (MQ below (va_Qv (fun (u : Gs × As × Ws) => post u.1 u.2.1 u.2.2) (fun u t => va_P D vwCl (caW ad cy u.1 u.2.1 u.2.2) t.heap) (va_A (caW ad cy g a w) s.heap.size)) [.ref (ad 4), .int p0].toArray s 0 0 (va_A (caW ad cy g a w) s.heap.size)) (F0 m 9 ls []))) := ⟨fun (x2 : Int32) (x3 : Int32) (g_ : Gs) (a_ : As) (w_ : Ws) => (∀ (H : Heap) (locs : List Loc), va_P D vwCl (caW ad cy g_ a_ w_) H → va_S (va_A (caW ad cy g a w) s.heap.size) s.heap H locs → ∀ ls : Array Slot, lv_has ls 4 [(0, .ref (ad 4)), (2, .int x2), (3, .int x3)] → W p l e (headSpec wsX0_split ({ frames := 1, cells := 0, slots := 0, locals := 25 } : Room)).room s m [.ref (ad 4), .int p0].toArray below meth c H locs 0 0 (MQ below (va_Qv (fun (u : Gs × As × Ws) => post u.1 u.2.1 u.2.2) (fun u t => va_P D vwCl (caW ad cy u.1 u.2.1 u.2.2) t.heap) (va_A (caW ad cy g a w) s.heap.size)) [.ref (ad 4), .int p0].toArray s 0 0 (va_A (caW ad cy g a w) s.heap.size)) (F0 m 9 ls [])), fun _ _ _ _ _ h => h, fun _ _ _ _ _ h => h⟩
    have hV := hV J9
    replace hV := hV (by
      intro x2 x3 g_ a_ w_ hV
      refine iJ9 x2 x3 g_ a_ w_ ?_
      intro H locs hP hS ls hl
      refine lv_iload_n hx hb dX0_split_9 rfl (lv_at hl 2 rfl) ?_
      refine lv_sipush (v := (1000 : Int32)) hx hb dX0_split_10 (by decide) ?_
      refine lv_icmp_ge (tgt := 42) hx hb dX0_split_13 (by decide) (fun c_13 => ?_) (fun c_13 => ?_)
      · have hV := hV.1 c_13
        refine lv_iload_n hx hb dX0_split_42 rfl (lv_at hl 1 rfl) ?_
        refine lv_iconst (v := (1 : Int32)) hx hb dX0_split_43 (by decide) ?_
        refine lv_icmp_le (tgt := 54) hx hb dX0_split_44 (by decide) (fun c_44 => ?_) (fun c_44 => ?_)
        · have hV := hV.1 c_44
          exact W.vret hx hb hr (fun t ht hW => ⟨⟨(g_, a_, w_), rfl, hV, ar_heap ht hP⟩, hS.F ht⟩) hS.2.2 dX0_split_54
        · have hV := hV.2 c_44
          refine lv_aload_n hx hb dX0_split_47 rfl (lv_at hl 0 rfl) ?_
          refine lv_iload_n hx hb dX0_split_48 rfl (lv_at hl 1 rfl) ?_
          refine lv_iload_n hx hb dX0_split_49 rfl (lv_at hl 1 rfl) ?_
          obtain ⟨h_50, hV⟩ := hV
          refine cw_i (va_runV (As := [.int x2, .int x2]) (rest := []) ⟨hx, hb, hml, hown, hts⟩ (spec_X0_takeOut l 1 (by decide) D cy ad _ g_ a_ w_ x2 x2 h_50) (cwV 2 hts gX0_split_X0_takeOut rfl rfl rfl (by decide +kernel) ⟨Nat.le_of_ble_eq_true rfl, Nat.le_of_ble_eq_true rfl⟩) (ar_preV hN hK hP (caD hD) (ci := 0) (q0 := 4) rfl rfl) rfl rfl hl.1 rfl (lv_room (Nat.le_of_ble_eq_true rfl)) dX0_split_50 ⟨Nat.zero_le _, Nat.zero_le _⟩) hS (caD hD) hA (fun r50 u_50 H locs q_50 hP hS => ?_)
          obtain ⟨g50, a50, w50⟩ := u_50
          have hV := hV r50 g50 a50 w50 q_50
          have hP : va_P D vwCl (caW ad cy g50 a50 w50) H := hP
          refine lv_pop hx hb dX0_split_53 rfl ?_
          exact W.vret hx hb hr (fun t ht hW => ⟨⟨(g50, a50, w50), rfl, hV, ar_heap ht hP⟩, hS.F ht⟩) hS.2.2 dX0_split_54
      · have hV := hV.2 c_13
        refine lv_iload_n hx hb dX0_split_16 rfl (lv_at hl 2 rfl) ?_
        refine lv_iload_n hx hb dX0_split_17 rfl (lv_at hl 2 rfl) ?_
        refine lv_imul hx hb dX0_split_18 ?_
        refine lv_iload_n hx hb dX0_split_19 rfl (lv_at hl 1 rfl) ?_
        refine lv_icmp_gt (tgt := 42) hx hb dX0_split_20 (by decide) (fun c_20 => ?_) (fun c_20 => ?_)
        · have hV := hV.1 c_20
          refine lv_iload_n hx hb dX0_split_42 rfl (lv_at hl 1 rfl) ?_
          refine lv_iconst (v := (1 : Int32)) hx hb dX0_split_43 (by decide) ?_
          refine lv_icmp_le (tgt := 54) hx hb dX0_split_44 (by decide) (fun c_44 => ?_) (fun c_44 => ?_)
          · have hV := hV.1 c_44
            exact W.vret hx hb hr (fun t ht hW => ⟨⟨(g_, a_, w_), rfl, hV, ar_heap ht hP⟩, hS.F ht⟩) hS.2.2 dX0_split_54
          · have hV := hV.2 c_44
            refine lv_aload_n hx hb dX0_split_47 rfl (lv_at hl 0 rfl) ?_
            refine lv_iload_n hx hb dX0_split_48 rfl (lv_at hl 1 rfl) ?_
            refine lv_iload_n hx hb dX0_split_49 rfl (lv_at hl 1 rfl) ?_
            obtain ⟨h_50, hV⟩ := hV
            refine cw_i (va_runV (As := [.int x2, .int x2]) (rest := []) ⟨hx, hb, hml, hown, hts⟩ (spec_X0_takeOut l 1 (by decide) D cy ad _ g_ a_ w_ x2 x2 h_50) (cwV 2 hts gX0_split_X0_takeOut rfl rfl rfl (by decide +kernel) ⟨Nat.le_of_ble_eq_true rfl, Nat.le_of_ble_eq_true rfl⟩) (ar_preV hN hK hP (caD hD) (ci := 0) (q0 := 4) rfl rfl) rfl rfl hl.1 rfl (lv_room (Nat.le_of_ble_eq_true rfl)) dX0_split_50 ⟨Nat.zero_le _, Nat.zero_le _⟩) hS (caD hD) hA (fun r50 u_50 H locs q_50 hP hS => ?_)
            obtain ⟨g50, a50, w50⟩ := u_50
            have hV := hV r50 g50 a50 w50 q_50
            have hP : va_P D vwCl (caW ad cy g50 a50 w50) H := hP
            refine lv_pop hx hb dX0_split_53 rfl ?_
            exact W.vret hx hb hr (fun t ht hW => ⟨⟨(g50, a50, w50), rfl, hV, ar_heap ht hP⟩, hS.F ht⟩) hS.2.2 dX0_split_54
        · have hV := hV.2 c_20
          refine lv_iload_n hx hb dX0_split_23 rfl (lv_at hl 1 rfl) ?_
          refine lv_iload_n hx hb dX0_split_24 rfl (lv_at hl 2 rfl) ?_
          obtain ⟨h_25, hV⟩ := hV
          refine lv_irem hx hb dX0_split_25 h_25 ?_
          refine lv_if_ne (tgt := 36) hx hb dX0_split_26 (by decide) (fun c_26 => ?_) (fun c_26 => ?_)
          · have hV := hV.2 c_26
            refine lv_iinc (v := x3 + 1) (lv' := [(3, .int (x3 + 1)), (0, .ref (ad 4)), (2, .int x2)]) hx hb dX0_split_36 hl (k := 2) rfl rfl (by decide) rfl (fun ls hl => ?_)
            refine lv_goto (tgt := 9) hx hb dX0_split_39 (by decide) ?_
            exact oJ9 _ _ _ _ _ hV _ _ hP hS _ (lv_sub hl [1, 2, 0] rfl)
          · have hV := hV.1 c_26
            refine lv_aload_n hx hb dX0_split_29 rfl (lv_at hl 0 rfl) ?_
            refine lv_iload_n hx hb dX0_split_30 rfl (lv_at hl 2 rfl) ?_
            refine lv_iload_n hx hb dX0_split_31 rfl (lv_at hl 1 rfl) ?_
            obtain ⟨h_32, hV⟩ := hV
            refine cw_i (va_runV (As := [.int x3, .int x2]) (rest := []) ⟨hx, hb, hml, hown, hts⟩ (spec_X0_takeOut l 1 (by decide) D cy ad _ g_ a_ w_ x3 x2 h_32) (cwV 2 hts gX0_split_X0_takeOut rfl rfl rfl (by decide +kernel) ⟨Nat.le_of_ble_eq_true rfl, Nat.le_of_ble_eq_true rfl⟩) (ar_preV hN hK hP (caD hD) (ci := 0) (q0 := 4) rfl rfl) rfl rfl hl.1 rfl (lv_room (Nat.le_of_ble_eq_true rfl)) dX0_split_32 ⟨Nat.zero_le _, Nat.zero_le _⟩) hS (caD hD) hA (fun r32 u_32 H locs q_32 hP hS => ?_)
            obtain ⟨g32, a32, w32⟩ := u_32
            have hV := hV r32 g32 a32 w32 q_32
            have hP : va_P D vwCl (caW ad cy g32 a32 w32) H := hP
            refine lv_istore_n (lv' := [(2, .int r32), (0, .ref (ad 4)), (3, .int x3)]) hx hb dX0_split_35 rfl hl (by decide) rfl (fun ls hl => ?_)
            refine lv_iinc (v := x3 + 1) (lv' := [(3, .int (x3 + 1)), (2, .int r32), (0, .ref (ad 4))]) hx hb dX0_split_36 hl (k := 2) rfl rfl (by decide) rfl (fun ls hl => ?_)
            refine lv_goto (tgt := 9) hx hb dX0_split_39 (by decide) ?_
            exact oJ9 _ _ _ _ _ hV _ _ hP hS _ (lv_sub hl [2, 1, 0] rfl))
    have hl := lv_entry ([.ref (ad 4), .int p0]) (n := 4) (Nat.le_of_ble_eq_true rfl)
    rw [lg_entry_eq]
    generalize (lg_sl ([.ref (ad 4), .int p0]) ++ List.replicate (4 - (lg_sl ([.ref (ad 4), .int p0])).length) Slot.unset).toArray = ls at hl ⊢
    have hl : lv_has ls 4 [(0, .ref (ad 4)), (1, .int p0)] := hl
    refine lv_aload_n hx hb dX0_split_0 rfl (lv_at hl 0 rfl) ?_
    refine lv_iconst (v := (0 : Int32)) hx hb dX0_split_1 (by decide) ?_
    refine va_put (D := D) (ci := 0) (v := .int (0 : Int32)) (ty := .int) (C := RX0) (T := TX0) (N := 3) hx hb hts (by decide +kernel) tyX0 tyX0_ok nmX0 hown hK hP (caD hD) hS 4 rfl rfl 2 (by decide) (hts (.fieldLink RX0 16 "PowerRests$Factors" "kinds" "I") (by decide +kernel)) (fun _ h9 => h9) rfl (by decide +kernel) rfl rfl (Nat.le_of_ble_eq_true rfl) dX0_split_2 (fun H locs hP _ hS => ?_)
    have hP : va_P D vwCl (caW ad cy (va_up g 1 (0 : Int32)) a w) H := hP
    refine lv_iload_n hx hb dX0_split_5 rfl (lv_at hl 1 rfl) ?_
    refine lv_istore_n (lv' := [(2, .int p0), (0, .ref (ad 4)), (1, .int p0)]) hx hb dX0_split_6 rfl hl (by decide) rfl (fun ls hl => ?_)
    refine lv_iconst (v := (2 : Int32)) hx hb dX0_split_7 (by decide) ?_
    refine lv_istore_n (lv' := [(3, .int (2 : Int32)), (2, .int p0), (0, .ref (ad 4)), (1, .int p0)]) hx hb dX0_split_8 rfl hl (by decide) rfl (fun ls hl => ?_)
    exact oJ9 _ _ _ _ _ hV _ _ hP hS _ (lv_sub hl [2, 1, 0] rfl)
def post_X0_split (b : Nat) (g : Gs) (a : As) (w : Ws) (p0 : Int32) (g' : Gs) (a' : As) (w' : Ws) : Prop :=
  (∃ kd x y, g' = va_up g b kd ∧ a' = va_up (va_up a b x) (b + 2) y ∧ w' = w) ∧ (1 ≤ tn p0 → Fac b (tn p0) g' a') ∧ (tn p0 = 0 → g' b = 0)
set_option maxRecDepth 4000 in
theorem spec_X0_split (l : Launch) (b : Nat) (hb2 : b < 2) (D : va_G) (cy : Nat → ClassId) (ad : Nat → Nat) (sz : Nat) (g : Gs) (a : As) (w : Ws) (p0 : Int32) (hpre : pre_X0_split b g a w p0) : Met l yX0_split wsX0_split ({ frames := 1, cells := 0, slots := 0, locals := 25 } : Room) (va_Pc [.ref (ad (1 + 3 * b)), .int p0] (ArP D cy sz (caW ad cy g a w))) (va_Qv (fun (u : Gs × As × Ws) => (post_X0_split b g a w p0) u.1 u.2.1 u.2.2) (fun u t => va_P D vwCl (caW ad cy u.1 u.2.1 u.2.2) t.heap) (va_A (caW ad cy g a w) sz)) 0 0 (va_A (caW ad cy g a w) sz) := by
  apply met_X0_split
  · exact hb2
  intro J hJ
  obtain ⟨h0, h1⟩ := hpre
  obtain ⟨n, hn, rfl, hn2⟩ := of_i h0
  have hnb : n ≤ 100000 := by omega
  by_cases hz : n = 0
  · subst hz
    refine hJ _ _ _ _ _ ⟨fun h => absurd h (by decide), fun _ => ⟨fun _ => ⟨fun _ => ⟨⟨0, a b, a (b + 2), rfl, ?_, rfl⟩, fun h => ?_, fun _ => up_0 _ _ _⟩, fun h => absurd (by decide) h⟩, fun h => absurd (by decide) h⟩⟩
    · funext j
      unfold va_up
      by_cases h1 : j = b + 2
      · simp [h1]
      · by_cases h2 : j = b
        · simp [h2]
        · simp [h1, h2]
    · rw [tn_nI (by decide)] at h; omega
  -- the state on the way: m primes found, the open part q
  have key : ∀ (d k q n' m : Nat) (P T : Nat → Nat) (x y : Nat → Int32), k + d = 1000 → 2 ≤ k → 1 ≤ q → n = n' * q → FacF n' P T m → (∀ i, i < m → P i < k) → (∀ p, 2 ≤ p → p < k → ¬ p ∣ q) → (∀ i, i < m → x i = nI (P i) ∧ y i = nI (T i)) → J (nI q) (nI k) (va_up g b (nI m)) (va_up (va_up a b x) (b + 2) y) w := by
    intro d
    -- what stands when the walk is through
    have done : ∀ (n' m : Nat) (P T : Nat → Nat) (x y : Nat → Int32), n = n' → FacF n' P T m → (∀ i, i < m → x i = nI (P i) ∧ y i = nI (T i)) → post_X0_split b g a w (nI n) (va_up g b (nI m)) (va_up (va_up a b x) (b + 2) y) w := by
      intro n' m P T x y e hf hxy
      subst e
      have hm7 := fac_few hf (by omega)
      refine ⟨⟨_, x, y, rfl, rfl, rfl⟩, fun _ => ?_, fun h => absurd h (by rw [tn_nI hn]; exact hz)⟩
      have eb : (va_up (va_up a b x) (b + 2) y) b = x := by rw [up_n _ _ (by omega), up_0]
      have eb2 : (va_up (va_up a b x) (b + 2) y) (b + 2) = y := up_0 _ _ _
      have pb : ∀ i, i < m → P i < 2 ^ 31 ∧ T i < 2 ^ 31 := fun i hi => by
        have := fac_at hf hi
        omega
      rw [tn_nI hn]
      refine ⟨?_, hnb, ?_, ?_⟩
      · rw [up_0, tn_nI (by omega)]
        refine hf.cong (fun i hi => ?_) (fun i hi => ?_)
        · show tn ((va_up (va_up a b x) (b + 2) y) b i) = P i
          rw [eb, (hxy i hi).1, tn_nI (pb i hi).1]
        · show tn ((va_up (va_up a b x) (b + 2) y) (b + 2) i) = T i
          rw [eb2, (hxy i hi).2, tn_nI (pb i hi).2]
      · rw [up_0, tn_nI (by omega)]
      · rw [up_0, tn_nI (by omega), eb, eb2]
        intro i hi
        rw [(hxy i hi).1, (hxy i hi).2, tn_nI (pb i hi).1, tn_nI (pb i hi).2]
        exact ⟨rfl, rfl⟩
    -- a prime p comes behind the others
    have step : ∀ (k q n' m p t q' : Nat) (P T : Nat → Nat) (x y : Nat → Int32), n = n' * q → FacF n' P T m → (∀ i, i < m → P i < p) → Pr p → q = p ^ t * q' → 1 ≤ t → (∀ i, i < m → x i = nI (P i) ∧ y i = nI (T i)) → n = (n' * p ^ t) * q' ∧ FacF (n' * p ^ t) (fun i => if i = m then p else P i) (fun i => if i = m then t else T i) (m + 1) ∧ (∀ i, i < m + 1 → upd x m (nI p) i = nI (if i = m then p else P i) ∧ upd y m (nI t) i = nI (if i = m then t else T i)) := by
      intro k q n' m p t q' P T x y e hf hlt hp hq ht hxy
      refine ⟨by rw [e, hq, Nat.mul_assoc], fac_more hf hp ht hlt, fun i hi => ?_⟩
      by_cases e : i = m
      · subst e
        rw [pk_us, pk_us, if_pos rfl, if_pos rfl]; exact ⟨rfl, rfl⟩
      · rw [pk_un e, pk_un e, if_neg e, if_neg e]; exact hxy i (by omega)
    -- the end: no divisor of q below k, k * k above q
    have fin : ∀ (k q n' m : Nat) (P T : Nat → Nat) (x y : Nat → Int32), q < k * k → 2 ≤ k → 1 ≤ q → n = n' * q → FacF n' P T m → (∀ i, i < m → P i < k) → (∀ p, 2 ≤ p → p < k → ¬ p ∣ q) → (∀ i, i < m → x i = nI (P i) ∧ y i = nI (T i)) → ((nI q ≤ (1 : Int32) → post_X0_split b g a w (nI n) (va_up g b (nI m)) (va_up (va_up a b x) (b + 2) y) w) ∧ (¬ nI q ≤ (1 : Int32) → pre_X0_takeOut b (va_up g b (nI m)) (va_up (va_up a b x) (b + 2) y) w (nI q) (nI q) ∧ (∀ (r50 : Int32) (g50 : Gs) (a50 : As) (w50 : Ws), post_X0_takeOut b (va_up g b (nI m)) (va_up (va_up a b x) (b + 2) y) w (nI q) (nI q) r50 g50 a50 w50 → post_X0_split b g a w (nI n) g50 a50 w50))) := by
      intro k q n' m P T x y hkk hk hq he hf hPk hnd hxy
      have hqn : q ≤ n := by
        have : 1 * q ≤ n' * q := Nat.mul_le_mul_right q (fac_n1 hf)
        omega
      have hn'n : n' ≤ n := by
        have : n' * 1 ≤ n' * q := Nat.mul_le_mul_left n' hq
        omega
      have hm7 := fac_few hf (by omega)
      refine pk_le q 1 (fun h => done n' m P T x y (by rw [he, (show q = 1 by omega), Nat.mul_one]) hf hxy) (fun h => ⟨⟨by rw [nI_toInt (by omega)]; omega, by rw [nI_toInt (by omega)]; omega, m, by omega, up_0 _ _ _⟩, ?_⟩)
      rintro r50 g50 a50 w50 ⟨t, q', e1, e2, e3, rfl, rfl, rfl, rfl⟩
      rw [tn_nI (by omega)] at e1 e2
      have hpq : Pr q := pr_trial (by omega) (fun p h2 h3 => hnd p h2 (by
        apply Classical.byContradiction
        intro hc
        have : k * k ≤ p * p := Nat.mul_le_mul (by omega) (by omega)
        omega))
      have ht1 : 1 ≤ t := by
        apply Classical.byContradiction
        intro hc
        have : t = 0 := by omega
        subst this
        rw [Nat.pow_zero, Nat.one_mul] at e1
        exact e2 (by rw [← e1]; exact Nat.dvd_refl q)
      have hPq : ∀ i, i < m → P i < q := fun i hi => by
        have h5 := hPk i hi
        have h6 : k ≤ q := Nat.not_lt.mp (fun h7 => hnd q (by omega) h7 (Nat.dvd_refl q))
        omega
      have hq' : q' = 1 := by
        have h5 := pow_ge1 (p := q) (by omega) ht1
        have h7 : q' ≠ 0 := fun h8 => by rw [h8, Nat.mul_zero] at e1; omega
        have h6 : q * q' ≤ q ^ t * q' := Nat.mul_le_mul_right q' h5
        apply Classical.byContradiction
        intro hc
        have h8 : q * 2 ≤ q * q' := Nat.mul_le_mul_left q (by omega)
        omega
      obtain ⟨s1, s2, s3⟩ := step k q n' m q t q' P T x y he hf hPq hpq e1 ht1 hxy
      have hrow : (va_up (va_up a b x) (b + 2) y) b = x := by rw [up_n _ _ (by omega), up_0]
      have hrow2 : (va_up (va_up a b x) (b + 2) y) (b + 2) = y := up_0 _ _ _
      rw [hrow, hrow2, up_row, up_0, up_up, tn_nI (by omega), nI_1]
      exact done (n' * q ^ t) (m + 1) _ _ _ _ (by rw [s1, hq', Nat.mul_one]) s2 s3
    induction d with
    | zero =>
      intro k q n' m P T x y hkd hk hq he hf hPk hnd hxy
      have : k = 1000 := by omega
      subst this
      have hqn : q ≤ n := by
        have : 1 * q ≤ n' * q := Nat.mul_le_mul_right q (fac_n1 hf)
        omega
      exact hJ _ _ _ _ _ ⟨fun _ => fin 1000 q n' m P T x y (by omega) hk hq he hf hPk hnd hxy, fun h => absurd (show (1000 : Int32) ≤ nI 1000 by decide) h⟩
    | succ d ih =>
      intro k q n' m P T x y hkd hk hq he hf hPk hnd hxy
      have hqn : q ≤ n := by
        have : 1 * q ≤ n' * q := Nat.mul_le_mul_right q (fac_n1 hf)
        omega
      have hn'n : n' ≤ n := by
        have : n' * 1 ≤ n' * q := Nat.mul_le_mul_left n' hq
        omega
      have hm7 := fac_few hf (by omega)
      have hkk : k * k ≤ 1000 * 1000 := Nat.mul_le_mul (by omega) (by omega)
      refine hJ _ _ _ _ _ (pk_le 1000 k (fun h => absurd h (by omega)) (fun _ => ?_))
      rw [pk_mul, pk_rem (by omega) (by omega) (by omega), nI_1]
      refine pk_lt q (k * k) (fun h => fin k q n' m P T x y h hk hq he hf hPk hnd hxy) (fun h => ⟨nI_nz (by omega) (by omega), ?_⟩)
      have hl := Nat.mod_lt q (show 0 < k by omega)
      refine pk_eq (q % k) 0 (fun h5 => ⟨⟨by rw [nI_toInt (by omega)]; omega, by rw [nI_toInt (by omega)]; omega, m, by omega, up_0 _ _ _⟩, ?_⟩) (fun h5 => ?_)
      · rintro r50 g50 a50 w50 ⟨t, q', e1, e2, e3, rfl, rfl, rfl, rfl⟩
        rw [tn_nI (by omega)] at e1 e2
        rw [tn_nI (by omega)] at e1
        have hkp : Pr k := by
          refine pr_trial hk (fun p h2 h3 hd => hnd p h2 ?_ (Nat.dvd_trans hd (Nat.dvd_of_mod_eq_zero h5)))
          have : p * 2 ≤ p * p := Nat.mul_le_mul_left p h2
          omega
        have ht1 : 1 ≤ t := by
          apply Classical.byContradiction
          intro hc
          have : t = 0 := by omega
          subst this
          rw [Nat.pow_zero, Nat.one_mul] at e1
          exact e2 (by rw [← e1]; exact Nat.dvd_of_mod_eq_zero h5)
        obtain ⟨s1, s2, s3⟩ := step k q n' m k t q' P T x y he hf hPk hkp e1 ht1 hxy
        have hrow : (va_up (va_up a b x) (b + 2) y) b = x := by rw [up_n _ _ (by omega), up_0]
        have hrow2 : (va_up (va_up a b x) (b + 2) y) (b + 2) = y := up_0 _ _ _
        rw [hrow, hrow2, up_row, up_0, up_up, tn_nI (by omega), nI_1]
        have hq'1 : 1 ≤ q' := Nat.pos_of_ne_zero (fun h8 => by rw [h8, Nat.mul_zero] at e1; omega)
        refine ih (k + 1) q' (n' * k ^ t) (m + 1) _ _ _ _ (by omega) (by omega) hq'1 s1 s2 (fun i hi => ?_) (fun p h2 h3 hd => ?_) s3
        · by_cases e : i = m
          · rw [if_pos e]; omega
          · rw [if_neg e]; have := hPk i (by omega); omega
        · by_cases e : p = k
          · subst e; exact e2 hd
          · exact hnd p h2 (by omega) (by rw [e1]; exact Nat.dvd_trans hd (Nat.dvd_mul_left _ _))
      · refine ih (k + 1) q n' m P T x y (by omega) (by omega) hq he hf (fun i hi => by have := hPk i hi; omega) (fun p h2 h3 hd => ?_) hxy
        by_cases e : p = k
        · subst e; exact h5 (Nat.mod_eq_zero_of_dvd hd)
        · exact hnd p h2 (by omega) hd
  have st := key 998 2 n 1 0 (fun _ => 0) (fun _ => 0) (a b) (a (b + 2)) rfl (by omega) (by omega) (by rw [Nat.one_mul]) (fac_none _ _) (fun i h => by omega) (fun p h2 h3 => by omega) (fun i h => by omega)
  have ea : va_up (va_up a b (a b)) (b + 2) (a (b + 2)) = a := by
    funext j
    unfold va_up
    by_cases h1 : j = b + 2
    · simp [h1]
    · by_cases h2 : j = b
      · simp [h2]
      · simp [h1, h2]
  rw [ea] at st
  exact st
