/-! the reference's orders -/
/-- only the rows for work may change -/
def KS (g : Gs) (a : As) (g' : Gs) (a' : As) : Prop := g' = g ∧ ∀ j, j < 9 → a' j = a j
theorem KS.rf {g : Gs} {a : As} : KS g a g a := ⟨rfl, fun _ _ => rfl⟩
theorem KS.up {g : Gs} {a : As} {j : Nat} (h : 9 ≤ j) (f : Nat → Int32) : KS g a g (va_up a j f) := ⟨rfl, fun i hi => up_n a f (by omega)⟩
theorem ord_powd {n g m j : Nat} (h : IsOrd n g m) : IsOrd n (g ^ j % n) (m / Nat.gcd m j) := by
  have hm := h.1
  have hd : 0 < Nat.gcd m j := Nat.gcd_pos_of_pos_left j hm
  have hq : 0 < m / Nat.gcd m j := Nat.div_pos (Nat.le_of_dvd hm (Nat.gcd_dvd_left m j)) hd
  refine ord_of (fun k => ?_) hq
  rw [pow_pow_mod, ord_iff h]
  have hc : Nat.Coprime (m / Nat.gcd m j) (j / Nat.gcd m j) := Nat.coprime_div_gcd_div_gcd hd
  have e1 : Nat.gcd m j * (m / Nat.gcd m j) = m := Nat.mul_div_cancel' (Nat.gcd_dvd_left m j)
  have e2 : Nat.gcd m j * (j / Nat.gcd m j) = j := Nat.mul_div_cancel' (Nat.gcd_dvd_right m j)
  constructor
  · intro hk
    have h3 : Nat.gcd m j * (m / Nat.gcd m j) ∣ Nat.gcd m j * (j / Nat.gcd m j * k) := by
      rw [e1, ← Nat.mul_assoc, e2]; exact hk
    exact hc.dvd_of_dvd_mul_left (Nat.dvd_of_mul_dvd_mul_left hd h3)
  · intro hk
    have h3 : Nat.gcd m j * (m / Nat.gcd m j) ∣ Nat.gcd m j * (j / Nat.gcd m j * k) := Nat.mul_dvd_mul_left _ (Nat.dvd_trans hk (Nat.dvd_mul_left k _))
    rw [e1, ← Nat.mul_assoc, e2] at h3
    exact h3
def pre_X7_walks (g : Gs) (a : As) (p0 : Int32) : Prop := Dv p0
/-- the rows of orders -/
def OrdRow (n : Nat) (f : Nat → Int32) : Prop := ∀ x, x < n → ∃ v, v ≤ n ∧ f x = nI v ∧ ((v = 0 ∧ ¬ Nat.gcd n x = 1) ∨ IsOrd n x v)
def post_X7_walks (g : Gs) (a : As) (p0 r : Int32) (g' : Gs) (a' : As) : Prop := r = nI (U (tn p0)) ∧ g' = g ∧ ∃ f, a' = va_up a 9 f ∧ OrdRow (tn p0) f
set_option maxHeartbeats 4000000 in
set_option maxRecDepth 100000 in
theorem met_X7_walks (l : Launch) (D : va_G) (cy : Nat → ClassId) (ad : Nat → Nat) (sz : Nat) (g : Gs) (a : As) (p0 : Int32) (post : Int32 → Gs → As → Prop)
  (hV : ∀ (J2 : Int32 → Gs → As → Prop) (J24 : Int32 → Int32 → Gs → As → Prop) (J65 : Int32 → Int32 → Int32 → Int64 → Int32 → Gs → As → Prop),
    (∀ (x2 : Int32) (g_ : Gs) (a_ : As), ((p0 ≤ x2 → J24 (0 : Int32) (0 : Int32) g_ a_) ∧ (¬ p0 ≤ x2 → vp_in x2 50002 ∧ (J2 (x2 + 1) g_ (va_up a_ 9 (upd (a_ 9) x2.toNatClampNeg (0 : Int32)))))) → J2 x2 g_ a_) →
    (∀ (x2 : Int32) (x3 : Int32) (g_ : Gs) (a_ : As), ((p0 ≤ x3 → post x2 g_ a_) ∧ (¬ p0 ≤ x3 → pre_X7_isUnit p0 x3 ∧ (∀ r31 : Int32, post_X7_isUnit p0 x3 r31 → ((r31 = 0 → J24 x2 (x3 + 1) g_ a_) ∧ (¬ r31 = 0 → vp_in x3 50002 ∧ (((((a_ 9) x3.toNatClampNeg) = 0 → pre_X7_orderOf p0 x3 ∧ (∀ r54 : Int32, post_X7_orderOf p0 x3 r54 → J65 (x2 + 1) x3 r54 (1 : Int64) (1 : Int32) g_ a_)) ∧ (¬ ((a_ 9) x3.toNatClampNeg) = 0 → J24 (x2 + 1) (x3 + 1) g_ a_)))))))) → J24 x2 x3 g_ a_) →
    (∀ (x2 : Int32) (x3 : Int32) (x4 : Int32) (x5 : Int64) (x7 : Int32) (g_ : Gs) (a_ : As), ((x4 < x7 → J24 x2 (x3 + 1) g_ a_) ∧ (¬ x4 < x7 → ¬ p0.toInt64 = 0 ∧ (pre_X7_common x4 x7 ∧ (∀ r95 : Int32, post_X7_common x4 x7 r95 → ¬ r95 = 0 ∧ (vp_in (((x5 * x3.toInt64) - (x5 * x3.toInt64) / p0.toInt64 * p0.toInt64).toInt32) 50002 ∧ (J65 x2 x3 x4 ((x5 * x3.toInt64) - (x5 * x3.toInt64) / p0.toInt64 * p0.toInt64) (x7 + 1) g_ (va_up a_ 9 (upd (a_ 9) (((x5 * x3.toInt64) - (x5 * x3.toInt64) / p0.toInt64 * p0.toInt64).toInt32).toNatClampNeg (x4 / r95))))))))) → J65 x2 x3 x4 x5 x7 g_ a_) →
    J2 (0 : Int32) g a) :
  Met l yX7_walks wsX7_walks ({ frames := 2, cells := 0, slots := 0, locals := 45 } : Room) (va_Pc [.ref (ad 0), .int p0] (ArP D cy sz (maW ad cy g a))) (va_Qi (fun (r : Int32) (u : Gs × As) => post r u.1 u.2) (fun u t => va_P D vwCl (maW ad cy u.1 u.2) t.heap) (va_A (maW ad cy g a) sz)) 0 0 (va_A (maW ad cy g a) sz) := by
  refine Met.ofW (cc := cX7_walks) (maxL := 8) (ret := (some .int)) (by decide) rfl ?_
  intro p e s m args below meth c s₁ B hml hv
  obtain ⟨rfl, hsz, hP, hK, hD0, hN⟩ := hv
  have hx := B.exec
  have hb := B.bytes
  have hr := B.returns
  have hts := atoms_spec (ws := wsX7_walks) B.pre
  have hown : s.vm.findClass RX7 = some m.cls := findClass_of_methodNamed B.named
  have hlocks := B.notSynchronized
  subst hsz
  have hD := hD0.self (sz := s.heap.size)
  have hP : va_P D vwCl (maW ad cy g a) s.heap := hP
  have hD : va_D (va_A (maW ad cy g a) s.heap.size) (maW ad cy g a) := hD
  have hS : va_S (va_A (maW ad cy g a) s.heap.size) s.heap s.heap [] := va_S.rf
  have hA : ∀ q : Nat, s.heap.size ≤ q → va_A (maW ad cy g a) s.heap.size q := fun q h => Or.inr h
  obtain ⟨J2, iJ2, oJ2⟩ : ∃ J : Int32 → Gs → As → Prop, (∀ (x2 : Int32) (g_ : Gs) (a_ : As), (∀ (H : Heap) (locs : List Loc), va_P D vwCl (maW ad cy g_ a_) H → va_S (va_A (maW ad cy g a) s.heap.size) s.heap H locs → ∀ ls : Array Slot, lv_has ls 8 [(0, .ref (ad 0)), (1, .int p0), (2, .int x2)] → W p l e (headSpec wsX7_walks ({ frames := 2, cells := 0, slots := 0, locals := 45 } : Room)).room s m [.ref (ad 0), .int p0].toArray below meth c H locs 0 0 (MQ below (va_Qi (fun (r : Int32) (u : Gs × As) => post r u.1 u.2) (fun u t => va_P D vwCl (maW ad cy u.1 u.2) t.heap) (va_A (maW ad cy g a) s.heap.size)) [.ref (ad 0), .int p0].toArray s 0 0 (va_A (maW ad cy g a) s.heap.size)) (F0 m 2 ls [])) → J x2 g_ a_) ∧ (∀ (x2 : Int32) (g_ : Gs) (a_ : As), J x2 g_ a_ → (∀ (H : Heap) (locs : List Loc), va_P D vwCl (maW ad cy g_ a_) H → va_S (va_A (maW ad cy g a) s.heap.size) s.heap H locs → ∀ ls : Array Slot, lv_has ls 8 [(0, .ref (ad 0)), (1, .int p0), (2, .int x2)] → W p l e (headSpec wsX7_walks ({ frames := 2, cells := 0, slots := 0, locals := 45 } : Room)).room s m [.ref (ad 0), .int p0].toArray below meth c H locs 0 0 (MQ below (va_Qi (fun (r : Int32) (u : Gs × As) => post r u.1 u.2) (fun u t => va_P D vwCl (maW ad cy u.1 u.2) t.heap) (va_A (maW ad cy g a) s.heap.size)) [.ref (ad 0), .int p0].toArray s 0 0 (va_A (maW ad cy g a) s.heap.size)) (F0 m 2 ls []))) := ⟨fun (x2 : Int32) (g_ : Gs) (a_ : As) => (∀ (H : Heap) (locs : List Loc), va_P D vwCl (maW ad cy g_ a_) H → va_S (va_A (maW ad cy g a) s.heap.size) s.heap H locs → ∀ ls : Array Slot, lv_has ls 8 [(0, .ref (ad 0)), (1, .int p0), (2, .int x2)] → W p l e (headSpec wsX7_walks ({ frames := 2, cells := 0, slots := 0, locals := 45 } : Room)).room s m [.ref (ad 0), .int p0].toArray below meth c H locs 0 0 (MQ below (va_Qi (fun (r : Int32) (u : Gs × As) => post r u.1 u.2) (fun u t => va_P D vwCl (maW ad cy u.1 u.2) t.heap) (va_A (maW ad cy g a) s.heap.size)) [.ref (ad 0), .int p0].toArray s 0 0 (va_A (maW ad cy g a) s.heap.size)) (F0 m 2 ls [])), fun _ _ _ h => h, fun _ _ _ h => h⟩
  obtain ⟨J24, iJ24, oJ24⟩ : ∃ J : Int32 → Int32 → Gs → As → Prop, (∀ (x2 : Int32) (x3 : Int32) (g_ : Gs) (a_ : As), (∀ (H : Heap) (locs : List Loc), va_P D vwCl (maW ad cy g_ a_) H → va_S (va_A (maW ad cy g a) s.heap.size) s.heap H locs → ∀ ls : Array Slot, lv_has ls 8 [(0, .ref (ad 0)), (1, .int p0), (2, .int x2), (3, .int x3)] → W p l e (headSpec wsX7_walks ({ frames := 2, cells := 0, slots := 0, locals := 45 } : Room)).room s m [.ref (ad 0), .int p0].toArray below meth c H locs 0 0 (MQ below (va_Qi (fun (r : Int32) (u : Gs × As) => post r u.1 u.2) (fun u t => va_P D vwCl (maW ad cy u.1 u.2) t.heap) (va_A (maW ad cy g a) s.heap.size)) [.ref (ad 0), .int p0].toArray s 0 0 (va_A (maW ad cy g a) s.heap.size)) (F0 m 24 ls [])) → J x2 x3 g_ a_) ∧ (∀ (x2 : Int32) (x3 : Int32) (g_ : Gs) (a_ : As), J x2 x3 g_ a_ → (∀ (H : Heap) (locs : List Loc), va_P D vwCl (maW ad cy g_ a_) H → va_S (va_A (maW ad cy g a) s.heap.size) s.heap H locs → ∀ ls : Array Slot, lv_has ls 8 [(0, .ref (ad 0)), (1, .int p0), (2, .int x2), (3, .int x3)] → W p l e (headSpec wsX7_walks ({ frames := 2, cells := 0, slots := 0, locals := 45 } : Room)).room s m [.ref (ad 0), .int p0].toArray below meth c H locs 0 0 (MQ below (va_Qi (fun (r : Int32) (u : Gs × As) => post r u.1 u.2) (fun u t => va_P D vwCl (maW ad cy u.1 u.2) t.heap) (va_A (maW ad cy g a) s.heap.size)) [.ref (ad 0), .int p0].toArray s 0 0 (va_A (maW ad cy g a) s.heap.size)) (F0 m 24 ls []))) := ⟨fun (x2 : Int32) (x3 : Int32) (g_ : Gs) (a_ : As) => (∀ (H : Heap) (locs : List Loc), va_P D vwCl (maW ad cy g_ a_) H → va_S (va_A (maW ad cy g a) s.heap.size) s.heap H locs → ∀ ls : Array Slot, lv_has ls 8 [(0, .ref (ad 0)), (1, .int p0), (2, .int x2), (3, .int x3)] → W p l e (headSpec wsX7_walks ({ frames := 2, cells := 0, slots := 0, locals := 45 } : Room)).room s m [.ref (ad 0), .int p0].toArray below meth c H locs 0 0 (MQ below (va_Qi (fun (r : Int32) (u : Gs × As) => post r u.1 u.2) (fun u t => va_P D vwCl (maW ad cy u.1 u.2) t.heap) (va_A (maW ad cy g a) s.heap.size)) [.ref (ad 0), .int p0].toArray s 0 0 (va_A (maW ad cy g a) s.heap.size)) (F0 m 24 ls [])), fun _ _ _ _ h => h, fun _ _ _ _ h => h⟩
  obtain ⟨J65, iJ65, oJ65⟩ : ∃ J : Int32 → Int32 → Int32 → Int64 → Int32 → Gs → As → Prop, (∀ (x2 : Int32) (x3 : Int32) (x4 : Int32) (x5 : Int64) (x7 : Int32) (g_ : Gs) (a_ : As), (∀ (H : Heap) (locs : List Loc), va_P D vwCl (maW ad cy g_ a_) H → va_S (va_A (maW ad cy g a) s.heap.size) s.heap H locs → ∀ ls : Array Slot, lv_has ls 8 [(0, .ref (ad 0)), (1, .int p0), (2, .int x2), (3, .int x3), (4, .int x4), (5, .long x5), (7, .int x7)] → W p l e (headSpec wsX7_walks ({ frames := 2, cells := 0, slots := 0, locals := 45 } : Room)).room s m [.ref (ad 0), .int p0].toArray below meth c H locs 0 0 (MQ below (va_Qi (fun (r : Int32) (u : Gs × As) => post r u.1 u.2) (fun u t => va_P D vwCl (maW ad cy u.1 u.2) t.heap) (va_A (maW ad cy g a) s.heap.size)) [.ref (ad 0), .int p0].toArray s 0 0 (va_A (maW ad cy g a) s.heap.size)) (F0 m 65 ls [])) → J x2 x3 x4 x5 x7 g_ a_) ∧ (∀ (x2 : Int32) (x3 : Int32) (x4 : Int32) (x5 : Int64) (x7 : Int32) (g_ : Gs) (a_ : As), J x2 x3 x4 x5 x7 g_ a_ → (∀ (H : Heap) (locs : List Loc), va_P D vwCl (maW ad cy g_ a_) H → va_S (va_A (maW ad cy g a) s.heap.size) s.heap H locs → ∀ ls : Array Slot, lv_has ls 8 [(0, .ref (ad 0)), (1, .int p0), (2, .int x2), (3, .int x3), (4, .int x4), (5, .long x5), (7, .int x7)] → W p l e (headSpec wsX7_walks ({ frames := 2, cells := 0, slots := 0, locals := 45 } : Room)).room s m [.ref (ad 0), .int p0].toArray below meth c H locs 0 0 (MQ below (va_Qi (fun (r : Int32) (u : Gs × As) => post r u.1 u.2) (fun u t => va_P D vwCl (maW ad cy u.1 u.2) t.heap) (va_A (maW ad cy g a) s.heap.size)) [.ref (ad 0), .int p0].toArray s 0 0 (va_A (maW ad cy g a) s.heap.size)) (F0 m 65 ls []))) := ⟨fun (x2 : Int32) (x3 : Int32) (x4 : Int32) (x5 : Int64) (x7 : Int32) (g_ : Gs) (a_ : As) => (∀ (H : Heap) (locs : List Loc), va_P D vwCl (maW ad cy g_ a_) H → va_S (va_A (maW ad cy g a) s.heap.size) s.heap H locs → ∀ ls : Array Slot, lv_has ls 8 [(0, .ref (ad 0)), (1, .int p0), (2, .int x2), (3, .int x3), (4, .int x4), (5, .long x5), (7, .int x7)] → W p l e (headSpec wsX7_walks ({ frames := 2, cells := 0, slots := 0, locals := 45 } : Room)).room s m [.ref (ad 0), .int p0].toArray below meth c H locs 0 0 (MQ below (va_Qi (fun (r : Int32) (u : Gs × As) => post r u.1 u.2) (fun u t => va_P D vwCl (maW ad cy u.1 u.2) t.heap) (va_A (maW ad cy g a) s.heap.size)) [.ref (ad 0), .int p0].toArray s 0 0 (va_A (maW ad cy g a) s.heap.size)) (F0 m 65 ls [])), fun _ _ _ _ _ _ _ h => h, fun _ _ _ _ _ _ _ h => h⟩
  have hV := hV J2 J24 J65
  replace hV := hV (by
    intro x2 g_ a_ hV
    refine iJ2 x2 g_ a_ ?_
    intro H locs hP hS ls hl
    refine lv_iload_n hx hb dX7_walks_2 rfl (lv_at hl 2 rfl) ?_
    refine lv_iload_n hx hb dX7_walks_3 rfl (lv_at hl 1 rfl) ?_
    refine lv_icmp_ge (tgt := 20) hx hb dX7_walks_4 (by decide) (fun c_4 => ?_) (fun c_4 => ?_)
    · have hV := hV.1 c_4
      refine lv_iconst (v := (0 : Int32)) hx hb dX7_walks_20 (by decide) ?_
      refine lv_istore_n (lv' := [(2, .int (0 : Int32)), (0, .ref (ad 0)), (1, .int p0)]) hx hb dX7_walks_21 rfl hl (by decide) rfl (fun ls hl => ?_)
      refine lv_iconst (v := (0 : Int32)) hx hb dX7_walks_22 (by decide) ?_
      refine lv_istore_n (lv' := [(3, .int (0 : Int32)), (2, .int (0 : Int32)), (0, .ref (ad 0)), (1, .int p0)]) hx hb dX7_walks_23 rfl hl (by decide) rfl (fun ls hl => ?_)
      exact oJ24 _ _ _ _ hV _ _ hP hS _ (lv_sub hl [2, 3, 1, 0] rfl)
    · have hV := hV.2 c_4
      refine lv_aload_n hx hb dX7_walks_7 rfl (lv_at hl 0 rfl) ?_
      refine va_get (D := D) (ci := 6) (v := .ref (ad 10)) (C := RX7) (T := TX7) (N := 18) hx hb hts (by decide +kernel) hown hK hP 0 rfl rfl 14 (by decide) (hts (.fieldLink RX7 43 "PowerRestsModel" "ords" "[I") (by decide +kernel)) (fun _ h9 => h9) rfl dX7_walks_8 ?_
      refine lv_iload_n hx hb dX7_walks_11 rfl (lv_at hl 2 rfl) ?_
      refine lv_iconst (v := (0 : Int32)) hx hb dX7_walks_12 (by decide) ?_
      obtain ⟨h_13, hV⟩ := hV
      refine va_iast (f := (a_ 9)) hx hb hK hP (maD hD) hS 10 0 rfl rfl h_13 dX7_walks_13 (fun H locs hP _ hS => ?_)
      have hP : va_P D vwCl (maW ad cy g_ (va_up a_ 9 (upd (a_ 9) x2.toNatClampNeg (0 : Int32)))) H := hP
      refine lv_iinc (v := x2 + 1) (lv' := [(2, .int (x2 + 1)), (0, .ref (ad 0)), (1, .int p0)]) hx hb dX7_walks_14 hl (k := 2) rfl rfl (by decide) rfl (fun ls hl => ?_)
      refine lv_goto (tgt := 2) hx hb dX7_walks_17 (by decide) ?_
      exact oJ2 _ _ _ hV _ _ hP hS _ (lv_sub hl [1, 2, 0] rfl))
  replace hV := hV (by
    intro x2 x3 g_ a_ hV
    refine iJ24 x2 x3 g_ a_ ?_
    intro H locs hP hS ls hl
    refine lv_iload_n hx hb dX7_walks_24 rfl (lv_at hl 3 rfl) ?_
    refine lv_iload_n hx hb dX7_walks_25 rfl (lv_at hl 1 rfl) ?_
    refine lv_icmp_ge (tgt := 112) hx hb dX7_walks_26 (by decide) (fun c_26 => ?_) (fun c_26 => ?_)
    · have hV := hV.1 c_26
      refine lv_iload_n hx hb dX7_walks_112 rfl (lv_at hl 2 rfl) ?_
      exact W.iret (v := x2) hx hb hr (fun t ht hW => ⟨⟨_, (g_, a_), rfl, hV, ar_heap ht hP⟩, hS.F ht⟩) hS.2.2 dX7_walks_113
    · have hV := hV.2 c_26
      refine lv_iload_n hx hb dX7_walks_29 rfl (lv_at hl 1 rfl) ?_
      refine lv_iload_n hx hb dX7_walks_30 rfl (lv_at hl 3 rfl) ?_
      obtain ⟨h_31, hV⟩ := hV
      refine cp_i (va_runS (As := [.int p0, .int x3]) (rest := []) ⟨hx, hb, hml, hown, hts⟩ (spec_X7_isUnit l p0 x3 h_31) (va_cwS 2 hts gX7_walks_X7_isUnit rfl rfl rfl (by decide +kernel) ⟨Nat.le_of_ble_eq_true rfl, Nat.le_of_ble_eq_true rfl⟩) cp_pre rfl rfl hl.1 rfl (lv_room (Nat.le_of_ble_eq_true rfl)) dX7_walks_31 ⟨Nat.zero_le _, Nat.zero_le _⟩) (fun r31 q_31 => ?_)
      have hV := hV r31 q_31
      refine lv_if_ne (tgt := 40) hx hb dX7_walks_34 (by decide) (fun c_34 => ?_) (fun c_34 => ?_)
      · have hV := hV.2 c_34
        refine lv_iinc (v := x2 + 1) (lv' := [(2, .int (x2 + 1)), (0, .ref (ad 0)), (1, .int p0), (3, .int x3)]) hx hb dX7_walks_40 hl (k := 2) rfl rfl (by decide) rfl (fun ls hl => ?_)
        refine lv_aload_n hx hb dX7_walks_43 rfl (lv_at hl 1 rfl) ?_
        refine va_get (D := D) (ci := 6) (v := .ref (ad 10)) (C := RX7) (T := TX7) (N := 18) hx hb hts (by decide +kernel) hown hK hP 0 rfl rfl 14 (by decide) (hts (.fieldLink RX7 43 "PowerRestsModel" "ords" "[I") (by decide +kernel)) (fun _ h9 => h9) rfl dX7_walks_44 ?_
        refine lv_iload_n hx hb dX7_walks_47 rfl (lv_at hl 3 rfl) ?_
        obtain ⟨h_48, hV⟩ := hV
        refine va_iald (f := (a_ 9)) hx hb hK hP 10 0 rfl rfl h_48 dX7_walks_48 ?_
        refine lv_if_ne (tgt := 106) hx hb dX7_walks_49 (by decide) (fun c_49 => ?_) (fun c_49 => ?_)
        · have hV := hV.2 c_49
          refine lv_iinc (v := x3 + 1) (lv' := [(3, .int (x3 + 1)), (2, .int (x2 + 1)), (0, .ref (ad 0)), (1, .int p0)]) hx hb dX7_walks_106 hl (k := 3) rfl rfl (by decide) rfl (fun ls hl => ?_)
          refine lv_goto (tgt := 24) hx hb dX7_walks_109 (by decide) ?_
          exact oJ24 _ _ _ _ hV _ _ hP hS _ (lv_sub hl [2, 3, 1, 0] rfl)
        · have hV := hV.1 c_49
          refine lv_iload_n hx hb dX7_walks_52 rfl (lv_at hl 2 rfl) ?_
          refine lv_iload_n hx hb dX7_walks_53 rfl (lv_at hl 3 rfl) ?_
          obtain ⟨h_54, hV⟩ := hV
          refine cp_i (va_runS (As := [.int p0, .int x3]) (rest := []) ⟨hx, hb, hml, hown, hts⟩ (spec_X7_orderOf l p0 x3 h_54) (va_cwS 2 hts gX7_walks_X7_orderOf rfl rfl rfl (by decide +kernel) ⟨Nat.le_of_ble_eq_true rfl, Nat.le_of_ble_eq_true rfl⟩) cp_pre rfl rfl hl.1 rfl (lv_room (Nat.le_of_ble_eq_true rfl)) dX7_walks_54 ⟨Nat.zero_le _, Nat.zero_le _⟩) (fun r54 q_54 => ?_)
          have hV := hV r54 q_54
          refine lv_istore (lv' := [(4, .int r54), (2, .int (x2 + 1)), (0, .ref (ad 0)), (1, .int p0), (3, .int x3)]) hx hb dX7_walks_57 hl (by decide) rfl (fun ls hl => ?_)
          refine lv_lconst (v := (1 : Int64)) hx hb dX7_walks_59 (by decide) ?_
          refine lv_lstore (lv' := [(5, .long (1 : Int64)), (4, .int r54), (2, .int (x2 + 1)), (0, .ref (ad 0)), (1, .int p0), (3, .int x3)]) hx hb dX7_walks_60 hl (by decide) rfl (fun ls hl => ?_)
          refine lv_iconst (v := (1 : Int32)) hx hb dX7_walks_62 (by decide) ?_
          refine lv_istore (lv' := [(7, .int (1 : Int32)), (5, .long (1 : Int64)), (4, .int r54), (2, .int (x2 + 1)), (0, .ref (ad 0)), (1, .int p0), (3, .int x3)]) hx hb dX7_walks_63 hl (by decide) rfl (fun ls hl => ?_)
          exact oJ65 _ _ _ _ _ _ _ hV _ _ hP hS _ (lv_sub hl [4, 5, 3, 6, 2, 1, 0] rfl)
      · have hV := hV.1 c_34
        refine lv_goto (tgt := 106) hx hb dX7_walks_37 (by decide) ?_
        refine lv_iinc (v := x3 + 1) (lv' := [(3, .int (x3 + 1)), (0, .ref (ad 0)), (1, .int p0), (2, .int x2)]) hx hb dX7_walks_106 hl (k := 3) rfl rfl (by decide) rfl (fun ls hl => ?_)
        refine lv_goto (tgt := 24) hx hb dX7_walks_109 (by decide) ?_
        exact oJ24 _ _ _ _ hV _ _ hP hS _ (lv_sub hl [1, 2, 3, 0] rfl))
  replace hV := hV (by
    intro x2 x3 x4 x5 x7 g_ a_ hV
    refine iJ65 x2 x3 x4 x5 x7 g_ a_ ?_
    intro H locs hP hS ls hl
    refine lv_iload hx hb dX7_walks_65 (lv_at hl 6 rfl) ?_
    refine lv_iload hx hb dX7_walks_67 (lv_at hl 4 rfl) ?_
    refine lv_icmp_gt (tgt := 106) hx hb dX7_walks_69 (by decide) (fun c_69 => ?_) (fun c_69 => ?_)
    · have hV := hV.1 c_69
      refine lv_iinc (v := x3 + 1) (lv' := [(3, .int (x3 + 1)), (0, .ref (ad 0)), (1, .int p0), (2, .int x2), (4, .int x4), (5, .long x5), (7, .int x7)]) hx hb dX7_walks_106 hl (k := 3) rfl rfl (by decide) rfl (fun ls hl => ?_)
      refine lv_goto (tgt := 24) hx hb dX7_walks_109 (by decide) ?_
      exact oJ24 _ _ _ _ hV _ _ hP hS _ (lv_sub hl [1, 2, 3, 0] rfl)
    · have hV := hV.2 c_69
      refine lv_lload hx hb dX7_walks_72 (lv_at hl 5 rfl) ?_
      refine lv_iload_n hx hb dX7_walks_74 rfl (lv_at hl 3 rfl) ?_
      refine lv_i2l (v := x3.toInt64) hx hb dX7_walks_75 rfl ?_
      refine lv_lmul hx hb dX7_walks_76 ?_
      refine lv_iload_n hx hb dX7_walks_77 rfl (lv_at hl 1 rfl) ?_
      refine lv_i2l (v := p0.toInt64) hx hb dX7_walks_78 rfl ?_
      obtain ⟨h_79, hV⟩ := hV
      refine lv_lrem hx hb dX7_walks_79 h_79 ?_
      refine lv_lstore (lv' := [(5, .long ((x5 * x3.toInt64) - (x5 * x3.toInt64) / p0.toInt64 * p0.toInt64)), (0, .ref (ad 0)), (1, .int p0), (2, .int x2), (3, .int x3), (4, .int x4), (7, .int x7)]) hx hb dX7_walks_80 hl (by decide) rfl (fun ls hl => ?_)
      refine lv_aload_n hx hb dX7_walks_82 rfl (lv_at hl 1 rfl) ?_
      refine va_get (D := D) (ci := 6) (v := .ref (ad 10)) (C := RX7) (T := TX7) (N := 18) hx hb hts (by decide +kernel) hown hK hP 0 rfl rfl 14 (by decide) (hts (.fieldLink RX7 43 "PowerRestsModel" "ords" "[I") (by decide +kernel)) (fun _ h9 => h9) rfl dX7_walks_83 ?_
      refine lv_lload hx hb dX7_walks_86 (lv_at hl 0 rfl) ?_
      refine lv_l2i (v := ((x5 * x3.toInt64) - (x5 * x3.toInt64) / p0.toInt64 * p0.toInt64).toInt32) hx hb dX7_walks_88 rfl ?_
      refine lv_iload hx hb dX7_walks_89 (lv_at hl 5 rfl) ?_
      refine lv_iload hx hb dX7_walks_91 (lv_at hl 5 rfl) ?_
      refine lv_iload hx hb dX7_walks_93 (lv_at hl 6 rfl) ?_
      obtain ⟨h_95, hV⟩ := hV
      refine cp_i (va_runS (As := [.int x4, .int x7]) (rest := [.int x4, .int (((x5 * x3.toInt64) - (x5 * x3.toInt64) / p0.toInt64 * p0.toInt64).toInt32), .ref (ad 10)]) ⟨hx, hb, hml, hown, hts⟩ (spec_X7_common l x4 x7 h_95) (va_cwS 2 hts gX7_walks_X7_common rfl rfl rfl (by decide +kernel) ⟨Nat.le_of_ble_eq_true rfl, Nat.le_of_ble_eq_true rfl⟩) cp_pre rfl rfl hl.1 rfl (lv_room (Nat.le_of_ble_eq_true rfl)) dX7_walks_95 ⟨Nat.zero_le _, Nat.zero_le _⟩) (fun r95 q_95 => ?_)
      have hV := hV r95 q_95
      obtain ⟨h_98, hV⟩ := hV
      refine lv_idiv hx hb dX7_walks_98 h_98 ?_
      obtain ⟨h_99, hV⟩ := hV
      refine va_iast (f := (a_ 9)) hx hb hK hP (maD hD) hS 10 0 rfl rfl h_99 dX7_walks_99 (fun H locs hP _ hS => ?_)
      have hP : va_P D vwCl (maW ad cy g_ (va_up a_ 9 (upd (a_ 9) (((x5 * x3.toInt64) - (x5 * x3.toInt64) / p0.toInt64 * p0.toInt64).toInt32).toNatClampNeg (x4 / r95)))) H := hP
      refine lv_iinc (v := x7 + 1) (lv' := [(7, .int (x7 + 1)), (5, .long ((x5 * x3.toInt64) - (x5 * x3.toInt64) / p0.toInt64 * p0.toInt64)), (0, .ref (ad 0)), (1, .int p0), (2, .int x2), (3, .int x3), (4, .int x4)]) hx hb dX7_walks_100 hl (k := 6) rfl rfl (by decide) rfl (fun ls hl => ?_)
      refine lv_goto (tgt := 65) hx hb dX7_walks_103 (by decide) ?_
      exact oJ65 _ _ _ _ _ _ _ hV _ _ hP hS _ (lv_sub hl [2, 3, 4, 5, 6, 1, 0] rfl))
  have hl := lv_entry ([.ref (ad 0), .int p0]) (n := 8) (Nat.le_of_ble_eq_true rfl)
  rw [lg_entry_eq]
  generalize (lg_sl ([.ref (ad 0), .int p0]) ++ List.replicate (8 - (lg_sl ([.ref (ad 0), .int p0])).length) Slot.unset).toArray = ls at hl ⊢
  have hl : lv_has ls 8 [(0, .ref (ad 0)), (1, .int p0)] := hl
  refine lv_iconst (v := (0 : Int32)) hx hb dX7_walks_0 (by decide) ?_
  refine lv_istore_n (lv' := [(2, .int (0 : Int32)), (0, .ref (ad 0)), (1, .int p0)]) hx hb dX7_walks_1 rfl hl (by decide) rfl (fun ls hl => ?_)
  exact oJ2 _ _ _ hV _ _ hP hS _ (lv_sub hl [1, 2, 0] rfl)
set_option maxRecDepth 4000 in
theorem spec_X7_walks (l : Launch) (D : va_G) (cy : Nat → ClassId) (ad : Nat → Nat) (sz : Nat) (g : Gs) (a : As) (p0 : Int32) (hpre : pre_X7_walks g a p0) : Met l yX7_walks wsX7_walks ({ frames := 2, cells := 0, slots := 0, locals := 45 } : Room) (va_Pc [.ref (ad 0), .int p0] (ArP D cy sz (maW ad cy g a))) (va_Qi (fun (r : Int32) (u : Gs × As) => (post_X7_walks g a p0) r u.1 u.2) (fun u t => va_P D vwCl (maW ad cy u.1 u.2) t.heap) (va_A (maW ad cy g a) sz)) 0 0 (va_A (maW ad cy g a) sz) := by
  apply met_X7_walks
  intro J2 J24 J65 h2 h24 h65
  obtain ⟨d1, d2⟩ := id (show Dv p0 from hpre)
  obtain ⟨n, hn, rfl, hn2⟩ := of_i (x := p0) (by omega)
  have tnn : tn (nI n) = n := tn_nI hn
  rw [nI_l hn] at h65
  let Gd : (Nat → Int32) → Prop := fun f => ∀ y, y < n → ∃ v, v ≤ n ∧ f y = nI v ∧ (v = 0 ∨ IsOrd n y v)
  have fin : ∀ f, Gd f → (∀ y, y < n → Nat.gcd n y = 1 → ¬ f y = 0) → OrdRow n f := by
    intro f hG hD x hx
    obtain ⟨v, v1, v2, v3⟩ := hG x hx
    refine ⟨v, v1, v2, ?_⟩
    rcases v3 with v3 | v3
    · refine Or.inl ⟨v3, fun hc => hD x hx hc ?_⟩
      rw [v2, v3]; rfl
    · exact Or.inr v3
  -- the outer walk
  have outer : ∀ (d x : Nat) (f : Nat → Int32), x + d = n → Gd f → (∀ y, y < x → Nat.gcd n y = 1 → ¬ f y = 0) → J24 (nI (fb_ct (UB n) x)) (nI x) g (va_up a 9 f) := by
    intro d
    induction d with
    | zero =>
      intro x f hx hG hD
      have : x = n := by omega
      subst this
      exact h24 _ _ _ _ (pk_le x x (fun _ => ⟨by rw [tnn]; rfl, rfl, f, rfl, by rw [tnn]; exact fin f hG hD⟩) (fun h => absurd h (by omega)))
    | succ d ih =>
      intro x f hx hG hD
      have hle := fb_ct_le (UB n) x
      refine h24 _ _ _ _ (pk_le n x (fun h => absurd h (by omega)) (fun _ => ⟨⟨by omega, by rw [nI_toInt (by omega)]; omega⟩, fun r hr => ?_⟩))
      unfold post_X7_isUnit at hr
      rw [tnn, tn_nI (by omega)] at hr
      subst hr
      rw [nI_1, nI_1]
      refine ⟨fun h => ?_, fun h => ⟨pk_in x 50002 (by omega), ?_⟩⟩
      · have hc : ¬ Nat.gcd n x = 1 := zb_0 h
        have := ih (x + 1) f (by omega) hG (fun y hy hu => by
          by_cases hyx : y = x
          · subst hyx; exact absurd hu hc
          · exact hD y (by omega) hu)
        rwa [fb_ct_succ, show UB n x = false from decide_eq_false hc] at this
      · have hc : Nat.gcd n x = 1 := zb_1 h
        have ec : fb_ct (UB n) (x + 1) = fb_ct (UB n) x + 1 := by rw [fb_ct_succ, show UB n x = true from decide_eq_true hc]; rfl
        rw [← ec]
        rw [up_0, show (nI x).toNatClampNeg = x from tn_nI (by omega)]
        refine ⟨fun _ => ⟨⟨d1, by rw [nI_toInt (by omega)]; omega, by rw [nI_toInt (by omega)]; omega, by rw [tnn, tn_nI (by omega)]; exact hc⟩, fun r hr => ?_⟩, fun hz => ?_⟩
        · obtain ⟨m, ho, hm, rfl⟩ := hr
          rw [tnn, tn_nI (show x < 2 ^ 31 by omega)] at ho
          rw [tnn] at hm
          have inner : ∀ (d' e : Nat) (f' : Nat → Int32), e + d' = m + 1 → 1 ≤ e → Gd f' → (∀ y, y < x → Nat.gcd n y = 1 → ¬ f' y = 0) → (2 ≤ e → ¬ f' x = 0) → J65 (nI (fb_ct (UB n) (x + 1))) (nI x) (nI m) (lN (x ^ (e - 1) % n)) (nI e) g (va_up a 9 f') := by
            intro d'
            induction d' with
            | zero =>
              intro e f' he he1 hG' hD' hX'
              refine h65 _ _ _ _ _ _ _ (pk_lt m e (fun _ => ?_) (fun h => absurd h (by omega)))
              rw [nI_1]
              refine ih (x + 1) f' (by omega) hG' (fun y hy hu => ?_)
              by_cases hyx : y = x
              · subst hyx; exact hX' (by have := ho.1; omega)
              · exact hD' y (by omega) hu
            | succ d' ih' =>
              intro e f' he he1 hG' hD' hX'
              have hlt := Nat.mod_lt (x ^ (e - 1)) (show 0 < n by omega)
              have hm62 := mul_lt62 hn hlt (show x < n by omega)
              have gpos : 0 < Nat.gcd m e := Nat.gcd_pos_of_pos_left e ho.1
              have gle : Nat.gcd m e ≤ m := Nat.le_of_dvd ho.1 (Nat.gcd_dvd_left m e)
              refine h65 _ _ _ _ _ _ _ (pk_lt m e (fun h => absurd h (by omega)) (fun _ => ⟨lN_nz (by omega) (by omega), ⟨by rw [nI_toInt (by omega)]; omega, by rw [nI_toInt (by omega)]; omega⟩, fun r hr => ?_⟩))
              unfold post_X7_common at hr
              rw [tn_nI (by omega), tn_nI (by omega)] at hr
              subst hr
              have e1 : x ^ (e - 1) % n * x % n = x ^ e % n := by
                rw [Nat.mod_mul_mod, ← Nat.pow_succ]; congr 2; omega
              have hlt2 := Nat.mod_lt (x ^ e) (show 0 < n by omega)
              have hdv : m / Nat.gcd m e ≤ m := Nat.div_le_self _ _
              have hdp : 0 < m / Nat.gcd m e := Nat.div_pos gle gpos
              rw [nI_l (by omega), lN_mul, pk_lRem (by omega) (by omega) (by omega), e1, lN_i, pk_div (by omega) gpos (by omega), nI_1, up_0, up_up, show (nI (x ^ e % n)).toNatClampNeg = x ^ e % n from tn_nI (by omega)]
              refine ⟨nI_nz gpos (by omega), pk_in (x ^ e % n) 50002 (by omega), ?_⟩
              have hnz : ¬ nI (m / Nat.gcd m e) = 0 := nI_nz hdp (by omega)
              have := ih' (e + 1) (upd f' (x ^ e % n) (nI (m / Nat.gcd m e))) (by omega) (by omega) (fun y hy => ?_) (fun y hy hu => ?_) (fun h => ?_)
              · rwa [Nat.add_sub_cancel] at this
              · by_cases hyx : y = x ^ e % n
                · rw [hyx, pk_us]
                  exact ⟨_, by omega, rfl, Or.inr (ord_powd ho)⟩
                · rw [pk_un hyx]; exact hG' y hy
              · by_cases hyx : y = x ^ e % n
                · rw [hyx, pk_us]; exact hnz
                · rw [pk_un hyx]; exact hD' y hy hu
              · by_cases hyx : x = x ^ e % n
                · rw [← hyx, pk_us]; exact hnz
                · rw [pk_un hyx]
                  refine hX' (Nat.not_lt.mp fun q => hyx ?_)
                  rw [show e = 1 by omega, Nat.pow_one, Nat.mod_eq_of_lt (by omega)]
          have := inner m 1 f (by omega) (by omega) hG hD (fun h => by omega)
          rwa [Nat.sub_self, Nat.pow_zero, Nat.mod_eq_of_lt (by omega)] at this
        · exact ih (x + 1) f (by omega) hG (fun y hy hu => by
            by_cases hyx : y = x
            · subst hyx; exact hz
            · exact hD y (by omega) hu)
  -- the wiping
  have wipe : ∀ (d x : Nat) (f : Nat → Int32), x + d = n → (∀ y, y < x → f y = 0) → J2 (nI x) g (va_up a 9 f) := by
    intro d
    induction d with
    | zero =>
      intro x f hx hf
      refine h2 _ _ _ (pk_le n x (fun _ => ?_) (fun h => absurd h (by omega)))
      exact outer n 0 f (by omega) (fun y hy => ⟨0, by omega, hf y (by omega), Or.inl rfl⟩) (fun y hy => by omega)
    | succ d ih =>
      intro x f hx hf
      refine h2 _ _ _ (pk_le n x (fun h => absurd h (by omega)) (fun _ => ⟨pk_in x 50002 (by omega), ?_⟩))
      rw [nI_1, up_0, up_up, show (nI x).toNatClampNeg = x from tn_nI (by omega)]
      refine ih (x + 1) _ (by omega) (fun y hy => ?_)
      by_cases hyx : y = x
      · rw [hyx, pk_us]
      · rw [pk_un hyx]; exact hf y (by omega)
  have h0 := wipe n 0 (a 9) (by omega) (fun y hy => by omega)
  rwa [show va_up a 9 (a 9) = a from funext fun i => by by_cases h : i = 9 <;> simp [va_up, h]] at h0
theorem OrdersAns.one {n e what r r' : Int32} (h : OrdersAns n e what r) (h' : OrdersAns n e what r') : r = r' := by
  have z : ¬ (0 : Int32) = 1 := by decide
  rcases h with ⟨h1, h2⟩ | ⟨h1, h2⟩ <;> rcases h' with ⟨k1, k2⟩ | ⟨k1, k2⟩
  · rw [h2, k2]
  · exfalso
    rcases h1 with q | q | q | ⟨q, q'⟩
    · exact q k1
    · rcases k2 with ⟨c, -⟩ | ⟨c, -⟩ <;> rw [c] at q <;> exact absurd q (by decide)
    · rcases k2 with ⟨c, -⟩ | ⟨c, -⟩ <;> rw [c] at q <;> exact absurd q (by decide)
    · rcases k2 with ⟨c, -⟩ | ⟨c, c', -⟩
      · exact z (c.symm.trans q)
      · omega
  · exfalso
    rcases k1 with q | q | q | ⟨q, q'⟩
    · exact q h1
    · rcases h2 with ⟨c, -⟩ | ⟨c, -⟩ <;> rw [c] at q <;> exact absurd q (by decide)
    · rcases h2 with ⟨c, -⟩ | ⟨c, -⟩ <;> rw [c] at q <;> exact absurd q (by decide)
    · rcases h2 with ⟨c, -⟩ | ⟨c, c', -⟩
      · exact z (c.symm.trans q)
      · omega
  · rcases h2 with ⟨c, L, ⟨⟨x, l1⟩, l2⟩, l3⟩ | ⟨c, c', l3⟩ <;> rcases k2 with ⟨d, M, ⟨⟨y, m1⟩, m2⟩, m3⟩ | ⟨d, d', m3⟩
    · rw [l3, m3, Nat.le_antisymm (m2 x L l1) (l2 y M m1)]
    · exact absurd (c.symm.trans d) z
    · exact absurd (d.symm.trans c) z
    · rw [l3, m3]
def post_X7_orders (g : Gs) (a : As) (p0 p1 p2 r : Int32) (g' : Gs) (a' : As) : Prop := OrdersAns p0 p1 p2 r ∧ KS g a g' a'
set_option maxHeartbeats 4000000 in
set_option maxRecDepth 100000 in
theorem met_X7_orders (l : Launch) (D : va_G) (cy : Nat → ClassId) (ad : Nat → Nat) (sz : Nat) (g : Gs) (a : As) (p0 : Int32) (p1 : Int32) (p2 : Int32) (post : Int32 → Gs → As → Prop)
  (hV : ∀ (J51 : Int32 → Int32 → Int32 → Gs → As → Prop),
    (∀ (x4 : Int32) (x5 : Int32) (x6 : Int32) (g_ : Gs) (a_ : As), ((p0 ≤ x6 → ((p2 = 0 → post x4 g_ a_) ∧ (¬ p2 = 0 → post x5 g_ a_))) ∧ (¬ p0 ≤ x6 → vp_in x6 50002 ∧ (((((a_ 9) x6.toNatClampNeg) ≤ x4 → vp_in x6 50002 ∧ (((((a_ 9) x6.toNatClampNeg) = p1 → J51 x4 (x5 + (1 : Int32)) (x6 + 1) g_ a_) ∧ (¬ ((a_ 9) x6.toNatClampNeg) = p1 → J51 x4 (x5 + (0 : Int32)) (x6 + 1) g_ a_)))) ∧ (¬ ((a_ 9) x6.toNatClampNeg) ≤ x4 → vp_in x6 50002 ∧ (vp_in x6 50002 ∧ (((((a_ 9) x6.toNatClampNeg) = p1 → J51 ((a_ 9) x6.toNatClampNeg) (x5 + (1 : Int32)) (x6 + 1) g_ a_) ∧ (¬ ((a_ 9) x6.toNatClampNeg) = p1 → J51 ((a_ 9) x6.toNatClampNeg) (x5 + (0 : Int32)) (x6 + 1) g_ a_))))))))) → J51 x4 x5 x6 g_ a_) →
    ∀ r1 : Int32, post_X7_isBy p0 r1 → ((r1 = 0 → post (-1 : Int32) g a) ∧ (¬ r1 = 0 → ∀ r11 : Int32, post_X7_in p2.toInt64 (0 : Int64) (1 : Int64) r11 → ((r11 = 0 → post (-1 : Int32) g a) ∧ (¬ r11 = 0 → ((p2 = (1 : Int32) → ∀ r28 : Int32, post_X7_in p1.toInt64 (1 : Int64) (50000 : Int64) r28 → ((r28 = 0 → post (-1 : Int32) g a) ∧ (¬ r28 = 0 → pre_X7_walks g a p0 ∧ (∀ (r38 : Int32) (g38 : Gs) (a38 : As), post_X7_walks g a p0 r38 g38 a38 → J51 (0 : Int32) (0 : Int32) (0 : Int32) g38 a38)))) ∧ (¬ p2 = (1 : Int32) → pre_X7_walks g a p0 ∧ (∀ (r38 : Int32) (g38 : Gs) (a38 : As), post_X7_walks g a p0 r38 g38 a38 → J51 (0 : Int32) (0 : Int32) (0 : Int32) g38 a38)))))))) :
  Met l yX7_orders wsX7_orders ({ frames := 3, cells := 0, slots := 0, locals := 72 } : Room) (va_Pc [.ref (ad 0), .int p0, .int p1, .int p2] (ArP D cy sz (maW ad cy g a))) (va_Qi (fun (r : Int32) (u : Gs × As) => post r u.1 u.2) (fun u t => va_P D vwCl (maW ad cy u.1 u.2) t.heap) (va_A (maW ad cy g a) sz)) 0 0 (va_A (maW ad cy g a) sz) := by
  refine Met.ofW (cc := cX7_orders) (maxL := 7) (ret := (some .int)) (by decide) rfl ?_
  intro p e s m args below meth c s₁ B hml hv
  obtain ⟨rfl, hsz, hP, hK, hD0, hN⟩ := hv
  have hx := B.exec
  have hb := B.bytes
  have hr := B.returns
  have hts := atoms_spec (ws := wsX7_orders) B.pre
  have hown : s.vm.findClass RX7 = some m.cls := findClass_of_methodNamed B.named
  have hlocks := B.notSynchronized
  subst hsz
  have hD := hD0.self (sz := s.heap.size)
  have hP : va_P D vwCl (maW ad cy g a) s.heap := hP
  have hD : va_D (va_A (maW ad cy g a) s.heap.size) (maW ad cy g a) := hD
  have hS : va_S (va_A (maW ad cy g a) s.heap.size) s.heap s.heap [] := va_S.rf
  have hA : ∀ q : Nat, s.heap.size ≤ q → va_A (maW ad cy g a) s.heap.size q := fun q h => Or.inr h
  obtain ⟨J51, iJ51, oJ51⟩ : ∃ J : Int32 → Int32 → Int32 → Gs → As → Prop, (∀ (x4 : Int32) (x5 : Int32) (x6 : Int32) (g_ : Gs) (a_ : As), (∀ (H : Heap) (locs : List Loc), va_P D vwCl (maW ad cy g_ a_) H → va_S (va_A (maW ad cy g a) s.heap.size) s.heap H locs → ∀ ls : Array Slot, lv_has ls 7 [(0, .ref (ad 0)), (1, .int p0), (2, .int p1), (3, .int p2), (4, .int x4), (5, .int x5), (6, .int x6)] → W p l e (headSpec wsX7_orders ({ frames := 3, cells := 0, slots := 0, locals := 72 } : Room)).room s m [.ref (ad 0), .int p0, .int p1, .int p2].toArray below meth c H locs 0 0 (MQ below (va_Qi (fun (r : Int32) (u : Gs × As) => post r u.1 u.2) (fun u t => va_P D vwCl (maW ad cy u.1 u.2) t.heap) (va_A (maW ad cy g a) s.heap.size)) [.ref (ad 0), .int p0, .int p1, .int p2].toArray s 0 0 (va_A (maW ad cy g a) s.heap.size)) (F0 m 51 ls [])) → J x4 x5 x6 g_ a_) ∧ (∀ (x4 : Int32) (x5 : Int32) (x6 : Int32) (g_ : Gs) (a_ : As), J x4 x5 x6 g_ a_ → (∀ (H : Heap) (locs : List Loc), va_P D vwCl (maW ad cy g_ a_) H → va_S (va_A (maW ad cy g a) s.heap.size) s.heap H locs → ∀ ls : Array Slot, lv_has ls 7 [(0, .ref (ad 0)), (1, .int p0), (2, .int p1), (3, .int p2), (4, .int x4), (5, .int x5), (6, .int x6)] → W p l e (headSpec wsX7_orders ({ frames := 3, cells := 0, slots := 0, locals := 72 } : Room)).room s m [.ref (ad 0), .int p0, .int p1, .int p2].toArray below meth c H locs 0 0 (MQ below (va_Qi (fun (r : Int32) (u : Gs × As) => post r u.1 u.2) (fun u t => va_P D vwCl (maW ad cy u.1 u.2) t.heap) (va_A (maW ad cy g a) s.heap.size)) [.ref (ad 0), .int p0, .int p1, .int p2].toArray s 0 0 (va_A (maW ad cy g a) s.heap.size)) (F0 m 51 ls []))) := ⟨fun (x4 : Int32) (x5 : Int32) (x6 : Int32) (g_ : Gs) (a_ : As) => (∀ (H : Heap) (locs : List Loc), va_P D vwCl (maW ad cy g_ a_) H → va_S (va_A (maW ad cy g a) s.heap.size) s.heap H locs → ∀ ls : Array Slot, lv_has ls 7 [(0, .ref (ad 0)), (1, .int p0), (2, .int p1), (3, .int p2), (4, .int x4), (5, .int x5), (6, .int x6)] → W p l e (headSpec wsX7_orders ({ frames := 3, cells := 0, slots := 0, locals := 72 } : Room)).room s m [.ref (ad 0), .int p0, .int p1, .int p2].toArray below meth c H locs 0 0 (MQ below (va_Qi (fun (r : Int32) (u : Gs × As) => post r u.1 u.2) (fun u t => va_P D vwCl (maW ad cy u.1 u.2) t.heap) (va_A (maW ad cy g a) s.heap.size)) [.ref (ad 0), .int p0, .int p1, .int p2].toArray s 0 0 (va_A (maW ad cy g a) s.heap.size)) (F0 m 51 ls [])), fun _ _ _ _ _ h => h, fun _ _ _ _ _ h => h⟩
  have hV := hV J51
  replace hV := hV (by
    intro x4 x5 x6 g_ a_ hV
    refine iJ51 x4 x5 x6 g_ a_ ?_
    intro H locs hP hS ls hl
    refine lv_iload hx hb dX7_orders_51 (lv_at hl 6 rfl) ?_
    refine lv_iload_n hx hb dX7_orders_53 rfl (lv_at hl 1 rfl) ?_
    refine lv_icmp_ge (tgt := 110) hx hb dX7_orders_54 (by decide) (fun c_54 => ?_) (fun c_54 => ?_)
    · have hV := hV.1 c_54
      refine lv_iload_n hx hb dX7_orders_110 rfl (lv_at hl 3 rfl) ?_
      refine lv_if_ne (tgt := 119) hx hb dX7_orders_111 (by decide) (fun c_111 => ?_) (fun c_111 => ?_)
      · have hV := hV.2 c_111
        refine lv_iload hx hb dX7_orders_119 (lv_at hl 5 rfl) ?_
        exact W.iret (v := x5) hx hb hr (fun t ht hW => ⟨⟨_, (g_, a_), rfl, hV, ar_heap ht hP⟩, hS.F ht⟩) hS.2.2 dX7_orders_121
      · have hV := hV.1 c_111
        refine lv_iload hx hb dX7_orders_114 (lv_at hl 4 rfl) ?_
        refine lv_goto (tgt := 121) hx hb dX7_orders_116 (by decide) ?_
        exact W.iret (v := x4) hx hb hr (fun t ht hW => ⟨⟨_, (g_, a_), rfl, hV, ar_heap ht hP⟩, hS.F ht⟩) hS.2.2 dX7_orders_121
    · have hV := hV.2 c_54
      refine lv_aload_n hx hb dX7_orders_57 rfl (lv_at hl 0 rfl) ?_
      refine va_get (D := D) (ci := 6) (v := .ref (ad 10)) (C := RX7) (T := TX7) (N := 18) hx hb hts (by decide +kernel) hown hK hP 0 rfl rfl 14 (by decide) (hts (.fieldLink RX7 43 "PowerRestsModel" "ords" "[I") (by decide +kernel)) (fun _ h9 => h9) rfl dX7_orders_58 ?_
      refine lv_iload hx hb dX7_orders_61 (lv_at hl 6 rfl) ?_
      obtain ⟨h_63, hV⟩ := hV
      refine va_iald (f := (a_ 9)) hx hb hK hP 10 0 rfl rfl h_63 dX7_orders_63 ?_
      refine lv_iload hx hb dX7_orders_64 (lv_at hl 4 rfl) ?_
      refine lv_icmp_le (tgt := 79) hx hb dX7_orders_66 (by decide) (fun c_66 => ?_) (fun c_66 => ?_)
      · have hV := hV.1 c_66
        refine lv_iload hx hb dX7_orders_79 (lv_at hl 4 rfl) ?_
        refine lv_istore (lv' := [(4, .int x4), (0, .ref (ad 0)), (1, .int p0), (2, .int p1), (3, .int p2), (5, .int x5), (6, .int x6)]) hx hb dX7_orders_81 hl (by decide) rfl (fun ls hl => ?_)
        refine lv_iload hx hb dX7_orders_83 (lv_at hl 5 rfl) ?_
        refine lv_aload_n hx hb dX7_orders_85 rfl (lv_at hl 1 rfl) ?_
        refine va_get (D := D) (ci := 6) (v := .ref (ad 10)) (C := RX7) (T := TX7) (N := 18) hx hb hts (by decide +kernel) hown hK hP 0 rfl rfl 14 (by decide) (hts (.fieldLink RX7 43 "PowerRestsModel" "ords" "[I") (by decide +kernel)) (fun _ h9 => h9) rfl dX7_orders_86 ?_
        refine lv_iload hx hb dX7_orders_89 (lv_at hl 6 rfl) ?_
        obtain ⟨h_91, hV⟩ := hV
        refine va_iald (f := (a_ 9)) hx hb hK hP 10 0 rfl rfl h_91 dX7_orders_91 ?_
        refine lv_iload_n hx hb dX7_orders_92 rfl (lv_at hl 3 rfl) ?_
        refine lv_icmp_ne (tgt := 100) hx hb dX7_orders_93 (by decide) (fun c_93 => ?_) (fun c_93 => ?_)
        · have hV := hV.2 c_93
          refine lv_iconst (v := (0 : Int32)) hx hb dX7_orders_100 (by decide) ?_
          refine lv_iadd hx hb dX7_orders_101 ?_
          refine lv_istore (lv' := [(5, .int (x5 + (0 : Int32))), (4, .int x4), (0, .ref (ad 0)), (1, .int p0), (2, .int p1), (3, .int p2), (6, .int x6)]) hx hb dX7_orders_102 hl (by decide) rfl (fun ls hl => ?_)
          refine lv_iinc (v := x6 + 1) (lv' := [(6, .int (x6 + 1)), (5, .int (x5 + (0 : Int32))), (4, .int x4), (0, .ref (ad 0)), (1, .int p0), (2, .int p1), (3, .int p2)]) hx hb dX7_orders_104 hl (k := 6) rfl rfl (by decide) rfl (fun ls hl => ?_)
          refine lv_goto (tgt := 51) hx hb dX7_orders_107 (by decide) ?_
          exact oJ51 _ _ _ _ _ hV _ _ hP hS _ (lv_sub hl [3, 4, 5, 6, 2, 1, 0] rfl)
        · have hV := hV.1 c_93
          refine lv_iconst (v := (1 : Int32)) hx hb dX7_orders_96 (by decide) ?_
          refine lv_goto (tgt := 101) hx hb dX7_orders_97 (by decide) ?_
          refine lv_iadd hx hb dX7_orders_101 ?_
          refine lv_istore (lv' := [(5, .int (x5 + (1 : Int32))), (4, .int x4), (0, .ref (ad 0)), (1, .int p0), (2, .int p1), (3, .int p2), (6, .int x6)]) hx hb dX7_orders_102 hl (by decide) rfl (fun ls hl => ?_)
          refine lv_iinc (v := x6 + 1) (lv' := [(6, .int (x6 + 1)), (5, .int (x5 + (1 : Int32))), (4, .int x4), (0, .ref (ad 0)), (1, .int p0), (2, .int p1), (3, .int p2)]) hx hb dX7_orders_104 hl (k := 6) rfl rfl (by decide) rfl (fun ls hl => ?_)
          refine lv_goto (tgt := 51) hx hb dX7_orders_107 (by decide) ?_
          exact oJ51 _ _ _ _ _ hV _ _ hP hS _ (lv_sub hl [3, 4, 5, 6, 2, 1, 0] rfl)
      · have hV := hV.2 c_66
        refine lv_aload_n hx hb dX7_orders_69 rfl (lv_at hl 0 rfl) ?_
        refine va_get (D := D) (ci := 6) (v := .ref (ad 10)) (C := RX7) (T := TX7) (N := 18) hx hb hts (by decide +kernel) hown hK hP 0 rfl rfl 14 (by decide) (hts (.fieldLink RX7 43 "PowerRestsModel" "ords" "[I") (by decide +kernel)) (fun _ h9 => h9) rfl dX7_orders_70 ?_
        refine lv_iload hx hb dX7_orders_73 (lv_at hl 6 rfl) ?_
        obtain ⟨h_75, hV⟩ := hV
        refine va_iald (f := (a_ 9)) hx hb hK hP 10 0 rfl rfl h_75 dX7_orders_75 ?_
        refine lv_goto (tgt := 81) hx hb dX7_orders_76 (by decide) ?_
        refine lv_istore (lv' := [(4, .int ((a_ 9) x6.toNatClampNeg)), (0, .ref (ad 0)), (1, .int p0), (2, .int p1), (3, .int p2), (5, .int x5), (6, .int x6)]) hx hb dX7_orders_81 hl (by decide) rfl (fun ls hl => ?_)
        refine lv_iload hx hb dX7_orders_83 (lv_at hl 5 rfl) ?_
        refine lv_aload_n hx hb dX7_orders_85 rfl (lv_at hl 1 rfl) ?_
        refine va_get (D := D) (ci := 6) (v := .ref (ad 10)) (C := RX7) (T := TX7) (N := 18) hx hb hts (by decide +kernel) hown hK hP 0 rfl rfl 14 (by decide) (hts (.fieldLink RX7 43 "PowerRestsModel" "ords" "[I") (by decide +kernel)) (fun _ h9 => h9) rfl dX7_orders_86 ?_
        refine lv_iload hx hb dX7_orders_89 (lv_at hl 6 rfl) ?_
        obtain ⟨h_91, hV⟩ := hV
        refine va_iald (f := (a_ 9)) hx hb hK hP 10 0 rfl rfl h_91 dX7_orders_91 ?_
        refine lv_iload_n hx hb dX7_orders_92 rfl (lv_at hl 3 rfl) ?_
        refine lv_icmp_ne (tgt := 100) hx hb dX7_orders_93 (by decide) (fun c_93 => ?_) (fun c_93 => ?_)
        · have hV := hV.2 c_93
          refine lv_iconst (v := (0 : Int32)) hx hb dX7_orders_100 (by decide) ?_
          refine lv_iadd hx hb dX7_orders_101 ?_
          refine lv_istore (lv' := [(5, .int (x5 + (0 : Int32))), (4, .int ((a_ 9) x6.toNatClampNeg)), (0, .ref (ad 0)), (1, .int p0), (2, .int p1), (3, .int p2), (6, .int x6)]) hx hb dX7_orders_102 hl (by decide) rfl (fun ls hl => ?_)
          refine lv_iinc (v := x6 + 1) (lv' := [(6, .int (x6 + 1)), (5, .int (x5 + (0 : Int32))), (4, .int ((a_ 9) x6.toNatClampNeg)), (0, .ref (ad 0)), (1, .int p0), (2, .int p1), (3, .int p2)]) hx hb dX7_orders_104 hl (k := 6) rfl rfl (by decide) rfl (fun ls hl => ?_)
          refine lv_goto (tgt := 51) hx hb dX7_orders_107 (by decide) ?_
          exact oJ51 _ _ _ _ _ hV _ _ hP hS _ (lv_sub hl [3, 4, 5, 6, 2, 1, 0] rfl)
        · have hV := hV.1 c_93
          refine lv_iconst (v := (1 : Int32)) hx hb dX7_orders_96 (by decide) ?_
          refine lv_goto (tgt := 101) hx hb dX7_orders_97 (by decide) ?_
          refine lv_iadd hx hb dX7_orders_101 ?_
          refine lv_istore (lv' := [(5, .int (x5 + (1 : Int32))), (4, .int ((a_ 9) x6.toNatClampNeg)), (0, .ref (ad 0)), (1, .int p0), (2, .int p1), (3, .int p2), (6, .int x6)]) hx hb dX7_orders_102 hl (by decide) rfl (fun ls hl => ?_)
          refine lv_iinc (v := x6 + 1) (lv' := [(6, .int (x6 + 1)), (5, .int (x5 + (1 : Int32))), (4, .int ((a_ 9) x6.toNatClampNeg)), (0, .ref (ad 0)), (1, .int p0), (2, .int p1), (3, .int p2)]) hx hb dX7_orders_104 hl (k := 6) rfl rfl (by decide) rfl (fun ls hl => ?_)
          refine lv_goto (tgt := 51) hx hb dX7_orders_107 (by decide) ?_
          exact oJ51 _ _ _ _ _ hV _ _ hP hS _ (lv_sub hl [3, 4, 5, 6, 2, 1, 0] rfl))
  have hl := lv_entry ([.ref (ad 0), .int p0, .int p1, .int p2]) (n := 7) (Nat.le_of_ble_eq_true rfl)
  rw [lg_entry_eq]
  generalize (lg_sl ([.ref (ad 0), .int p0, .int p1, .int p2]) ++ List.replicate (7 - (lg_sl ([.ref (ad 0), .int p0, .int p1, .int p2])).length) Slot.unset).toArray = ls at hl ⊢
  have hl : lv_has ls 7 [(0, .ref (ad 0)), (1, .int p0), (2, .int p1), (3, .int p2)] := hl
  refine lv_iload_n hx hb dX7_orders_0 rfl (lv_at hl 1 rfl) ?_
  refine cp_i (va_runS (As := [.int p0]) (rest := []) ⟨hx, hb, hml, hown, hts⟩ (spec_X7_isBy l p0) (va_cwS 1 hts gX7_orders_X7_isBy rfl rfl rfl (by decide +kernel) ⟨Nat.le_of_ble_eq_true rfl, Nat.le_of_ble_eq_true rfl⟩) cp_pre rfl rfl hl.1 rfl (lv_room (Nat.le_of_ble_eq_true rfl)) dX7_orders_1 ⟨Nat.zero_le _, Nat.zero_le _⟩) (fun r1 q_1 => ?_)
  have hV := hV r1 q_1
  refine lv_if_eq (tgt := 34) hx hb dX7_orders_4 (by decide) (fun c_4 => ?_) (fun c_4 => ?_)
  · have hV := hV.1 c_4
    refine lv_iconst (v := (-1 : Int32)) hx hb dX7_orders_34 (by decide) ?_
    exact W.iret (v := (-1 : Int32)) hx hb hr (fun t ht hW => ⟨⟨_, (g, a), rfl, hV, ar_heap ht hP⟩, hS.F ht⟩) hS.2.2 dX7_orders_35
  · have hV := hV.2 c_4
    refine lv_iload_n hx hb dX7_orders_7 rfl (lv_at hl 3 rfl) ?_
    refine lv_i2l (v := p2.toInt64) hx hb dX7_orders_8 rfl ?_
    refine lv_lconst (v := (0 : Int64)) hx hb dX7_orders_9 (by decide) ?_
    refine lv_lconst (v := (1 : Int64)) hx hb dX7_orders_10 (by decide) ?_
    refine cp_i (va_runS (As := [.long p2.toInt64, .long (0 : Int64), .long (1 : Int64)]) (rest := []) ⟨hx, hb, hml, hown, hts⟩ (spec_X7_in l p2.toInt64 (0 : Int64) (1 : Int64)) (va_cwS 3 hts gX7_orders_X7_in rfl rfl rfl (by decide +kernel) ⟨Nat.le_of_ble_eq_true rfl, Nat.le_of_ble_eq_true rfl⟩) cp_pre rfl rfl hl.1 rfl (lv_room (Nat.le_of_ble_eq_true rfl)) dX7_orders_11 ⟨Nat.zero_le _, Nat.zero_le _⟩) (fun r11 q_11 => ?_)
    have hV := hV r11 q_11
    refine lv_if_eq (tgt := 34) hx hb dX7_orders_14 (by decide) (fun c_14 => ?_) (fun c_14 => ?_)
    · have hV := hV.1 c_14
      refine lv_iconst (v := (-1 : Int32)) hx hb dX7_orders_34 (by decide) ?_
      exact W.iret (v := (-1 : Int32)) hx hb hr (fun t ht hW => ⟨⟨_, (g, a), rfl, hV, ar_heap ht hP⟩, hS.F ht⟩) hS.2.2 dX7_orders_35
    · have hV := hV.2 c_14
      refine lv_iload_n hx hb dX7_orders_17 rfl (lv_at hl 3 rfl) ?_
      refine lv_iconst (v := (1 : Int32)) hx hb dX7_orders_18 (by decide) ?_
      refine lv_icmp_ne (tgt := 36) hx hb dX7_orders_19 (by decide) (fun c_19 => ?_) (fun c_19 => ?_)
      · have hV := hV.2 c_19
        refine lv_aload_n hx hb dX7_orders_36 rfl (lv_at hl 0 rfl) ?_
        refine lv_iload_n hx hb dX7_orders_37 rfl (lv_at hl 1 rfl) ?_
        obtain ⟨h_38, hV⟩ := hV
        refine cw_i (va_runV (As := [.int p0]) (rest := []) ⟨hx, hb, hml, hown, hts⟩ (spec_X7_walks l D cy ad _ g a p0 h_38) (cwV 1 hts gX7_orders_X7_walks rfl rfl rfl (by decide +kernel) ⟨Nat.le_of_ble_eq_true rfl, Nat.le_of_ble_eq_true rfl⟩) (ar_preV hN hK hP (maD hD) (ci := 6) (q0 := 0) rfl rfl) rfl rfl hl.1 rfl (lv_room (Nat.le_of_ble_eq_true rfl)) dX7_orders_38 ⟨Nat.zero_le _, Nat.zero_le _⟩) hS (maD hD) hA (fun r38 u_38 H locs q_38 hP hS => ?_)
        obtain ⟨g38, a38⟩ := u_38
        have hV := hV r38 g38 a38 q_38
        have hP : va_P D vwCl (maW ad cy g38 a38) H := hP
        refine lv_pop hx hb dX7_orders_41 rfl ?_
        refine lv_iconst (v := (0 : Int32)) hx hb dX7_orders_42 (by decide) ?_
        refine lv_istore (lv' := [(4, .int (0 : Int32)), (0, .ref (ad 0)), (1, .int p0), (2, .int p1), (3, .int p2)]) hx hb dX7_orders_43 hl (by decide) rfl (fun ls hl => ?_)
        refine lv_iconst (v := (0 : Int32)) hx hb dX7_orders_45 (by decide) ?_
        refine lv_istore (lv' := [(5, .int (0 : Int32)), (4, .int (0 : Int32)), (0, .ref (ad 0)), (1, .int p0), (2, .int p1), (3, .int p2)]) hx hb dX7_orders_46 hl (by decide) rfl (fun ls hl => ?_)
        refine lv_iconst (v := (0 : Int32)) hx hb dX7_orders_48 (by decide) ?_
        refine lv_istore (lv' := [(6, .int (0 : Int32)), (5, .int (0 : Int32)), (4, .int (0 : Int32)), (0, .ref (ad 0)), (1, .int p0), (2, .int p1), (3, .int p2)]) hx hb dX7_orders_49 hl (by decide) rfl (fun ls hl => ?_)
        exact oJ51 _ _ _ _ _ hV _ _ hP hS _ (lv_sub hl [3, 4, 5, 6, 2, 1, 0] rfl)
      · have hV := hV.1 c_19
        refine lv_iload_n hx hb dX7_orders_22 rfl (lv_at hl 2 rfl) ?_
        refine lv_i2l (v := p1.toInt64) hx hb dX7_orders_23 rfl ?_
        refine lv_lconst (v := (1 : Int64)) hx hb dX7_orders_24 (by decide) ?_
        refine lv_ldc2 (v := (50000 : Int64)) hx hb hown (hts (.constantLong RX7 58 (50000)) (by decide +kernel)) dX7_orders_25 ?_
        refine cp_i (va_runS (As := [.long p1.toInt64, .long (1 : Int64), .long (50000 : Int64)]) (rest := []) ⟨hx, hb, hml, hown, hts⟩ (spec_X7_in l p1.toInt64 (1 : Int64) (50000 : Int64)) (va_cwS 3 hts gX7_orders_X7_in rfl rfl rfl (by decide +kernel) ⟨Nat.le_of_ble_eq_true rfl, Nat.le_of_ble_eq_true rfl⟩) cp_pre rfl rfl hl.1 rfl (lv_room (Nat.le_of_ble_eq_true rfl)) dX7_orders_28 ⟨Nat.zero_le _, Nat.zero_le _⟩) (fun r28 q_28 => ?_)
        have hV := hV r28 q_28
        refine lv_if_ne (tgt := 36) hx hb dX7_orders_31 (by decide) (fun c_31 => ?_) (fun c_31 => ?_)
        · have hV := hV.2 c_31
          refine lv_aload_n hx hb dX7_orders_36 rfl (lv_at hl 0 rfl) ?_
          refine lv_iload_n hx hb dX7_orders_37 rfl (lv_at hl 1 rfl) ?_
          obtain ⟨h_38, hV⟩ := hV
          refine cw_i (va_runV (As := [.int p0]) (rest := []) ⟨hx, hb, hml, hown, hts⟩ (spec_X7_walks l D cy ad _ g a p0 h_38) (cwV 1 hts gX7_orders_X7_walks rfl rfl rfl (by decide +kernel) ⟨Nat.le_of_ble_eq_true rfl, Nat.le_of_ble_eq_true rfl⟩) (ar_preV hN hK hP (maD hD) (ci := 6) (q0 := 0) rfl rfl) rfl rfl hl.1 rfl (lv_room (Nat.le_of_ble_eq_true rfl)) dX7_orders_38 ⟨Nat.zero_le _, Nat.zero_le _⟩) hS (maD hD) hA (fun r38 u_38 H locs q_38 hP hS => ?_)
          obtain ⟨g38, a38⟩ := u_38
          have hV := hV r38 g38 a38 q_38
          have hP : va_P D vwCl (maW ad cy g38 a38) H := hP
          refine lv_pop hx hb dX7_orders_41 rfl ?_
          refine lv_iconst (v := (0 : Int32)) hx hb dX7_orders_42 (by decide) ?_
          refine lv_istore (lv' := [(4, .int (0 : Int32)), (0, .ref (ad 0)), (1, .int p0), (2, .int p1), (3, .int p2)]) hx hb dX7_orders_43 hl (by decide) rfl (fun ls hl => ?_)
          refine lv_iconst (v := (0 : Int32)) hx hb dX7_orders_45 (by decide) ?_
          refine lv_istore (lv' := [(5, .int (0 : Int32)), (4, .int (0 : Int32)), (0, .ref (ad 0)), (1, .int p0), (2, .int p1), (3, .int p2)]) hx hb dX7_orders_46 hl (by decide) rfl (fun ls hl => ?_)
          refine lv_iconst (v := (0 : Int32)) hx hb dX7_orders_48 (by decide) ?_
          refine lv_istore (lv' := [(6, .int (0 : Int32)), (5, .int (0 : Int32)), (4, .int (0 : Int32)), (0, .ref (ad 0)), (1, .int p0), (2, .int p1), (3, .int p2)]) hx hb dX7_orders_49 hl (by decide) rfl (fun ls hl => ?_)
          exact oJ51 _ _ _ _ _ hV _ _ hP hS _ (lv_sub hl [3, 4, 5, 6, 2, 1, 0] rfl)
        · have hV := hV.1 c_31
          refine lv_iconst (v := (-1 : Int32)) hx hb dX7_orders_34 (by decide) ?_
          exact W.iret (v := (-1 : Int32)) hx hb hr (fun t ht hW => ⟨⟨_, (g, a), rfl, hV, ar_heap ht hP⟩, hS.F ht⟩) hS.2.2 dX7_orders_35
set_option maxRecDepth 4000 in
theorem spec_X7_orders (l : Launch) (D : va_G) (cy : Nat → ClassId) (ad : Nat → Nat) (sz : Nat) (g : Gs) (a : As) (p0 : Int32) (p1 : Int32) (p2 : Int32) : Met l yX7_orders wsX7_orders ({ frames := 3, cells := 0, slots := 0, locals := 72 } : Room) (va_Pc [.ref (ad 0), .int p0, .int p1, .int p2] (ArP D cy sz (maW ad cy g a))) (va_Qi (fun (r : Int32) (u : Gs × As) => (post_X7_orders g a p0 p1 p2) r u.1 u.2) (fun u t => va_P D vwCl (maW ad cy u.1 u.2) t.heap) (va_A (maW ad cy g a) sz)) 0 0 (va_A (maW ad cy g a) sz) := by
  apply met_X7_orders
  intro J hJ r hr
  unfold post_X7_isBy at hr
  subst hr
  have e0 : (0 : Int32).toInt = 0 := rfl
  have e1 : (1 : Int32).toInt = 1 := rfl
  have l0 : (0 : Int64).toInt = 0 := rfl
  have l1 : (1 : Int64).toInt = 1 := rfl
  have l5 : (50000 : Int64).toInt = 50000 := rfl
  refine ⟨fun h => ⟨Or.inl ⟨Or.inl (zb_0 h), rfl⟩, KS.rf⟩, fun h r2 hr2 => ?_⟩
  have hdv : Dv p0 := zb_1 h
  unfold post_X7_in at hr2
  rw [il_t, l0, l1] at hr2
  subst hr2
  refine ⟨fun h2 => ⟨Or.inl ⟨?_, rfl⟩, KS.rf⟩, fun h2 => ?_⟩
  · have := zb_0 h2
    rcases (show p2.toInt < 0 ∨ 1 < p2.toInt by omega) with q | q
    · exact Or.inr (Or.inl q)
    · exact Or.inr (Or.inr (Or.inl q))
  have h2 := zb_1 h2
  have main : (p2 = 1 → 1 ≤ p1.toInt ∧ p1.toInt ≤ 50000) → ∀ (r38 : Int32) (g38 : Gs) (a38 : As), post_X7_walks g a p0 r38 g38 a38 → J 0 0 0 g38 a38 := by
    intro hp r38 g38 a38 hw
    obtain ⟨-, rfl, f, rfl, hf⟩ := hw
    obtain ⟨d1, d2⟩ := id hdv
    obtain ⟨n, hn, rfl, hn2⟩ := of_i (x := p0) (by omega)
    have tnn : tn (nI n) = n := tn_nI hn
    rw [tnn] at hf
    have key : ∀ (d x M : Nat), x + d = n → M ≤ n → (∀ y e, y < x → IsOrd n y e → e ≤ M) → ((M = 0 ∧ ∀ y, y < x → ¬ Nat.gcd n y = 1) ∨ ∃ y, IsOrd n y M) → J (nI M) (nI (fb_ct (fun y => cb (f y = p1)) x)) (nI x) g38 (va_up a 9 f) := by
      intro d
      induction d with
      | zero =>
        intro x M hx hM hi hex
        have : x = n := by omega
        subst this
        refine hJ _ _ _ _ _ (pk_le x x (fun _ => ⟨fun h3 => ⟨Or.inr ⟨hdv, Or.inl ⟨h3, M, ?_, rfl⟩⟩, KS.up (by omega) f⟩, fun h3 => ⟨Or.inr ⟨hdv, Or.inr ⟨?_, ?_, ?_⟩⟩, KS.up (by omega) f⟩⟩) (fun h => absurd h (by omega)))
        · rw [tnn]
          refine ⟨?_, fun y e ho => hi (y % x) e (Nat.mod_lt _ (by omega)) (ord_mod.mpr ho)⟩
          rcases hex with ⟨-, q⟩ | q
          · exact absurd (Nat.gcd_one_right x) (q 1 (by omega))
          · exact q
        · rw [i_eq, e0] at h3
          rw [i_eq, e1]; omega
        · refine hp ?_
          rw [i_eq, e0] at h3
          rw [i_eq, e1]; omega
        · have hp1 : p2 = 1 := by
            rw [i_eq, e0] at h3
            rw [i_eq, e1]; omega
          have hp := hp hp1
          obtain ⟨e, he, rfl, he2⟩ := of_i (x := p1) (by omega)
          rw [tnn, tn_nI he]
          congr 1
          refine fb_ct_cong (fun y hy => cb_iff ?_)
          obtain ⟨v, v1, v2, v3⟩ := hf y hy
          rw [v2, nI_eq (by omega) he]
          constructor
          · intro q
            rcases v3 with v3 | v3
            · omega
            · rw [← q]; exact v3
          · intro q
            rcases v3 with ⟨-, v3⟩ | v3
            · exact absurd (cop_of_pow q.1 q.2.1) v3
            · exact ord_one v3 q
      | succ d ih =>
        intro x M hx hM hi hex
        obtain ⟨v, v1, v2, v3⟩ := hf x (by omega)
        have ct1 : cb (f x = p1) = true → fb_ct (fun y => cb (f y = p1)) (x + 1) = fb_ct (fun y => cb (f y = p1)) x + 1 := fun q => by rw [fb_ct_succ, q]; rfl
        have ct0 : cb (f x = p1) = false → fb_ct (fun y => cb (f y = p1)) (x + 1) = fb_ct (fun y => cb (f y = p1)) x + 0 := fun q => by rw [fb_ct_succ, q]; rfl
        have tnx : (nI x).toNatClampNeg = x := tn_nI (by omega)
        have vx : ∀ e, IsOrd n x e → e = v := fun e he => by
          rcases v3 with ⟨-, v3⟩ | v3
          · exact absurd (cop_of_pow he.1 he.2.1) v3
          · exact ord_one he v3
        have go : ∀ M', M' ≤ n → (∀ y e, y < x + 1 → IsOrd n y e → e ≤ M') → ((M' = 0 ∧ ∀ y, y < x + 1 → ¬ Nat.gcd n y = 1) ∨ ∃ y, IsOrd n y M') → (f x = p1 → J (nI M') (nI (fb_ct (fun y => cb (f y = p1)) x) + 1) (nI (x + 1)) g38 (va_up a 9 f)) ∧ (¬ f x = p1 → J (nI M') (nI (fb_ct (fun y => cb (f y = p1)) x) + 0) (nI (x + 1)) g38 (va_up a 9 f)) := by
          intro M' hM' hi' hex'
          have := ih (x + 1) M' (by omega) hM' hi' hex'
          refine ⟨fun q => ?_, fun q => ?_⟩
          · rw [nI_1, ← ct1 (cb_t q)]; exact this
          · rw [show nI (fb_ct (fun y => cb (f y = p1)) x) + 0 = nI (fb_ct (fun y => cb (f y = p1)) x + 0) from nI_add _ 0, ← ct0 (cb_f q)]; exact this
        refine hJ _ _ _ _ _ (pk_le n x (fun h => absurd h (by omega)) (fun _ => ⟨pk_in x 50002 (by omega), ?_⟩))
        rw [up_0, tnx, nI_1 x]
        have hin : vp_in (nI x) 50002 := pk_in x 50002 (by omega)
        refine pk_le v M (fun h3 => ⟨hin, go M hM (fun y e hy he => ?_) ?_⟩) (fun h3 => ⟨hin, hin, ?_⟩) v2
        · by_cases hyx : y = x
          · subst hyx; rw [vx e he]; exact h3
          · exact hi y e (by omega) he
        · rcases hex with ⟨q1, q2⟩ | q
          · by_cases hv : v = 0
            · refine Or.inl ⟨q1, fun y hy => ?_⟩
              by_cases hyx : y = x
              · subst hyx
                rcases v3 with ⟨-, v3⟩ | v3
                · exact v3
                · have := v3.1; omega
              · exact q2 y (by omega)
            · omega
          · exact Or.inr q
        · rw [v2]
          have := go v v1 (fun y e hy he => by
            by_cases hyx : y = x
            · subst hyx; rw [vx e he]; exact Nat.le_refl v
            · exact Nat.le_trans (hi y e (by omega) he) (by omega)) (Or.inr ⟨x, by
              rcases v3 with ⟨v3, -⟩ | v3
              · omega
              · exact v3⟩)
          rw [v2] at this
          exact this
    exact key n 0 0 (by omega) (by omega) (fun y e hy => by omega) (Or.inl ⟨rfl, fun y hy => by omega⟩)
  refine ⟨fun h3 r3 hr3 => ?_, fun h3 => ⟨hdv, main (fun q => absurd q h3)⟩⟩
  unfold post_X7_in at hr3
  rw [il_t, l1, l5] at hr3
  subst hr3
  refine ⟨fun h4 => ⟨Or.inl ⟨Or.inr (Or.inr (Or.inr ⟨h3, ?_⟩)), rfl⟩, KS.rf⟩, fun h4 => ⟨hdv, main (fun _ => zb_1 h4)⟩⟩
  have := zb_0 h4
  omega
theorem MakersAns.one {n i r r' : Int32} (h : MakersAns n i r) (h' : MakersAns n i r') : r = r' := by
  rcases h with ⟨h1, h2⟩ | ⟨h1, h2⟩ <;> rcases h' with ⟨k1, k2⟩ | ⟨k1, k2⟩
  · rw [h2, k2]
  · rcases h1 with q | q
    · exact absurd k1.1 q
    · have := k1.2; omega
  · rcases k1 with q | q
    · exact absurd h1.1 q
    · have := h1.2; omega
  · exact h2.one k2
def post_X7_makers (g : Gs) (a : As) (p0 p1 r : Int32) (g' : Gs) (a' : As) : Prop := MakersAns p0 p1 r ∧ KS g a g' a'
set_option maxHeartbeats 4000000 in
set_option maxRecDepth 100000 in
theorem met_X7_makers (l : Launch) (D : va_G) (cy : Nat → ClassId) (ad : Nat → Nat) (sz : Nat) (g : Gs) (a : As) (p0 : Int32) (p1 : Int32) (post : Int32 → Gs → As → Prop)
  (hV : ∀ (J26 : Int32 → Int32 → Int32 → Gs → As → Prop),
    (∀ (x3 : Int32) (x4 : Int32) (x5 : Int32) (g_ : Gs) (a_ : As), ((p0 ≤ x5 → ((0 ≤ p1 → post (-4 : Int32) g_ a_) ∧ (¬ 0 ≤ p1 → post x4 g_ a_))) ∧ (¬ p0 ≤ x5 → vp_in x5 50002 ∧ (((((a_ 9) x5.toNatClampNeg) = x3 → ((x4 = p1 → post x5 g_ a_) ∧ (¬ x4 = p1 → J26 x3 (x4 + 1) (x5 + 1) g_ a_))) ∧ (¬ ((a_ 9) x5.toNatClampNeg) = x3 → J26 x3 x4 (x5 + 1) g_ a_))))) → J26 x3 x4 x5 g_ a_) →
    ∀ r1 : Int32, post_X7_isBy p0 r1 → ((r1 = 0 → post (-1 : Int32) g a) ∧ (¬ r1 = 0 → (((-1 : Int32) ≤ p1 → pre_X7_walks g a p0 ∧ (∀ (r16 : Int32) (g16 : Gs) (a16 : As), post_X7_walks g a p0 r16 g16 a16 → J26 r16 (0 : Int32) (0 : Int32) g16 a16)) ∧ (¬ (-1 : Int32) ≤ p1 → post (-1 : Int32) g a))))) :
  Met l yX7_makers wsX7_makers ({ frames := 3, cells := 0, slots := 0, locals := 72 } : Room) (va_Pc [.ref (ad 0), .int p0, .int p1] (ArP D cy sz (maW ad cy g a))) (va_Qi (fun (r : Int32) (u : Gs × As) => post r u.1 u.2) (fun u t => va_P D vwCl (maW ad cy u.1 u.2) t.heap) (va_A (maW ad cy g a) sz)) 0 0 (va_A (maW ad cy g a) sz) := by
  refine Met.ofW (cc := cX7_makers) (maxL := 6) (ret := (some .int)) (by decide) rfl ?_
  intro p e s m args below meth c s₁ B hml hv
  obtain ⟨rfl, hsz, hP, hK, hD0, hN⟩ := hv
  have hx := B.exec
  have hb := B.bytes
  have hr := B.returns
  have hts := atoms_spec (ws := wsX7_makers) B.pre
  have hown : s.vm.findClass RX7 = some m.cls := findClass_of_methodNamed B.named
  have hlocks := B.notSynchronized
  subst hsz
  have hD := hD0.self (sz := s.heap.size)
  have hP : va_P D vwCl (maW ad cy g a) s.heap := hP
  have hD : va_D (va_A (maW ad cy g a) s.heap.size) (maW ad cy g a) := hD
  have hS : va_S (va_A (maW ad cy g a) s.heap.size) s.heap s.heap [] := va_S.rf
  have hA : ∀ q : Nat, s.heap.size ≤ q → va_A (maW ad cy g a) s.heap.size q := fun q h => Or.inr h
  obtain ⟨J26, iJ26, oJ26⟩ : ∃ J : Int32 → Int32 → Int32 → Gs → As → Prop, (∀ (x3 : Int32) (x4 : Int32) (x5 : Int32) (g_ : Gs) (a_ : As), (∀ (H : Heap) (locs : List Loc), va_P D vwCl (maW ad cy g_ a_) H → va_S (va_A (maW ad cy g a) s.heap.size) s.heap H locs → ∀ ls : Array Slot, lv_has ls 6 [(0, .ref (ad 0)), (1, .int p0), (2, .int p1), (3, .int x3), (4, .int x4), (5, .int x5)] → W p l e (headSpec wsX7_makers ({ frames := 3, cells := 0, slots := 0, locals := 72 } : Room)).room s m [.ref (ad 0), .int p0, .int p1].toArray below meth c H locs 0 0 (MQ below (va_Qi (fun (r : Int32) (u : Gs × As) => post r u.1 u.2) (fun u t => va_P D vwCl (maW ad cy u.1 u.2) t.heap) (va_A (maW ad cy g a) s.heap.size)) [.ref (ad 0), .int p0, .int p1].toArray s 0 0 (va_A (maW ad cy g a) s.heap.size)) (F0 m 26 ls [])) → J x3 x4 x5 g_ a_) ∧ (∀ (x3 : Int32) (x4 : Int32) (x5 : Int32) (g_ : Gs) (a_ : As), J x3 x4 x5 g_ a_ → (∀ (H : Heap) (locs : List Loc), va_P D vwCl (maW ad cy g_ a_) H → va_S (va_A (maW ad cy g a) s.heap.size) s.heap H locs → ∀ ls : Array Slot, lv_has ls 6 [(0, .ref (ad 0)), (1, .int p0), (2, .int p1), (3, .int x3), (4, .int x4), (5, .int x5)] → W p l e (headSpec wsX7_makers ({ frames := 3, cells := 0, slots := 0, locals := 72 } : Room)).room s m [.ref (ad 0), .int p0, .int p1].toArray below meth c H locs 0 0 (MQ below (va_Qi (fun (r : Int32) (u : Gs × As) => post r u.1 u.2) (fun u t => va_P D vwCl (maW ad cy u.1 u.2) t.heap) (va_A (maW ad cy g a) s.heap.size)) [.ref (ad 0), .int p0, .int p1].toArray s 0 0 (va_A (maW ad cy g a) s.heap.size)) (F0 m 26 ls []))) := ⟨fun (x3 : Int32) (x4 : Int32) (x5 : Int32) (g_ : Gs) (a_ : As) => (∀ (H : Heap) (locs : List Loc), va_P D vwCl (maW ad cy g_ a_) H → va_S (va_A (maW ad cy g a) s.heap.size) s.heap H locs → ∀ ls : Array Slot, lv_has ls 6 [(0, .ref (ad 0)), (1, .int p0), (2, .int p1), (3, .int x3), (4, .int x4), (5, .int x5)] → W p l e (headSpec wsX7_makers ({ frames := 3, cells := 0, slots := 0, locals := 72 } : Room)).room s m [.ref (ad 0), .int p0, .int p1].toArray below meth c H locs 0 0 (MQ below (va_Qi (fun (r : Int32) (u : Gs × As) => post r u.1 u.2) (fun u t => va_P D vwCl (maW ad cy u.1 u.2) t.heap) (va_A (maW ad cy g a) s.heap.size)) [.ref (ad 0), .int p0, .int p1].toArray s 0 0 (va_A (maW ad cy g a) s.heap.size)) (F0 m 26 ls [])), fun _ _ _ _ _ h => h, fun _ _ _ _ _ h => h⟩
  have hV := hV J26
  replace hV := hV (by
    intro x3 x4 x5 g_ a_ hV
    refine iJ26 x3 x4 x5 g_ a_ ?_
    intro H locs hP hS ls hl
    refine lv_iload hx hb dX7_makers_26 (lv_at hl 5 rfl) ?_
    refine lv_iload_n hx hb dX7_makers_28 rfl (lv_at hl 1 rfl) ?_
    refine lv_icmp_ge (tgt := 61) hx hb dX7_makers_29 (by decide) (fun c_29 => ?_) (fun c_29 => ?_)
    · have hV := hV.1 c_29
      refine lv_iload_n hx hb dX7_makers_61 rfl (lv_at hl 2 rfl) ?_
      refine lv_if_ge (tgt := 70) hx hb dX7_makers_62 (by decide) (fun c_62 => ?_) (fun c_62 => ?_)
      · have hV := hV.1 c_62
        refine lv_bipush (v := (-4 : Int32)) hx hb dX7_makers_70 (by decide) ?_
        exact W.iret (v := (-4 : Int32)) hx hb hr (fun t ht hW => ⟨⟨_, (g_, a_), rfl, hV, ar_heap ht hP⟩, hS.F ht⟩) hS.2.2 dX7_makers_72
      · have hV := hV.2 c_62
        refine lv_iload hx hb dX7_makers_65 (lv_at hl 4 rfl) ?_
        refine lv_goto (tgt := 72) hx hb dX7_makers_67 (by decide) ?_
        exact W.iret (v := x4) hx hb hr (fun t ht hW => ⟨⟨_, (g_, a_), rfl, hV, ar_heap ht hP⟩, hS.F ht⟩) hS.2.2 dX7_makers_72
    · have hV := hV.2 c_29
      refine lv_aload_n hx hb dX7_makers_32 rfl (lv_at hl 0 rfl) ?_
      refine va_get (D := D) (ci := 6) (v := .ref (ad 10)) (C := RX7) (T := TX7) (N := 18) hx hb hts (by decide +kernel) hown hK hP 0 rfl rfl 14 (by decide) (hts (.fieldLink RX7 43 "PowerRestsModel" "ords" "[I") (by decide +kernel)) (fun _ h9 => h9) rfl dX7_makers_33 ?_
      refine lv_iload hx hb dX7_makers_36 (lv_at hl 5 rfl) ?_
      obtain ⟨h_38, hV⟩ := hV
      refine va_iald (f := (a_ 9)) hx hb hK hP 10 0 rfl rfl h_38 dX7_makers_38 ?_
      refine lv_iload_n hx hb dX7_makers_39 rfl (lv_at hl 3 rfl) ?_
      refine lv_icmp_ne (tgt := 55) hx hb dX7_makers_40 (by decide) (fun c_40 => ?_) (fun c_40 => ?_)
      · have hV := hV.2 c_40
        refine lv_iinc (v := x5 + 1) (lv' := [(5, .int (x5 + 1)), (0, .ref (ad 0)), (1, .int p0), (2, .int p1), (3, .int x3), (4, .int x4)]) hx hb dX7_makers_55 hl (k := 5) rfl rfl (by decide) rfl (fun ls hl => ?_)
        refine lv_goto (tgt := 26) hx hb dX7_makers_58 (by decide) ?_
        exact oJ26 _ _ _ _ _ hV _ _ hP hS _ (lv_sub hl [1, 2, 3, 4, 5, 0] rfl)
      · have hV := hV.1 c_40
        refine lv_iload hx hb dX7_makers_43 (lv_at hl 4 rfl) ?_
        refine lv_iload_n hx hb dX7_makers_45 rfl (lv_at hl 2 rfl) ?_
        refine lv_icmp_ne (tgt := 52) hx hb dX7_makers_46 (by decide) (fun c_46 => ?_) (fun c_46 => ?_)
        · have hV := hV.2 c_46
          refine lv_iinc (v := x4 + 1) (lv' := [(4, .int (x4 + 1)), (0, .ref (ad 0)), (1, .int p0), (2, .int p1), (3, .int x3), (5, .int x5)]) hx hb dX7_makers_52 hl (k := 4) rfl rfl (by decide) rfl (fun ls hl => ?_)
          refine lv_iinc (v := x5 + 1) (lv' := [(5, .int (x5 + 1)), (4, .int (x4 + 1)), (0, .ref (ad 0)), (1, .int p0), (2, .int p1), (3, .int x3)]) hx hb dX7_makers_55 hl (k := 5) rfl rfl (by decide) rfl (fun ls hl => ?_)
          refine lv_goto (tgt := 26) hx hb dX7_makers_58 (by decide) ?_
          exact oJ26 _ _ _ _ _ hV _ _ hP hS _ (lv_sub hl [2, 3, 4, 5, 1, 0] rfl)
        · have hV := hV.1 c_46
          refine lv_iload hx hb dX7_makers_49 (lv_at hl 5 rfl) ?_
          exact W.iret (v := x5) hx hb hr (fun t ht hW => ⟨⟨_, (g_, a_), rfl, hV, ar_heap ht hP⟩, hS.F ht⟩) hS.2.2 dX7_makers_51)
  have hl := lv_entry ([.ref (ad 0), .int p0, .int p1]) (n := 6) (Nat.le_of_ble_eq_true rfl)
  rw [lg_entry_eq]
  generalize (lg_sl ([.ref (ad 0), .int p0, .int p1]) ++ List.replicate (6 - (lg_sl ([.ref (ad 0), .int p0, .int p1])).length) Slot.unset).toArray = ls at hl ⊢
  have hl : lv_has ls 6 [(0, .ref (ad 0)), (1, .int p0), (2, .int p1)] := hl
  refine lv_iload_n hx hb dX7_makers_0 rfl (lv_at hl 1 rfl) ?_
  refine cp_i (va_runS (As := [.int p0]) (rest := []) ⟨hx, hb, hml, hown, hts⟩ (spec_X7_isBy l p0) (va_cwS 1 hts gX7_makers_X7_isBy rfl rfl rfl (by decide +kernel) ⟨Nat.le_of_ble_eq_true rfl, Nat.le_of_ble_eq_true rfl⟩) cp_pre rfl rfl hl.1 rfl (lv_room (Nat.le_of_ble_eq_true rfl)) dX7_makers_1 ⟨Nat.zero_le _, Nat.zero_le _⟩) (fun r1 q_1 => ?_)
  have hV := hV r1 q_1
  refine lv_if_eq (tgt := 12) hx hb dX7_makers_4 (by decide) (fun c_4 => ?_) (fun c_4 => ?_)
  · have hV := hV.1 c_4
    refine lv_iconst (v := (-1 : Int32)) hx hb dX7_makers_12 (by decide) ?_
    exact W.iret (v := (-1 : Int32)) hx hb hr (fun t ht hW => ⟨⟨_, (g, a), rfl, hV, ar_heap ht hP⟩, hS.F ht⟩) hS.2.2 dX7_makers_13
  · have hV := hV.2 c_4
    refine lv_iload_n hx hb dX7_makers_7 rfl (lv_at hl 2 rfl) ?_
    refine lv_iconst (v := (-1 : Int32)) hx hb dX7_makers_8 (by decide) ?_
    refine lv_icmp_ge (tgt := 14) hx hb dX7_makers_9 (by decide) (fun c_9 => ?_) (fun c_9 => ?_)
    · have hV := hV.1 c_9
      refine lv_aload_n hx hb dX7_makers_14 rfl (lv_at hl 0 rfl) ?_
      refine lv_iload_n hx hb dX7_makers_15 rfl (lv_at hl 1 rfl) ?_
      obtain ⟨h_16, hV⟩ := hV
      refine cw_i (va_runV (As := [.int p0]) (rest := []) ⟨hx, hb, hml, hown, hts⟩ (spec_X7_walks l D cy ad _ g a p0 h_16) (cwV 1 hts gX7_makers_X7_walks rfl rfl rfl (by decide +kernel) ⟨Nat.le_of_ble_eq_true rfl, Nat.le_of_ble_eq_true rfl⟩) (ar_preV hN hK hP (maD hD) (ci := 6) (q0 := 0) rfl rfl) rfl rfl hl.1 rfl (lv_room (Nat.le_of_ble_eq_true rfl)) dX7_makers_16 ⟨Nat.zero_le _, Nat.zero_le _⟩) hS (maD hD) hA (fun r16 u_16 H locs q_16 hP hS => ?_)
      obtain ⟨g16, a16⟩ := u_16
      have hV := hV r16 g16 a16 q_16
      have hP : va_P D vwCl (maW ad cy g16 a16) H := hP
      refine lv_istore_n (lv' := [(3, .int r16), (0, .ref (ad 0)), (1, .int p0), (2, .int p1)]) hx hb dX7_makers_19 rfl hl (by decide) rfl (fun ls hl => ?_)
      refine lv_iconst (v := (0 : Int32)) hx hb dX7_makers_20 (by decide) ?_
      refine lv_istore (lv' := [(4, .int (0 : Int32)), (3, .int r16), (0, .ref (ad 0)), (1, .int p0), (2, .int p1)]) hx hb dX7_makers_21 hl (by decide) rfl (fun ls hl => ?_)
      refine lv_iconst (v := (0 : Int32)) hx hb dX7_makers_23 (by decide) ?_
      refine lv_istore (lv' := [(5, .int (0 : Int32)), (4, .int (0 : Int32)), (3, .int r16), (0, .ref (ad 0)), (1, .int p0), (2, .int p1)]) hx hb dX7_makers_24 hl (by decide) rfl (fun ls hl => ?_)
      exact oJ26 _ _ _ _ _ hV _ _ hP hS _ (lv_sub hl [3, 4, 5, 2, 1, 0] rfl)
    · have hV := hV.2 c_9
      refine lv_iconst (v := (-1 : Int32)) hx hb dX7_makers_12 (by decide) ?_
      exact W.iret (v := (-1 : Int32)) hx hb hr (fun t ht hW => ⟨⟨_, (g, a), rfl, hV, ar_heap ht hP⟩, hS.F ht⟩) hS.2.2 dX7_makers_13
set_option maxRecDepth 4000 in
theorem spec_X7_makers (l : Launch) (D : va_G) (cy : Nat → ClassId) (ad : Nat → Nat) (sz : Nat) (g : Gs) (a : As) (p0 : Int32) (p1 : Int32) : Met l yX7_makers wsX7_makers ({ frames := 3, cells := 0, slots := 0, locals := 72 } : Room) (va_Pc [.ref (ad 0), .int p0, .int p1] (ArP D cy sz (maW ad cy g a))) (va_Qi (fun (r : Int32) (u : Gs × As) => (post_X7_makers g a p0 p1) r u.1 u.2) (fun u t => va_P D vwCl (maW ad cy u.1 u.2) t.heap) (va_A (maW ad cy g a) sz)) 0 0 (va_A (maW ad cy g a) sz) := by
  apply met_X7_makers
  intro J hJ r hr
  unfold post_X7_isBy at hr
  subst hr
  have hm1 : (-1 : Int32).toInt = -1 := rfl
  refine ⟨fun h => ⟨Or.inl ⟨Or.inl (zb_0 h), rfl⟩, KS.rf⟩, fun h => ⟨fun h2 => ⟨zb_1 h, fun r16 g16 a16 hw => ?_⟩, fun h2 => ⟨Or.inl ⟨Or.inr (by rw [i_le, hm1] at h2; omega), rfl⟩, KS.rf⟩⟩⟩
  have hdv : Dv p0 := zb_1 h
  have hi1 : -1 ≤ p1.toInt := by rw [i_le] at h2; exact h2
  obtain ⟨rfl, rfl, f, rfl, hf⟩ := hw
  obtain ⟨n, hn, rfl, hn2⟩ := of_i (x := p0) (by have := hdv.1; omega)
  obtain ⟨d1, d2⟩ := id hdv
  have tnn : tn (nI n) = n := tn_nI hn
  rw [tnn] at hf ⊢
  have hU := fb_ct_le (UB n) n
  have hU1 : 1 ≤ U n := fb_ct_pos.mpr ⟨1, by omega, decide_eq_true (Nat.gcd_one_right n)⟩
  have hU : U n ≤ n := hU
  refine ith_loop (J := fun x y => J (nI (U n)) x y g16 (va_up a 9 f)) (post := fun r => post_X7_makers g16 a (nI n) p1 r g16 (va_up a 9 f)) (p := OrdB (U n) n) (N := n) (lo := 0) (i := p1) hn (Nat.zero_le n) hi1 rfl (fun r hr => ⟨Or.inr ⟨⟨hdv, hi1⟩, by rw [tnn]; exact hr⟩, KS.up (by omega) f⟩) (fun k hk c1 c2 => ?_) (fun k x hk _ hx c1 c2 c3 => ?_)
  · refine hJ _ _ _ _ _ (pk_le n n (fun _ => ⟨fun h3 => c2 (fun q => ?_), fun h3 => c1 ?_⟩) (fun h => absurd h (by omega)))
    · rw [i_le, Int32.toInt_zero, q, hm1] at h3; omega
    · rw [i_le, Int32.toInt_zero] at h3; exact i_m1.mp (by omega)
  · obtain ⟨v, v1, v2, v3⟩ := hf x (by omega)
    refine hJ _ _ _ _ _ (pk_le n x (fun h => absurd h (by omega)) (fun _ => ⟨pk_in x 50002 (by omega), ?_⟩))
    rw [up_0, show (nI x).toNatClampNeg = x from tn_nI (by omega), nI_1, nI_1]
    refine pk_eq v (U n) (fun h3 => ?_) (fun h3 => c1 (cb_f (fun q => ?_))) v2
    · have ho : IsOrd n x (U n) := by
        rcases v3 with ⟨v3, -⟩ | v3
        · omega
        · rw [← h3]; exact v3
      exact ⟨c2 (cb_t ho), c3 (cb_t ho)⟩
    · rcases v3 with ⟨-, v3⟩ | v3
      · exact v3 (cop_of_pow q.1 q.2.1)
      · exact h3 (ord_one v3 q)
