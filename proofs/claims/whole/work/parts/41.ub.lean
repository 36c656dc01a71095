def pre_X6_unitsOfOrder (g : Gs) (a : As) (w : Ws) (p0 : Int32) : Prop := 1 ≤ p0.toInt ∧ p0.toInt ≤ 50000 ∧ ∃ n, n ≤ 50001 ∧ Fac 0 n g a
set_option maxHeartbeats 4000000 in
set_option maxRecDepth 100000 in
theorem met_X6_unitsOfOrder (l : Launch) (D : va_G) (cy : Nat → ClassId) (ad : Nat → Nat) (sz : Nat) (g : Gs) (a : As) (w : Ws) (p0 : Int32) (post : Int32 → Gs → As → Ws → Prop)
  (hV : ∀ (J12 : Int32 → Int32 → Gs → As → Ws → Prop) (J29 : Int32 → Int32 → Int32 → Int32 → Gs → As → Ws → Prop),
    (∀ (x2 : Int32) (x3 : Int32) (g_ : Gs) (a_ : As) (w_ : Ws), (((g_ 1) ≤ x3 → post x2 g_ a_ w_) ∧ (¬ (g_ 1) ≤ x3 → J29 x2 x3 (1 : Int32) (1 : Int32) g_ a_ w_)) → J12 x2 x3 g_ a_ w_) →
    (∀ (x2 : Int32) (x3 : Int32) (x4 : Int32) (x5 : Int32) (g_ : Gs) (a_ : As) (w_ : Ws), vp_in x3 8 ∧ (((((a_ 3) x3.toNatClampNeg) ≤ x5 → vp_in x3 8 ∧ (pre_X0_rootsOfOne 0 g_ a_ w_ (x4 * ((a_ 1) x3.toNatClampNeg)) ∧ (∀ r80 : Int32, post_X0_rootsOfOne 0 g_ a_ w_ (x4 * ((a_ 1) x3.toNatClampNeg)) r80 → pre_X0_rootsOfOne 0 g_ a_ w_ x4 ∧ (∀ r89 : Int32, post_X0_rootsOfOne 0 g_ a_ w_ x4 r89 → J12 (x2 * (r80 - r89)) (x3 + 1) g_ a_ w_)))) ∧ (¬ ((a_ 3) x3.toNatClampNeg) ≤ x5 → vp_in x3 8 ∧ (J29 x2 x3 (x4 * ((a_ 1) x3.toNatClampNeg)) (x5 + 1) g_ a_ w_)))) → J29 x2 x3 x4 x5 g_ a_ w_) →
    pre_X0_split 1 g a w p0 ∧ (∀ (g5 : Gs) (a5 : As) (w5 : Ws), post_X0_split 1 g a w p0 g5 a5 w5 → J12 (1 : Int32) (0 : Int32) g5 a5 w5)) :
  Met l yX6_unitsOfOrder wsX6_unitsOfOrder ({ frames := 2, cells := 0, slots := 0, locals := 48 } : Room) (va_Pc [.ref (ad 0), .int p0] (ArP D cy sz (caW ad cy g a w))) (va_Qi (fun (r : Int32) (u : Gs × As × Ws) => post r u.1 u.2.1 u.2.2) (fun u t => va_P D vwCl (caW ad cy u.1 u.2.1 u.2.2) t.heap) (va_A (caW ad cy g a w) sz)) 0 0 (va_A (caW ad cy g a w) sz) := by
  refine Met.ofW (cc := cX6_unitsOfOrder) (maxL := 6) (ret := (some .int)) (by decide) rfl ?_
  intro p e s m args below meth c s₁ B hml hv
  obtain ⟨rfl, hsz, hP, hK, hD0, hN⟩ := hv
  have hx := B.exec
  have hb := B.bytes
  have hr := B.returns
  have hts := atoms_spec (ws := wsX6_unitsOfOrder) B.pre
  have hown : s.vm.findClass RX6 = some m.cls := findClass_of_methodNamed B.named
  have hlocks := B.notSynchronized
  subst hsz
  have hD := hD0.self (sz := s.heap.size)
  have hP : va_P D vwCl (caW ad cy g a w) s.heap := hP
  have hD : va_D (va_A (caW ad cy g a w) s.heap.size) (caW ad cy g a w) := hD
  have hS : va_S (va_A (caW ad cy g a w) s.heap.size) s.heap s.heap [] := va_S.rf
  have hA : ∀ q : Nat, s.heap.size ≤ q → va_A (caW ad cy g a w) s.heap.size q := fun q h => Or.inr h
  obtain ⟨J12, iJ12, oJ12⟩ : ∃ J : Int32 → Int32 → Gs → As → Ws → Prop, (∀ (x2 : Int32) (x3 : Int32) (g_ : Gs) (a_ : As) (w_ : Ws), (∀ (H : Heap) (locs : List Loc), va_P D vwCl (caW ad cy g_ a_ w_) H → va_S (va_A (caW ad cy g a w) s.heap.size) s.heap H locs → ∀ ls : Array Slot, lv_has ls 6 [(0, .ref (ad 0)), (2, .int x2), (3, .int x3)] → W p l e (headSpec wsX6_unitsOfOrder ({ frames := 2, cells := 0, slots := 0, locals := 48 } : Room)).room s m [.ref (ad 0), .int p0].toArray below meth c H locs 0 0 (MQ below (va_Qi (fun (r : Int32) (u : Gs × As × Ws) => post r u.1 u.2.1 u.2.2) (fun u t => va_P D vwCl (caW ad cy u.1 u.2.1 u.2.2) t.heap) (va_A (caW ad cy g a w) s.heap.size)) [.ref (ad 0), .int p0].toArray s 0 0 (va_A (caW ad cy g a w) s.heap.size)) (F0 m 12 ls [])) → J x2 x3 g_ a_ w_) ∧ (∀ (x2 : Int32) (x3 : Int32) (g_ : Gs) (a_ : As) (w_ : Ws), J x2 x3 g_ a_ w_ → (∀ (H : Heap) (locs : List Loc), va_P D vwCl (caW ad cy g_ a_ w_) H → va_S (va_A (caW ad cy g a w) s.heap.size) s.heap H locs → ∀ ls : Array Slot, lv_has ls 6 [(0, .ref (ad 0)), (2, .int x2), (3, .int x3)] → W p l e (headSpec wsX6_unitsOfOrder ({ frames := 2, cells := 0, slots := 0, locals := 48 } : Room)).room s m [.ref (ad 0), .int p0].toArray below meth c H locs 0 0 (MQ below (va_Qi (fun (r : Int32) (u : Gs × As × Ws) => post r u.1 u.2.1 u.2.2) (fun u t => va_P D vwCl (caW ad cy u.1 u.2.1 u.2.2) t.heap) (va_A (caW ad cy g a w) s.heap.size)) [.ref (ad 0), .int p0].toArray s 0 0 (va_A (caW ad cy g a w) s.heap.size)) (F0 m 12 ls []))) := ⟨fun (x2 : Int32) (x3 : Int32) (g_ : Gs) (a_ : As) (w_ : Ws) => (∀ (H : Heap) (locs : List Loc), va_P D vwCl (caW ad cy g_ a_ w_) H → va_S (va_A (caW ad cy g a w) s.heap.size) s.heap H locs → ∀ ls : Array Slot, lv_has ls 6 [(0, .ref (ad 0)), (2, .int x2), (3, .int x3)] → W p l e (headSpec wsX6_unitsOfOrder ({ frames := 2, cells := 0, slots := 0, locals := 48 } : Room)).room s m [.ref (ad 0), .int p0].toArray below meth c H locs 0 0 (MQ below (va_Qi (fun (r : Int32) (u : Gs × As × Ws) => post r u.1 u.2.1 u.2.2) (fun u t => va_P D vwCl (caW ad cy u.1 u.2.1 u.2.2) t.heap) (va_A (caW ad cy g a w) s.heap.size)) [.ref (ad 0), .int p0].toArray s 0 0 (va_A (caW ad cy g a w) s.heap.size)) (F0 m 12 ls [])), fun _ _ _ _ _ h => h, fun _ _ _ _ _ h => h⟩
  obtain ⟨J29, iJ29, oJ29⟩ : ∃ J : Int32 → Int32 → Int32 → Int32 → Gs → As → Ws → Prop, (∀ (x2 : Int32) (x3 : Int32) (x4 : Int32) (x5 : Int32) (g_ : Gs) (a_ : As) (w_ : Ws), (∀ (H : Heap) (locs : List Loc), va_P D vwCl (caW ad cy g_ a_ w_) H → va_S (va_A (caW ad cy g a w) s.heap.size) s.heap H locs → ∀ ls : Array Slot, lv_has ls 6 [(0, .ref (ad 0)), (2, .int x2), (3, .int x3), (4, .int x4), (5, .int x5)] → W p l e (headSpec wsX6_unitsOfOrder ({ frames := 2, cells := 0, slots := 0, locals := 48 } : Room)).room s m [.ref (ad 0), .int p0].toArray below meth c H locs 0 0 (MQ below (va_Qi (fun (r : Int32) (u : Gs × As × Ws) => post r u.1 u.2.1 u.2.2) (fun u t => va_P D vwCl (caW ad cy u.1 u.2.1 u.2.2) t.heap) (va_A (caW ad cy g a w) s.heap.size)) [.ref (ad 0), .int p0].toArray s 0 0 (va_A (caW ad cy g a w) s.heap.size)) (F0 m 29 ls [])) → J x2 x3 x4 x5 g_ a_ w_) ∧ (∀ (x2 : Int32) (x3 : Int32) (x4 : Int32) (x5 : Int32) (g_ : Gs) (a_ : As) (w_ : Ws), J x2 x3 x4 x5 g_ a_ w_ → (∀ (H : Heap) (locs : List Loc), va_P D vwCl (caW ad cy g_ a_ w_) H → va_S (va_A (caW ad cy g a w) s.heap.size) s.heap H locs → ∀ ls : Array Slot, lv_has ls 6 [(0, .ref (ad 0)), (2, .int x2), (3, .int x3), (4, .int x4), (5, .int x5)] → W p l e (headSpec wsX6_unitsOfOrder ({ frames := 2, cells := 0, slots := 0, locals := 48 } : Room)).room s m [.ref (ad 0), .int p0].toArray below meth c H locs 0 0 (MQ below (va_Qi (fun (r : Int32) (u : Gs × As × Ws) => post r u.1 u.2.1 u.2.2) (fun u t => va_P D vwCl (caW ad cy u.1 u.2.1 u.2.2) t.heap) (va_A (caW ad cy g a w) s.heap.size)) [.ref (ad 0), .int p0].toArray s 0 0 (va_A (caW ad cy g a w) s.heap.size)) (F0 m 29 ls []))) := ⟨fun (x2 : Int32) (x3 : Int32) (x4 : Int32) (x5 : Int32) (g_ : Gs) (a_ : As) (w_ : Ws) => (∀ (H : Heap) (locs : List Loc), va_P D vwCl (caW ad cy g_ a_ w_) H → va_S (va_A (caW ad cy g a w) s.heap.size) s.heap H locs → ∀ ls : Array Slot, lv_has ls 6 [(0, .ref (ad 0)), (2, .int x2), (3, .int x3), (4, .int x4), (5, .int x5)] → W p l e (headSpec wsX6_unitsOfOrder ({ frames := 2, cells := 0, slots := 0, locals := 48 } : Room)).room s m [.ref (ad 0), .int p0].toArray below meth c H locs 0 0 (MQ below (va_Qi (fun (r : Int32) (u : Gs × As × Ws) => post r u.1 u.2.1 u.2.2) (fun u t => va_P D vwCl (caW ad cy u.1 u.2.1 u.2.2) t.heap) (va_A (caW ad cy g a w) s.heap.size)) [.ref (ad 0), .int p0].toArray s 0 0 (va_A (caW ad cy g a w) s.heap.size)) (F0 m 29 ls [])), fun _ _ _ _ _ _ _ h => h, fun _ _ _ _ _ _ _ h => h⟩
  have hV := hV J12 J29
  replace hV := hV (by
    intro x2 x3 g_ a_ w_ hV
    refine iJ12 x2 x3 g_ a_ w_ ?_
    intro H locs hP hS ls hl
    refine lv_iload_n hx hb dX6_unitsOfOrder_12 rfl (lv_at hl 2 rfl) ?_
    refine lv_aload_n hx hb dX6_unitsOfOrder_13 rfl (lv_at hl 0 rfl) ?_
    refine va_get (D := D) (ci := 5) (v := .ref (ad 4)) (C := RX6) (T := TX6) (N := 10) hx hb hts (by decide +kernel) hown hK hP 0 rfl rfl 1 (by decide) (hts (.fieldLink RX6 16 "PowerRests" "ofOrder" "LPowerRests$Factors;") (by decide +kernel)) (fun _ h9 => h9) rfl dX6_unitsOfOrder_14 ?_
    refine va_getN (D := D) (ci := 0) (v := .int (g_ 1)) (C := RX0) (T := TX0) (N := 3) hx hb hts (by decide +kernel) hown hK hP 4 rfl rfl 2 (by decide) (hN.use 0 (q := (RX6, 115, RX0, "kinds", "I")) rfl) (fun _ h9 => h9) rfl dX6_unitsOfOrder_17 ?_
    refine lv_icmp_ge (tgt := 101) hx hb dX6_unitsOfOrder_20 (by decide) (fun c_20 => ?_) (fun c_20 => ?_)
    · have hV := hV.1 c_20
      refine lv_iload_n hx hb dX6_unitsOfOrder_101 rfl (lv_at hl 1 rfl) ?_
      exact W.iret (v := x2) hx hb hr (fun t ht hW => ⟨⟨_, (g_, a_, w_), rfl, hV, ar_heap ht hP⟩, hS.F ht⟩) hS.2.2 dX6_unitsOfOrder_102
    · have hV := hV.2 c_20
      refine lv_iconst (v := (1 : Int32)) hx hb dX6_unitsOfOrder_23 (by decide) ?_
      refine lv_istore (lv' := [(4, .int (1 : Int32)), (0, .ref (ad 0)), (2, .int x2), (3, .int x3)]) hx hb dX6_unitsOfOrder_24 hl (by decide) rfl (fun ls hl => ?_)
      refine lv_iconst (v := (1 : Int32)) hx hb dX6_unitsOfOrder_26 (by decide) ?_
      refine lv_istore (lv' := [(5, .int (1 : Int32)), (4, .int (1 : Int32)), (0, .ref (ad 0)), (2, .int x2), (3, .int x3)]) hx hb dX6_unitsOfOrder_27 hl (by decide) rfl (fun ls hl => ?_)
      exact oJ29 _ _ _ _ _ _ _ hV _ _ hP hS _ (lv_sub hl [2, 3, 4, 1, 0] rfl))
  replace hV := hV (by
    intro x2 x3 x4 x5 g_ a_ w_ hV
    refine iJ29 x2 x3 x4 x5 g_ a_ w_ ?_
    intro H locs hP hS ls hl
    refine lv_iload hx hb dX6_unitsOfOrder_29 (lv_at hl 4 rfl) ?_
    refine lv_aload_n hx hb dX6_unitsOfOrder_31 rfl (lv_at hl 0 rfl) ?_
    refine va_get (D := D) (ci := 5) (v := .ref (ad 4)) (C := RX6) (T := TX6) (N := 10) hx hb hts (by decide +kernel) hown hK hP 0 rfl rfl 1 (by decide) (hts (.fieldLink RX6 16 "PowerRests" "ofOrder" "LPowerRests$Factors;") (by decide +kernel)) (fun _ h9 => h9) rfl dX6_unitsOfOrder_32 ?_
    refine va_getN (D := D) (ci := 0) (v := .ref (ad 6)) (C := RX0) (T := TX0) (N := 3) hx hb hts (by decide +kernel) hown hK hP 4 rfl rfl 1 (by decide) (hN.use 2 (q := (RX6, 125, RX0, "times", "[I")) rfl) (fun _ h9 => h9) rfl dX6_unitsOfOrder_35 ?_
    refine lv_iload_n hx hb dX6_unitsOfOrder_38 rfl (lv_at hl 2 rfl) ?_
    obtain ⟨h_39, hV⟩ := hV
    refine va_iald (f := (a_ 3)) hx hb hK hP 6 0 rfl rfl h_39 dX6_unitsOfOrder_39 ?_
    refine lv_icmp_ge (tgt := 63) hx hb dX6_unitsOfOrder_40 (by decide) (fun c_40 => ?_) (fun c_40 => ?_)
    · have hV := hV.1 c_40
      refine lv_iload_n hx hb dX6_unitsOfOrder_63 rfl (lv_at hl 1 rfl) ?_
      refine lv_aload_n hx hb dX6_unitsOfOrder_64 rfl (lv_at hl 0 rfl) ?_
      refine va_get (D := D) (ci := 5) (v := .ref (ad 1)) (C := RX6) (T := TX6) (N := 10) hx hb hts (by decide +kernel) hown hK hP 0 rfl rfl 0 (by decide) (hts (.fieldLink RX6 10 "PowerRests" "ofN" "LPowerRests$Factors;") (by decide +kernel)) (fun _ h9 => h9) rfl dX6_unitsOfOrder_65 ?_
      refine lv_iload hx hb dX6_unitsOfOrder_68 (lv_at hl 3 rfl) ?_
      refine lv_aload_n hx hb dX6_unitsOfOrder_70 rfl (lv_at hl 0 rfl) ?_
      refine va_get (D := D) (ci := 5) (v := .ref (ad 4)) (C := RX6) (T := TX6) (N := 10) hx hb hts (by decide +kernel) hown hK hP 0 rfl rfl 1 (by decide) (hts (.fieldLink RX6 16 "PowerRests" "ofOrder" "LPowerRests$Factors;") (by decide +kernel)) (fun _ h9 => h9) rfl dX6_unitsOfOrder_71 ?_
      refine va_getN (D := D) (ci := 0) (v := .ref (ad 5)) (C := RX0) (T := TX0) (N := 3) hx hb hts (by decide +kernel) hown hK hP 4 rfl rfl 0 (by decide) (hN.use 1 (q := (RX6, 119, RX0, "primes", "[I")) rfl) (fun _ h9 => h9) rfl dX6_unitsOfOrder_74 ?_
      refine lv_iload_n hx hb dX6_unitsOfOrder_77 rfl (lv_at hl 2 rfl) ?_
      obtain ⟨h_78, hV⟩ := hV
      refine va_iald (f := (a_ 1)) hx hb hK hP 5 0 rfl rfl h_78 dX6_unitsOfOrder_78 ?_
      refine lv_imul hx hb dX6_unitsOfOrder_79 ?_
      obtain ⟨h_80, hV⟩ := hV
      refine cp_i (va_runV (As := [.int (x4 * ((a_ 1) x3.toNatClampNeg))]) (rest := [.int x2]) ⟨hx, hb, hml, hown, hts⟩ (spec_X0_rootsOfOne l 0 (by decide) D cy ad _ g_ a_ w_ (x4 * ((a_ 1) x3.toNatClampNeg)) h_80) (cwV 1 hts gX6_unitsOfOrder_X0_rootsOfOne rfl rfl rfl (by decide +kernel) ⟨Nat.le_of_ble_eq_true rfl, Nat.le_of_ble_eq_true rfl⟩) (ar_preV hN hK hP (caD hD) (ci := 0) (q0 := 1) rfl rfl) rfl rfl hl.1 rfl (lv_room (Nat.le_of_ble_eq_true rfl)) dX6_unitsOfOrder_80 ⟨Nat.zero_le _, Nat.zero_le _⟩) (fun r80 q_80 => ?_)
      have hV := hV r80 q_80
      refine lv_aload_n hx hb dX6_unitsOfOrder_83 rfl (lv_at hl 0 rfl) ?_
      refine va_get (D := D) (ci := 5) (v := .ref (ad 1)) (C := RX6) (T := TX6) (N := 10) hx hb hts (by decide +kernel) hown hK hP 0 rfl rfl 0 (by decide) (hts (.fieldLink RX6 10 "PowerRests" "ofN" "LPowerRests$Factors;") (by decide +kernel)) (fun _ h9 => h9) rfl dX6_unitsOfOrder_84 ?_
      refine lv_iload hx hb dX6_unitsOfOrder_87 (lv_at hl 3 rfl) ?_
      obtain ⟨h_89, hV⟩ := hV
      refine cp_i (va_runV (As := [.int x4]) (rest := [.int r80, .int x2]) ⟨hx, hb, hml, hown, hts⟩ (spec_X0_rootsOfOne l 0 (by decide) D cy ad _ g_ a_ w_ x4 h_89) (cwV 1 hts gX6_unitsOfOrder_X0_rootsOfOne rfl rfl rfl (by decide +kernel) ⟨Nat.le_of_ble_eq_true rfl, Nat.le_of_ble_eq_true rfl⟩) (ar_preV hN hK hP (caD hD) (ci := 0) (q0 := 1) rfl rfl) rfl rfl hl.1 rfl (lv_room (Nat.le_of_ble_eq_true rfl)) dX6_unitsOfOrder_89 ⟨Nat.zero_le _, Nat.zero_le _⟩) (fun r89 q_89 => ?_)
      have hV := hV r89 q_89
      refine lv_isub hx hb dX6_unitsOfOrder_92 ?_
      refine lv_imul hx hb dX6_unitsOfOrder_93 ?_
      refine lv_istore_n (lv' := [(2, .int (x2 * (r80 - r89))), (0, .ref (ad 0)), (3, .int x3), (4, .int x4), (5, .int x5)]) hx hb dX6_unitsOfOrder_94 rfl hl (by decide) rfl (fun ls hl => ?_)
      refine lv_iinc (v := x3 + 1) (lv' := [(3, .int (x3 + 1)), (2, .int (x2 * (r80 - r89))), (0, .ref (ad 0)), (4, .int x4), (5, .int x5)]) hx hb dX6_unitsOfOrder_95 hl (k := 2) rfl rfl (by decide) rfl (fun ls hl => ?_)
      refine lv_goto (tgt := 12) hx hb dX6_unitsOfOrder_98 (by decide) ?_
      exact oJ12 _ _ _ _ _ hV _ _ hP hS _ (lv_sub hl [2, 1, 0] rfl)
    · have hV := hV.2 c_40
      refine lv_iload hx hb dX6_unitsOfOrder_43 (lv_at hl 3 rfl) ?_
      refine lv_aload_n hx hb dX6_unitsOfOrder_45 rfl (lv_at hl 0 rfl) ?_
      refine va_get (D := D) (ci := 5) (v := .ref (ad 4)) (C := RX6) (T := TX6) (N := 10) hx hb hts (by decide +kernel) hown hK hP 0 rfl rfl 1 (by decide) (hts (.fieldLink RX6 16 "PowerRests" "ofOrder" "LPowerRests$Factors;") (by decide +kernel)) (fun _ h9 => h9) rfl dX6_unitsOfOrder_46 ?_
      refine va_getN (D := D) (ci := 0) (v := .ref (ad 5)) (C := RX0) (T := TX0) (N := 3) hx hb hts (by decide +kernel) hown hK hP 4 rfl rfl 0 (by decide) (hN.use 1 (q := (RX6, 119, RX0, "primes", "[I")) rfl) (fun _ h9 => h9) rfl dX6_unitsOfOrder_49 ?_
      refine lv_iload_n hx hb dX6_unitsOfOrder_52 rfl (lv_at hl 2 rfl) ?_
      obtain ⟨h_53, hV⟩ := hV
      refine va_iald (f := (a_ 1)) hx hb hK hP 5 0 rfl rfl h_53 dX6_unitsOfOrder_53 ?_
      refine lv_imul hx hb dX6_unitsOfOrder_54 ?_
      refine lv_istore (lv' := [(4, .int (x4 * ((a_ 1) x3.toNatClampNeg))), (0, .ref (ad 0)), (2, .int x2), (3, .int x3), (5, .int x5)]) hx hb dX6_unitsOfOrder_55 hl (by decide) rfl (fun ls hl => ?_)
      refine lv_iinc (v := x5 + 1) (lv' := [(5, .int (x5 + 1)), (4, .int (x4 * ((a_ 1) x3.toNatClampNeg))), (0, .ref (ad 0)), (2, .int x2), (3, .int x3)]) hx hb dX6_unitsOfOrder_57 hl (k := 4) rfl rfl (by decide) rfl (fun ls hl => ?_)
      refine lv_goto (tgt := 29) hx hb dX6_unitsOfOrder_60 (by decide) ?_
      exact oJ29 _ _ _ _ _ _ _ hV _ _ hP hS _ (lv_sub hl [2, 3, 4, 1, 0] rfl))
  have hl := lv_entry ([.ref (ad 0), .int p0]) (n := 6) (Nat.le_of_ble_eq_true rfl)
  rw [lg_entry_eq]
  generalize (lg_sl ([.ref (ad 0), .int p0]) ++ List.replicate (6 - (lg_sl ([.ref (ad 0), .int p0])).length) Slot.unset).toArray = ls at hl ⊢
  have hl : lv_has ls 6 [(0, .ref (ad 0)), (1, .int p0)] := hl
  refine lv_aload_n hx hb dX6_unitsOfOrder_0 rfl (lv_at hl 0 rfl) ?_
  refine va_get (D := D) (ci := 5) (v := .ref (ad 4)) (C := RX6) (T := TX6) (N := 10) hx hb hts (by decide +kernel) hown hK hP 0 rfl rfl 1 (by decide) (hts (.fieldLink RX6 16 "PowerRests" "ofOrder" "LPowerRests$Factors;") (by decide +kernel)) (fun _ h9 => h9) rfl dX6_unitsOfOrder_1 ?_
  refine lv_iload_n hx hb dX6_unitsOfOrder_4 rfl (lv_at hl 1 rfl) ?_
  obtain ⟨h_5, hV⟩ := hV
  refine cw_v (va_runV (As := [.int p0]) (rest := []) ⟨hx, hb, hml, hown, hts⟩ (spec_X0_split l 1 (by decide) D cy ad _ g a w p0 h_5) (cwV 1 hts gX6_unitsOfOrder_X0_split rfl rfl rfl (by decide +kernel) ⟨Nat.le_of_ble_eq_true rfl, Nat.le_of_ble_eq_true rfl⟩) (ar_preV hN hK hP (caD hD) (ci := 0) (q0 := 4) rfl rfl) rfl rfl hl.1 rfl (lv_room (Nat.le_of_ble_eq_true rfl)) dX6_unitsOfOrder_5 ⟨Nat.zero_le _, Nat.zero_le _⟩) hS (caD hD) hA (fun u_5 H locs q_5 hP hS => ?_)
  obtain ⟨g5, a5, w5⟩ := u_5
  have hV := hV g5 a5 w5 q_5
  have hP : va_P D vwCl (caW ad cy g5 a5 w5) H := hP
  refine lv_iconst (v := (1 : Int32)) hx hb dX6_unitsOfOrder_8 (by decide) ?_
  refine lv_istore_n (lv' := [(2, .int (1 : Int32)), (0, .ref (ad 0)), (1, .int p0)]) hx hb dX6_unitsOfOrder_9 rfl hl (by decide) rfl (fun ls hl => ?_)
  refine lv_iconst (v := (0 : Int32)) hx hb dX6_unitsOfOrder_10 (by decide) ?_
  refine lv_istore_n (lv' := [(3, .int (0 : Int32)), (2, .int (1 : Int32)), (0, .ref (ad 0)), (1, .int p0)]) hx hb dX6_unitsOfOrder_11 rfl hl (by decide) rfl (fun ls hl => ?_)
  exact oJ12 _ _ _ _ _ hV _ _ hP hS _ (lv_sub hl [2, 1, 0] rfl)
def post_X6_unitsOfOrder (g : Gs) (a : As) (w : Ws) (p0 r : Int32) (g' : Gs) (a' : As) (w' : Ws) : Prop := (∃ n, Fac 0 n g a ∧ r = nI (fb_ct (OrdB (tn p0) n) n)) ∧ FS g a w g' a' w'
set_option maxRecDepth 4000 in
theorem spec_X6_unitsOfOrder (l : Launch) (D : va_G) (cy : Nat → ClassId) (ad : Nat → Nat) (sz : Nat) (g : Gs) (a : As) (w : Ws) (p0 : Int32) (hpre : pre_X6_unitsOfOrder g a w p0) : Met l yX6_unitsOfOrder wsX6_unitsOfOrder ({ frames := 2, cells := 0, slots := 0, locals := 48 } : Room) (va_Pc [.ref (ad 0), .int p0] (ArP D cy sz (caW ad cy g a w))) (va_Qi (fun (r : Int32) (u : Gs × As × Ws) => (post_X6_unitsOfOrder g a w p0) r u.1 u.2.1 u.2.2) (fun u t => va_P D vwCl (caW ad cy u.1 u.2.1 u.2.2) t.heap) (va_A (caW ad cy g a w) sz)) 0 0 (va_A (caW ad cy g a w) sz) := by
  apply met_X6_unitsOfOrder
  intro J12 J29 h12 h29
  obtain ⟨q0, q1, n, hn, hF0⟩ := hpre
  obtain ⟨e, he, rfl, he2⟩ := of_i (x := p0) (by omega)
  have tne : tn (nI e) = e := tn_nI he
  refine ⟨⟨by omega, by omega⟩, fun g1 a1 w1 hsp => ?_⟩
  have hFS := split_FS (by decide) hsp
  have hF := split_keep hsp hF0
  have hG : Fac 1 e g1 a1 := by have := hsp.2.1 (by rw [tne]; omega); rwa [tne] at this
  have hn1 := fac_n1 hF.1
  have h7 := hG.few
  have key : ∀ (d k : Nat), k + d = tn (g1 1) → J12 (nI (prodF (fun i => fb_ct (OB (PP 1 a1 i ^ TT 1 a1 i) n) n - fb_ct (OB (PP 1 a1 i ^ (TT 1 a1 i - 1)) n) n) k)) (nI k) g1 a1 w1 := by
    intro d
    induction d with
    | zero =>
      intro k hk
      refine h12 _ _ _ _ _ ?_
      rw [hG.2.2.1]
      refine pk_le (tn (g1 1)) k (fun _ => ⟨⟨n, hF0, ?_⟩, hFS⟩) (fun h => absurd h (by omega))
      rw [tne, ord_fac hn1 hG.1, show k = tn (g1 1) by omega]
    | succ d ih =>
      intro k hk
      have hkm : k < tn (g1 1) := by omega
      obtain ⟨i1, i2, i3, i4, i5, i6, i7, i8, i9⟩ := hG.at hkm
      refine h12 _ _ _ _ _ ?_
      rw [hG.2.2.1]
      refine pk_le (tn (g1 1)) k (fun h => absurd h (by omega)) (fun _ => ?_)
      have inner : ∀ (s t : Nat), t + s = TT 1 a1 k → 1 ≤ t → J29 (nI (prodF (fun i => fb_ct (OB (PP 1 a1 i ^ TT 1 a1 i) n) n - fb_ct (OB (PP 1 a1 i ^ (TT 1 a1 i - 1)) n) n) k)) (nI k) (nI (PP 1 a1 k ^ (t - 1))) (nI t) g1 a1 w1 := by
        intro s
        induction s with
        | zero =>
          intro t ht ht1
          have htT : t = TT 1 a1 k := by omega
          refine h29 _ _ _ _ _ _ _ ⟨i1, ?_⟩
          rw [show (nI k).toNatClampNeg = k from i2, i3, i4]
          have hpw : PP 1 a1 k ^ (t - 1) * PP 1 a1 k = PP 1 a1 k ^ TT 1 a1 k := by
            rw [← Nat.pow_succ]; congr 1; omega
          have hlow : PP 1 a1 k ^ (t - 1) ≤ PP 1 a1 k ^ TT 1 a1 k := Nat.pow_le_pow_right (by omega) (by omega)
          refine pk_le (TT 1 a1 k) t (fun _ => ⟨i1, ?_⟩) (fun h => absurd h (by omega))
          rw [pk_mul, hpw]
          refine ⟨⟨by rw [nI_toInt (by omega)]; omega, n, hF⟩, fun r hr => ⟨⟨by rw [nI_toInt (by omega)]; omega, n, hF⟩, fun r2 hr2 => ?_⟩⟩
          unfold post_X0_rootsOfOne at hr hr2
          rw [tn_nI (by omega)] at hr hr2
          have hp1 : 1 ≤ PP 1 a1 k ^ TT 1 a1 k := Nat.pow_pos (by omega)
          have hp2 : 1 ≤ PP 1 a1 k ^ (t - 1) := Nat.pow_pos (by omega)
          rw [← roo_fac hF.1 hn hp1] at hr
          rw [← roo_fac hF.1 hn hp2] at hr2
          have hpp := ord_pp (n := n) (hG.1.2.1 k hkm).1 (hG.1.2.1 k hkm).2
          have hsub : fb_ct (OB (PP 1 a1 k ^ (t - 1)) n) n ≤ fb_ct (OB (PP 1 a1 k ^ TT 1 a1 k) n) n := by
            rw [htT]
            show fb_ct (OB (PP 1 a1 k ^ (TT 1 a1 k - 1)) n) n ≤ _
            omega
          rw [hr, hr2, pk_sub hsub, pk_mul, nI_1, htT]
          exact ih (k + 1) (by omega)
        | succ s ihs =>
          intro t ht ht1
          refine h29 _ _ _ _ _ _ _ ⟨i1, ?_⟩
          rw [show (nI k).toNatClampNeg = k from i2, i3, i4]
          refine pk_le (TT 1 a1 k) t (fun h => absurd h (by omega)) (fun _ => ⟨i1, ?_⟩)
          rw [pk_mul, nI_1]
          have hpw : PP 1 a1 k ^ (t - 1) * PP 1 a1 k = PP 1 a1 k ^ (t + 1 - 1) := by
            rw [← Nat.pow_succ]; congr 1; omega
          rw [hpw]
          exact ihs (t + 1) (by omega) (by omega)
      have st := inner (TT 1 a1 k - 1) 1 (by omega) (Nat.le_refl 1)
      rw [Nat.sub_self, Nat.pow_zero] at st
      exact st
  exact key (tn (g1 1)) 0 (by omega)
/-- the greatest order -/
def Great (n L : Nat) : Prop := (∃ x, IsOrd n x L) ∧ ∀ x e, IsOrd n x e → e ≤ L
def OrdersAns (n e what r : Int32) : Prop := ((¬ Dv n ∨ what.toInt < 0 ∨ 1 < what.toInt ∨ (what = 1 ∧ (e.toInt < 1 ∨ 50000 < e.toInt))) ∧ r = -1) ∨ (Dv n ∧ ((what = 0 ∧ ∃ L, Great (tn n) L ∧ r = nI L) ∨ (what = 1 ∧ (1 ≤ e.toInt ∧ e.toInt ≤ 50000) ∧ r = nI (fb_ct (OrdB (tn e) (tn n)) (tn n)))))
set_option maxHeartbeats 4000000 in
set_option maxRecDepth 100000 in
theorem met_X6_orders (l : Launch) (D : va_G) (cy : Nat → ClassId) (ad : Nat → Nat) (sz : Nat) (g : Gs) (a : As) (w : Ws) (p0 : Int32) (p1 : Int32) (p2 : Int32) (post : Int32 → Gs → As → Ws → Prop)
  (hV : ∀ r1 : Int32, post_X6_isDivisor p0 r1 → ((r1 = 0 → post (-1 : Int32) g a w) ∧ (¬ r1 = 0 → ((p2 < 0 → post (-1 : Int32) g a w) ∧ (¬ p2 < 0 → ((p2 ≤ (1 : Int32) → ((p2 = (1 : Int32) → ((p1 < (1 : Int32) → post (-1 : Int32) g a w) ∧ (¬ p1 < (1 : Int32) → ((p1 ≤ (50000 : Int32) → pre_X0_split 0 g a w p0 ∧ (∀ (g41 : Gs) (a41 : As) (w41 : Ws), post_X0_split 0 g a w p0 g41 a41 w41 → ((p2 = 0 → pre_X0_greatestOrder 0 g41 a41 w41 ∧ (∀ r52 : Int32, post_X0_greatestOrder 0 g41 a41 w41 r52 → post r52 g41 a41 w41)) ∧ (¬ p2 = 0 → pre_X6_unitsOfOrder g41 a41 w41 p1 ∧ (∀ (r60 : Int32) (g60 : Gs) (a60 : As) (w60 : Ws), post_X6_unitsOfOrder g41 a41 w41 p1 r60 g60 a60 w60 → post r60 g60 a60 w60))))) ∧ (¬ p1 ≤ (50000 : Int32) → post (-1 : Int32) g a w))))) ∧ (¬ p2 = (1 : Int32) → pre_X0_split 0 g a w p0 ∧ (∀ (g41 : Gs) (a41 : As) (w41 : Ws), post_X0_split 0 g a w p0 g41 a41 w41 → ((p2 = 0 → pre_X0_greatestOrder 0 g41 a41 w41 ∧ (∀ r52 : Int32, post_X0_greatestOrder 0 g41 a41 w41 r52 → post r52 g41 a41 w41)) ∧ (¬ p2 = 0 → pre_X6_unitsOfOrder g41 a41 w41 p1 ∧ (∀ (r60 : Int32) (g60 : Gs) (a60 : As) (w60 : Ws), post_X6_unitsOfOrder g41 a41 w41 p1 r60 g60 a60 w60 → post r60 g60 a60 w60))))))) ∧ (¬ p2 ≤ (1 : Int32) → post (-1 : Int32) g a w))))))) :
  Met l yX6_orders wsX6_orders ({ frames := 3, cells := 0, slots := 0, locals := 73 } : Room) (va_Pc [.ref (ad 0), .int p0, .int p1, .int p2] (ArP D cy sz (caW ad cy g a w))) (va_Qi (fun (r : Int32) (u : Gs × As × Ws) => post r u.1 u.2.1 u.2.2) (fun u t => va_P D vwCl (caW ad cy u.1 u.2.1 u.2.2) t.heap) (va_A (caW ad cy g a w) sz)) 0 0 (va_A (caW ad cy g a w) sz) := by
  refine Met.ofW (cc := cX6_orders) (maxL := 4) (ret := (some .int)) (by decide) rfl ?_
  intro p e s m args below meth c s₁ B hml hv
  obtain ⟨rfl, hsz, hP, hK, hD0, hN⟩ := hv
  have hx := B.exec
  have hb := B.bytes
  have hr := B.returns
  have hts := atoms_spec (ws := wsX6_orders) B.pre
  have hown : s.vm.findClass RX6 = some m.cls := findClass_of_methodNamed B.named
  have hlocks := B.notSynchronized
  subst hsz
  have hD := hD0.self (sz := s.heap.size)
  have hP : va_P D vwCl (caW ad cy g a w) s.heap := hP
  have hD : va_D (va_A (caW ad cy g a w) s.heap.size) (caW ad cy g a w) := hD
  have hS : va_S (va_A (caW ad cy g a w) s.heap.size) s.heap s.heap [] := va_S.rf
  have hA : ∀ q : Nat, s.heap.size ≤ q → va_A (caW ad cy g a w) s.heap.size q := fun q h => Or.inr h
  have hl := lv_entry ([.ref (ad 0), .int p0, .int p1, .int p2]) (n := 4) (Nat.le_of_ble_eq_true rfl)
  rw [lg_entry_eq]
  generalize (lg_sl ([.ref (ad 0), .int p0, .int p1, .int p2]) ++ List.replicate (4 - (lg_sl ([.ref (ad 0), .int p0, .int p1, .int p2])).length) Slot.unset).toArray = ls at hl ⊢
  have hl : lv_has ls 4 [(0, .ref (ad 0)), (1, .int p0), (2, .int p1), (3, .int p2)] := hl
  refine lv_iload_n hx hb dX6_orders_0 rfl (lv_at hl 1 rfl) ?_
  refine cp_i (va_runS (As := [.int p0]) (rest := []) ⟨hx, hb, hml, hown, hts⟩ (spec_X6_isDivisor l p0) (va_cwS 1 hts gX6_orders_X6_isDivisor rfl rfl rfl (by decide +kernel) ⟨Nat.le_of_ble_eq_true rfl, Nat.le_of_ble_eq_true rfl⟩) cp_pre rfl rfl hl.1 rfl (lv_room (Nat.le_of_ble_eq_true rfl)) dX6_orders_1 ⟨Nat.zero_le _, Nat.zero_le _⟩) (fun r1 q_1 => ?_)
  have hV := hV r1 q_1
  refine lv_if_eq (tgt := 16) hx hb dX6_orders_4 (by decide) (fun c_4 => ?_) (fun c_4 => ?_)
  · have hV := hV.1 c_4
    refine lv_iconst (v := (-1 : Int32)) hx hb dX6_orders_16 (by decide) ?_
    exact W.iret (v := (-1 : Int32)) hx hb hr (fun t ht hW => ⟨⟨_, (g, a, w), rfl, hV, ar_heap ht hP⟩, hS.F ht⟩) hS.2.2 dX6_orders_17
  · have hV := hV.2 c_4
    refine lv_iload_n hx hb dX6_orders_7 rfl (lv_at hl 3 rfl) ?_
    refine lv_if_lt (tgt := 16) hx hb dX6_orders_8 (by decide) (fun c_8 => ?_) (fun c_8 => ?_)
    · have hV := hV.1 c_8
      refine lv_iconst (v := (-1 : Int32)) hx hb dX6_orders_16 (by decide) ?_
      exact W.iret (v := (-1 : Int32)) hx hb hr (fun t ht hW => ⟨⟨_, (g, a, w), rfl, hV, ar_heap ht hP⟩, hS.F ht⟩) hS.2.2 dX6_orders_17
    · have hV := hV.2 c_8
      refine lv_iload_n hx hb dX6_orders_11 rfl (lv_at hl 3 rfl) ?_
      refine lv_iconst (v := (1 : Int32)) hx hb dX6_orders_12 (by decide) ?_
      refine lv_icmp_le (tgt := 18) hx hb dX6_orders_13 (by decide) (fun c_13 => ?_) (fun c_13 => ?_)
      · have hV := hV.1 c_13
        refine lv_iload_n hx hb dX6_orders_18 rfl (lv_at hl 3 rfl) ?_
        refine lv_iconst (v := (1 : Int32)) hx hb dX6_orders_19 (by decide) ?_
        refine lv_icmp_ne (tgt := 36) hx hb dX6_orders_20 (by decide) (fun c_20 => ?_) (fun c_20 => ?_)
        · have hV := hV.2 c_20
          refine lv_aload_n hx hb dX6_orders_36 rfl (lv_at hl 0 rfl) ?_
          refine va_get (D := D) (ci := 5) (v := .ref (ad 1)) (C := RX6) (T := TX6) (N := 10) hx hb hts (by decide +kernel) hown hK hP 0 rfl rfl 0 (by decide) (hts (.fieldLink RX6 10 "PowerRests" "ofN" "LPowerRests$Factors;") (by decide +kernel)) (fun _ h9 => h9) rfl dX6_orders_37 ?_
          refine lv_iload_n hx hb dX6_orders_40 rfl (lv_at hl 1 rfl) ?_
          obtain ⟨h_41, hV⟩ := hV
          refine cw_v (va_runV (As := [.int p0]) (rest := []) ⟨hx, hb, hml, hown, hts⟩ (spec_X0_split l 0 (by decide) D cy ad _ g a w p0 h_41) (cwV 1 hts gX6_orders_X0_split rfl rfl rfl (by decide +kernel) ⟨Nat.le_of_ble_eq_true rfl, Nat.le_of_ble_eq_true rfl⟩) (ar_preV hN hK hP (caD hD) (ci := 0) (q0 := 1) rfl rfl) rfl rfl hl.1 rfl (lv_room (Nat.le_of_ble_eq_true rfl)) dX6_orders_41 ⟨Nat.zero_le _, Nat.zero_le _⟩) hS (caD hD) hA (fun u_41 H locs q_41 hP hS => ?_)
          obtain ⟨g41, a41, w41⟩ := u_41
          have hV := hV g41 a41 w41 q_41
          have hP : va_P D vwCl (caW ad cy g41 a41 w41) H := hP
          refine lv_iload_n hx hb dX6_orders_44 rfl (lv_at hl 3 rfl) ?_
          refine lv_if_ne (tgt := 58) hx hb dX6_orders_45 (by decide) (fun c_45 => ?_) (fun c_45 => ?_)
          · have hV := hV.2 c_45
            refine lv_aload_n hx hb dX6_orders_58 rfl (lv_at hl 0 rfl) ?_
            refine lv_iload_n hx hb dX6_orders_59 rfl (lv_at hl 2 rfl) ?_
            obtain ⟨h_60, hV⟩ := hV
            refine cw_i (va_runV (As := [.int p1]) (rest := []) ⟨hx, hb, hml, hown, hts⟩ (spec_X6_unitsOfOrder l D cy ad _ g41 a41 w41 p1 h_60) (cwV 1 hts gX6_orders_X6_unitsOfOrder rfl rfl rfl (by decide +kernel) ⟨Nat.le_of_ble_eq_true rfl, Nat.le_of_ble_eq_true rfl⟩) (ar_preV hN hK hP (caD hD) (ci := 5) (q0 := 0) rfl rfl) rfl rfl hl.1 rfl (lv_room (Nat.le_of_ble_eq_true rfl)) dX6_orders_60 ⟨Nat.zero_le _, Nat.zero_le _⟩) hS (caD hD) hA (fun r60 u_60 H locs q_60 hP hS => ?_)
            obtain ⟨g60, a60, w60⟩ := u_60
            have hV := hV r60 g60 a60 w60 q_60
            have hP : va_P D vwCl (caW ad cy g60 a60 w60) H := hP
            exact W.iret (v := r60) hx hb hr (fun t ht hW => ⟨⟨_, (g60, a60, w60), rfl, hV, ar_heap ht hP⟩, hS.F ht⟩) hS.2.2 dX6_orders_63
          · have hV := hV.1 c_45
            refine lv_aload_n hx hb dX6_orders_48 rfl (lv_at hl 0 rfl) ?_
            refine va_get (D := D) (ci := 5) (v := .ref (ad 1)) (C := RX6) (T := TX6) (N := 10) hx hb hts (by decide +kernel) hown hK hP 0 rfl rfl 0 (by decide) (hts (.fieldLink RX6 10 "PowerRests" "ofN" "LPowerRests$Factors;") (by decide +kernel)) (fun _ h9 => h9) rfl dX6_orders_49 ?_
            obtain ⟨h_52, hV⟩ := hV
            refine cp_i (va_runV (As := []) (rest := []) ⟨hx, hb, hml, hown, hts⟩ (spec_X0_greatestOrder l 0 (by decide) D cy ad _ g41 a41 w41 h_52) (cwV 0 hts gX6_orders_X0_greatestOrder rfl rfl rfl (by decide +kernel) ⟨Nat.le_of_ble_eq_true rfl, Nat.le_of_ble_eq_true rfl⟩) (ar_preV hN hK hP (caD hD) (ci := 0) (q0 := 1) rfl rfl) rfl rfl hl.1 rfl (lv_room (Nat.le_of_ble_eq_true rfl)) dX6_orders_52 ⟨Nat.zero_le _, Nat.zero_le _⟩) (fun r52 q_52 => ?_)
            have hV := hV r52 q_52
            refine lv_goto (tgt := 63) hx hb dX6_orders_55 (by decide) ?_
            exact W.iret (v := r52) hx hb hr (fun t ht hW => ⟨⟨_, (g41, a41, w41), rfl, hV, ar_heap ht hP⟩, hS.F ht⟩) hS.2.2 dX6_orders_63
        · have hV := hV.1 c_20
          refine lv_iload_n hx hb dX6_orders_23 rfl (lv_at hl 2 rfl) ?_
          refine lv_iconst (v := (1 : Int32)) hx hb dX6_orders_24 (by decide) ?_
          refine lv_icmp_lt (tgt := 34) hx hb dX6_orders_25 (by decide) (fun c_25 => ?_) (fun c_25 => ?_)
          · have hV := hV.1 c_25
            refine lv_iconst (v := (-1 : Int32)) hx hb dX6_orders_34 (by decide) ?_
            exact W.iret (v := (-1 : Int32)) hx hb hr (fun t ht hW => ⟨⟨_, (g, a, w), rfl, hV, ar_heap ht hP⟩, hS.F ht⟩) hS.2.2 dX6_orders_35
          · have hV := hV.2 c_25
            refine lv_iload_n hx hb dX6_orders_28 rfl (lv_at hl 2 rfl) ?_
            refine lv_ldc (v := (50000 : Int32)) hx hb hown (hts (.constant RX6 77 (50000)) (by decide +kernel)) dX6_orders_29 ?_
            refine lv_icmp_le (tgt := 36) hx hb dX6_orders_31 (by decide) (fun c_31 => ?_) (fun c_31 => ?_)
            · have hV := hV.1 c_31
              refine lv_aload_n hx hb dX6_orders_36 rfl (lv_at hl 0 rfl) ?_
              refine va_get (D := D) (ci := 5) (v := .ref (ad 1)) (C := RX6) (T := TX6) (N := 10) hx hb hts (by decide +kernel) hown hK hP 0 rfl rfl 0 (by decide) (hts (.fieldLink RX6 10 "PowerRests" "ofN" "LPowerRests$Factors;") (by decide +kernel)) (fun _ h9 => h9) rfl dX6_orders_37 ?_
              refine lv_iload_n hx hb dX6_orders_40 rfl (lv_at hl 1 rfl) ?_
              obtain ⟨h_41, hV⟩ := hV
              refine cw_v (va_runV (As := [.int p0]) (rest := []) ⟨hx, hb, hml, hown, hts⟩ (spec_X0_split l 0 (by decide) D cy ad _ g a w p0 h_41) (cwV 1 hts gX6_orders_X0_split rfl rfl rfl (by decide +kernel) ⟨Nat.le_of_ble_eq_true rfl, Nat.le_of_ble_eq_true rfl⟩) (ar_preV hN hK hP (caD hD) (ci := 0) (q0 := 1) rfl rfl) rfl rfl hl.1 rfl (lv_room (Nat.le_of_ble_eq_true rfl)) dX6_orders_41 ⟨Nat.zero_le _, Nat.zero_le _⟩) hS (caD hD) hA (fun u_41 H locs q_41 hP hS => ?_)
              obtain ⟨g41, a41, w41⟩ := u_41
              have hV := hV g41 a41 w41 q_41
              have hP : va_P D vwCl (caW ad cy g41 a41 w41) H := hP
              refine lv_iload_n hx hb dX6_orders_44 rfl (lv_at hl 3 rfl) ?_
              refine lv_if_ne (tgt := 58) hx hb dX6_orders_45 (by decide) (fun c_45 => ?_) (fun c_45 => ?_)
              · have hV := hV.2 c_45
                refine lv_aload_n hx hb dX6_orders_58 rfl (lv_at hl 0 rfl) ?_
                refine lv_iload_n hx hb dX6_orders_59 rfl (lv_at hl 2 rfl) ?_
                obtain ⟨h_60, hV⟩ := hV
                refine cw_i (va_runV (As := [.int p1]) (rest := []) ⟨hx, hb, hml, hown, hts⟩ (spec_X6_unitsOfOrder l D cy ad _ g41 a41 w41 p1 h_60) (cwV 1 hts gX6_orders_X6_unitsOfOrder rfl rfl rfl (by decide +kernel) ⟨Nat.le_of_ble_eq_true rfl, Nat.le_of_ble_eq_true rfl⟩) (ar_preV hN hK hP (caD hD) (ci := 5) (q0 := 0) rfl rfl) rfl rfl hl.1 rfl (lv_room (Nat.le_of_ble_eq_true rfl)) dX6_orders_60 ⟨Nat.zero_le _, Nat.zero_le _⟩) hS (caD hD) hA (fun r60 u_60 H locs q_60 hP hS => ?_)
                obtain ⟨g60, a60, w60⟩ := u_60
                have hV := hV r60 g60 a60 w60 q_60
                have hP : va_P D vwCl (caW ad cy g60 a60 w60) H := hP
                exact W.iret (v := r60) hx hb hr (fun t ht hW => ⟨⟨_, (g60, a60, w60), rfl, hV, ar_heap ht hP⟩, hS.F ht⟩) hS.2.2 dX6_orders_63
              · have hV := hV.1 c_45
                refine lv_aload_n hx hb dX6_orders_48 rfl (lv_at hl 0 rfl) ?_
                refine va_get (D := D) (ci := 5) (v := .ref (ad 1)) (C := RX6) (T := TX6) (N := 10) hx hb hts (by decide +kernel) hown hK hP 0 rfl rfl 0 (by decide) (hts (.fieldLink RX6 10 "PowerRests" "ofN" "LPowerRests$Factors;") (by decide +kernel)) (fun _ h9 => h9) rfl dX6_orders_49 ?_
                obtain ⟨h_52, hV⟩ := hV
                refine cp_i (va_runV (As := []) (rest := []) ⟨hx, hb, hml, hown, hts⟩ (spec_X0_greatestOrder l 0 (by decide) D cy ad _ g41 a41 w41 h_52) (cwV 0 hts gX6_orders_X0_greatestOrder rfl rfl rfl (by decide +kernel) ⟨Nat.le_of_ble_eq_true rfl, Nat.le_of_ble_eq_true rfl⟩) (ar_preV hN hK hP (caD hD) (ci := 0) (q0 := 1) rfl rfl) rfl rfl hl.1 rfl (lv_room (Nat.le_of_ble_eq_true rfl)) dX6_orders_52 ⟨Nat.zero_le _, Nat.zero_le _⟩) (fun r52 q_52 => ?_)
                have hV := hV r52 q_52
                refine lv_goto (tgt := 63) hx hb dX6_orders_55 (by decide) ?_
                exact W.iret (v := r52) hx hb hr (fun t ht hW => ⟨⟨_, (g41, a41, w41), rfl, hV, ar_heap ht hP⟩, hS.F ht⟩) hS.2.2 dX6_orders_63
            · have hV := hV.2 c_31
              refine lv_iconst (v := (-1 : Int32)) hx hb dX6_orders_34 (by decide) ?_
              exact W.iret (v := (-1 : Int32)) hx hb hr (fun t ht hW => ⟨⟨_, (g, a, w), rfl, hV, ar_heap ht hP⟩, hS.F ht⟩) hS.2.2 dX6_orders_35
      · have hV := hV.2 c_13
        refine lv_iconst (v := (-1 : Int32)) hx hb dX6_orders_16 (by decide) ?_
        exact W.iret (v := (-1 : Int32)) hx hb hr (fun t ht hW => ⟨⟨_, (g, a, w), rfl, hV, ar_heap ht hP⟩, hS.F ht⟩) hS.2.2 dX6_orders_17
def post_X6_orders (g : Gs) (a : As) (w : Ws) (p0 p1 p2 r : Int32) (g' : Gs) (a' : As) (w' : Ws) : Prop := OrdersAns p0 p1 p2 r ∧ FS g a w g' a' w'
theorem great_fac {n : Nat} {P T : Nat → Nat} {m : Nat} (h : FacF n P T m) (hn : n ≤ 50001) : Great n (lcmF (cyF P T) m) :=
  ⟨(lam_fac h hn).2, fun x e ho => Nat.le_of_dvd (lam_le h).1 (ord_lam h hn ho)⟩
set_option maxRecDepth 4000 in
theorem spec_X6_orders (l : Launch) (D : va_G) (cy : Nat → ClassId) (ad : Nat → Nat) (sz : Nat) (g : Gs) (a : As) (w : Ws) (p0 : Int32) (p1 : Int32) (p2 : Int32) : Met l yX6_orders wsX6_orders ({ frames := 3, cells := 0, slots := 0, locals := 73 } : Room) (va_Pc [.ref (ad 0), .int p0, .int p1, .int p2] (ArP D cy sz (caW ad cy g a w))) (va_Qi (fun (r : Int32) (u : Gs × As × Ws) => (post_X6_orders g a w p0 p1 p2) r u.1 u.2.1 u.2.2) (fun u t => va_P D vwCl (caW ad cy u.1 u.2.1 u.2.2) t.heap) (va_A (caW ad cy g a w) sz)) 0 0 (va_A (caW ad cy g a w) sz) := by
  apply met_X6_orders
  intro r hr
  unfold post_X6_isDivisor at hr
  subst hr
  have t0 : (0 : Int32).toInt = 0 := rfl
  have t1 : (1 : Int32).toInt = 1 := rfl
  have t5 : (50000 : Int32).toInt = 50000 := rfl
  refine ⟨fun h => ⟨Or.inl ⟨Or.inl (zb_0 h), rfl⟩, FS.rf⟩, fun h => ⟨fun h2 => ⟨Or.inl ⟨Or.inr (Or.inl (by rw [i_lt] at h2; exact h2)), rfl⟩, FS.rf⟩, fun h2 => ⟨fun h3 => ?_, fun h3 => ⟨Or.inl ⟨Or.inr (Or.inr (Or.inl (by rw [i_le] at h3; omega))), rfl⟩, FS.rf⟩⟩⟩⟩
  have hdv : Dv p0 := zb_1 h
  obtain ⟨d1, d2⟩ := id hdv
  have hn1 : 1 ≤ tn p0 := by show 1 ≤ p0.toInt.toNat; omega
  have hn5 : tn p0 ≤ 50001 := by show p0.toInt.toNat ≤ 50001; omega
  refine ⟨fun h4 => ⟨fun h5 => ⟨Or.inl ⟨Or.inr (Or.inr (Or.inr ⟨h4, Or.inl (by rw [i_lt] at h5; omega)⟩)), rfl⟩, FS.rf⟩, fun h5 => ⟨fun h6 => ⟨⟨by omega, by omega⟩, fun g1 a1 w1 hsp => ⟨fun h7 => absurd (h4 ▸ h7) (by decide), fun h7 => ?_⟩⟩, fun h6 => ⟨Or.inl ⟨Or.inr (Or.inr (Or.inr ⟨h4, Or.inr (by rw [i_le] at h6; omega)⟩)), rfl⟩, FS.rf⟩⟩⟩, fun h4 => ⟨⟨by omega, by omega⟩, fun g1 a1 w1 hsp => ?_⟩⟩
  · have hF := hsp.2.1 hn1
    have hFS := split_FS (by decide) hsp
    rw [i_lt] at h5
    rw [i_le] at h6
    refine ⟨⟨by omega, by omega, _, hn5, hF⟩, fun r2 g2 a2 w2 h8 => ?_⟩
    obtain ⟨⟨n', hF', rfl⟩, hFS2⟩ := h8
    have := fac_uniq hF hF'
    subst this
    exact ⟨Or.inr ⟨hdv, Or.inr ⟨h4, ⟨by omega, by omega⟩, rfl⟩⟩, hFS.tr hFS2⟩
  · have hF := hsp.2.1 hn1
    have hFS := split_FS (by decide) hsp
    have h0 : p2 = 0 := by
      rw [i_lt] at h2
      rw [i_le] at h3
      rw [i_eq] at h4 ⊢
      omega
    refine ⟨fun _ => ⟨⟨_, hF⟩, fun r2 hr2 => ⟨Or.inr ⟨hdv, Or.inl ⟨h0, _, great_fac hF.1 hn5, hr2⟩⟩, hFS⟩⟩, fun h7 => absurd h0 h7⟩
