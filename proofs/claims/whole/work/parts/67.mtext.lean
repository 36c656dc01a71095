/-! the text, the reference -/
abbrev mT (a : As) : Nat → Nat := fun i => ((a 0 i).toInt % 256).toNat
abbrev mL (g : Gs) : Nat := tn (g 0)
def OkM (g : Gs) (a : As) : Prop := TxM (mT a) (mL g) g a
theorem ru (a b : Nat → Int32) (h : a = b) (i : Nat) : a i = b i := by rw [h]
def pre_X7_number (g : Gs) (a : As) : Prop := OkM g a ∧ ∃ p, p ≤ mL g ∧ g 1 = nI p
set_option maxHeartbeats 4000000 in
set_option maxRecDepth 100000 in
theorem met_X7_number (l : Launch) (D : va_G) (cy : Nat → ClassId) (ad : Nat → Nat) (sz : Nat) (g : Gs) (a : As) (post : Int32 → Gs → As → Prop)
  (hV : ∀ (J4 : Int32 → Int32 → Gs → As → Prop),
    (∀ (x1 : Int32) (x2 : Int32) (g_ : Gs) (a_ : As), (((g_ 0) ≤ (g_ 1) → ∀ r86 : Int32, post_X7_in x2.toInt64 (1 : Int64) (4 : Int64) r86 → ((r86 = 0 → post (-1 : Int32) g_ a_) ∧ (¬ r86 = 0 → post x1 g_ a_))) ∧ (¬ (g_ 0) ≤ (g_ 1) → vp_in (g_ 1) 200 ∧ (∀ r31 : Int32, post_X7_in (((a_ 0) (g_ 1).toNatClampNeg).toInt64) (48 : Int64) (57 : Int64) r31 → ((r31 = 0 → ∀ r86 : Int32, post_X7_in x2.toInt64 (1 : Int64) (4 : Int64) r86 → ((r86 = 0 → post (-1 : Int32) g_ a_) ∧ (¬ r86 = 0 → post x1 g_ a_))) ∧ (¬ r31 = 0 → (((4 : Int32) ≤ x2 → J4 x1 (x2 + 1) (va_up g_ 1 ((g_ 1) + (1 : Int32))) a_) ∧ (¬ (4 : Int32) ≤ x2 → vp_in (g_ 1) 200 ∧ (J4 ((((10 : Int32) * x1) + ((a_ 0) (g_ 1).toNatClampNeg)) - (48 : Int32)) (x2 + 1) (va_up g_ 1 ((g_ 1) + (1 : Int32))) a_)))))))) → J4 x1 x2 g_ a_) →
    J4 (0 : Int32) (0 : Int32) g a) :
  Met l yX7_number wsX7_number ({ frames := 1, cells := 0, slots := 0, locals := 25 } : Room) (va_Pc [.ref (ad 0)] (ArP D cy sz (maW ad cy g a))) (va_Qi (fun (r : Int32) (u : Gs × As) => post r u.1 u.2) (fun u t => va_P D vwCl (maW ad cy u.1 u.2) t.heap) (va_A (maW ad cy g a) sz)) 0 0 (va_A (maW ad cy g a) sz) := by
  refine Met.ofW (cc := cX7_number) (maxL := 3) (ret := (some .int)) (by decide) rfl ?_
  intro p e s m args below meth c s₁ B hml hv
  obtain ⟨rfl, hsz, hP, hK, hD0, hN⟩ := hv
  have hx := B.exec
  have hb := B.bytes
  have hr := B.returns
  have hts := atoms_spec (ws := wsX7_number) B.pre
  have hown : s.vm.findClass RX7 = some m.cls := findClass_of_methodNamed B.named
  have hlocks := B.notSynchronized
  subst hsz
  have hD := hD0.self (sz := s.heap.size)
  have hP : va_P D vwCl (maW ad cy g a) s.heap := hP
  have hD : va_D (va_A (maW ad cy g a) s.heap.size) (maW ad cy g a) := hD
  have hS : va_S (va_A (maW ad cy g a) s.heap.size) s.heap s.heap [] := va_S.rf
  have hA : ∀ q : Nat, s.heap.size ≤ q → va_A (maW ad cy g a) s.heap.size q := fun q h => Or.inr h
  obtain ⟨J4, iJ4, oJ4⟩ : ∃ J : Int32 → Int32 → Gs → As → Prop, (∀ (x1 : Int32) (x2 : Int32) (g_ : Gs) (a_ : As), (∀ (H : Heap) (locs : List Loc), va_P D vwCl (maW ad cy g_ a_) H → va_S (va_A (maW ad cy g a) s.heap.size) s.heap H locs → ∀ ls : Array Slot, lv_has ls 3 [(0, .ref (ad 0)), (1, .int x1), (2, .int x2)] → W p l e (headSpec wsX7_number ({ frames := 1, cells := 0, slots := 0, locals := 25 } : Room)).room s m [.ref (ad 0)].toArray below meth c H locs 0 0 (MQ below (va_Qi (fun (r : Int32) (u : Gs × As) => post r u.1 u.2) (fun u t => va_P D vwCl (maW ad cy u.1 u.2) t.heap) (va_A (maW ad cy g a) s.heap.size)) [.ref (ad 0)].toArray s 0 0 (va_A (maW ad cy g a) s.heap.size)) (F0 m 4 ls [])) → J x1 x2 g_ a_) ∧ (∀ (x1 : Int32) (x2 : Int32) (g_ : Gs) (a_ : As), J x1 x2 g_ a_ → (∀ (H : Heap) (locs : List Loc), va_P D vwCl (maW ad cy g_ a_) H → va_S (va_A (maW ad cy g a) s.heap.size) s.heap H locs → ∀ ls : Array Slot, lv_has ls 3 [(0, .ref (ad 0)), (1, .int x1), (2, .int x2)] → W p l e (headSpec wsX7_number ({ frames := 1, cells := 0, slots := 0, locals := 25 } : Room)).room s m [.ref (ad 0)].toArray below meth c H locs 0 0 (MQ below (va_Qi (fun (r : Int32) (u : Gs × As) => post r u.1 u.2) (fun u t => va_P D vwCl (maW ad cy u.1 u.2) t.heap) (va_A (maW ad cy g a) s.heap.size)) [.ref (ad 0)].toArray s 0 0 (va_A (maW ad cy g a) s.heap.size)) (F0 m 4 ls []))) := ⟨fun (x1 : Int32) (x2 : Int32) (g_ : Gs) (a_ : As) => (∀ (H : Heap) (locs : List Loc), va_P D vwCl (maW ad cy g_ a_) H → va_S (va_A (maW ad cy g a) s.heap.size) s.heap H locs → ∀ ls : Array Slot, lv_has ls 3 [(0, .ref (ad 0)), (1, .int x1), (2, .int x2)] → W p l e (headSpec wsX7_number ({ frames := 1, cells := 0, slots := 0, locals := 25 } : Room)).room s m [.ref (ad 0)].toArray below meth c H locs 0 0 (MQ below (va_Qi (fun (r : Int32) (u : Gs × As) => post r u.1 u.2) (fun u t => va_P D vwCl (maW ad cy u.1 u.2) t.heap) (va_A (maW ad cy g a) s.heap.size)) [.ref (ad 0)].toArray s 0 0 (va_A (maW ad cy g a) s.heap.size)) (F0 m 4 ls [])), fun _ _ _ _ h => h, fun _ _ _ _ h => h⟩
  have hV := hV J4
  replace hV := hV (by
    intro x1 x2 g_ a_ hV
    refine iJ4 x1 x2 g_ a_ ?_
    intro H locs hP hS ls hl
    refine lv_aload_n hx hb dX7_number_4 rfl (lv_at hl 0 rfl) ?_
    refine va_get (D := D) (ci := 6) (v := .int (g_ 1)) (C := RX7) (T := TX7) (N := 18) hx hb hts (by decide +kernel) hown hK hP 0 rfl rfl 2 (by decide) (hts (.fieldLink RX7 105 "PowerRestsModel" "at" "I") (by decide +kernel)) (fun _ h9 => h9) rfl dX7_number_5 ?_
    refine lv_aload_n hx hb dX7_number_8 rfl (lv_at hl 0 rfl) ?_
    refine va_get (D := D) (ci := 6) (v := .int (g_ 0)) (C := RX7) (T := TX7) (N := 18) hx hb hts (by decide +kernel) hown hK hP 0 rfl rfl 0 (by decide) (hts (.fieldLink RX7 102 "PowerRestsModel" "length" "I") (by decide +kernel)) (fun _ h9 => h9) rfl dX7_number_9 ?_
    refine lv_icmp_ge (tgt := 80) hx hb dX7_number_12 (by decide) (fun c_12 => ?_) (fun c_12 => ?_)
    · have hV := hV.1 c_12
      refine lv_iload_n hx hb dX7_number_80 rfl (lv_at hl 2 rfl) ?_
      refine lv_i2l (v := x2.toInt64) hx hb dX7_number_81 rfl ?_
      refine lv_lconst (v := (1 : Int64)) hx hb dX7_number_82 (by decide) ?_
      refine lv_ldc2 (v := (4 : Int64)) hx hb hown (hts (.constantLong RX7 112 (4)) (by decide +kernel)) dX7_number_83 ?_
      refine cp_i (va_runS (As := [.long x2.toInt64, .long (1 : Int64), .long (4 : Int64)]) (rest := []) ⟨hx, hb, hml, hown, hts⟩ (spec_X7_in l x2.toInt64 (1 : Int64) (4 : Int64)) (va_cwS 3 hts gX7_number_X7_in rfl rfl rfl (by decide +kernel) ⟨Nat.le_of_ble_eq_true rfl, Nat.le_of_ble_eq_true rfl⟩) cp_pre rfl rfl hl.1 rfl (lv_room (Nat.le_of_ble_eq_true rfl)) dX7_number_86 ⟨Nat.zero_le _, Nat.zero_le _⟩) (fun r86 q_86 => ?_)
      have hV := hV r86 q_86
      refine lv_if_eq (tgt := 96) hx hb dX7_number_89 (by decide) (fun c_89 => ?_) (fun c_89 => ?_)
      · have hV := hV.1 c_89
        refine lv_iconst (v := (-1 : Int32)) hx hb dX7_number_96 (by decide) ?_
        exact W.iret (v := (-1 : Int32)) hx hb hr (fun t ht hW => ⟨⟨_, (g_, a_), rfl, hV, ar_heap ht hP⟩, hS.F ht⟩) hS.2.2 dX7_number_97
      · have hV := hV.2 c_89
        refine lv_iload_n hx hb dX7_number_92 rfl (lv_at hl 1 rfl) ?_
        refine lv_goto (tgt := 97) hx hb dX7_number_93 (by decide) ?_
        exact W.iret (v := x1) hx hb hr (fun t ht hW => ⟨⟨_, (g_, a_), rfl, hV, ar_heap ht hP⟩, hS.F ht⟩) hS.2.2 dX7_number_97
    · have hV := hV.2 c_12
      refine lv_aload_n hx hb dX7_number_15 rfl (lv_at hl 0 rfl) ?_
      refine va_get (D := D) (ci := 6) (v := .ref (ad 1)) (C := RX7) (T := TX7) (N := 18) hx hb hts (by decide +kernel) hown hK hP 0 rfl rfl 1 (by decide) (hts (.fieldLink RX7 7 "PowerRestsModel" "text" "[B") (by decide +kernel)) (fun _ h9 => h9) rfl dX7_number_16 ?_
      refine lv_aload_n hx hb dX7_number_19 rfl (lv_at hl 0 rfl) ?_
      refine va_get (D := D) (ci := 6) (v := .int (g_ 1)) (C := RX7) (T := TX7) (N := 18) hx hb hts (by decide +kernel) hown hK hP 0 rfl rfl 2 (by decide) (hts (.fieldLink RX7 105 "PowerRestsModel" "at" "I") (by decide +kernel)) (fun _ h9 => h9) rfl dX7_number_20 ?_
      obtain ⟨h_23, hV⟩ := hV
      refine va_bald (f := (a_ 0)) hx hb hK hP 1 4 rfl rfl h_23 dX7_number_23 ?_
      refine lv_i2l (v := ((a_ 0) (g_ 1).toNatClampNeg).toInt64) hx hb dX7_number_24 rfl ?_
      refine lv_ldc2 (v := (48 : Int64)) hx hb hown (hts (.constantLong RX7 108 (48)) (by decide +kernel)) dX7_number_25 ?_
      refine lv_ldc2 (v := (57 : Int64)) hx hb hown (hts (.constantLong RX7 110 (57)) (by decide +kernel)) dX7_number_28 ?_
      refine cp_i (va_runS (As := [.long (((a_ 0) (g_ 1).toNatClampNeg).toInt64), .long (48 : Int64), .long (57 : Int64)]) (rest := []) ⟨hx, hb, hml, hown, hts⟩ (spec_X7_in l (((a_ 0) (g_ 1).toNatClampNeg).toInt64) (48 : Int64) (57 : Int64)) (va_cwS 3 hts gX7_number_X7_in rfl rfl rfl (by decide +kernel) ⟨Nat.le_of_ble_eq_true rfl, Nat.le_of_ble_eq_true rfl⟩) cp_pre rfl rfl hl.1 rfl (lv_room (Nat.le_of_ble_eq_true rfl)) dX7_number_31 ⟨Nat.zero_le _, Nat.zero_le _⟩) (fun r31 q_31 => ?_)
      have hV := hV r31 q_31
      refine lv_if_eq (tgt := 80) hx hb dX7_number_34 (by decide) (fun c_34 => ?_) (fun c_34 => ?_)
      · have hV := hV.1 c_34
        refine lv_iload_n hx hb dX7_number_80 rfl (lv_at hl 2 rfl) ?_
        refine lv_i2l (v := x2.toInt64) hx hb dX7_number_81 rfl ?_
        refine lv_lconst (v := (1 : Int64)) hx hb dX7_number_82 (by decide) ?_
        refine lv_ldc2 (v := (4 : Int64)) hx hb hown (hts (.constantLong RX7 112 (4)) (by decide +kernel)) dX7_number_83 ?_
        refine cp_i (va_runS (As := [.long x2.toInt64, .long (1 : Int64), .long (4 : Int64)]) (rest := []) ⟨hx, hb, hml, hown, hts⟩ (spec_X7_in l x2.toInt64 (1 : Int64) (4 : Int64)) (va_cwS 3 hts gX7_number_X7_in rfl rfl rfl (by decide +kernel) ⟨Nat.le_of_ble_eq_true rfl, Nat.le_of_ble_eq_true rfl⟩) cp_pre rfl rfl hl.1 rfl (lv_room (Nat.le_of_ble_eq_true rfl)) dX7_number_86 ⟨Nat.zero_le _, Nat.zero_le _⟩) (fun r86 q_86 => ?_)
        have hV := hV r86 q_86
        refine lv_if_eq (tgt := 96) hx hb dX7_number_89 (by decide) (fun c_89 => ?_) (fun c_89 => ?_)
        · have hV := hV.1 c_89
          refine lv_iconst (v := (-1 : Int32)) hx hb dX7_number_96 (by decide) ?_
          exact W.iret (v := (-1 : Int32)) hx hb hr (fun t ht hW => ⟨⟨_, (g_, a_), rfl, hV, ar_heap ht hP⟩, hS.F ht⟩) hS.2.2 dX7_number_97
        · have hV := hV.2 c_89
          refine lv_iload_n hx hb dX7_number_92 rfl (lv_at hl 1 rfl) ?_
          refine lv_goto (tgt := 97) hx hb dX7_number_93 (by decide) ?_
          exact W.iret (v := x1) hx hb hr (fun t ht hW => ⟨⟨_, (g_, a_), rfl, hV, ar_heap ht hP⟩, hS.F ht⟩) hS.2.2 dX7_number_97
      · have hV := hV.2 c_34
        refine lv_iload_n hx hb dX7_number_37 rfl (lv_at hl 2 rfl) ?_
        refine lv_iconst (v := (4 : Int32)) hx hb dX7_number_38 (by decide) ?_
        refine lv_icmp_ge (tgt := 62) hx hb dX7_number_39 (by decide) (fun c_39 => ?_) (fun c_39 => ?_)
        · have hV := hV.1 c_39
          refine lv_iload_n hx hb dX7_number_62 rfl (lv_at hl 1 rfl) ?_
          refine lv_istore_n (lv' := [(1, .int x1), (0, .ref (ad 0)), (2, .int x2)]) hx hb dX7_number_63 rfl hl (by decide) rfl (fun ls hl => ?_)
          refine lv_iinc (v := x2 + 1) (lv' := [(2, .int (x2 + 1)), (1, .int x1), (0, .ref (ad 0))]) hx hb dX7_number_64 hl (k := 2) rfl rfl (by decide) rfl (fun ls hl => ?_)
          refine lv_aload_n hx hb dX7_number_67 rfl (lv_at hl 2 rfl) ?_
          refine lv_dup hx hb dX7_number_68 rfl ?_
          refine va_get (D := D) (ci := 6) (v := .int (g_ 1)) (C := RX7) (T := TX7) (N := 18) hx hb hts (by decide +kernel) hown hK hP 0 rfl rfl 2 (by decide) (hts (.fieldLink RX7 105 "PowerRestsModel" "at" "I") (by decide +kernel)) (fun _ h9 => h9) rfl dX7_number_69 ?_
          refine lv_iconst (v := (1 : Int32)) hx hb dX7_number_72 (by decide) ?_
          refine lv_iadd hx hb dX7_number_73 ?_
          refine va_put (D := D) (ci := 6) (v := .int ((g_ 1) + (1 : Int32))) (ty := .int) (C := RX7) (T := TX7) (N := 18) hx hb hts (by decide +kernel) tyX7 tyX7_ok nmX7 hown hK hP (maD hD) hS 0 rfl rfl 2 (by decide) (hts (.fieldLink RX7 105 "PowerRestsModel" "at" "I") (by decide +kernel)) (fun _ h9 => h9) rfl (by decide +kernel) rfl rfl (Nat.le_of_ble_eq_true rfl) dX7_number_74 (fun H locs hP _ hS => ?_)
          have hP : va_P D vwCl (maW ad cy (va_up g_ 1 ((g_ 1) + (1 : Int32))) a_) H := hP
          refine lv_goto (tgt := 4) hx hb dX7_number_77 (by decide) ?_
          exact oJ4 _ _ _ _ hV _ _ hP hS _ (lv_sub hl [2, 1, 0] rfl)
        · have hV := hV.2 c_39
          refine lv_bipush (v := (10 : Int32)) hx hb dX7_number_42 (by decide) ?_
          refine lv_iload_n hx hb dX7_number_44 rfl (lv_at hl 1 rfl) ?_
          refine lv_imul hx hb dX7_number_45 ?_
          refine lv_aload_n hx hb dX7_number_46 rfl (lv_at hl 0 rfl) ?_
          refine va_get (D := D) (ci := 6) (v := .ref (ad 1)) (C := RX7) (T := TX7) (N := 18) hx hb hts (by decide +kernel) hown hK hP 0 rfl rfl 1 (by decide) (hts (.fieldLink RX7 7 "PowerRestsModel" "text" "[B") (by decide +kernel)) (fun _ h9 => h9) rfl dX7_number_47 ?_
          refine lv_aload_n hx hb dX7_number_50 rfl (lv_at hl 0 rfl) ?_
          refine va_get (D := D) (ci := 6) (v := .int (g_ 1)) (C := RX7) (T := TX7) (N := 18) hx hb hts (by decide +kernel) hown hK hP 0 rfl rfl 2 (by decide) (hts (.fieldLink RX7 105 "PowerRestsModel" "at" "I") (by decide +kernel)) (fun _ h9 => h9) rfl dX7_number_51 ?_
          obtain ⟨h_54, hV⟩ := hV
          refine va_bald (f := (a_ 0)) hx hb hK hP 1 4 rfl rfl h_54 dX7_number_54 ?_
          refine lv_iadd hx hb dX7_number_55 ?_
          refine lv_bipush (v := (48 : Int32)) hx hb dX7_number_56 (by decide) ?_
          refine lv_isub hx hb dX7_number_58 ?_
          refine lv_goto (tgt := 63) hx hb dX7_number_59 (by decide) ?_
          refine lv_istore_n (lv' := [(1, .int ((((10 : Int32) * x1) + ((a_ 0) (g_ 1).toNatClampNeg)) - (48 : Int32))), (0, .ref (ad 0)), (2, .int x2)]) hx hb dX7_number_63 rfl hl (by decide) rfl (fun ls hl => ?_)
          refine lv_iinc (v := x2 + 1) (lv' := [(2, .int (x2 + 1)), (1, .int ((((10 : Int32) * x1) + ((a_ 0) (g_ 1).toNatClampNeg)) - (48 : Int32))), (0, .ref (ad 0))]) hx hb dX7_number_64 hl (k := 2) rfl rfl (by decide) rfl (fun ls hl => ?_)
          refine lv_aload_n hx hb dX7_number_67 rfl (lv_at hl 2 rfl) ?_
          refine lv_dup hx hb dX7_number_68 rfl ?_
          refine va_get (D := D) (ci := 6) (v := .int (g_ 1)) (C := RX7) (T := TX7) (N := 18) hx hb hts (by decide +kernel) hown hK hP 0 rfl rfl 2 (by decide) (hts (.fieldLink RX7 105 "PowerRestsModel" "at" "I") (by decide +kernel)) (fun _ h9 => h9) rfl dX7_number_69 ?_
          refine lv_iconst (v := (1 : Int32)) hx hb dX7_number_72 (by decide) ?_
          refine lv_iadd hx hb dX7_number_73 ?_
          refine va_put (D := D) (ci := 6) (v := .int ((g_ 1) + (1 : Int32))) (ty := .int) (C := RX7) (T := TX7) (N := 18) hx hb hts (by decide +kernel) tyX7 tyX7_ok nmX7 hown hK hP (maD hD) hS 0 rfl rfl 2 (by decide) (hts (.fieldLink RX7 105 "PowerRestsModel" "at" "I") (by decide +kernel)) (fun _ h9 => h9) rfl (by decide +kernel) rfl rfl (Nat.le_of_ble_eq_true rfl) dX7_number_74 (fun H locs hP _ hS => ?_)
          have hP : va_P D vwCl (maW ad cy (va_up g_ 1 ((g_ 1) + (1 : Int32))) a_) H := hP
          refine lv_goto (tgt := 4) hx hb dX7_number_77 (by decide) ?_
          exact oJ4 _ _ _ _ hV _ _ hP hS _ (lv_sub hl [2, 1, 0] rfl))
  have hl := lv_entry ([.ref (ad 0)]) (n := 3) (Nat.le_of_ble_eq_true rfl)
  rw [lg_entry_eq]
  generalize (lg_sl ([.ref (ad 0)]) ++ List.replicate (3 - (lg_sl ([.ref (ad 0)])).length) Slot.unset).toArray = ls at hl ⊢
  have hl : lv_has ls 3 [(0, .ref (ad 0))] := hl
  refine lv_iconst (v := (0 : Int32)) hx hb dX7_number_0 (by decide) ?_
  refine lv_istore_n (lv' := [(1, .int (0 : Int32)), (0, .ref (ad 0))]) hx hb dX7_number_1 rfl hl (by decide) rfl (fun ls hl => ?_)
  refine lv_iconst (v := (0 : Int32)) hx hb dX7_number_2 (by decide) ?_
  refine lv_istore_n (lv' := [(2, .int (0 : Int32)), (1, .int (0 : Int32)), (0, .ref (ad 0))]) hx hb dX7_number_3 rfl hl (by decide) rfl (fun ls hl => ?_)
  exact oJ4 _ _ _ _ hV _ _ hP hS _ (lv_sub hl [2, 1, 0] rfl)
def NumM (T : Nat → Nat) (L p : Nat) (r : Int32) (e : Nat) : Prop := (∃ v, Num T L p e v ∧ r = nI v) ∨ ((¬ ∃ q v, Num T L p q v) ∧ r = -1)
def post_X7_number (g : Gs) (a : As) (r : Int32) (g' : Gs) (a' : As) : Prop := a' = a ∧ ∃ e, e ≤ mL g ∧ g' = va_up g 1 (nI e) ∧ ∀ p, p ≤ mL g → g 1 = nI p → NumM (mT a) (mL g) p r e
theorem sB_dig {x : Nat} (hx : x < 256) : (48 ≤ (sB x).toInt ∧ (sB x).toInt ≤ 57) ↔ 48 ≤ x ∧ x ≤ 57 := by
  rw [sB_i x hx]
  split <;> omega
set_option maxRecDepth 4000 in
theorem spec_X7_number (l : Launch) (D : va_G) (cy : Nat → ClassId) (ad : Nat → Nat) (sz : Nat) (g : Gs) (a : As) (hpre : pre_X7_number g a) : Met l yX7_number wsX7_number ({ frames := 1, cells := 0, slots := 0, locals := 25 } : Room) (va_Pc [.ref (ad 0)] (ArP D cy sz (maW ad cy g a))) (va_Qi (fun (r : Int32) (u : Gs × As) => (post_X7_number g a) r u.1 u.2) (fun u t => va_P D vwCl (maW ad cy u.1 u.2) t.heap) (va_A (maW ad cy g a) sz)) 0 0 (va_A (maW ad cy g a) sz) := by
  apply met_X7_number
  intro J hJ
  obtain ⟨hO, p, hp, hg1⟩ := hpre
  unfold OkM at hO
  generalize hTd : mT a = T at *
  generalize hLd : mL g = L at *
  have hL := hO.1
  have l48 : (48 : Int64).toInt = 48 := rfl
  have l57 : (57 : Int64).toInt = 57 := rfl
  have l1 : (1 : Int64).toInt = 1 := rfl
  have l4 : (4 : Int64).toInt = 4 := rfl
  have good : ∀ r e, e ≤ L → NumM T L p r e → post_X7_number g a r (va_up g 1 (nI e)) a := fun r e he h => ⟨rfl, e, by rw [hLd]; exact he, rfl, fun p' hp' hg' => by
    rw [hLd] at hp'
    have : p' = p := (nI_eq (by omega) (by omega)).mp (hg'.symm.trans hg1)
    subst this
    rw [hTd, hLd]; exact h⟩
  have fin : ∀ f, p + f ≤ L → (∀ j, j < f → Dig T L (p + j)) → ¬ Dig T L (p + f) → ∀ r86, post_X7_in (nI f).toInt64 1 4 r86 → ((r86 = 0 → post_X7_number g a (-1) (va_up g 1 (nI (p + f))) a) ∧ (¬ r86 = 0 → post_X7_number g a (nI (valN T p (min f 4))) (va_up g 1 (nI (p + f))) a)) := by
    intro f hf hd hn r hr
    unfold post_X7_in at hr
    rw [il_t, l1, l4, nI_toInt (by omega)] at hr
    subst hr
    refine ⟨fun z => good _ _ hf (Or.inr ⟨fun ⟨q, v, y⟩ => ?_, rfl⟩), fun z => good _ _ hf (Or.inl ⟨_, ⟨f, ?_, rfl, ?_, hd, hn⟩, rfl⟩)⟩
    · have := num_run y hd hn
      exact zb_0 z ⟨by omega, by omega⟩
    · have := zb_1 z; omega
    · have := zb_1 z; rw [Nat.min_eq_left (by omega)]
  have key : ∀ (d f : Nat), p + f + d = L → (∀ j, j < f → Dig T L (p + j)) → J (nI (valN T p (min f 4))) (nI f) (va_up g 1 (nI (p + f))) a := by
    intro d
    induction d with
    | zero =>
      intro f hf hd
      refine hJ _ _ _ _ ?_
      rw [up_n _ _ (show (0 : Nat) ≠ 1 by decide), up_0]
      exact pk_le L (p + f) (fun _ => fin f (by omega) hd (fun z => by have := z.1; omega)) (fun h => absurd h (by omega)) hO.2.1 rfl (by omega) (by omega)
    | succ d ih =>
      intro f hf hd
      refine hJ _ _ _ _ ?_
      rw [up_n _ _ (show (0 : Nat) ≠ 1 by decide), up_0, up_up, show (nI (p + f)).toNatClampNeg = p + f from tn_nI (by omega)]
      obtain ⟨hb, ha⟩ := hO.2.2 (p + f) (by omega)
      refine pk_le L (p + f) (fun h => absurd h (by omega)) (fun _ => ⟨vp_in_nI (by omega) (by omega), fun r hr => ?_⟩) hO.2.1 rfl (by omega) (by omega)
      unfold post_X7_in at hr
      rw [il_t, l48, l57, ha, zb_c (sB_dig hb)] at hr
      subst hr
      refine ⟨fun z => fin f (by omega) hd (fun y => zb_0 z y.2), fun z => ?_⟩
      have hdg := zb_1 z
      have hd' : ∀ j, j < f + 1 → Dig T L (p + j) := fun j hj => by
        by_cases y : j = f
        · rw [y]; exact ⟨by omega, hdg⟩
        · exact hd j (by omega)
      rw [show nI (p + f) + (1 : Int32) = nI (p + (f + 1)) from nI_1 _, nI_1]
      refine pk_le 4 f (fun y => ?_) (fun y => ⟨vp_in_nI (by omega) (by omega), ?_⟩)
      · have := ih (f + 1) (by omega) hd'
        rwa [Nat.min_eq_right (by omega)] at this ⊢
      · have hv := valN_lt hd
        have hv2 : 10 ^ f ≤ 10 ^ 4 := Nat.pow_le_pow_right (by decide) (by omega)
        have := ih (f + 1) (by omega) hd'
        rw [Nat.min_eq_left (by omega)] at this ⊢
        rw [ha, sB_lo (by omega), show (10 : Int32) * nI (valN T p f) = nI (10 * valN T p f) from pk_mul 10 _, nI_add, show nI (10 * valN T p f + T (p + f)) - (48 : Int32) = nI (valN T p (f + 1)) from pk_sub (b := 48) (by omega)]
        exact this
  have := key (L - p) 0 (by omega) (fun j hj => by omega)
  rw [Nat.add_zero, ← hg1, up_id] at this
  exact this
def MoreM (T : Nat → Nat) (L p : Nat) (r : Int32) (e : Nat) : Prop := (∃ v, (p < L ∧ T p = 44) ∧ Num T L (p + 1) e v ∧ r = nI v) ∨ ((¬ ∃ q v, (p < L ∧ T p = 44) ∧ Num T L (p + 1) q v) ∧ r = -1)
def pre_X7_more (g : Gs) (a : As) : Prop := OkM g a ∧ ∃ p, p ≤ mL g ∧ g 1 = nI p
set_option maxHeartbeats 4000000 in
set_option maxRecDepth 100000 in
theorem met_X7_more (l : Launch) (D : va_G) (cy : Nat → ClassId) (ad : Nat → Nat) (sz : Nat) (g : Gs) (a : As) (post : Int32 → Gs → As → Prop)
  (hV : (((g 0) ≤ (g 1) → post (-1 : Int32) g a) ∧ (¬ (g 0) ≤ (g 1) → vp_in (g 1) 200 ∧ (((((a 0) (g 1).toNatClampNeg) = (44 : Int32) → pre_X7_number (va_up g 1 ((g 1) + (1 : Int32))) a ∧ (∀ (r38 : Int32) (g38 : Gs) (a38 : As), post_X7_number (va_up g 1 ((g 1) + (1 : Int32))) a r38 g38 a38 → post r38 g38 a38)) ∧ (¬ ((a 0) (g 1).toNatClampNeg) = (44 : Int32) → post (-1 : Int32) g a)))))) :
  Met l yX7_more wsX7_more ({ frames := 2, cells := 0, slots := 0, locals := 47 } : Room) (va_Pc [.ref (ad 0)] (ArP D cy sz (maW ad cy g a))) (va_Qi (fun (r : Int32) (u : Gs × As) => post r u.1 u.2) (fun u t => va_P D vwCl (maW ad cy u.1 u.2) t.heap) (va_A (maW ad cy g a) sz)) 0 0 (va_A (maW ad cy g a) sz) := by
  refine Met.ofW (cc := cX7_more) (maxL := 1) (ret := (some .int)) (by decide) rfl ?_
  intro p e s m args below meth c s₁ B hml hv
  obtain ⟨rfl, hsz, hP, hK, hD0, hN⟩ := hv
  have hx := B.exec
  have hb := B.bytes
  have hr := B.returns
  have hts := atoms_spec (ws := wsX7_more) B.pre
  have hown : s.vm.findClass RX7 = some m.cls := findClass_of_methodNamed B.named
  have hlocks := B.notSynchronized
  subst hsz
  have hD := hD0.self (sz := s.heap.size)
  have hP : va_P D vwCl (maW ad cy g a) s.heap := hP
  have hD : va_D (va_A (maW ad cy g a) s.heap.size) (maW ad cy g a) := hD
  have hS : va_S (va_A (maW ad cy g a) s.heap.size) s.heap s.heap [] := va_S.rf
  have hA : ∀ q : Nat, s.heap.size ≤ q → va_A (maW ad cy g a) s.heap.size q := fun q h => Or.inr h
  have hl := lv_entry ([.ref (ad 0)]) (n := 1) (Nat.le_of_ble_eq_true rfl)
  rw [lg_entry_eq]
  generalize (lg_sl ([.ref (ad 0)]) ++ List.replicate (1 - (lg_sl ([.ref (ad 0)])).length) Slot.unset).toArray = ls at hl ⊢
  have hl : lv_has ls 1 [(0, .ref (ad 0))] := hl
  refine lv_aload_n hx hb dX7_more_0 rfl (lv_at hl 0 rfl) ?_
  refine va_get (D := D) (ci := 6) (v := .int (g 1)) (C := RX7) (T := TX7) (N := 18) hx hb hts (by decide +kernel) hown hK hP 0 rfl rfl 2 (by decide) (hts (.fieldLink RX7 105 "PowerRestsModel" "at" "I") (by decide +kernel)) (fun _ h9 => h9) rfl dX7_more_1 ?_
  refine lv_aload_n hx hb dX7_more_4 rfl (lv_at hl 0 rfl) ?_
  refine va_get (D := D) (ci := 6) (v := .int (g 0)) (C := RX7) (T := TX7) (N := 18) hx hb hts (by decide +kernel) hown hK hP 0 rfl rfl 0 (by decide) (hts (.fieldLink RX7 102 "PowerRestsModel" "length" "I") (by decide +kernel)) (fun _ h9 => h9) rfl dX7_more_5 ?_
  refine lv_icmp_ge (tgt := 25) hx hb dX7_more_8 (by decide) (fun c_8 => ?_) (fun c_8 => ?_)
  · have hV := hV.1 c_8
    refine lv_iconst (v := (-1 : Int32)) hx hb dX7_more_25 (by decide) ?_
    exact W.iret (v := (-1 : Int32)) hx hb hr (fun t ht hW => ⟨⟨_, (g, a), rfl, hV, ar_heap ht hP⟩, hS.F ht⟩) hS.2.2 dX7_more_26
  · have hV := hV.2 c_8
    refine lv_aload_n hx hb dX7_more_11 rfl (lv_at hl 0 rfl) ?_
    refine va_get (D := D) (ci := 6) (v := .ref (ad 1)) (C := RX7) (T := TX7) (N := 18) hx hb hts (by decide +kernel) hown hK hP 0 rfl rfl 1 (by decide) (hts (.fieldLink RX7 7 "PowerRestsModel" "text" "[B") (by decide +kernel)) (fun _ h9 => h9) rfl dX7_more_12 ?_
    refine lv_aload_n hx hb dX7_more_15 rfl (lv_at hl 0 rfl) ?_
    refine va_get (D := D) (ci := 6) (v := .int (g 1)) (C := RX7) (T := TX7) (N := 18) hx hb hts (by decide +kernel) hown hK hP 0 rfl rfl 2 (by decide) (hts (.fieldLink RX7 105 "PowerRestsModel" "at" "I") (by decide +kernel)) (fun _ h9 => h9) rfl dX7_more_16 ?_
    obtain ⟨h_19, hV⟩ := hV
    refine va_bald (f := (a 0)) hx hb hK hP 1 4 rfl rfl h_19 dX7_more_19 ?_
    refine lv_bipush (v := (44 : Int32)) hx hb dX7_more_20 (by decide) ?_
    refine lv_icmp_eq (tgt := 27) hx hb dX7_more_22 (by decide) (fun c_22 => ?_) (fun c_22 => ?_)
    · have hV := hV.1 c_22
      refine lv_aload_n hx hb dX7_more_27 rfl (lv_at hl 0 rfl) ?_
      refine lv_dup hx hb dX7_more_28 rfl ?_
      refine va_get (D := D) (ci := 6) (v := .int (g 1)) (C := RX7) (T := TX7) (N := 18) hx hb hts (by decide +kernel) hown hK hP 0 rfl rfl 2 (by decide) (hts (.fieldLink RX7 105 "PowerRestsModel" "at" "I") (by decide +kernel)) (fun _ h9 => h9) rfl dX7_more_29 ?_
      refine lv_iconst (v := (1 : Int32)) hx hb dX7_more_32 (by decide) ?_
      refine lv_iadd hx hb dX7_more_33 ?_
      refine va_put (D := D) (ci := 6) (v := .int ((g 1) + (1 : Int32))) (ty := .int) (C := RX7) (T := TX7) (N := 18) hx hb hts (by decide +kernel) tyX7 tyX7_ok nmX7 hown hK hP (maD hD) hS 0 rfl rfl 2 (by decide) (hts (.fieldLink RX7 105 "PowerRestsModel" "at" "I") (by decide +kernel)) (fun _ h9 => h9) rfl (by decide +kernel) rfl rfl (Nat.le_of_ble_eq_true rfl) dX7_more_34 (fun H locs hP _ hS => ?_)
      have hP : va_P D vwCl (maW ad cy (va_up g 1 ((g 1) + (1 : Int32))) a) H := hP
      refine lv_aload_n hx hb dX7_more_37 rfl (lv_at hl 0 rfl) ?_
      obtain ⟨h_38, hV⟩ := hV
      refine cw_i (va_runV (As := []) (rest := []) ⟨hx, hb, hml, hown, hts⟩ (spec_X7_number l D cy ad _ (va_up g 1 ((g 1) + (1 : Int32))) a h_38) (cwV 0 hts gX7_more_X7_number rfl rfl rfl (by decide +kernel) ⟨Nat.le_of_ble_eq_true rfl, Nat.le_of_ble_eq_true rfl⟩) (ar_preV hN hK hP (maD hD) (ci := 6) (q0 := 0) rfl rfl) rfl rfl hl.1 rfl (lv_room (Nat.le_of_ble_eq_true rfl)) dX7_more_38 ⟨Nat.zero_le _, Nat.zero_le _⟩) hS (maD hD) hA (fun r38 u_38 H locs q_38 hP hS => ?_)
      obtain ⟨g38, a38⟩ := u_38
      have hV := hV r38 g38 a38 q_38
      have hP : va_P D vwCl (maW ad cy g38 a38) H := hP
      exact W.iret (v := r38) hx hb hr (fun t ht hW => ⟨⟨_, (g38, a38), rfl, hV, ar_heap ht hP⟩, hS.F ht⟩) hS.2.2 dX7_more_41
    · have hV := hV.2 c_22
      refine lv_iconst (v := (-1 : Int32)) hx hb dX7_more_25 (by decide) ?_
      exact W.iret (v := (-1 : Int32)) hx hb hr (fun t ht hW => ⟨⟨_, (g, a), rfl, hV, ar_heap ht hP⟩, hS.F ht⟩) hS.2.2 dX7_more_26
def post_X7_more (g : Gs) (a : As) (r : Int32) (g' : Gs) (a' : As) : Prop := a' = a ∧ ∃ e, e ≤ mL g ∧ g' = va_up g 1 (nI e) ∧ ∀ p, p ≤ mL g → g 1 = nI p → MoreM (mT a) (mL g) p r e
theorem OkM.up {g : Gs} {a : As} (h : OkM g a) {j : Nat} (hj : j ≠ 0) (x : Int32) : OkM (va_up g j x) a := by
  unfold OkM at *
  have : mL (va_up g j x) = mL g := by show tn (va_up g j x 0) = tn (g 0); rw [up_n _ _ (by omega)]
  rw [this]
  exact ⟨h.1, by rw [up_n _ _ (by omega)]; exact h.2.1, h.2.2⟩
theorem mL_up (g : Gs) {j : Nat} (hj : j ≠ 0) (x : Int32) : mL (va_up g j x) = mL g := by show tn (va_up g j x 0) = tn (g 0); rw [up_n _ _ (by omega)]
set_option maxRecDepth 4000 in
theorem spec_X7_more (l : Launch) (D : va_G) (cy : Nat → ClassId) (ad : Nat → Nat) (sz : Nat) (g : Gs) (a : As) (hpre : pre_X7_more g a) : Met l yX7_more wsX7_more ({ frames := 2, cells := 0, slots := 0, locals := 47 } : Room) (va_Pc [.ref (ad 0)] (ArP D cy sz (maW ad cy g a))) (va_Qi (fun (r : Int32) (u : Gs × As) => (post_X7_more g a) r u.1 u.2) (fun u t => va_P D vwCl (maW ad cy u.1 u.2) t.heap) (va_A (maW ad cy g a) sz)) 0 0 (va_A (maW ad cy g a) sz) := by
  apply met_X7_more
  obtain ⟨hO, p, hp, hg1⟩ := hpre
  have hL := hO.1
  have good : ∀ r e, e ≤ mL g → MoreM (mT a) (mL g) p r e → post_X7_more g a r (va_up g 1 (nI e)) a := fun r e he h => ⟨rfl, e, he, rfl, fun p' hp' hg' => by
    have : p' = p := (nI_eq (by omega) (by omega)).mp (hg'.symm.trans hg1)
    subst this
    exact h⟩
  have bad : (¬ ∃ q v, (p < mL g ∧ mT a p = 44) ∧ Num (mT a) (mL g) (p + 1) q v) → post_X7_more g a (-1) g a := fun h => by
    have := good (-1) p hp (Or.inr ⟨h, rfl⟩)
    rwa [← hg1, up_id] at this
  refine pk_le (mL g) p (fun h => bad (fun ⟨q, v, z, _⟩ => by omega)) (fun h => ?_) hO.2.1 hg1 (by omega) (by omega)
  obtain ⟨hb, ha⟩ := hO.2.2 p h
  have eT : (g 1).toNatClampNeg = p := by rw [hg1]; exact tn_nI (by omega)
  rw [eT]
  refine ⟨by rw [hg1]; exact vp_in_nI (by omega) (by omega), fun z => ?_, fun z => bad (fun ⟨q, v, y, _⟩ => z ?_)⟩
  · have z44 : mT a p = 44 := (sB_eq hb (by decide)).mp (ha.symm.trans z)
    rw [hg1, nI_1]
    refine ⟨⟨hO.up (by decide) _, p + 1, by rw [mL_up _ (by decide)]; omega, up_0 _ _ _⟩, fun r g1 a1 hr => ?_⟩
    obtain ⟨rfl, e, he, rfl, hN⟩ := hr
    rw [mL_up _ (by decide)] at he
    have hN := hN (p + 1) (by rw [mL_up _ (by decide)]; omega) (up_0 _ _ _)
    rw [mL_up _ (by decide)] at hN
    rw [up_up]
    refine good r e he ?_
    rcases hN with ⟨v, y1, y2⟩ | ⟨y1, y2⟩
    · exact Or.inl ⟨v, ⟨h, z44⟩, y1, y2⟩
    · exact Or.inr ⟨fun ⟨q, v, _, x⟩ => y1 ⟨q, v, x⟩, y2⟩
  · rw [ha, y.2]; exact sB_lo (by decide)
def pre_X7_isItem (g : Gs) (a : As) : Prop := OkM g a ∧ ∃ p k, p < mL g ∧ g 1 = nI p ∧ k ≤ 8 ∧ g 4 = nI k
set_option maxHeartbeats 4000000 in
set_option maxRecDepth 100000 in
theorem met_X7_isItem (l : Launch) (D : va_G) (cy : Nat → ClassId) (ad : Nat → Nat) (sz : Nat) (g : Gs) (a : As) (post : Int32 → Gs → As → Prop)
  (hV : ∀ (J74 : Int32 → Int32 → Int32 → Gs → As → Prop) (J167 : Int32 → Int32 → Int32 → Int32 → Gs → As → Prop) (J171 : Int32 → Int32 → Int32 → Int32 → Gs → As → Prop),
    (∀ (x1 : Int32) (x2 : Int32) (s0 : Int32) (g_ : Gs) (a_ : As), pre_X7_more g_ a_ ∧ (∀ (r76 : Int32) (g76 : Gs) (a76 : As), post_X7_more g_ a_ r76 g76 a76 → ((x2 < 0 → J171 x1 x2 s0 r76 g76 a76) ∧ (¬ x2 < 0 → ∀ r94 : Int32, post_X7_in r76.toInt64 (2 : Int64) (200 : Int64) r94 → ((r94 = 0 → J171 x1 x2 s0 r76 g76 a76) ∧ (¬ r94 = 0 → ∀ r108 : Int32, post_X7_in s0.toInt64 (0 : Int64) ((r76 - (1 : Int32)).toInt64) r108 → ((r108 = 0 → J171 x1 x2 s0 r76 g76 a76) ∧ (¬ r108 = 0 → ((x1 = (112 : Int32) → ∀ r138 : Int32, post_X7_in x2.toInt64 (1 : Int64) (9 : Int64) r138 → ((r138 = 0 → J171 x1 x2 s0 r76 g76 a76) ∧ (¬ r138 = 0 → J167 x1 x2 s0 r76 g76 a76))) ∧ (¬ x1 = (112 : Int32) → ((x1 = (98 : Int32) → ((s0 < x2 → J171 x1 x2 s0 r76 g76 a76) ∧ (¬ s0 < x2 → J167 x1 x2 s0 r76 g76 a76))) ∧ (¬ x1 = (98 : Int32) → ((r76 ≤ x2 → J171 x1 x2 s0 r76 g76 a76) ∧ (¬ r76 ≤ x2 → J167 x1 x2 s0 r76 g76 a76))))))))))))) → J74 x1 x2 s0 g_ a_) →
    (∀ (x1 : Int32) (x2 : Int32) (x3 : Int32) (x4 : Int32) (g_ : Gs) (a_ : As), (((g_ 0) ≤ (g_ 1) → post (0 : Int32) g_ a_) ∧ (¬ (g_ 0) ≤ (g_ 1) → vp_in (g_ 1) 200 ∧ (((((a_ 0) (g_ 1).toNatClampNeg) = (59 : Int32) → vp_in (g_ 4) 8 ∧ (vp_in (g_ 4) 8 ∧ (vp_in (g_ 4) 8 ∧ (vp_in (g_ 4) 8 ∧ (post (1 : Int32) (va_up (va_up g_ 1 ((g_ 1) + (1 : Int32))) 4 ((g_ 4) + (1 : Int32))) (va_up (va_up (va_up (va_up a_ 5 (upd (a_ 5) (g_ 4).toNatClampNeg x1)) 6 (upd (a_ 6) (g_ 4).toNatClampNeg x2)) 7 (upd (a_ 7) (g_ 4).toNatClampNeg x3)) 8 (upd (a_ 8) (g_ 4).toNatClampNeg x4))))))) ∧ (¬ ((a_ 0) (g_ 1).toNatClampNeg) = (59 : Int32) → post (0 : Int32) g_ a_))))) → J167 x1 x2 x3 x4 g_ a_) →
    (∀ (x1 : Int32) (x2 : Int32) (x3 : Int32) (x4 : Int32) (g_ : Gs) (a_ : As), post (0 : Int32) g_ a_ → J171 x1 x2 x3 x4 g_ a_) →
    vp_in (g 1) 200 ∧ ((((g 4) = (8 : Int32) → post (0 : Int32) (va_up g 1 ((g 1) + (1 : Int32))) a) ∧ (¬ (g 4) = (8 : Int32) → ((((a 0) (g 1).toNatClampNeg) = (108 : Int32) → pre_X7_number (va_up g 1 ((g 1) + (1 : Int32))) a ∧ (∀ (r56 : Int32) (g56 : Gs) (a56 : As), post_X7_number (va_up g 1 ((g 1) + (1 : Int32))) a r56 g56 a56 → ((((a 0) (g 1).toNatClampNeg) = (110 : Int32) → J74 ((a 0) (g 1).toNatClampNeg) r56 r56 g56 a56) ∧ (¬ ((a 0) (g 1).toNatClampNeg) = (110 : Int32) → pre_X7_more g56 a56 ∧ (∀ (r71 : Int32) (g71 : Gs) (a71 : As), post_X7_more g56 a56 r71 g71 a71 → J74 ((a 0) (g 1).toNatClampNeg) r56 r71 g71 a71))))) ∧ (¬ ((a 0) (g 1).toNatClampNeg) = (108 : Int32) → ((((a 0) (g 1).toNatClampNeg) = (112 : Int32) → pre_X7_number (va_up g 1 ((g 1) + (1 : Int32))) a ∧ (∀ (r56 : Int32) (g56 : Gs) (a56 : As), post_X7_number (va_up g 1 ((g 1) + (1 : Int32))) a r56 g56 a56 → ((((a 0) (g 1).toNatClampNeg) = (110 : Int32) → J74 ((a 0) (g 1).toNatClampNeg) r56 r56 g56 a56) ∧ (¬ ((a 0) (g 1).toNatClampNeg) = (110 : Int32) → pre_X7_more g56 a56 ∧ (∀ (r71 : Int32) (g71 : Gs) (a71 : As), post_X7_more g56 a56 r71 g71 a71 → J74 ((a 0) (g 1).toNatClampNeg) r56 r71 g71 a71))))) ∧ (¬ ((a 0) (g 1).toNatClampNeg) = (112 : Int32) → ((((a 0) (g 1).toNatClampNeg) = (110 : Int32) → pre_X7_number (va_up g 1 ((g 1) + (1 : Int32))) a ∧ (∀ (r56 : Int32) (g56 : Gs) (a56 : As), post_X7_number (va_up g 1 ((g 1) + (1 : Int32))) a r56 g56 a56 → ((((a 0) (g 1).toNatClampNeg) = (110 : Int32) → J74 ((a 0) (g 1).toNatClampNeg) r56 r56 g56 a56) ∧ (¬ ((a 0) (g 1).toNatClampNeg) = (110 : Int32) → pre_X7_more g56 a56 ∧ (∀ (r71 : Int32) (g71 : Gs) (a71 : As), post_X7_more g56 a56 r71 g71 a71 → J74 ((a 0) (g 1).toNatClampNeg) r56 r71 g71 a71))))) ∧ (¬ ((a 0) (g 1).toNatClampNeg) = (110 : Int32) → ((((a 0) (g 1).toNatClampNeg) = (98 : Int32) → pre_X7_number (va_up g 1 ((g 1) + (1 : Int32))) a ∧ (∀ (r56 : Int32) (g56 : Gs) (a56 : As), post_X7_number (va_up g 1 ((g 1) + (1 : Int32))) a r56 g56 a56 → ((((a 0) (g 1).toNatClampNeg) = (110 : Int32) → J74 ((a 0) (g 1).toNatClampNeg) r56 r56 g56 a56) ∧ (¬ ((a 0) (g 1).toNatClampNeg) = (110 : Int32) → pre_X7_more g56 a56 ∧ (∀ (r71 : Int32) (g71 : Gs) (a71 : As), post_X7_more g56 a56 r71 g71 a71 → J74 ((a 0) (g 1).toNatClampNeg) r56 r71 g71 a71))))) ∧ (¬ ((a 0) (g 1).toNatClampNeg) = (98 : Int32) → post (0 : Int32) (va_up g 1 ((g 1) + (1 : Int32))) a)))))))))))) :
  Met l yX7_isItem wsX7_isItem ({ frames := 3, cells := 0, slots := 0, locals := 67 } : Room) (va_Pc [.ref (ad 0)] (ArP D cy sz (maW ad cy g a))) (va_Qi (fun (r : Int32) (u : Gs × As) => post r u.1 u.2) (fun u t => va_P D vwCl (maW ad cy u.1 u.2) t.heap) (va_A (maW ad cy g a) sz)) 0 0 (va_A (maW ad cy g a) sz) := by
  refine Met.ofW (cc := cX7_isItem) (maxL := 6) (ret := (some .boolean)) (by decide) rfl ?_
  intro p e s m args below meth c s₁ B hml hv
  obtain ⟨rfl, hsz, hP, hK, hD0, hN⟩ := hv
  have hx := B.exec
  have hb := B.bytes
  have hr := B.returns
  have hts := atoms_spec (ws := wsX7_isItem) B.pre
  have hown : s.vm.findClass RX7 = some m.cls := findClass_of_methodNamed B.named
  have hlocks := B.notSynchronized
  subst hsz
  have hD := hD0.self (sz := s.heap.size)
  have hP : va_P D vwCl (maW ad cy g a) s.heap := hP
  have hD : va_D (va_A (maW ad cy g a) s.heap.size) (maW ad cy g a) := hD
  have hS : va_S (va_A (maW ad cy g a) s.heap.size) s.heap s.heap [] := va_S.rf
  have hA : ∀ q : Nat, s.heap.size ≤ q → va_A (maW ad cy g a) s.heap.size q := fun q h => Or.inr h
  obtain ⟨J74, iJ74, oJ74⟩ : ∃ J : Int32 → Int32 → Int32 → Gs → As → Prop, (∀ (x1 : Int32) (x2 : Int32) (s0 : Int32) (g_ : Gs) (a_ : As), (∀ (H : Heap) (locs : List Loc), va_P D vwCl (maW ad cy g_ a_) H → va_S (va_A (maW ad cy g a) s.heap.size) s.heap H locs → ∀ ls : Array Slot, lv_has ls 6 [(0, .ref (ad 0)), (1, .int x1), (2, .int x2)] → W p l e (headSpec wsX7_isItem ({ frames := 3, cells := 0, slots := 0, locals := 67 } : Room)).room s m [.ref (ad 0)].toArray below meth c H locs 0 0 (MQ below (va_Qi (fun (r : Int32) (u : Gs × As) => post r u.1 u.2) (fun u t => va_P D vwCl (maW ad cy u.1 u.2) t.heap) (va_A (maW ad cy g a) s.heap.size)) [.ref (ad 0)].toArray s 0 0 (va_A (maW ad cy g a) s.heap.size)) (F0 m 74 ls [.int s0])) → J x1 x2 s0 g_ a_) ∧ (∀ (x1 : Int32) (x2 : Int32) (s0 : Int32) (g_ : Gs) (a_ : As), J x1 x2 s0 g_ a_ → (∀ (H : Heap) (locs : List Loc), va_P D vwCl (maW ad cy g_ a_) H → va_S (va_A (maW ad cy g a) s.heap.size) s.heap H locs → ∀ ls : Array Slot, lv_has ls 6 [(0, .ref (ad 0)), (1, .int x1), (2, .int x2)] → W p l e (headSpec wsX7_isItem ({ frames := 3, cells := 0, slots := 0, locals := 67 } : Room)).room s m [.ref (ad 0)].toArray below meth c H locs 0 0 (MQ below (va_Qi (fun (r : Int32) (u : Gs × As) => post r u.1 u.2) (fun u t => va_P D vwCl (maW ad cy u.1 u.2) t.heap) (va_A (maW ad cy g a) s.heap.size)) [.ref (ad 0)].toArray s 0 0 (va_A (maW ad cy g a) s.heap.size)) (F0 m 74 ls [.int s0]))) := ⟨fun (x1 : Int32) (x2 : Int32) (s0 : Int32) (g_ : Gs) (a_ : As) => (∀ (H : Heap) (locs : List Loc), va_P D vwCl (maW ad cy g_ a_) H → va_S (va_A (maW ad cy g a) s.heap.size) s.heap H locs → ∀ ls : Array Slot, lv_has ls 6 [(0, .ref (ad 0)), (1, .int x1), (2, .int x2)] → W p l e (headSpec wsX7_isItem ({ frames := 3, cells := 0, slots := 0, locals := 67 } : Room)).room s m [.ref (ad 0)].toArray below meth c H locs 0 0 (MQ below (va_Qi (fun (r : Int32) (u : Gs × As) => post r u.1 u.2) (fun u t => va_P D vwCl (maW ad cy u.1 u.2) t.heap) (va_A (maW ad cy g a) s.heap.size)) [.ref (ad 0)].toArray s 0 0 (va_A (maW ad cy g a) s.heap.size)) (F0 m 74 ls [.int s0])), fun _ _ _ _ _ h => h, fun _ _ _ _ _ h => h⟩
  obtain ⟨J167, iJ167, oJ167⟩ : ∃ J : Int32 → Int32 → Int32 → Int32 → Gs → As → Prop, (∀ (x1 : Int32) (x2 : Int32) (x3 : Int32) (x4 : Int32) (g_ : Gs) (a_ : As), (∀ (H : Heap) (locs : List Loc), va_P D vwCl (maW ad cy g_ a_) H → va_S (va_A (maW ad cy g a) s.heap.size) s.heap H locs → ∀ ls : Array Slot, lv_has ls 6 [(0, .ref (ad 0)), (1, .int x1), (2, .int x2), (3, .int x3), (4, .int x4)] → W p l e (headSpec wsX7_isItem ({ frames := 3, cells := 0, slots := 0, locals := 67 } : Room)).room s m [.ref (ad 0)].toArray below meth c H locs 0 0 (MQ below (va_Qi (fun (r : Int32) (u : Gs × As) => post r u.1 u.2) (fun u t => va_P D vwCl (maW ad cy u.1 u.2) t.heap) (va_A (maW ad cy g a) s.heap.size)) [.ref (ad 0)].toArray s 0 0 (va_A (maW ad cy g a) s.heap.size)) (F0 m 167 ls [])) → J x1 x2 x3 x4 g_ a_) ∧ (∀ (x1 : Int32) (x2 : Int32) (x3 : Int32) (x4 : Int32) (g_ : Gs) (a_ : As), J x1 x2 x3 x4 g_ a_ → (∀ (H : Heap) (locs : List Loc), va_P D vwCl (maW ad cy g_ a_) H → va_S (va_A (maW ad cy g a) s.heap.size) s.heap H locs → ∀ ls : Array Slot, lv_has ls 6 [(0, .ref (ad 0)), (1, .int x1), (2, .int x2), (3, .int x3), (4, .int x4)] → W p l e (headSpec wsX7_isItem ({ frames := 3, cells := 0, slots := 0, locals := 67 } : Room)).room s m [.ref (ad 0)].toArray below meth c H locs 0 0 (MQ below (va_Qi (fun (r : Int32) (u : Gs × As) => post r u.1 u.2) (fun u t => va_P D vwCl (maW ad cy u.1 u.2) t.heap) (va_A (maW ad cy g a) s.heap.size)) [.ref (ad 0)].toArray s 0 0 (va_A (maW ad cy g a) s.heap.size)) (F0 m 167 ls []))) := ⟨fun (x1 : Int32) (x2 : Int32) (x3 : Int32) (x4 : Int32) (g_ : Gs) (a_ : As) => (∀ (H : Heap) (locs : List Loc), va_P D vwCl (maW ad cy g_ a_) H → va_S (va_A (maW ad cy g a) s.heap.size) s.heap H locs → ∀ ls : Array Slot, lv_has ls 6 [(0, .ref (ad 0)), (1, .int x1), (2, .int x2), (3, .int x3), (4, .int x4)] → W p l e (headSpec wsX7_isItem ({ frames := 3, cells := 0, slots := 0, locals := 67 } : Room)).room s m [.ref (ad 0)].toArray below meth c H locs 0 0 (MQ below (va_Qi (fun (r : Int32) (u : Gs × As) => post r u.1 u.2) (fun u t => va_P D vwCl (maW ad cy u.1 u.2) t.heap) (va_A (maW ad cy g a) s.heap.size)) [.ref (ad 0)].toArray s 0 0 (va_A (maW ad cy g a) s.heap.size)) (F0 m 167 ls [])), fun _ _ _ _ _ _ h => h, fun _ _ _ _ _ _ h => h⟩
  obtain ⟨J171, iJ171, oJ171⟩ : ∃ J : Int32 → Int32 → Int32 → Int32 → Gs → As → Prop, (∀ (x1 : Int32) (x2 : Int32) (x3 : Int32) (x4 : Int32) (g_ : Gs) (a_ : As), (∀ (H : Heap) (locs : List Loc), va_P D vwCl (maW ad cy g_ a_) H → va_S (va_A (maW ad cy g a) s.heap.size) s.heap H locs → ∀ ls : Array Slot, lv_has ls 6 [(0, .ref (ad 0)), (1, .int x1), (2, .int x2), (3, .int x3), (4, .int x4)] → W p l e (headSpec wsX7_isItem ({ frames := 3, cells := 0, slots := 0, locals := 67 } : Room)).room s m [.ref (ad 0)].toArray below meth c H locs 0 0 (MQ below (va_Qi (fun (r : Int32) (u : Gs × As) => post r u.1 u.2) (fun u t => va_P D vwCl (maW ad cy u.1 u.2) t.heap) (va_A (maW ad cy g a) s.heap.size)) [.ref (ad 0)].toArray s 0 0 (va_A (maW ad cy g a) s.heap.size)) (F0 m 171 ls [])) → J x1 x2 x3 x4 g_ a_) ∧ (∀ (x1 : Int32) (x2 : Int32) (x3 : Int32) (x4 : Int32) (g_ : Gs) (a_ : As), J x1 x2 x3 x4 g_ a_ → (∀ (H : Heap) (locs : List Loc), va_P D vwCl (maW ad cy g_ a_) H → va_S (va_A (maW ad cy g a) s.heap.size) s.heap H locs → ∀ ls : Array Slot, lv_has ls 6 [(0, .ref (ad 0)), (1, .int x1), (2, .int x2), (3, .int x3), (4, .int x4)] → W p l e (headSpec wsX7_isItem ({ frames := 3, cells := 0, slots := 0, locals := 67 } : Room)).room s m [.ref (ad 0)].toArray below meth c H locs 0 0 (MQ below (va_Qi (fun (r : Int32) (u : Gs × As) => post r u.1 u.2) (fun u t => va_P D vwCl (maW ad cy u.1 u.2) t.heap) (va_A (maW ad cy g a) s.heap.size)) [.ref (ad 0)].toArray s 0 0 (va_A (maW ad cy g a) s.heap.size)) (F0 m 171 ls []))) := ⟨fun (x1 : Int32) (x2 : Int32) (x3 : Int32) (x4 : Int32) (g_ : Gs) (a_ : As) => (∀ (H : Heap) (locs : List Loc), va_P D vwCl (maW ad cy g_ a_) H → va_S (va_A (maW ad cy g a) s.heap.size) s.heap H locs → ∀ ls : Array Slot, lv_has ls 6 [(0, .ref (ad 0)), (1, .int x1), (2, .int x2), (3, .int x3), (4, .int x4)] → W p l e (headSpec wsX7_isItem ({ frames := 3, cells := 0, slots := 0, locals := 67 } : Room)).room s m [.ref (ad 0)].toArray below meth c H locs 0 0 (MQ below (va_Qi (fun (r : Int32) (u : Gs × As) => post r u.1 u.2) (fun u t => va_P D vwCl (maW ad cy u.1 u.2) t.heap) (va_A (maW ad cy g a) s.heap.size)) [.ref (ad 0)].toArray s 0 0 (va_A (maW ad cy g a) s.heap.size)) (F0 m 171 ls [])), fun _ _ _ _ _ _ h => h, fun _ _ _ _ _ _ h => h⟩
  have hV := hV J74 J167 J171
  replace hV := hV (by
    intro x1 x2 s0 g_ a_ hV
    refine iJ74 x1 x2 s0 g_ a_ ?_
    intro H locs hP hS ls hl
    refine lv_istore_n (lv' := [(3, .int s0), (0, .ref (ad 0)), (1, .int x1), (2, .int x2)]) hx hb dX7_isItem_74 rfl hl (by decide) rfl (fun ls hl => ?_)
    refine lv_aload_n hx hb dX7_isItem_75 rfl (lv_at hl 1 rfl) ?_
    obtain ⟨h_76, hV⟩ := hV
    refine cw_i (va_runV (As := []) (rest := []) ⟨hx, hb, hml, hown, hts⟩ (spec_X7_more l D cy ad _ g_ a_ h_76) (cwV 0 hts gX7_isItem_X7_more rfl rfl rfl (by decide +kernel) ⟨Nat.le_of_ble_eq_true rfl, Nat.le_of_ble_eq_true rfl⟩) (ar_preV hN hK hP (maD hD) (ci := 6) (q0 := 0) rfl rfl) rfl rfl hl.1 rfl (lv_room (Nat.le_of_ble_eq_true rfl)) dX7_isItem_76 ⟨Nat.zero_le _, Nat.zero_le _⟩) hS (maD hD) hA (fun r76 u_76 H locs q_76 hP hS => ?_)
    obtain ⟨g76, a76⟩ := u_76
    have hV := hV r76 g76 a76 q_76
    have hP : va_P D vwCl (maW ad cy g76 a76) H := hP
    refine lv_istore (lv' := [(4, .int r76), (3, .int s0), (0, .ref (ad 0)), (1, .int x1), (2, .int x2)]) hx hb dX7_isItem_79 hl (by decide) rfl (fun ls hl => ?_)
    refine lv_iload_n hx hb dX7_isItem_81 rfl (lv_at hl 4 rfl) ?_
    refine lv_if_lt (tgt := 118) hx hb dX7_isItem_82 (by decide) (fun c_82 => ?_) (fun c_82 => ?_)
    · have hV := hV.1 c_82
      refine lv_iconst (v := (0 : Int32)) hx hb dX7_isItem_118 (by decide) ?_
      refine lv_istore (lv' := [(5, .int (0 : Int32)), (4, .int r76), (3, .int s0), (0, .ref (ad 0)), (1, .int x1), (2, .int x2)]) hx hb dX7_isItem_119 hl (by decide) rfl (fun ls hl => ?_)
      refine lv_iload hx hb dX7_isItem_121 (lv_at hl 0 rfl) ?_
      refine lv_if_eq (tgt := 171) hx hb dX7_isItem_123 (by decide) (fun c_123 => ?_) (fun c_123 => ?_)
      · have hV := hV
        exact oJ171 _ _ _ _ _ _ hV _ _ hP hS _ (lv_sub hl [3, 4, 5, 2, 1] rfl)
      · exact absurd (by decide) c_123
    · have hV := hV.2 c_82
      refine lv_iload hx hb dX7_isItem_85 (lv_at hl 0 rfl) ?_
      refine lv_i2l (v := r76.toInt64) hx hb dX7_isItem_87 rfl ?_
      refine lv_ldc2 (v := (2 : Int64)) hx hb hown (hts (.constantLong RX7 56 (2)) (by decide +kernel)) dX7_isItem_88 ?_
      refine lv_ldc2 (v := (200 : Int64)) hx hb hown (hts (.constantLong RX7 124 (200)) (by decide +kernel)) dX7_isItem_91 ?_
      refine cp_i (va_runS (As := [.long r76.toInt64, .long (2 : Int64), .long (200 : Int64)]) (rest := []) ⟨hx, hb, hml, hown, hts⟩ (spec_X7_in l r76.toInt64 (2 : Int64) (200 : Int64)) (va_cwS 3 hts gX7_isItem_X7_in rfl rfl rfl (by decide +kernel) ⟨Nat.le_of_ble_eq_true rfl, Nat.le_of_ble_eq_true rfl⟩) cp_pre rfl rfl hl.1 rfl (lv_room (Nat.le_of_ble_eq_true rfl)) dX7_isItem_94 ⟨Nat.zero_le _, Nat.zero_le _⟩) (fun r94 q_94 => ?_)
      have hV := hV r94 q_94
      refine lv_if_eq (tgt := 118) hx hb dX7_isItem_97 (by decide) (fun c_97 => ?_) (fun c_97 => ?_)
      · have hV := hV.1 c_97
        refine lv_iconst (v := (0 : Int32)) hx hb dX7_isItem_118 (by decide) ?_
        refine lv_istore (lv' := [(5, .int (0 : Int32)), (4, .int r76), (3, .int s0), (0, .ref (ad 0)), (1, .int x1), (2, .int x2)]) hx hb dX7_isItem_119 hl (by decide) rfl (fun ls hl => ?_)
        refine lv_iload hx hb dX7_isItem_121 (lv_at hl 0 rfl) ?_
        refine lv_if_eq (tgt := 171) hx hb dX7_isItem_123 (by decide) (fun c_123 => ?_) (fun c_123 => ?_)
        · have hV := hV
          exact oJ171 _ _ _ _ _ _ hV _ _ hP hS _ (lv_sub hl [3, 4, 5, 2, 1] rfl)
        · exact absurd (by decide) c_123
      · have hV := hV.2 c_97
        refine lv_iload_n hx hb dX7_isItem_100 rfl (lv_at hl 1 rfl) ?_
        refine lv_i2l (v := s0.toInt64) hx hb dX7_isItem_101 rfl ?_
        refine lv_lconst (v := (0 : Int64)) hx hb dX7_isItem_102 (by decide) ?_
        refine lv_iload hx hb dX7_isItem_103 (lv_at hl 0 rfl) ?_
        refine lv_iconst (v := (1 : Int32)) hx hb dX7_isItem_105 (by decide) ?_
        refine lv_isub hx hb dX7_isItem_106 ?_
        refine lv_i2l (v := (r76 - (1 : Int32)).toInt64) hx hb dX7_isItem_107 rfl ?_
        refine cp_i (va_runS (As := [.long s0.toInt64, .long (0 : Int64), .long ((r76 - (1 : Int32)).toInt64)]) (rest := []) ⟨hx, hb, hml, hown, hts⟩ (spec_X7_in l s0.toInt64 (0 : Int64) ((r76 - (1 : Int32)).toInt64)) (va_cwS 3 hts gX7_isItem_X7_in rfl rfl rfl (by decide +kernel) ⟨Nat.le_of_ble_eq_true rfl, Nat.le_of_ble_eq_true rfl⟩) cp_pre rfl rfl hl.1 rfl (lv_room (Nat.le_of_ble_eq_true rfl)) dX7_isItem_108 ⟨Nat.zero_le _, Nat.zero_le _⟩) (fun r108 q_108 => ?_)
        have hV := hV r108 q_108
        refine lv_if_eq (tgt := 118) hx hb dX7_isItem_111 (by decide) (fun c_111 => ?_) (fun c_111 => ?_)
        · have hV := hV.1 c_111
          refine lv_iconst (v := (0 : Int32)) hx hb dX7_isItem_118 (by decide) ?_
          refine lv_istore (lv' := [(5, .int (0 : Int32)), (4, .int r76), (3, .int s0), (0, .ref (ad 0)), (1, .int x1), (2, .int x2)]) hx hb dX7_isItem_119 hl (by decide) rfl (fun ls hl => ?_)
          refine lv_iload hx hb dX7_isItem_121 (lv_at hl 0 rfl) ?_
          refine lv_if_eq (tgt := 171) hx hb dX7_isItem_123 (by decide) (fun c_123 => ?_) (fun c_123 => ?_)
          · have hV := hV
            exact oJ171 _ _ _ _ _ _ hV _ _ hP hS _ (lv_sub hl [3, 4, 5, 2, 1] rfl)
          · exact absurd (by decide) c_123
        · have hV := hV.2 c_111
          refine lv_iconst (v := (1 : Int32)) hx hb dX7_isItem_114 (by decide) ?_
          refine lv_goto (tgt := 119) hx hb dX7_isItem_115 (by decide) ?_
          refine lv_istore (lv' := [(5, .int (1 : Int32)), (4, .int r76), (3, .int s0), (0, .ref (ad 0)), (1, .int x1), (2, .int x2)]) hx hb dX7_isItem_119 hl (by decide) rfl (fun ls hl => ?_)
          refine lv_iload hx hb dX7_isItem_121 (lv_at hl 0 rfl) ?_
          refine lv_if_eq (tgt := 171) hx hb dX7_isItem_123 (by decide) (fun c_123 => ?_) (fun c_123 => ?_)
          · exact absurd c_123 (by decide)
          · have hV := hV
            refine lv_iload_n hx hb dX7_isItem_126 rfl (lv_at hl 4 rfl) ?_
            refine lv_bipush (v := (112 : Int32)) hx hb dX7_isItem_127 (by decide) ?_
            refine lv_icmp_ne (tgt := 147) hx hb dX7_isItem_129 (by decide) (fun c_129 => ?_) (fun c_129 => ?_)
            · have hV := hV.2 c_129
              refine lv_iload_n hx hb dX7_isItem_147 rfl (lv_at hl 4 rfl) ?_
              refine lv_bipush (v := (98 : Int32)) hx hb dX7_isItem_148 (by decide) ?_
              refine lv_icmp_ne (tgt := 161) hx hb dX7_isItem_150 (by decide) (fun c_150 => ?_) (fun c_150 => ?_)
              · have hV := hV.2 c_150
                refine lv_iload_n hx hb dX7_isItem_161 rfl (lv_at hl 5 rfl) ?_
                refine lv_iload hx hb dX7_isItem_162 (lv_at hl 1 rfl) ?_
                refine lv_icmp_ge (tgt := 171) hx hb dX7_isItem_164 (by decide) (fun c_164 => ?_) (fun c_164 => ?_)
                · have hV := hV.1 c_164
                  exact oJ171 _ _ _ _ _ _ hV _ _ hP hS _ (lv_sub hl [3, 4, 5, 2, 1] rfl)
                · have hV := hV.2 c_164
                  exact oJ167 _ _ _ _ _ _ hV _ _ hP hS _ (lv_sub hl [3, 4, 5, 2, 1] rfl)
              · have hV := hV.1 c_150
                refine lv_iload_n hx hb dX7_isItem_153 rfl (lv_at hl 5 rfl) ?_
                refine lv_iload_n hx hb dX7_isItem_154 rfl (lv_at hl 2 rfl) ?_
                refine lv_icmp_gt (tgt := 171) hx hb dX7_isItem_155 (by decide) (fun c_155 => ?_) (fun c_155 => ?_)
                · have hV := hV.1 c_155
                  exact oJ171 _ _ _ _ _ _ hV _ _ hP hS _ (lv_sub hl [3, 4, 5, 2, 1] rfl)
                · have hV := hV.2 c_155
                  refine lv_goto (tgt := 167) hx hb dX7_isItem_158 (by decide) ?_
                  exact oJ167 _ _ _ _ _ _ hV _ _ hP hS _ (lv_sub hl [3, 4, 5, 2, 1] rfl)
            · have hV := hV.1 c_129
              refine lv_iload_n hx hb dX7_isItem_132 rfl (lv_at hl 5 rfl) ?_
              refine lv_i2l (v := x2.toInt64) hx hb dX7_isItem_133 rfl ?_
              refine lv_lconst (v := (1 : Int64)) hx hb dX7_isItem_134 (by decide) ?_
              refine lv_ldc2 (v := (9 : Int64)) hx hb hown (hts (.constantLong RX7 126 (9)) (by decide +kernel)) dX7_isItem_135 ?_
              refine cp_i (va_runS (As := [.long x2.toInt64, .long (1 : Int64), .long (9 : Int64)]) (rest := []) ⟨hx, hb, hml, hown, hts⟩ (spec_X7_in l x2.toInt64 (1 : Int64) (9 : Int64)) (va_cwS 3 hts gX7_isItem_X7_in rfl rfl rfl (by decide +kernel) ⟨Nat.le_of_ble_eq_true rfl, Nat.le_of_ble_eq_true rfl⟩) cp_pre rfl rfl hl.1 rfl (lv_room (Nat.le_of_ble_eq_true rfl)) dX7_isItem_138 ⟨Nat.zero_le _, Nat.zero_le _⟩) (fun r138 q_138 => ?_)
              have hV := hV r138 q_138
              refine lv_if_eq (tgt := 171) hx hb dX7_isItem_141 (by decide) (fun c_141 => ?_) (fun c_141 => ?_)
              · have hV := hV.1 c_141
                exact oJ171 _ _ _ _ _ _ hV _ _ hP hS _ (lv_sub hl [3, 4, 5, 2, 1] rfl)
              · have hV := hV.2 c_141
                refine lv_goto (tgt := 167) hx hb dX7_isItem_144 (by decide) ?_
                exact oJ167 _ _ _ _ _ _ hV _ _ hP hS _ (lv_sub hl [3, 4, 5, 2, 1] rfl))
  replace hV := hV (by
    intro x1 x2 x3 x4 g_ a_ hV
    refine iJ167 x1 x2 x3 x4 g_ a_ ?_
    intro H locs hP hS ls hl
    refine lv_iconst (v := (1 : Int32)) hx hb dX7_isItem_167 (by decide) ?_
    refine lv_goto (tgt := 172) hx hb dX7_isItem_168 (by decide) ?_
    refine lv_istore (lv' := [(5, .int (1 : Int32)), (0, .ref (ad 0)), (1, .int x1), (2, .int x2), (3, .int x3), (4, .int x4)]) hx hb dX7_isItem_172 hl (by decide) rfl (fun ls hl => ?_)
    refine lv_iload hx hb dX7_isItem_174 (lv_at hl 0 rfl) ?_
    refine lv_if_eq (tgt := 204) hx hb dX7_isItem_176 (by decide) (fun c_176 => ?_) (fun c_176 => ?_)
    · exact absurd c_176 (by decide)
    · have hV := hV
      refine lv_aload_n hx hb dX7_isItem_179 rfl (lv_at hl 1 rfl) ?_
      refine va_get (D := D) (ci := 6) (v := .int (g_ 1)) (C := RX7) (T := TX7) (N := 18) hx hb hts (by decide +kernel) hown hK hP 0 rfl rfl 2 (by decide) (hts (.fieldLink RX7 105 "PowerRestsModel" "at" "I") (by decide +kernel)) (fun _ h9 => h9) rfl dX7_isItem_180 ?_
      refine lv_aload_n hx hb dX7_isItem_183 rfl (lv_at hl 1 rfl) ?_
      refine va_get (D := D) (ci := 6) (v := .int (g_ 0)) (C := RX7) (T := TX7) (N := 18) hx hb hts (by decide +kernel) hown hK hP 0 rfl rfl 0 (by decide) (hts (.fieldLink RX7 102 "PowerRestsModel" "length" "I") (by decide +kernel)) (fun _ h9 => h9) rfl dX7_isItem_184 ?_
      refine lv_icmp_ge (tgt := 204) hx hb dX7_isItem_187 (by decide) (fun c_187 => ?_) (fun c_187 => ?_)
      · have hV := hV.1 c_187
        refine lv_iconst (v := (0 : Int32)) hx hb dX7_isItem_204 (by decide) ?_
        exact W.zret (v := (0 : Int32)) hx hb hr rfl (fun t ht hW => ⟨⟨_, (g_, a_), rfl, hV, ar_heap ht hP⟩, hS.F ht⟩) hS.2.2 dX7_isItem_205
      · have hV := hV.2 c_187
        refine lv_aload_n hx hb dX7_isItem_190 rfl (lv_at hl 1 rfl) ?_
        refine va_get (D := D) (ci := 6) (v := .ref (ad 1)) (C := RX7) (T := TX7) (N := 18) hx hb hts (by decide +kernel) hown hK hP 0 rfl rfl 1 (by decide) (hts (.fieldLink RX7 7 "PowerRestsModel" "text" "[B") (by decide +kernel)) (fun _ h9 => h9) rfl dX7_isItem_191 ?_
        refine lv_aload_n hx hb dX7_isItem_194 rfl (lv_at hl 1 rfl) ?_
        refine va_get (D := D) (ci := 6) (v := .int (g_ 1)) (C := RX7) (T := TX7) (N := 18) hx hb hts (by decide +kernel) hown hK hP 0 rfl rfl 2 (by decide) (hts (.fieldLink RX7 105 "PowerRestsModel" "at" "I") (by decide +kernel)) (fun _ h9 => h9) rfl dX7_isItem_195 ?_
        obtain ⟨h_198, hV⟩ := hV
        refine va_bald (f := (a_ 0)) hx hb hK hP 1 4 rfl rfl h_198 dX7_isItem_198 ?_
        refine lv_bipush (v := (59 : Int32)) hx hb dX7_isItem_199 (by decide) ?_
        refine lv_icmp_eq (tgt := 206) hx hb dX7_isItem_201 (by decide) (fun c_201 => ?_) (fun c_201 => ?_)
        · have hV := hV.1 c_201
          refine lv_aload_n hx hb dX7_isItem_206 rfl (lv_at hl 1 rfl) ?_
          refine lv_dup hx hb dX7_isItem_207 rfl ?_
          refine va_get (D := D) (ci := 6) (v := .int (g_ 1)) (C := RX7) (T := TX7) (N := 18) hx hb hts (by decide +kernel) hown hK hP 0 rfl rfl 2 (by decide) (hts (.fieldLink RX7 105 "PowerRestsModel" "at" "I") (by decide +kernel)) (fun _ h9 => h9) rfl dX7_isItem_208 ?_
          refine lv_iconst (v := (1 : Int32)) hx hb dX7_isItem_211 (by decide) ?_
          refine lv_iadd hx hb dX7_isItem_212 ?_
          refine va_put (D := D) (ci := 6) (v := .int ((g_ 1) + (1 : Int32))) (ty := .int) (C := RX7) (T := TX7) (N := 18) hx hb hts (by decide +kernel) tyX7 tyX7_ok nmX7 hown hK hP (maD hD) hS 0 rfl rfl 2 (by decide) (hts (.fieldLink RX7 105 "PowerRestsModel" "at" "I") (by decide +kernel)) (fun _ h9 => h9) rfl (by decide +kernel) rfl rfl (Nat.le_of_ble_eq_true rfl) dX7_isItem_213 (fun H locs hP _ hS => ?_)
          have hP : va_P D vwCl (maW ad cy (va_up g_ 1 ((g_ 1) + (1 : Int32))) a_) H := hP
          refine lv_aload_n hx hb dX7_isItem_216 rfl (lv_at hl 1 rfl) ?_
          refine va_get (D := D) (ci := 6) (v := .ref (ad 6)) (C := RX7) (T := TX7) (N := 18) hx hb hts (by decide +kernel) hown hK hP 0 rfl rfl 10 (by decide) (hts (.fieldLink RX7 30 "PowerRestsModel" "readLetter" "[I") (by decide +kernel)) (fun _ h9 => h9) rfl dX7_isItem_217 ?_
          refine lv_aload_n hx hb dX7_isItem_220 rfl (lv_at hl 1 rfl) ?_
          refine va_get (D := D) (ci := 6) (v := .int (g_ 4)) (C := RX7) (T := TX7) (N := 18) hx hb hts (by decide +kernel) hown hK hP 0 rfl rfl 9 (by decide) (hts (.fieldLink RX7 118 "PowerRestsModel" "readItems" "I") (by decide +kernel)) (fun _ h9 => h9) rfl dX7_isItem_221 ?_
          refine lv_iload_n hx hb dX7_isItem_224 rfl (lv_at hl 2 rfl) ?_
          obtain ⟨h_225, hV⟩ := hV
          refine va_iast (f := (a_ 5)) hx hb hK hP (maD hD) hS 6 0 rfl rfl h_225 dX7_isItem_225 (fun H locs hP _ hS => ?_)
          have hP : va_P D vwCl (maW ad cy (va_up g_ 1 ((g_ 1) + (1 : Int32))) (va_up a_ 5 (upd (a_ 5) (g_ 4).toNatClampNeg x1))) H := hP
          refine lv_aload_n hx hb dX7_isItem_226 rfl (lv_at hl 1 rfl) ?_
          refine va_get (D := D) (ci := 6) (v := .ref (ad 7)) (C := RX7) (T := TX7) (N := 18) hx hb hts (by decide +kernel) hown hK hP 0 rfl rfl 11 (by decide) (hts (.fieldLink RX7 33 "PowerRestsModel" "readFirst" "[I") (by decide +kernel)) (fun _ h9 => h9) rfl dX7_isItem_227 ?_
          refine lv_aload_n hx hb dX7_isItem_230 rfl (lv_at hl 1 rfl) ?_
          refine va_get (D := D) (ci := 6) (v := .int (g_ 4)) (C := RX7) (T := TX7) (N := 18) hx hb hts (by decide +kernel) hown hK hP 0 rfl rfl 9 (by decide) (hts (.fieldLink RX7 118 "PowerRestsModel" "readItems" "I") (by decide +kernel)) (fun _ h9 => h9) rfl dX7_isItem_231 ?_
          refine lv_iload_n hx hb dX7_isItem_234 rfl (lv_at hl 3 rfl) ?_
          obtain ⟨h_235, hV⟩ := hV
          refine va_iast (f := (a_ 6)) hx hb hK hP (maD hD) hS 7 0 rfl rfl h_235 dX7_isItem_235 (fun H locs hP _ hS => ?_)
          have hP : va_P D vwCl (maW ad cy (va_up g_ 1 ((g_ 1) + (1 : Int32))) (va_up (va_up a_ 5 (upd (a_ 5) (g_ 4).toNatClampNeg x1)) 6 (upd (a_ 6) (g_ 4).toNatClampNeg x2))) H := hP
          refine lv_aload_n hx hb dX7_isItem_236 rfl (lv_at hl 1 rfl) ?_
          refine va_get (D := D) (ci := 6) (v := .ref (ad 8)) (C := RX7) (T := TX7) (N := 18) hx hb hts (by decide +kernel) hown hK hP 0 rfl rfl 12 (by decide) (hts (.fieldLink RX7 36 "PowerRestsModel" "readSecond" "[I") (by decide +kernel)) (fun _ h9 => h9) rfl dX7_isItem_237 ?_
          refine lv_aload_n hx hb dX7_isItem_240 rfl (lv_at hl 1 rfl) ?_
          refine va_get (D := D) (ci := 6) (v := .int (g_ 4)) (C := RX7) (T := TX7) (N := 18) hx hb hts (by decide +kernel) hown hK hP 0 rfl rfl 9 (by decide) (hts (.fieldLink RX7 118 "PowerRestsModel" "readItems" "I") (by decide +kernel)) (fun _ h9 => h9) rfl dX7_isItem_241 ?_
          refine lv_iload_n hx hb dX7_isItem_244 rfl (lv_at hl 4 rfl) ?_
          obtain ⟨h_245, hV⟩ := hV
          refine va_iast (f := (a_ 7)) hx hb hK hP (maD hD) hS 8 0 rfl rfl h_245 dX7_isItem_245 (fun H locs hP _ hS => ?_)
          have hP : va_P D vwCl (maW ad cy (va_up g_ 1 ((g_ 1) + (1 : Int32))) (va_up (va_up (va_up a_ 5 (upd (a_ 5) (g_ 4).toNatClampNeg x1)) 6 (upd (a_ 6) (g_ 4).toNatClampNeg x2)) 7 (upd (a_ 7) (g_ 4).toNatClampNeg x3))) H := hP
          refine lv_aload_n hx hb dX7_isItem_246 rfl (lv_at hl 1 rfl) ?_
          refine va_get (D := D) (ci := 6) (v := .ref (ad 9)) (C := RX7) (T := TX7) (N := 18) hx hb hts (by decide +kernel) hown hK hP 0 rfl rfl 13 (by decide) (hts (.fieldLink RX7 39 "PowerRestsModel" "readBy" "[I") (by decide +kernel)) (fun _ h9 => h9) rfl dX7_isItem_247 ?_
          refine lv_aload_n hx hb dX7_isItem_250 rfl (lv_at hl 1 rfl) ?_
          refine va_get (D := D) (ci := 6) (v := .int (g_ 4)) (C := RX7) (T := TX7) (N := 18) hx hb hts (by decide +kernel) hown hK hP 0 rfl rfl 9 (by decide) (hts (.fieldLink RX7 118 "PowerRestsModel" "readItems" "I") (by decide +kernel)) (fun _ h9 => h9) rfl dX7_isItem_251 ?_
          refine lv_iload hx hb dX7_isItem_254 (lv_at hl 5 rfl) ?_
          obtain ⟨h_256, hV⟩ := hV
          refine va_iast (f := (a_ 8)) hx hb hK hP (maD hD) hS 9 0 rfl rfl h_256 dX7_isItem_256 (fun H locs hP _ hS => ?_)
          have hP : va_P D vwCl (maW ad cy (va_up g_ 1 ((g_ 1) + (1 : Int32))) (va_up (va_up (va_up (va_up a_ 5 (upd (a_ 5) (g_ 4).toNatClampNeg x1)) 6 (upd (a_ 6) (g_ 4).toNatClampNeg x2)) 7 (upd (a_ 7) (g_ 4).toNatClampNeg x3)) 8 (upd (a_ 8) (g_ 4).toNatClampNeg x4))) H := hP
          refine lv_aload_n hx hb dX7_isItem_257 rfl (lv_at hl 1 rfl) ?_
          refine lv_dup hx hb dX7_isItem_258 rfl ?_
          refine va_get (D := D) (ci := 6) (v := .int (g_ 4)) (C := RX7) (T := TX7) (N := 18) hx hb hts (by decide +kernel) hown hK hP 0 rfl rfl 9 (by decide) (hts (.fieldLink RX7 118 "PowerRestsModel" "readItems" "I") (by decide +kernel)) (fun _ h9 => h9) rfl dX7_isItem_259 ?_
          refine lv_iconst (v := (1 : Int32)) hx hb dX7_isItem_262 (by decide) ?_
          refine lv_iadd hx hb dX7_isItem_263 ?_
          refine va_put (D := D) (ci := 6) (v := .int ((g_ 4) + (1 : Int32))) (ty := .int) (C := RX7) (T := TX7) (N := 18) hx hb hts (by decide +kernel) tyX7 tyX7_ok nmX7 hown hK hP (maD hD) hS 0 rfl rfl 9 (by decide) (hts (.fieldLink RX7 118 "PowerRestsModel" "readItems" "I") (by decide +kernel)) (fun _ h9 => h9) rfl (by decide +kernel) rfl rfl (Nat.le_of_ble_eq_true rfl) dX7_isItem_264 (fun H locs hP _ hS => ?_)
          have hP : va_P D vwCl (maW ad cy (va_up (va_up g_ 1 ((g_ 1) + (1 : Int32))) 4 ((g_ 4) + (1 : Int32))) (va_up (va_up (va_up (va_up a_ 5 (upd (a_ 5) (g_ 4).toNatClampNeg x1)) 6 (upd (a_ 6) (g_ 4).toNatClampNeg x2)) 7 (upd (a_ 7) (g_ 4).toNatClampNeg x3)) 8 (upd (a_ 8) (g_ 4).toNatClampNeg x4))) H := hP
          refine lv_iconst (v := (1 : Int32)) hx hb dX7_isItem_267 (by decide) ?_
          exact W.zret (v := (1 : Int32)) hx hb hr rfl (fun t ht hW => ⟨⟨_, ((va_up (va_up g_ 1 ((g_ 1) + (1 : Int32))) 4 ((g_ 4) + (1 : Int32))), (va_up (va_up (va_up (va_up a_ 5 (upd (a_ 5) (g_ 4).toNatClampNeg x1)) 6 (upd (a_ 6) (g_ 4).toNatClampNeg x2)) 7 (upd (a_ 7) (g_ 4).toNatClampNeg x3)) 8 (upd (a_ 8) (g_ 4).toNatClampNeg x4))), rfl, hV, ar_heap ht hP⟩, hS.F ht⟩) hS.2.2 dX7_isItem_268
        · have hV := hV.2 c_201
          refine lv_iconst (v := (0 : Int32)) hx hb dX7_isItem_204 (by decide) ?_
          exact W.zret (v := (0 : Int32)) hx hb hr rfl (fun t ht hW => ⟨⟨_, (g_, a_), rfl, hV, ar_heap ht hP⟩, hS.F ht⟩) hS.2.2 dX7_isItem_205)
  replace hV := hV (by
    intro x1 x2 x3 x4 g_ a_ hV
    refine iJ171 x1 x2 x3 x4 g_ a_ ?_
    intro H locs hP hS ls hl
    refine lv_iconst (v := (0 : Int32)) hx hb dX7_isItem_171 (by decide) ?_
    refine lv_istore (lv' := [(5, .int (0 : Int32)), (0, .ref (ad 0)), (1, .int x1), (2, .int x2), (3, .int x3), (4, .int x4)]) hx hb dX7_isItem_172 hl (by decide) rfl (fun ls hl => ?_)
    refine lv_iload hx hb dX7_isItem_174 (lv_at hl 0 rfl) ?_
    refine lv_if_eq (tgt := 204) hx hb dX7_isItem_176 (by decide) (fun c_176 => ?_) (fun c_176 => ?_)
    · have hV := hV
      refine lv_iconst (v := (0 : Int32)) hx hb dX7_isItem_204 (by decide) ?_
      exact W.zret (v := (0 : Int32)) hx hb hr rfl (fun t ht hW => ⟨⟨_, (g_, a_), rfl, hV, ar_heap ht hP⟩, hS.F ht⟩) hS.2.2 dX7_isItem_205
    · exact absurd (by decide) c_176)
  have hl := lv_entry ([.ref (ad 0)]) (n := 6) (Nat.le_of_ble_eq_true rfl)
  rw [lg_entry_eq]
  generalize (lg_sl ([.ref (ad 0)]) ++ List.replicate (6 - (lg_sl ([.ref (ad 0)])).length) Slot.unset).toArray = ls at hl ⊢
  have hl : lv_has ls 6 [(0, .ref (ad 0))] := hl
  refine lv_aload_n hx hb dX7_isItem_0 rfl (lv_at hl 0 rfl) ?_
  refine va_get (D := D) (ci := 6) (v := .ref (ad 1)) (C := RX7) (T := TX7) (N := 18) hx hb hts (by decide +kernel) hown hK hP 0 rfl rfl 1 (by decide) (hts (.fieldLink RX7 7 "PowerRestsModel" "text" "[B") (by decide +kernel)) (fun _ h9 => h9) rfl dX7_isItem_1 ?_
  refine lv_aload_n hx hb dX7_isItem_4 rfl (lv_at hl 0 rfl) ?_
  refine va_get (D := D) (ci := 6) (v := .int (g 1)) (C := RX7) (T := TX7) (N := 18) hx hb hts (by decide +kernel) hown hK hP 0 rfl rfl 2 (by decide) (hts (.fieldLink RX7 105 "PowerRestsModel" "at" "I") (by decide +kernel)) (fun _ h9 => h9) rfl dX7_isItem_5 ?_
  obtain ⟨h_8, hV⟩ := hV
  refine va_bald (f := (a 0)) hx hb hK hP 1 4 rfl rfl h_8 dX7_isItem_8 ?_
  refine lv_istore_n (lv' := [(1, .int ((a 0) (g 1).toNatClampNeg)), (0, .ref (ad 0))]) hx hb dX7_isItem_9 rfl hl (by decide) rfl (fun ls hl => ?_)
  refine lv_aload_n hx hb dX7_isItem_10 rfl (lv_at hl 1 rfl) ?_
  refine lv_dup hx hb dX7_isItem_11 rfl ?_
  refine va_get (D := D) (ci := 6) (v := .int (g 1)) (C := RX7) (T := TX7) (N := 18) hx hb hts (by decide +kernel) hown hK hP 0 rfl rfl 2 (by decide) (hts (.fieldLink RX7 105 "PowerRestsModel" "at" "I") (by decide +kernel)) (fun _ h9 => h9) rfl dX7_isItem_12 ?_
  refine lv_iconst (v := (1 : Int32)) hx hb dX7_isItem_15 (by decide) ?_
  refine lv_iadd hx hb dX7_isItem_16 ?_
  refine va_put (D := D) (ci := 6) (v := .int ((g 1) + (1 : Int32))) (ty := .int) (C := RX7) (T := TX7) (N := 18) hx hb hts (by decide +kernel) tyX7 tyX7_ok nmX7 hown hK hP (maD hD) hS 0 rfl rfl 2 (by decide) (hts (.fieldLink RX7 105 "PowerRestsModel" "at" "I") (by decide +kernel)) (fun _ h9 => h9) rfl (by decide +kernel) rfl rfl (Nat.le_of_ble_eq_true rfl) dX7_isItem_17 (fun H locs hP _ hS => ?_)
  have hP : va_P D vwCl (maW ad cy (va_up g 1 ((g 1) + (1 : Int32))) a) H := hP
  refine lv_aload_n hx hb dX7_isItem_20 rfl (lv_at hl 1 rfl) ?_
  refine va_get (D := D) (ci := 6) (v := .int (g 4)) (C := RX7) (T := TX7) (N := 18) hx hb hts (by decide +kernel) hown hK hP 0 rfl rfl 9 (by decide) (hts (.fieldLink RX7 118 "PowerRestsModel" "readItems" "I") (by decide +kernel)) (fun _ h9 => h9) rfl dX7_isItem_21 ?_
  refine lv_bipush (v := (8 : Int32)) hx hb dX7_isItem_24 (by decide) ?_
  refine lv_icmp_eq (tgt := 53) hx hb dX7_isItem_26 (by decide) (fun c_26 => ?_) (fun c_26 => ?_)
  · have hV := hV.1 c_26
    refine lv_iconst (v := (0 : Int32)) hx hb dX7_isItem_53 (by decide) ?_
    exact W.zret (v := (0 : Int32)) hx hb hr rfl (fun t ht hW => ⟨⟨_, ((va_up g 1 ((g 1) + (1 : Int32))), a), rfl, hV, ar_heap ht hP⟩, hS.F ht⟩) hS.2.2 dX7_isItem_54
  · have hV := hV.2 c_26
    refine lv_iload_n hx hb dX7_isItem_29 rfl (lv_at hl 0 rfl) ?_
    refine lv_bipush (v := (108 : Int32)) hx hb dX7_isItem_30 (by decide) ?_
    refine lv_icmp_eq (tgt := 55) hx hb dX7_isItem_32 (by decide) (fun c_32 => ?_) (fun c_32 => ?_)
    · have hV := hV.1 c_32
      refine lv_aload_n hx hb dX7_isItem_55 rfl (lv_at hl 1 rfl) ?_
      obtain ⟨h_56, hV⟩ := hV
      refine cw_i (va_runV (As := []) (rest := []) ⟨hx, hb, hml, hown, hts⟩ (spec_X7_number l D cy ad _ (va_up g 1 ((g 1) + (1 : Int32))) a h_56) (cwV 0 hts gX7_isItem_X7_number rfl rfl rfl (by decide +kernel) ⟨Nat.le_of_ble_eq_true rfl, Nat.le_of_ble_eq_true rfl⟩) (ar_preV hN hK hP (maD hD) (ci := 6) (q0 := 0) rfl rfl) rfl rfl hl.1 rfl (lv_room (Nat.le_of_ble_eq_true rfl)) dX7_isItem_56 ⟨Nat.zero_le _, Nat.zero_le _⟩) hS (maD hD) hA (fun r56 u_56 H locs q_56 hP hS => ?_)
      obtain ⟨g56, a56⟩ := u_56
      have hV := hV r56 g56 a56 q_56
      have hP : va_P D vwCl (maW ad cy g56 a56) H := hP
      refine lv_istore_n (lv' := [(2, .int r56), (1, .int ((a 0) (g 1).toNatClampNeg)), (0, .ref (ad 0))]) hx hb dX7_isItem_59 rfl hl (by decide) rfl (fun ls hl => ?_)
      refine lv_iload_n hx hb dX7_isItem_60 rfl (lv_at hl 1 rfl) ?_
      refine lv_bipush (v := (110 : Int32)) hx hb dX7_isItem_61 (by decide) ?_
      refine lv_icmp_ne (tgt := 70) hx hb dX7_isItem_63 (by decide) (fun c_63 => ?_) (fun c_63 => ?_)
      · have hV := hV.2 c_63
        refine lv_aload_n hx hb dX7_isItem_70 rfl (lv_at hl 2 rfl) ?_
        obtain ⟨h_71, hV⟩ := hV
        refine cw_i (va_runV (As := []) (rest := []) ⟨hx, hb, hml, hown, hts⟩ (spec_X7_more l D cy ad _ g56 a56 h_71) (cwV 0 hts gX7_isItem_X7_more rfl rfl rfl (by decide +kernel) ⟨Nat.le_of_ble_eq_true rfl, Nat.le_of_ble_eq_true rfl⟩) (ar_preV hN hK hP (maD hD) (ci := 6) (q0 := 0) rfl rfl) rfl rfl hl.1 rfl (lv_room (Nat.le_of_ble_eq_true rfl)) dX7_isItem_71 ⟨Nat.zero_le _, Nat.zero_le _⟩) hS (maD hD) hA (fun r71 u_71 H locs q_71 hP hS => ?_)
        obtain ⟨g71, a71⟩ := u_71
        have hV := hV r71 g71 a71 q_71
        have hP : va_P D vwCl (maW ad cy g71 a71) H := hP
        exact oJ74 _ _ _ _ _ hV _ _ hP hS _ (lv_sub hl [2, 1, 0] rfl)
      · have hV := hV.1 c_63
        refine lv_iload_n hx hb dX7_isItem_66 rfl (lv_at hl 0 rfl) ?_
        refine lv_goto (tgt := 74) hx hb dX7_isItem_67 (by decide) ?_
        exact oJ74 _ _ _ _ _ hV _ _ hP hS _ (lv_sub hl [2, 1, 0] rfl)
    · have hV := hV.2 c_32
      refine lv_iload_n hx hb dX7_isItem_35 rfl (lv_at hl 0 rfl) ?_
      refine lv_bipush (v := (112 : Int32)) hx hb dX7_isItem_36 (by decide) ?_
      refine lv_icmp_eq (tgt := 55) hx hb dX7_isItem_38 (by decide) (fun c_38 => ?_) (fun c_38 => ?_)
      · have hV := hV.1 c_38
        refine lv_aload_n hx hb dX7_isItem_55 rfl (lv_at hl 1 rfl) ?_
        obtain ⟨h_56, hV⟩ := hV
        refine cw_i (va_runV (As := []) (rest := []) ⟨hx, hb, hml, hown, hts⟩ (spec_X7_number l D cy ad _ (va_up g 1 ((g 1) + (1 : Int32))) a h_56) (cwV 0 hts gX7_isItem_X7_number rfl rfl rfl (by decide +kernel) ⟨Nat.le_of_ble_eq_true rfl, Nat.le_of_ble_eq_true rfl⟩) (ar_preV hN hK hP (maD hD) (ci := 6) (q0 := 0) rfl rfl) rfl rfl hl.1 rfl (lv_room (Nat.le_of_ble_eq_true rfl)) dX7_isItem_56 ⟨Nat.zero_le _, Nat.zero_le _⟩) hS (maD hD) hA (fun r56 u_56 H locs q_56 hP hS => ?_)
        obtain ⟨g56, a56⟩ := u_56
        have hV := hV r56 g56 a56 q_56
        have hP : va_P D vwCl (maW ad cy g56 a56) H := hP
        refine lv_istore_n (lv' := [(2, .int r56), (1, .int ((a 0) (g 1).toNatClampNeg)), (0, .ref (ad 0))]) hx hb dX7_isItem_59 rfl hl (by decide) rfl (fun ls hl => ?_)
        refine lv_iload_n hx hb dX7_isItem_60 rfl (lv_at hl 1 rfl) ?_
        refine lv_bipush (v := (110 : Int32)) hx hb dX7_isItem_61 (by decide) ?_
        refine lv_icmp_ne (tgt := 70) hx hb dX7_isItem_63 (by decide) (fun c_63 => ?_) (fun c_63 => ?_)
        · have hV := hV.2 c_63
          refine lv_aload_n hx hb dX7_isItem_70 rfl (lv_at hl 2 rfl) ?_
          obtain ⟨h_71, hV⟩ := hV
          refine cw_i (va_runV (As := []) (rest := []) ⟨hx, hb, hml, hown, hts⟩ (spec_X7_more l D cy ad _ g56 a56 h_71) (cwV 0 hts gX7_isItem_X7_more rfl rfl rfl (by decide +kernel) ⟨Nat.le_of_ble_eq_true rfl, Nat.le_of_ble_eq_true rfl⟩) (ar_preV hN hK hP (maD hD) (ci := 6) (q0 := 0) rfl rfl) rfl rfl hl.1 rfl (lv_room (Nat.le_of_ble_eq_true rfl)) dX7_isItem_71 ⟨Nat.zero_le _, Nat.zero_le _⟩) hS (maD hD) hA (fun r71 u_71 H locs q_71 hP hS => ?_)
          obtain ⟨g71, a71⟩ := u_71
          have hV := hV r71 g71 a71 q_71
          have hP : va_P D vwCl (maW ad cy g71 a71) H := hP
          exact oJ74 _ _ _ _ _ hV _ _ hP hS _ (lv_sub hl [2, 1, 0] rfl)
        · have hV := hV.1 c_63
          refine lv_iload_n hx hb dX7_isItem_66 rfl (lv_at hl 0 rfl) ?_
          refine lv_goto (tgt := 74) hx hb dX7_isItem_67 (by decide) ?_
          exact oJ74 _ _ _ _ _ hV _ _ hP hS _ (lv_sub hl [2, 1, 0] rfl)
      · have hV := hV.2 c_38
        refine lv_iload_n hx hb dX7_isItem_41 rfl (lv_at hl 0 rfl) ?_
        refine lv_bipush (v := (110 : Int32)) hx hb dX7_isItem_42 (by decide) ?_
        refine lv_icmp_eq (tgt := 55) hx hb dX7_isItem_44 (by decide) (fun c_44 => ?_) (fun c_44 => ?_)
        · have hV := hV.1 c_44
          refine lv_aload_n hx hb dX7_isItem_55 rfl (lv_at hl 1 rfl) ?_
          obtain ⟨h_56, hV⟩ := hV
          refine cw_i (va_runV (As := []) (rest := []) ⟨hx, hb, hml, hown, hts⟩ (spec_X7_number l D cy ad _ (va_up g 1 ((g 1) + (1 : Int32))) a h_56) (cwV 0 hts gX7_isItem_X7_number rfl rfl rfl (by decide +kernel) ⟨Nat.le_of_ble_eq_true rfl, Nat.le_of_ble_eq_true rfl⟩) (ar_preV hN hK hP (maD hD) (ci := 6) (q0 := 0) rfl rfl) rfl rfl hl.1 rfl (lv_room (Nat.le_of_ble_eq_true rfl)) dX7_isItem_56 ⟨Nat.zero_le _, Nat.zero_le _⟩) hS (maD hD) hA (fun r56 u_56 H locs q_56 hP hS => ?_)
          obtain ⟨g56, a56⟩ := u_56
          have hV := hV r56 g56 a56 q_56
          have hP : va_P D vwCl (maW ad cy g56 a56) H := hP
          refine lv_istore_n (lv' := [(2, .int r56), (1, .int ((a 0) (g 1).toNatClampNeg)), (0, .ref (ad 0))]) hx hb dX7_isItem_59 rfl hl (by decide) rfl (fun ls hl => ?_)
          refine lv_iload_n hx hb dX7_isItem_60 rfl (lv_at hl 1 rfl) ?_
          refine lv_bipush (v := (110 : Int32)) hx hb dX7_isItem_61 (by decide) ?_
          refine lv_icmp_ne (tgt := 70) hx hb dX7_isItem_63 (by decide) (fun c_63 => ?_) (fun c_63 => ?_)
          · have hV := hV.2 c_63
            refine lv_aload_n hx hb dX7_isItem_70 rfl (lv_at hl 2 rfl) ?_
            obtain ⟨h_71, hV⟩ := hV
            refine cw_i (va_runV (As := []) (rest := []) ⟨hx, hb, hml, hown, hts⟩ (spec_X7_more l D cy ad _ g56 a56 h_71) (cwV 0 hts gX7_isItem_X7_more rfl rfl rfl (by decide +kernel) ⟨Nat.le_of_ble_eq_true rfl, Nat.le_of_ble_eq_true rfl⟩) (ar_preV hN hK hP (maD hD) (ci := 6) (q0 := 0) rfl rfl) rfl rfl hl.1 rfl (lv_room (Nat.le_of_ble_eq_true rfl)) dX7_isItem_71 ⟨Nat.zero_le _, Nat.zero_le _⟩) hS (maD hD) hA (fun r71 u_71 H locs q_71 hP hS => ?_)
            obtain ⟨g71, a71⟩ := u_71
            have hV := hV r71 g71 a71 q_71
            have hP : va_P D vwCl (maW ad cy g71 a71) H := hP
            exact oJ74 _ _ _ _ _ hV _ _ hP hS _ (lv_sub hl [2, 1, 0] rfl)
          · have hV := hV.1 c_63
            refine lv_iload_n hx hb dX7_isItem_66 rfl (lv_at hl 0 rfl) ?_
            refine lv_goto (tgt := 74) hx hb dX7_isItem_67 (by decide) ?_
            exact oJ74 _ _ _ _ _ hV _ _ hP hS _ (lv_sub hl [2, 1, 0] rfl)
        · have hV := hV.2 c_44
          refine lv_iload_n hx hb dX7_isItem_47 rfl (lv_at hl 0 rfl) ?_
          refine lv_bipush (v := (98 : Int32)) hx hb dX7_isItem_48 (by decide) ?_
          refine lv_icmp_eq (tgt := 55) hx hb dX7_isItem_50 (by decide) (fun c_50 => ?_) (fun c_50 => ?_)
          · have hV := hV.1 c_50
            refine lv_aload_n hx hb dX7_isItem_55 rfl (lv_at hl 1 rfl) ?_
            obtain ⟨h_56, hV⟩ := hV
            refine cw_i (va_runV (As := []) (rest := []) ⟨hx, hb, hml, hown, hts⟩ (spec_X7_number l D cy ad _ (va_up g 1 ((g 1) + (1 : Int32))) a h_56) (cwV 0 hts gX7_isItem_X7_number rfl rfl rfl (by decide +kernel) ⟨Nat.le_of_ble_eq_true rfl, Nat.le_of_ble_eq_true rfl⟩) (ar_preV hN hK hP (maD hD) (ci := 6) (q0 := 0) rfl rfl) rfl rfl hl.1 rfl (lv_room (Nat.le_of_ble_eq_true rfl)) dX7_isItem_56 ⟨Nat.zero_le _, Nat.zero_le _⟩) hS (maD hD) hA (fun r56 u_56 H locs q_56 hP hS => ?_)
            obtain ⟨g56, a56⟩ := u_56
            have hV := hV r56 g56 a56 q_56
            have hP : va_P D vwCl (maW ad cy g56 a56) H := hP
            refine lv_istore_n (lv' := [(2, .int r56), (1, .int ((a 0) (g 1).toNatClampNeg)), (0, .ref (ad 0))]) hx hb dX7_isItem_59 rfl hl (by decide) rfl (fun ls hl => ?_)
            refine lv_iload_n hx hb dX7_isItem_60 rfl (lv_at hl 1 rfl) ?_
            refine lv_bipush (v := (110 : Int32)) hx hb dX7_isItem_61 (by decide) ?_
            refine lv_icmp_ne (tgt := 70) hx hb dX7_isItem_63 (by decide) (fun c_63 => ?_) (fun c_63 => ?_)
            · have hV := hV.2 c_63
              refine lv_aload_n hx hb dX7_isItem_70 rfl (lv_at hl 2 rfl) ?_
              obtain ⟨h_71, hV⟩ := hV
              refine cw_i (va_runV (As := []) (rest := []) ⟨hx, hb, hml, hown, hts⟩ (spec_X7_more l D cy ad _ g56 a56 h_71) (cwV 0 hts gX7_isItem_X7_more rfl rfl rfl (by decide +kernel) ⟨Nat.le_of_ble_eq_true rfl, Nat.le_of_ble_eq_true rfl⟩) (ar_preV hN hK hP (maD hD) (ci := 6) (q0 := 0) rfl rfl) rfl rfl hl.1 rfl (lv_room (Nat.le_of_ble_eq_true rfl)) dX7_isItem_71 ⟨Nat.zero_le _, Nat.zero_le _⟩) hS (maD hD) hA (fun r71 u_71 H locs q_71 hP hS => ?_)
              obtain ⟨g71, a71⟩ := u_71
              have hV := hV r71 g71 a71 q_71
              have hP : va_P D vwCl (maW ad cy g71 a71) H := hP
              exact oJ74 _ _ _ _ _ hV _ _ hP hS _ (lv_sub hl [2, 1, 0] rfl)
            · have hV := hV.1 c_63
              refine lv_iload_n hx hb dX7_isItem_66 rfl (lv_at hl 0 rfl) ?_
              refine lv_goto (tgt := 74) hx hb dX7_isItem_67 (by decide) ?_
              exact oJ74 _ _ _ _ _ hV _ _ hP hS _ (lv_sub hl [2, 1, 0] rfl)
          · have hV := hV.2 c_50
            refine lv_iconst (v := (0 : Int32)) hx hb dX7_isItem_53 (by decide) ?_
            exact W.zret (v := (0 : Int32)) hx hb hr rfl (fun t ht hW => ⟨⟨_, ((va_up g 1 ((g 1) + (1 : Int32))), a), rfl, hV, ar_heap ht hP⟩, hS.F ht⟩) hS.2.2 dX7_isItem_54
/-- the walk's own fields and rows may change -/
def ItK (g : Gs) (a : As) (g' : Gs) (a' : As) : Prop := (∀ i, i ≠ 1 → i ≠ 4 → g' i = g i) ∧ ∀ j, j < 5 ∨ 9 ≤ j → a' j = a j
def fM (l f s : Nat) : Nat := if l = 110 then s else f
def ItAns (T : Nat → Nat) (L p k : Nat) (g : Gs) (a : As) (r : Int32) (g' : Gs) (a' : As) : Prop := ((k = 8 ∨ ¬ ∃ q l f s b, It T L p q l f s b) ∧ r = 0) ∨ (k < 8 ∧ r = 1 ∧ ∃ q l f s b, It T L p q l f s b ∧ g' 1 = nI q ∧ g' 4 = nI (k + 1) ∧ a' 5 = upd (a 5) k (nI l) ∧ a' 6 = upd (a 6) k (nI (fM l f s)) ∧ a' 7 = upd (a 7) k (nI s) ∧ a' 8 = upd (a 8) k (nI b))
def post_X7_isItem (g : Gs) (a : As) (r : Int32) (g' : Gs) (a' : As) : Prop := ItK g a g' a' ∧ ∀ p k, p < mL g → g 1 = nI p → k ≤ 8 → g 4 = nI k → ItAns (mT a) (mL g) p k g a r g' a'
set_option maxRecDepth 4000 in
theorem spec_X7_isItem (l : Launch) (D : va_G) (cy : Nat → ClassId) (ad : Nat → Nat) (sz : Nat) (g : Gs) (a : As) (hpre : pre_X7_isItem g a) : Met l yX7_isItem wsX7_isItem ({ frames := 3, cells := 0, slots := 0, locals := 67 } : Room) (va_Pc [.ref (ad 0)] (ArP D cy sz (maW ad cy g a))) (va_Qi (fun (r : Int32) (u : Gs × As) => (post_X7_isItem g a) r u.1 u.2) (fun u t => va_P D vwCl (maW ad cy u.1 u.2) t.heap) (va_A (maW ad cy g a) sz)) 0 0 (va_A (maW ad cy g a) sz) := by
  apply met_X7_isItem
  intro J74 J167 J171 h74 h167 h171
  obtain ⟨hO, p, k, hp, hg1, hk, hg4⟩ := hpre
  have hL := hO.1
  obtain ⟨hbp, hap⟩ := hO.2.2 p hp
  have l0 : (0 : Int64).toInt = 0 := rfl
  have l1 : (1 : Int64).toInt = 1 := rfl
  have l2 : (2 : Int64).toInt = 2 := rfl
  have l9 : (9 : Int64).toInt = 9 := rfl
  have l200 : (200 : Int64).toInt = 200 := rfl
  have m1i : (-1 : Int32).toInt = -1 := rfl
  have good : ∀ r g' a', ItK g a g' a' → ItAns (mT a) (mL g) p k g a r g' a' → post_X7_isItem g a r g' a' := fun r g' a' h1 h2 => ⟨h1, fun p' k' hp' hg' hk' hg4' => by
    have e1 : p' = p := (nI_eq (by omega) (by omega)).mp (hg'.symm.trans hg1)
    have e2 : k' = k := (nI_eq (by omega) (by omega)).mp (hg4'.symm.trans hg4)
    subst e1 e2
    exact h2⟩
  have kup : ∀ e, ItK g a (va_up g 1 (nI e)) a := fun e => ⟨fun i h1 _ => up_n _ _ h1, fun _ _ => rfl⟩
  have bad : ∀ e, (k = 8 ∨ ¬ ∃ q l f s b, It (mT a) (mL g) p q l f s b) → post_X7_isItem g a 0 (va_up g 1 (nI e)) a := fun e h => good _ _ _ (kup e) (Or.inl ⟨h, rfl⟩)
  have bad171 : ∀ e x1 x2 x3 x4, (k = 8 ∨ ¬ ∃ q l f s b, It (mT a) (mL g) p q l f s b) → J171 x1 x2 x3 x4 (va_up g 1 (nI e)) a := fun e x1 x2 x3 x4 h => h171 _ _ _ _ _ _ (bad e h)
  have eT : (g 1).toNatClampNeg = p := by rw [hg1]; exact tn_nI (by omega)
  rw [eT]
  refine ⟨by rw [hg1]; exact vp_in_nI (by omega) (by omega), ?_⟩
  have en : va_up g 1 (g 1 + 1) = va_up g 1 (nI (p + 1)) := by rw [hg1, nI_1]
  rw [en]
  refine pk_eq k 8 (fun h8 => bad _ (Or.inl h8)) (fun h8 => ?_) hg4 rfl (by omega) (by omega)
  have hk8 : k < 8 := by omega
  have L1 : ∀ e, mL (va_up g 1 (nI e)) = mL g := fun e => mL_up _ (by decide) _
  -- more, at e
  have more : ∀ e, e ≤ mL g → pre_X7_more (va_up g 1 (nI e)) a ∧ ∀ r g2 a2, post_X7_more (va_up g 1 (nI e)) a r g2 a2 → a2 = a ∧ ∃ e2, e2 ≤ mL g ∧ g2 = va_up g 1 (nI e2) ∧ MoreM (mT a) (mL g) e r e2 := fun e he => ⟨⟨hO.up (by decide) _, e, by rw [L1]; exact he, up_0 _ _ _⟩, fun r g2 a2 h => by
    obtain ⟨h1, e2, h2, h3, h4⟩ := h
    have h4 := h4 e (by rw [L1]; exact he) (up_0 _ _ _)
    rw [L1] at h2 h4
    exact ⟨h1, e2, h2, by rw [h3, up_up], h4⟩⟩
  -- from the last number on, with all right ahead
  have rest : ∀ (l q1 q2 f s F S : Nat), l = mT a p → Let4 l → ((l = 110 ∧ q1 = p ∧ f = 0 ∧ F = s) ∨ (¬ l = 110 ∧ NumC (mT a) (mL g) (p + 1) 44 q1 f ∧ F = f)) → Num (mT a) (mL g) (q1 + 1) q2 s → F < 10000 → s < 10000 → J74 (nI l) (nI F) (nI s) (va_up g 1 (nI q2)) a := by
    intro l q1 q2 f s F S hl hlet hf hs hF hs1
    have bs := hs.b
    have hl200 : l < 200 := by rcases hlet with z | z | z | z <;> omega
    have parse : ∀ q' l' f' s' b', It (mT a) (mL g) p q' l' f' s' b' → l' = l ∧ f' = f ∧ s' = s ∧ (q2 < mL g ∧ mT a q2 = 44) ∧ ∃ q3, NumC (mT a) (mL g) (q2 + 1) 59 q3 b' := by
      rintro q' l' f' s' b' ⟨-, z2, -, ⟨r1, y1, r2, y2, r3, y3, -⟩, -⟩
      have : l' = l := z2.trans hl.symm
      subst this
      have e1 : r1 = q1 ∧ f' = f := by
        rcases y1 with ⟨x1, x2, x3⟩ | ⟨x1, x2⟩ <;> rcases hf with ⟨w1, w2, w3, w4⟩ | ⟨w1, w2, w3⟩
        · exact ⟨x2.trans w2.symm, x3.trans w3.symm⟩
        · exact absurd x1 w1
        · exact absurd w1 x1
        · exact x2.one w2
      obtain ⟨rfl, rfl⟩ := e1
      obtain ⟨rfl, rfl⟩ := y2.1.one hs
      exact ⟨rfl, rfl, rfl, y2.2, r3, y3⟩
    refine h74 _ _ _ _ _ ?_
    obtain ⟨mp, mq⟩ := more q2 (by omega)
    refine ⟨mp, fun r g2 a2 hr => ?_⟩
    obtain ⟨rfl, e2, he2, rfl, hM⟩ := mq r g2 a2 hr
    refine ⟨fun z => absurd z (nI_pos (by omega)), fun _ r94 h94 => ?_⟩
    unfold post_X7_in at h94
    rw [il_t, l2, l200] at h94
    subst h94
    rcases hM with ⟨b, hc, hb, rfl⟩ | ⟨hno, rfl⟩
    · have bb := hb.b
      have no : ¬ ((2 ≤ b ∧ b ≤ 200) ∧ InB l f s b) ∨ ¬ (e2 < mL g ∧ mT a2 e2 = 59) → ¬ ∃ q l f s b, It (mT a2) (mL g) p q l f s b := by
        rintro h ⟨q', l', f', s', b', z⟩
        obtain ⟨rfl, rfl, rfl, y1, q3, y2⟩ := parse _ _ _ _ _ z
        obtain ⟨rfl, rfl⟩ := hb.one y2.1
        rcases h with h | h
        · exact h z.2.2.2.2
        · exact h y2.2
      rw [nI_toInt (by omega)]
      refine ⟨fun z => bad171 _ _ _ _ _ (Or.inr (no (Or.inl (fun y => zb_0 z ⟨by omega, by omega⟩)))), fun z r108 h108 => ?_⟩
      have hb2 := zb_1 z
      unfold post_X7_in at h108
      rw [il_t, l0, show nI b - (1 : Int32) = nI (b - 1) from pk_sub (b := 1) (by omega), il_t, nI_toInt (by omega), nI_toInt (by omega)] at h108
      subst h108
      refine ⟨fun z2 => bad171 _ _ _ _ _ (Or.inr (no (Or.inl (fun y => zb_0 z2 ⟨by omega, by have := y.2.1; omega⟩)))), fun z2 => ?_⟩
      have hs2 := zb_1 z2
      have ok : InB l f s b → J167 (nI l) (nI F) (nI s) (nI b) (va_up g 1 (nI e2)) a2 := by
        intro hin
        refine h167 _ _ _ _ _ _ ?_
        rw [up_n _ _ (show (0 : Nat) ≠ 1 by decide), up_0, up_n _ _ (show (4 : Nat) ≠ 1 by decide), show (nI e2).toNatClampNeg = e2 from tn_nI (by omega), hg4, show (nI k).toNatClampNeg = k from tn_nI (by omega), up_up]
        refine pk_le (mL g) e2 (fun y => bad _ (Or.inr (no (Or.inr (by omega))))) (fun y => ⟨vp_in_nI (by omega) (by omega), ?_⟩) hO.2.1 rfl (by omega) (by omega)
        obtain ⟨hbe, hae⟩ := hO.2.2 e2 y
        have vk := vp_in_nI (n := k) (N := 8) (by omega) (by omega)
        refine ⟨fun x => ⟨vk, vk, vk, vk, ?_⟩, fun x => bad _ (Or.inr (no (Or.inr (fun w => x (by rw [hae, w.2]; exact sB_lo (by decide))))))⟩
        have z59 : mT a2 e2 = 59 := (sB_eq hbe (by decide)).mp (hae.symm.trans x)
        rw [nI_1, nI_1]
        refine good _ _ _ ⟨fun i h1 h4 => by rw [up_n _ _ h4, up_n _ _ h1], fun j hj => by rw [up_n _ _ (by omega), up_n _ _ (by omega), up_n _ _ (by omega), up_n _ _ (by omega)]⟩ (Or.inr ⟨hk8, rfl, e2 + 1, l, f, s, b, ⟨hp, hl, hlet, ⟨q1, ?_, q2, ⟨hs, hc⟩, e2, ⟨hb, y, z59⟩, rfl⟩, ⟨by omega, by omega⟩, hin⟩, ?_, ?_, ?_, ?_, ?_, ?_⟩)
        · rcases hf with ⟨w1, w2, w3, -⟩ | ⟨w1, w2, -⟩
          · exact Or.inl ⟨w1, w2, w3⟩
          · exact Or.inr ⟨w1, w2⟩
        · rw [up_n _ _ (by decide), up_0]
        · rw [up_0]
        · rw [up_n _ _ (by decide), up_n _ _ (by decide), up_n _ _ (by decide), up_0]
        · rw [up_n _ _ (by decide), up_n _ _ (by decide), up_0]
          congr 2
          unfold fM
          rcases hf with ⟨w1, -, -, w4⟩ | ⟨w1, -, w3⟩
          · rw [if_pos w1]; exact w4
          · rw [if_neg w1]; exact w3
        · rw [up_n _ _ (by decide), up_0]
        · rw [up_0]
      have el : ∀ c : Nat, c < 10000 → (nI l = nI c ↔ l = c) := fun c hc => nI_eq (by omega) (by omega)
      refine pk_eq l 112 (fun h112 => ?_) (fun h112 => pk_eq l 98 (fun h98 => ?_) (fun h98 => ?_) rfl rfl (by omega) (by omega)) rfl rfl (by omega) (by omega)
      · have hFf : F = f := by rcases hf with ⟨w1, _⟩ | ⟨_, _, w3⟩ <;> omega
        intro r138 h138
        unfold post_X7_in at h138
        rw [il_t, l1, l9, nI_toInt (by omega)] at h138
        subst h138
        refine ⟨fun y => bad171 _ _ _ _ _ (Or.inr (no (Or.inl (fun x => zb_0 y (by have := x.2.2.2.1 h112; omega))))), fun y => ok ⟨by omega, fun x => by omega, fun _ => by have := zb_1 y; omega, fun _ _ x => absurd h112 x⟩⟩
      · have hFf : F = f := by rcases hf with ⟨w1, _⟩ | ⟨_, _, w3⟩ <;> omega
        refine pk_lt s F (fun y => bad171 _ _ _ _ _ (Or.inr (no (Or.inl (fun x => by have := x.2.2.2.2 (by omega) (by omega) h112; omega))))) (fun y => ok ⟨by omega, fun x => by omega, fun x => by omega, fun _ _ _ => by omega⟩) rfl rfl (by omega) (by omega)
      · have hl2 : l = 108 ∨ l = 110 := by rcases hlet with w | w | w | w <;> omega
        refine pk_le b F (fun y => bad171 _ _ _ _ _ (Or.inr (no (Or.inl (fun x => ?_))))) (fun y => ok ⟨by omega, fun x => ?_, fun x => by omega, fun x1 x2 x3 => by omega⟩) rfl rfl (by omega) (by omega)
        · rcases hf with ⟨w1, _, _, w4⟩ | ⟨w1, _, w3⟩
          · omega
          · have := x.2.2.1 (by omega); omega
        · rcases hf with ⟨w1, _, _, w4⟩ | ⟨w1, _, w3⟩ <;> omega
    · have no : ¬ ∃ q l f s b, It (mT a2) (mL g) p q l f s b := by
        rintro ⟨q', l', f', s', b', z⟩
        obtain ⟨rfl, rfl, rfl, y1, q3, y2⟩ := parse _ _ _ _ _ z
        exact hno ⟨q3, b', y1, y2.1⟩
      rw [m1i]
      exact ⟨fun z => bad171 _ _ _ _ _ (Or.inr no), fun z => by have := zb_1 z; omega⟩
  -- something ahead was not right
  have lost : ∀ (l x2 s0 : Int32) (e : Nat), (¬ ∃ q l f s b, It (mT a) (mL g) p q l f s b) → e ≤ mL g → (x2 < 0 ∨ s0 < 0) → J74 l x2 s0 (va_up g 1 (nI e)) a := by
    intro l x2 s0 e hno he hneg
    refine h74 _ _ _ _ _ ?_
    obtain ⟨mp, mq⟩ := more e he
    refine ⟨mp, fun r g2 a2 hr => ?_⟩
    obtain ⟨rfl, e2, he2, rfl, -⟩ := mq r g2 a2 hr
    have b171 : ∀ x1 x2 x3 x4, J171 x1 x2 x3 x4 (va_up g 1 (nI e2)) a2 := fun x1 x2 x3 x4 => bad171 _ _ _ _ _ (Or.inr hno)
    refine ⟨fun _ => b171 _ _ _ _, fun z r94 h94 => ⟨fun _ => b171 _ _ _ _, fun _ r108 h108 => ⟨fun _ => b171 _ _ _ _, fun z2 => ?_⟩⟩⟩
    exfalso
    unfold post_X7_in at h108
    rw [il_t, l0] at h108
    subst h108
    have h3 := (zb_1 z2).1
    rcases hneg with y | y
    · exact z y
    · rw [i_lt, Int32.toInt_zero] at y; omega
  have start : ∀ l, l = mT a p → Let4 l → pre_X7_number (va_up g 1 (nI (p + 1))) a ∧ ∀ r56 g56 a56, post_X7_number (va_up g 1 (nI (p + 1))) a r56 g56 a56 → ((nI l = 110 → J74 (nI l) r56 r56 g56 a56) ∧ (¬ nI l = 110 → pre_X7_more g56 a56 ∧ ∀ r71 g71 a71, post_X7_more g56 a56 r71 g71 a71 → J74 (nI l) r56 r71 g71 a71)) := by
    intro l hl hlet
    have hl200 : l < 200 := by rcases hlet with z | z | z | z <;> omega
    refine ⟨⟨hO.up (by decide) _, p + 1, by rw [L1]; omega, up_0 _ _ _⟩, fun r56 g56 a56 h56 => ?_⟩
    obtain ⟨rfl, e, he, rfl, hN⟩ := h56
    have hN := hN (p + 1) (by rw [L1]; omega) (up_0 _ _ _)
    rw [L1] at he hN
    rw [up_up]
    refine pk_eq l 110 (fun h => ?_) (fun h => ?_) rfl rfl (by omega) (by omega)
    · rcases hN with ⟨v, h1, rfl⟩ | ⟨h1, rfl⟩
      · have := h1.b
        exact rest l p e 0 v v 0 hl hlet (Or.inl ⟨h, rfl, rfl, rfl⟩) h1 (by omega) (by omega)
      · refine lost _ _ _ e ?_ he (Or.inl (by decide))
        rintro ⟨q', l', f', s', b', -, z2, -, ⟨r1, y1, r2, y2, r3, y3, -⟩, -⟩
        rcases y1 with ⟨x1, rfl, x3⟩ | ⟨x1, x2⟩
        · exact h1 ⟨r2, s', y2.1⟩
        · exact x1 (by rw [z2, ← hl]; exact h)
    · obtain ⟨mp, mq⟩ := more e he
      refine ⟨mp, fun r71 g71 a71 hr => ?_⟩
      obtain ⟨rfl, e2, he2, rfl, hM⟩ := mq r71 g71 a71 hr
      have parse : ∀ q' l' f' s' b', It (mT a71) (mL g) p q' l' f' s' b' → ∃ r1 r2, NumC (mT a71) (mL g) (p + 1) 44 r1 f' ∧ NumC (mT a71) (mL g) (r1 + 1) 44 r2 s' := by
        rintro q' l' f' s' b' ⟨-, z2, -, ⟨r1, y1, r2, y2, r3, y3, -⟩, -⟩
        rcases y1 with ⟨x1, x2, x3⟩ | ⟨x1, x2⟩
        · exact absurd (by rw [hl, ← z2]; exact x1) h
        · exact ⟨r1, r2, x2, y2⟩
      rcases hN with ⟨v, h1, rfl⟩ | ⟨h1, rfl⟩
      · have := h1.b
        rcases hM with ⟨s, hc, hs, rfl⟩ | ⟨hno, rfl⟩
        · have := hs.b
          exact rest l e e2 v s v 0 hl hlet (Or.inr ⟨h, ⟨h1, hc⟩, rfl⟩) hs (by omega) (by omega)
        · refine lost _ _ _ e2 ?_ he2 (Or.inr (by decide))
          rintro ⟨q', l', f', s', b', z⟩
          obtain ⟨r1, r2, y1, y2⟩ := parse _ _ _ _ _ z
          obtain ⟨rfl, rfl⟩ := h1.one y1.1
          exact hno ⟨r2, s', y1.2, y2.1⟩
      · refine lost _ _ _ e2 ?_ he2 (Or.inl (by decide))
        rintro ⟨q', l', f', s', b', z⟩
        obtain ⟨r1, r2, y1, y2⟩ := parse _ _ _ _ _ z
        exact h1 ⟨r1, f', y1.1⟩
  rw [hap]
  have hlow : ∀ c : Nat, c < 128 → sB (mT a p) = nI c → mT a p = c := fun c hc z => (sB_eq hbp hc).mp z
  have hsub : ∀ c : Nat, c < 128 → Let4 c → sB (mT a p) = nI c → pre_X7_number (va_up g 1 (nI (p + 1))) a ∧ ∀ r56 g56 a56, post_X7_number (va_up g 1 (nI (p + 1))) a r56 g56 a56 → ((sB (mT a p) = 110 → J74 (sB (mT a p)) r56 r56 g56 a56) ∧ (¬ sB (mT a p) = 110 → pre_X7_more g56 a56 ∧ ∀ r71 g71 a71, post_X7_more g56 a56 r71 g71 a71 → J74 (sB (mT a p)) r56 r71 g71 a71)) := fun c hc hlet z => by
    rw [z]
    exact start c (hlow c hc z).symm hlet
  refine ⟨fun z => hsub 108 (by decide) (Or.inl rfl) z, fun z1 => ⟨fun z => hsub 112 (by decide) (Or.inr (Or.inl rfl)) z, fun z2 => ⟨fun z => hsub 110 (by decide) (Or.inr (Or.inr (Or.inl rfl))) z, fun z3 => ⟨fun z => hsub 98 (by decide) (Or.inr (Or.inr (Or.inr rfl))) z, fun z4 => bad _ (Or.inr ?_)⟩⟩⟩⟩
  rintro ⟨q', l', f', s', b', -, rfl, y2, -⟩
  rcases y2 with y | y | y | y
  · exact z1 ((sB_eq hbp (by decide)).mpr y)
  · exact z2 ((sB_eq hbp (by decide)).mpr y)
  · exact z3 ((sB_eq hbp (by decide)).mpr y)
  · exact z4 ((sB_eq hbp (by decide)).mpr y)
