/-! the text, the reference: writing, the first fault, laying -/
theorem sh_byte {V k : Nat} (hV : V < 2 ^ 64) (hk : k < 8) : (lN V >>> ((nI (8 * k)).toInt64 &&& 63)).toInt32.toInt8.toInt32 = sB (V / 2 ^ (8 * k) % 256) := by
  unfold sB
  congr 1
  apply Int8.toBitVec_inj.mp
  apply BitVec.eq_of_getLsbD_eq
  intro i hi
  rw [Int32.toBitVec_toInt8, Int32.toBitVec_toInt8, Int64.toBitVec_toInt32, BitVec.getLsbD_signExtend, BitVec.getLsbD_signExtend, BitVec.getLsbD_signExtend]
  have e1 : (lN V >>> ((nI (8 * k)).toInt64 &&& 63)).toBitVec = (BitVec.ofNat 64 V).sshiftRight (8 * k) := by
    have h := sh_c (8 * k) (by omega)
    conv => rhs; rw [← h]
    rfl
  rw [e1, BitVec.getLsbD_sshiftRight, if_pos (show i < 32 by omega), if_pos (show i < 64 by omega), if_pos (show i < 32 by omega), if_pos (show 8 * k + i < 64 by omega)]
  have e2 : (nI (V / 2 ^ (8 * k) % 256)).toBitVec = BitVec.ofNat 32 (V / 2 ^ (8 * k) % 256) := rfl
  rw [e2, BitVec.getLsbD_ofNat, BitVec.getLsbD_ofNat, show (256 : Nat) = 2 ^ 8 from rfl, Nat.testBit_mod_two_pow, Nat.testBit_div_two_pow]
  have d1 : decide (8 * k + i < 64) = true := decide_eq_true (by omega)
  have d2 : decide (i < 8) = true := decide_eq_true hi
  have d3 : decide (i < 32) = true := decide_eq_true (by omega)
  have d4 : decide (64 ≤ i) = false := decide_eq_false (by omega)
  rw [d1, d2, d3, d4]
  simp [Nat.add_comm]
def AppM (g : Gs) (a : As) (n : Nat) (v : Int64) (g' : Gs) (a' : As) : Prop := g' = va_up g 0 (nI (mL g + n)) ∧ ∃ f, a' = va_up a 0 f ∧ (∀ i, i < mL g → f i = a 0 i) ∧ ∀ j, j < n → f (mL g + j) = sB (byW v n j)
def WrM (g : Gs) (a : As) (n : Int32) (v : Int64) (r : Int32) (g' : Gs) (a' : As) : Prop := (¬ (1 ≤ n.toInt ∧ n.toInt ≤ 8) ∧ r = -1 ∧ g' = g ∧ a' = a) ∨ ((1 ≤ n.toInt ∧ n.toInt ≤ 8) ∧ ((200 < mL g + tn n ∧ r = -3 ∧ g' = g ∧ a' = a) ∨ (mL g + tn n ≤ 200 ∧ r = nI (mL g + tn n) ∧ AppM g a (tn n) v g' a')))
def pre_X7_write (g : Gs) (a : As) (p0 : Int32) (p1 : Int64) : Prop := OkM g a
set_option maxHeartbeats 4000000 in
set_option maxRecDepth 100000 in
theorem met_X7_write (l : Launch) (D : va_G) (cy : Nat → ClassId) (ad : Nat → Nat) (sz : Nat) (g : Gs) (a : As) (p0 : Int32) (p1 : Int64) (post : Int32 → Gs → As → Prop)
  (hV : ∀ (J34 : Int32 → Gs → As → Prop),
    (∀ (x4 : Int32) (g_ : Gs) (a_ : As), ((x4 < 0 → post (g_ 0) g_ a_) ∧ (¬ x4 < 0 → vp_in (g_ 0) 200 ∧ (J34 (x4 + (-1 : Int32)) (va_up g_ 0 ((g_ 0) + (1 : Int32))) (va_up a_ 0 (upd (a_ 0) (g_ 0).toNatClampNeg (vp_nar .byte (((p1 >>> (((8 : Int32) * x4).toInt64 &&& 63)).toInt32).toInt8.toInt32))))))) → J34 x4 g_ a_) →
    ∀ r6 : Int32, post_X7_in p0.toInt64 (1 : Int64) (8 : Int64) r6 → ((r6 = 0 → post (-1 : Int32) g a) ∧ (¬ r6 = 0 → ((((g 0) + p0) ≤ (200 : Int32) → J34 (p0 - (1 : Int32)) g a) ∧ (¬ ((g 0) + p0) ≤ (200 : Int32) → post (-3 : Int32) g a))))) :
  Met l yX7_write wsX7_write ({ frames := 1, cells := 0, slots := 0, locals := 25 } : Room) (va_Pc [.ref (ad 0), .int p0, .long p1] (ArP D cy sz (maW ad cy g a))) (va_Qi (fun (r : Int32) (u : Gs × As) => post r u.1 u.2) (fun u t => va_P D vwCl (maW ad cy u.1 u.2) t.heap) (va_A (maW ad cy g a) sz)) 0 0 (va_A (maW ad cy g a) sz) := by
  refine Met.ofW (cc := cX7_write) (maxL := 5) (ret := (some .int)) (by decide) rfl ?_
  intro p e s m args below meth c s₁ B hml hv
  obtain ⟨rfl, hsz, hP, hK, hD0, hN⟩ := hv
  have hx := B.exec
  have hb := B.bytes
  have hr := B.returns
  have hts := atoms_spec (ws := wsX7_write) B.pre
  have hown : s.vm.findClass RX7 = some m.cls := findClass_of_methodNamed B.named
  have hlocks := B.notSynchronized
  subst hsz
  have hD := hD0.self (sz := s.heap.size)
  have hP : va_P D vwCl (maW ad cy g a) s.heap := hP
  have hD : va_D (va_A (maW ad cy g a) s.heap.size) (maW ad cy g a) := hD
  have hS : va_S (va_A (maW ad cy g a) s.heap.size) s.heap s.heap [] := va_S.rf
  have hA : ∀ q : Nat, s.heap.size ≤ q → va_A (maW ad cy g a) s.heap.size q := fun q h => Or.inr h
  obtain ⟨J34, iJ34, oJ34⟩ : ∃ J : Int32 → Gs → As → Prop, (∀ (x4 : Int32) (g_ : Gs) (a_ : As), (∀ (H : Heap) (locs : List Loc), va_P D vwCl (maW ad cy g_ a_) H → va_S (va_A (maW ad cy g a) s.heap.size) s.heap H locs → ∀ ls : Array Slot, lv_has ls 5 [(0, .ref (ad 0)), (2, .long p1), (4, .int x4)] → W p l e (headSpec wsX7_write ({ frames := 1, cells := 0, slots := 0, locals := 25 } : Room)).room s m [.ref (ad 0), .int p0, .long p1].toArray below meth c H locs 0 0 (MQ below (va_Qi (fun (r : Int32) (u : Gs × As) => post r u.1 u.2) (fun u t => va_P D vwCl (maW ad cy u.1 u.2) t.heap) (va_A (maW ad cy g a) s.heap.size)) [.ref (ad 0), .int p0, .long p1].toArray s 0 0 (va_A (maW ad cy g a) s.heap.size)) (F0 m 34 ls [])) → J x4 g_ a_) ∧ (∀ (x4 : Int32) (g_ : Gs) (a_ : As), J x4 g_ a_ → (∀ (H : Heap) (locs : List Loc), va_P D vwCl (maW ad cy g_ a_) H → va_S (va_A (maW ad cy g a) s.heap.size) s.heap H locs → ∀ ls : Array Slot, lv_has ls 5 [(0, .ref (ad 0)), (2, .long p1), (4, .int x4)] → W p l e (headSpec wsX7_write ({ frames := 1, cells := 0, slots := 0, locals := 25 } : Room)).room s m [.ref (ad 0), .int p0, .long p1].toArray below meth c H locs 0 0 (MQ below (va_Qi (fun (r : Int32) (u : Gs × As) => post r u.1 u.2) (fun u t => va_P D vwCl (maW ad cy u.1 u.2) t.heap) (va_A (maW ad cy g a) s.heap.size)) [.ref (ad 0), .int p0, .long p1].toArray s 0 0 (va_A (maW ad cy g a) s.heap.size)) (F0 m 34 ls []))) := ⟨fun (x4 : Int32) (g_ : Gs) (a_ : As) => (∀ (H : Heap) (locs : List Loc), va_P D vwCl (maW ad cy g_ a_) H → va_S (va_A (maW ad cy g a) s.heap.size) s.heap H locs → ∀ ls : Array Slot, lv_has ls 5 [(0, .ref (ad 0)), (2, .long p1), (4, .int x4)] → W p l e (headSpec wsX7_write ({ frames := 1, cells := 0, slots := 0, locals := 25 } : Room)).room s m [.ref (ad 0), .int p0, .long p1].toArray below meth c H locs 0 0 (MQ below (va_Qi (fun (r : Int32) (u : Gs × As) => post r u.1 u.2) (fun u t => va_P D vwCl (maW ad cy u.1 u.2) t.heap) (va_A (maW ad cy g a) s.heap.size)) [.ref (ad 0), .int p0, .long p1].toArray s 0 0 (va_A (maW ad cy g a) s.heap.size)) (F0 m 34 ls [])), fun _ _ _ h => h, fun _ _ _ h => h⟩
  have hV := hV J34
  replace hV := hV (by
    intro x4 g_ a_ hV
    refine iJ34 x4 g_ a_ ?_
    intro H locs hP hS ls hl
    refine lv_iload hx hb dX7_write_34 (lv_at hl 2 rfl) ?_
    refine lv_if_lt (tgt := 73) hx hb dX7_write_36 (by decide) (fun c_36 => ?_) (fun c_36 => ?_)
    · have hV := hV.1 c_36
      refine lv_aload_n hx hb dX7_write_73 rfl (lv_at hl 0 rfl) ?_
      refine va_get (D := D) (ci := 6) (v := .int (g_ 0)) (C := RX7) (T := TX7) (N := 18) hx hb hts (by decide +kernel) hown hK hP 0 rfl rfl 0 (by decide) (hts (.fieldLink RX7 102 "PowerRestsModel" "length" "I") (by decide +kernel)) (fun _ h9 => h9) rfl dX7_write_74 ?_
      exact W.iret (v := (g_ 0)) hx hb hr (fun t ht hW => ⟨⟨_, (g_, a_), rfl, hV, ar_heap ht hP⟩, hS.F ht⟩) hS.2.2 dX7_write_77
    · have hV := hV.2 c_36
      refine lv_aload_n hx hb dX7_write_39 rfl (lv_at hl 0 rfl) ?_
      refine va_get (D := D) (ci := 6) (v := .ref (ad 1)) (C := RX7) (T := TX7) (N := 18) hx hb hts (by decide +kernel) hown hK hP 0 rfl rfl 1 (by decide) (hts (.fieldLink RX7 7 "PowerRestsModel" "text" "[B") (by decide +kernel)) (fun _ h9 => h9) rfl dX7_write_40 ?_
      refine lv_aload_n hx hb dX7_write_43 rfl (lv_at hl 0 rfl) ?_
      refine va_get (D := D) (ci := 6) (v := .int (g_ 0)) (C := RX7) (T := TX7) (N := 18) hx hb hts (by decide +kernel) hown hK hP 0 rfl rfl 0 (by decide) (hts (.fieldLink RX7 102 "PowerRestsModel" "length" "I") (by decide +kernel)) (fun _ h9 => h9) rfl dX7_write_44 ?_
      refine lv_lload_n hx hb dX7_write_47 rfl (lv_at hl 1 rfl) ?_
      refine lv_bipush (v := (8 : Int32)) hx hb dX7_write_48 (by decide) ?_
      refine lv_iload hx hb dX7_write_50 (lv_at hl 2 rfl) ?_
      refine lv_imul hx hb dX7_write_52 ?_
      refine lv_lshr (v := p1 >>> (((8 : Int32) * x4).toInt64 &&& 63)) hx hb dX7_write_53 rfl ?_
      refine lv_l2i (v := (p1 >>> (((8 : Int32) * x4).toInt64 &&& 63)).toInt32) hx hb dX7_write_54 rfl ?_
      refine lv_i2b (v := ((p1 >>> (((8 : Int32) * x4).toInt64 &&& 63)).toInt32).toInt8.toInt32) hx hb dX7_write_55 rfl ?_
      obtain ⟨h_56, hV⟩ := hV
      refine va_bast (f := (a_ 0)) hx hb hK hP (maD hD) hS 1 4 rfl rfl h_56 dX7_write_56 (fun H locs hP _ hS => ?_)
      have hP : va_P D vwCl (maW ad cy g_ (va_up a_ 0 (upd (a_ 0) (g_ 0).toNatClampNeg (vp_nar .byte (((p1 >>> (((8 : Int32) * x4).toInt64 &&& 63)).toInt32).toInt8.toInt32))))) H := hP
      refine lv_aload_n hx hb dX7_write_57 rfl (lv_at hl 0 rfl) ?_
      refine lv_dup hx hb dX7_write_58 rfl ?_
      refine va_get (D := D) (ci := 6) (v := .int (g_ 0)) (C := RX7) (T := TX7) (N := 18) hx hb hts (by decide +kernel) hown hK hP 0 rfl rfl 0 (by decide) (hts (.fieldLink RX7 102 "PowerRestsModel" "length" "I") (by decide +kernel)) (fun _ h9 => h9) rfl dX7_write_59 ?_
      refine lv_iconst (v := (1 : Int32)) hx hb dX7_write_62 (by decide) ?_
      refine lv_iadd hx hb dX7_write_63 ?_
      refine va_put (D := D) (ci := 6) (v := .int ((g_ 0) + (1 : Int32))) (ty := .int) (C := RX7) (T := TX7) (N := 18) hx hb hts (by decide +kernel) tyX7 tyX7_ok nmX7 hown hK hP (maD hD) hS 0 rfl rfl 0 (by decide) (hts (.fieldLink RX7 102 "PowerRestsModel" "length" "I") (by decide +kernel)) (fun _ h9 => h9) rfl (by decide +kernel) rfl rfl (Nat.le_of_ble_eq_true rfl) dX7_write_64 (fun H locs hP _ hS => ?_)
      have hP : va_P D vwCl (maW ad cy (va_up g_ 0 ((g_ 0) + (1 : Int32))) (va_up a_ 0 (upd (a_ 0) (g_ 0).toNatClampNeg (vp_nar .byte (((p1 >>> (((8 : Int32) * x4).toInt64 &&& 63)).toInt32).toInt8.toInt32))))) H := hP
      refine lv_iinc (v := x4 + (-1 : Int32)) (lv' := [(4, .int (x4 + (-1 : Int32))), (0, .ref (ad 0)), (2, .long p1)]) hx hb dX7_write_67 hl (k := 2) rfl rfl (by decide) rfl (fun ls hl => ?_)
      refine lv_goto (tgt := 34) hx hb dX7_write_70 (by decide) ?_
      exact oJ34 _ _ _ hV _ _ hP hS _ (lv_sub hl [1, 2, 0] rfl))
  have hl := lv_entry ([.ref (ad 0), .int p0, .long p1]) (n := 5) (Nat.le_of_ble_eq_true rfl)
  rw [lg_entry_eq]
  generalize (lg_sl ([.ref (ad 0), .int p0, .long p1]) ++ List.replicate (5 - (lg_sl ([.ref (ad 0), .int p0, .long p1])).length) Slot.unset).toArray = ls at hl ⊢
  have hl : lv_has ls 5 [(0, .ref (ad 0)), (1, .int p0), (2, .long p1)] := hl
  refine lv_iload_n hx hb dX7_write_0 rfl (lv_at hl 1 rfl) ?_
  refine lv_i2l (v := p0.toInt64) hx hb dX7_write_1 rfl ?_
  refine lv_lconst (v := (1 : Int64)) hx hb dX7_write_2 (by decide) ?_
  refine lv_ldc2 (v := (8 : Int64)) hx hb hown (hts (.constantLong RX7 100 (8)) (by decide +kernel)) dX7_write_3 ?_
  refine cp_i (va_runS (As := [.long p0.toInt64, .long (1 : Int64), .long (8 : Int64)]) (rest := []) ⟨hx, hb, hml, hown, hts⟩ (spec_X7_in l p0.toInt64 (1 : Int64) (8 : Int64)) (va_cwS 3 hts gX7_write_X7_in rfl rfl rfl (by decide +kernel) ⟨Nat.le_of_ble_eq_true rfl, Nat.le_of_ble_eq_true rfl⟩) cp_pre rfl rfl hl.1 rfl (lv_room (Nat.le_of_ble_eq_true rfl)) dX7_write_6 ⟨Nat.zero_le _, Nat.zero_le _⟩) (fun r6 q_6 => ?_)
  have hV := hV r6 q_6
  refine lv_if_ne (tgt := 14) hx hb dX7_write_9 (by decide) (fun c_9 => ?_) (fun c_9 => ?_)
  · have hV := hV.2 c_9
    refine lv_aload_n hx hb dX7_write_14 rfl (lv_at hl 0 rfl) ?_
    refine va_get (D := D) (ci := 6) (v := .int (g 0)) (C := RX7) (T := TX7) (N := 18) hx hb hts (by decide +kernel) hown hK hP 0 rfl rfl 0 (by decide) (hts (.fieldLink RX7 102 "PowerRestsModel" "length" "I") (by decide +kernel)) (fun _ h9 => h9) rfl dX7_write_15 ?_
    refine lv_iload_n hx hb dX7_write_18 rfl (lv_at hl 1 rfl) ?_
    refine lv_iadd hx hb dX7_write_19 ?_
    refine lv_sipush (v := (200 : Int32)) hx hb dX7_write_20 (by decide) ?_
    refine lv_icmp_le (tgt := 29) hx hb dX7_write_23 (by decide) (fun c_23 => ?_) (fun c_23 => ?_)
    · have hV := hV.1 c_23
      refine lv_iload_n hx hb dX7_write_29 rfl (lv_at hl 1 rfl) ?_
      refine lv_iconst (v := (1 : Int32)) hx hb dX7_write_30 (by decide) ?_
      refine lv_isub hx hb dX7_write_31 ?_
      refine lv_istore (lv' := [(4, .int (p0 - (1 : Int32))), (0, .ref (ad 0)), (1, .int p0), (2, .long p1)]) hx hb dX7_write_32 hl (by decide) rfl (fun ls hl => ?_)
      exact oJ34 _ _ _ hV _ _ hP hS _ (lv_sub hl [1, 3, 0] rfl)
    · have hV := hV.2 c_23
      refine lv_bipush (v := (-3 : Int32)) hx hb dX7_write_26 (by decide) ?_
      exact W.iret (v := (-3 : Int32)) hx hb hr (fun t ht hW => ⟨⟨_, (g, a), rfl, hV, ar_heap ht hP⟩, hS.F ht⟩) hS.2.2 dX7_write_28
  · have hV := hV.1 c_9
    refine lv_iconst (v := (-1 : Int32)) hx hb dX7_write_12 (by decide) ?_
    exact W.iret (v := (-1 : Int32)) hx hb hr (fun t ht hW => ⟨⟨_, (g, a), rfl, hV, ar_heap ht hP⟩, hS.F ht⟩) hS.2.2 dX7_write_13
def post_X7_write (g : Gs) (a : As) (p0 : Int32) (p1 : Int64) (r : Int32) (g' : Gs) (a' : As) : Prop := WrM g a p0 p1 r g' a'
set_option maxRecDepth 4000 in
theorem spec_X7_write (l : Launch) (D : va_G) (cy : Nat → ClassId) (ad : Nat → Nat) (sz : Nat) (g : Gs) (a : As) (p0 : Int32) (p1 : Int64) (hpre : pre_X7_write g a p0 p1) : Met l yX7_write wsX7_write ({ frames := 1, cells := 0, slots := 0, locals := 25 } : Room) (va_Pc [.ref (ad 0), .int p0, .long p1] (ArP D cy sz (maW ad cy g a))) (va_Qi (fun (r : Int32) (u : Gs × As) => (post_X7_write g a p0 p1) r u.1 u.2) (fun u t => va_P D vwCl (maW ad cy u.1 u.2) t.heap) (va_A (maW ad cy g a) sz)) 0 0 (va_A (maW ad cy g a) sz) := by
  apply met_X7_write
  intro J hJ r hr
  have hO : OkM g a := hpre
  have hL := hO.1
  have l1 : (1 : Int64).toInt = 1 := rfl
  have l8 : (8 : Int64).toInt = 8 := rfl
  unfold post_X7_in at hr
  rw [il_t, l1, l8] at hr
  subst hr
  refine ⟨fun h => Or.inl ⟨zb_0 h, rfl, rfl, rfl⟩, fun h => ?_⟩
  have hn0 := zb_1 h
  obtain ⟨n, hn, rfl, hn2⟩ := of_i (x := p0) (by omega)
  have tnn : tn (nI n) = n := tn_nI hn
  have e : g 0 + nI n = nI (mL g + n) := by
    conv => lhs; rw [hO.2.1]
    exact nI_add _ _
  rw [e]
  refine pk_le (mL g + n) 200 (fun hr => ?_) (fun hr => Or.inr ⟨hn0, Or.inl ⟨by rw [tnn]; exact hr, rfl, rfl, rfl⟩⟩) rfl rfl (by omega) (by omega)
  obtain ⟨V, hV, rfl⟩ := wb_of p1
  have eV : uN (lN V) = V := wb_tn hV
  have key : ∀ (d j : Nat) (f : Nat → Int32), j + d = n → (∀ i, i < mL g → f i = a 0 i) → (∀ i, i < j → f (mL g + i) = sB (byW (lN V) n i)) → J (nI d - 1) (va_up g 0 (nI (mL g + j))) (va_up a 0 f) := by
    intro d
    induction d with
    | zero =>
      intro j f hj hf1 hf2
      have : j = n := by omega
      subst this
      refine hJ _ _ _ ⟨fun _ => Or.inr ⟨hn0, Or.inr ⟨by rw [tnn]; exact hr, by rw [up_0, tnn], by rw [tnn], f, rfl, hf1, by rw [tnn]; exact hf2⟩⟩, fun z => absurd (by decide) z⟩
    | succ d ih =>
      intro j f hj hf1 hf2
      rw [show nI (d + 1) - (1 : Int32) = nI d from nI_pred d]
      refine hJ _ _ _ ⟨fun z => absurd z (nI_pos (by omega)), fun _ => ?_⟩
      rw [up_0, up_0, up_up, up_up, show (nI (mL g + j)).toNatClampNeg = mL g + j from tn_nI (by omega), show nI (mL g + j) + (1 : Int32) = nI (mL g + (j + 1)) from nI_1 _, show nI d + (-1 : Int32) = nI d - 1 from (Int32.sub_eq_add_neg (nI d) 1).symm]
      refine ⟨vp_in_nI (by omega) (by omega), ?_⟩
      refine ih (j + 1) _ (by omega) (fun i hi => by rw [pk_un (by omega)]; exact hf1 i hi) (fun i hi => ?_)
      by_cases hij : i = j
      · subst hij
        rw [pk_us, pk_vb, show (8 : Int32) * nI d = nI (8 * d) from pk_mul 8 d, sh_byte hV (by omega)]
        unfold byW
        rw [eV, show n - 1 - i = d by omega]
      · rw [pk_un (by omega)]; exact hf2 i (by omega)
  have := key n 0 (a 0) (by omega) (fun _ _ => rfl) (fun i hi => by omega)
  rw [Nat.add_zero, ← hO.2.1, up_id, up_id] at this
  exact this
set_option maxHeartbeats 4000000 in
set_option maxRecDepth 100000 in
theorem met_X7_wipe (l : Launch) (D : va_G) (cy : Nat → ClassId) (ad : Nat → Nat) (sz : Nat) (g : Gs) (a : As) (post : Int32 → Gs → As → Prop)
  (hV : post (g 0) (va_up g 0 (0 : Int32)) a) :
  Met l yX7_wipe wsX7_wipe ({ frames := 0, cells := 0, slots := 0, locals := 0 } : Room) (va_Pc [.ref (ad 0)] (ArP D cy sz (maW ad cy g a))) (va_Qi (fun (r : Int32) (u : Gs × As) => post r u.1 u.2) (fun u t => va_P D vwCl (maW ad cy u.1 u.2) t.heap) (va_A (maW ad cy g a) sz)) 0 0 (va_A (maW ad cy g a) sz) := by
  refine Met.ofW (cc := cX7_wipe) (maxL := 2) (ret := (some .int)) (by decide) rfl ?_
  intro p e s m args below meth c s₁ B hml hv
  obtain ⟨rfl, hsz, hP, hK, hD0, hN⟩ := hv
  have hx := B.exec
  have hb := B.bytes
  have hr := B.returns
  have hts := atoms_spec (ws := wsX7_wipe) B.pre
  have hown : s.vm.findClass RX7 = some m.cls := findClass_of_methodNamed B.named
  have hlocks := B.notSynchronized
  subst hsz
  have hD := hD0.self (sz := s.heap.size)
  have hP : va_P D vwCl (maW ad cy g a) s.heap := hP
  have hD : va_D (va_A (maW ad cy g a) s.heap.size) (maW ad cy g a) := hD
  have hS : va_S (va_A (maW ad cy g a) s.heap.size) s.heap s.heap [] := va_S.rf
  have hA : ∀ q : Nat, s.heap.size ≤ q → va_A (maW ad cy g a) s.heap.size q := fun q h => Or.inr h
  have hl := lv_entry ([.ref (ad 0)]) (n := 2) (Nat.le_of_ble_eq_true rfl)
  rw [lg_entry_eq]
  generalize (lg_sl ([.ref (ad 0)]) ++ List.replicate (2 - (lg_sl ([.ref (ad 0)])).length) Slot.unset).toArray = ls at hl ⊢
  have hl : lv_has ls 2 [(0, .ref (ad 0))] := hl
  refine lv_aload_n hx hb dX7_wipe_0 rfl (lv_at hl 0 rfl) ?_
  refine va_get (D := D) (ci := 6) (v := .int (g 0)) (C := RX7) (T := TX7) (N := 18) hx hb hts (by decide +kernel) hown hK hP 0 rfl rfl 0 (by decide) (hts (.fieldLink RX7 102 "PowerRestsModel" "length" "I") (by decide +kernel)) (fun _ h9 => h9) rfl dX7_wipe_1 ?_
  refine lv_istore_n (lv' := [(1, .int (g 0)), (0, .ref (ad 0))]) hx hb dX7_wipe_4 rfl hl (by decide) rfl (fun ls hl => ?_)
  refine lv_aload_n hx hb dX7_wipe_5 rfl (lv_at hl 1 rfl) ?_
  refine lv_iconst (v := (0 : Int32)) hx hb dX7_wipe_6 (by decide) ?_
  refine va_put (D := D) (ci := 6) (v := .int (0 : Int32)) (ty := .int) (C := RX7) (T := TX7) (N := 18) hx hb hts (by decide +kernel) tyX7 tyX7_ok nmX7 hown hK hP (maD hD) hS 0 rfl rfl 0 (by decide) (hts (.fieldLink RX7 102 "PowerRestsModel" "length" "I") (by decide +kernel)) (fun _ h9 => h9) rfl (by decide +kernel) rfl rfl (Nat.le_of_ble_eq_true rfl) dX7_wipe_7 (fun H locs hP _ hS => ?_)
  have hP : va_P D vwCl (maW ad cy (va_up g 0 (0 : Int32)) a) H := hP
  refine lv_iload_n hx hb dX7_wipe_10 rfl (lv_at hl 0 rfl) ?_
  exact W.iret (v := (g 0)) hx hb hr (fun t ht hW => ⟨⟨_, ((va_up g 0 (0 : Int32)), a), rfl, hV, ar_heap ht hP⟩, hS.F ht⟩) hS.2.2 dX7_wipe_11
def post_X7_wipe (g : Gs) (a : As) (r : Int32) (g' : Gs) (a' : As) : Prop := r = g 0 ∧ g' = va_up g 0 0 ∧ a' = a
set_option maxRecDepth 4000 in
theorem spec_X7_wipe (l : Launch) (D : va_G) (cy : Nat → ClassId) (ad : Nat → Nat) (sz : Nat) (g : Gs) (a : As) : Met l yX7_wipe wsX7_wipe ({ frames := 0, cells := 0, slots := 0, locals := 0 } : Room) (va_Pc [.ref (ad 0)] (ArP D cy sz (maW ad cy g a))) (va_Qi (fun (r : Int32) (u : Gs × As) => (post_X7_wipe g a) r u.1 u.2) (fun u t => va_P D vwCl (maW ad cy u.1 u.2) t.heap) (va_A (maW ad cy g a) sz)) 0 0 (va_A (maW ad cy g a) sz) := by
  apply met_X7_wipe
  exact ⟨rfl, rfl, rfl⟩
/-- the rows from j on hold the first n items -/
def RowM (T : Nat → Nat) (L n j : Nat) (a : As) : Prop := ∀ i, i < n → a j i = nI (xl T L i) ∧ a (j + 1) i = nI (fM (xl T L i) (xf T L i) (xs T L i)) ∧ a (j + 2) i = nI (xs T L i) ∧ a (j + 3) i = nI (xb T L i)
theorem ItK.tr {g : Gs} {a : As} {g' : Gs} {a' : As} {g2 : Gs} {a2 : As} (h : ItK g a g' a') (k : ItK g' a' g2 a2) : ItK g a g2 a2 := ⟨fun i h1 h4 => (k.1 i h1 h4).trans (h.1 i h1 h4), fun j hj => (k.2 j hj).trans (h.2 j hj)⟩
theorem ItK.ok {g : Gs} {a : As} {g' : Gs} {a' : As} (h : ItK g a g' a') (hO : OkM g a) : OkM g' a' ∧ mL g' = mL g ∧ mT a' = mT a := by
  have e1 : mL g' = mL g := by show tn (g' 0) = tn (g 0); rw [h.1 0 (by decide) (by decide)]
  have e2 : mT a' = mT a := by show (fun i => ((a' 0 i).toInt % 256).toNat) = _; rw [h.2 0 (by omega)]
  refine ⟨?_, e1, e2⟩
  unfold OkM at *
  rw [e1, e2]
  exact ⟨hO.1, by rw [h.1 0 (by decide) (by decide)]; exact hO.2.1, fun i hi => by rw [h.2 0 (by omega)]; exact hO.2.2 i hi⟩
def pre_X7_fault (g : Gs) (a : As) : Prop := OkM g a
set_option maxHeartbeats 4000000 in
set_option maxRecDepth 100000 in
theorem met_X7_fault (l : Launch) (D : va_G) (cy : Nat → ClassId) (ad : Nat → Nat) (sz : Nat) (g : Gs) (a : As) (post : Int32 → Gs → As → Prop)
  (hV : ∀ (J10 : Gs → As → Prop),
    (∀ (g_ : Gs) (a_ : As), (((g_ 0) ≤ (g_ 1) → post (-4 : Int32) g_ a_) ∧ (¬ (g_ 0) ≤ (g_ 1) → pre_X7_isItem g_ a_ ∧ (∀ (r27 : Int32) (g27 : Gs) (a27 : As), post_X7_isItem g_ a_ r27 g27 a27 → ((r27 = 0 → post (g_ 1) g27 a27) ∧ (¬ r27 = 0 → J10 g27 a27))))) → J10 g_ a_) →
    J10 (va_up (va_up g 1 (0 : Int32)) 4 (0 : Int32)) a) :
  Met l yX7_fault wsX7_fault ({ frames := 4, cells := 0, slots := 0, locals := 92 } : Room) (va_Pc [.ref (ad 0)] (ArP D cy sz (maW ad cy g a))) (va_Qi (fun (r : Int32) (u : Gs × As) => post r u.1 u.2) (fun u t => va_P D vwCl (maW ad cy u.1 u.2) t.heap) (va_A (maW ad cy g a) sz)) 0 0 (va_A (maW ad cy g a) sz) := by
  refine Met.ofW (cc := cX7_fault) (maxL := 2) (ret := (some .int)) (by decide) rfl ?_
  intro p e s m args below meth c s₁ B hml hv
  obtain ⟨rfl, hsz, hP, hK, hD0, hN⟩ := hv
  have hx := B.exec
  have hb := B.bytes
  have hr := B.returns
  have hts := atoms_spec (ws := wsX7_fault) B.pre
  have hown : s.vm.findClass RX7 = some m.cls := findClass_of_methodNamed B.named
  have hlocks := B.notSynchronized
  subst hsz
  have hD := hD0.self (sz := s.heap.size)
  have hP : va_P D vwCl (maW ad cy g a) s.heap := hP
  have hD : va_D (va_A (maW ad cy g a) s.heap.size) (maW ad cy g a) := hD
  have hS : va_S (va_A (maW ad cy g a) s.heap.size) s.heap s.heap [] := va_S.rf
  have hA : ∀ q : Nat, s.heap.size ≤ q → va_A (maW ad cy g a) s.heap.size q := fun q h => Or.inr h
  obtain ⟨J10, iJ10, oJ10⟩ : ∃ J : Gs → As → Prop, (∀ (g_ : Gs) (a_ : As), (∀ (H : Heap) (locs : List Loc), va_P D vwCl (maW ad cy g_ a_) H → va_S (va_A (maW ad cy g a) s.heap.size) s.heap H locs → ∀ ls : Array Slot, lv_has ls 2 [(0, .ref (ad 0))] → W p l e (headSpec wsX7_fault ({ frames := 4, cells := 0, slots := 0, locals := 92 } : Room)).room s m [.ref (ad 0)].toArray below meth c H locs 0 0 (MQ below (va_Qi (fun (r : Int32) (u : Gs × As) => post r u.1 u.2) (fun u t => va_P D vwCl (maW ad cy u.1 u.2) t.heap) (va_A (maW ad cy g a) s.heap.size)) [.ref (ad 0)].toArray s 0 0 (va_A (maW ad cy g a) s.heap.size)) (F0 m 10 ls [])) → J g_ a_) ∧ (∀ (g_ : Gs) (a_ : As), J g_ a_ → (∀ (H : Heap) (locs : List Loc), va_P D vwCl (maW ad cy g_ a_) H → va_S (va_A (maW ad cy g a) s.heap.size) s.heap H locs → ∀ ls : Array Slot, lv_has ls 2 [(0, .ref (ad 0))] → W p l e (headSpec wsX7_fault ({ frames := 4, cells := 0, slots := 0, locals := 92 } : Room)).room s m [.ref (ad 0)].toArray below meth c H locs 0 0 (MQ below (va_Qi (fun (r : Int32) (u : Gs × As) => post r u.1 u.2) (fun u t => va_P D vwCl (maW ad cy u.1 u.2) t.heap) (va_A (maW ad cy g a) s.heap.size)) [.ref (ad 0)].toArray s 0 0 (va_A (maW ad cy g a) s.heap.size)) (F0 m 10 ls []))) := ⟨fun (g_ : Gs) (a_ : As) => (∀ (H : Heap) (locs : List Loc), va_P D vwCl (maW ad cy g_ a_) H → va_S (va_A (maW ad cy g a) s.heap.size) s.heap H locs → ∀ ls : Array Slot, lv_has ls 2 [(0, .ref (ad 0))] → W p l e (headSpec wsX7_fault ({ frames := 4, cells := 0, slots := 0, locals := 92 } : Room)).room s m [.ref (ad 0)].toArray below meth c H locs 0 0 (MQ below (va_Qi (fun (r : Int32) (u : Gs × As) => post r u.1 u.2) (fun u t => va_P D vwCl (maW ad cy u.1 u.2) t.heap) (va_A (maW ad cy g a) s.heap.size)) [.ref (ad 0)].toArray s 0 0 (va_A (maW ad cy g a) s.heap.size)) (F0 m 10 ls [])), fun _ _ h => h, fun _ _ h => h⟩
  have hV := hV J10
  replace hV := hV (by
    intro g_ a_ hV
    refine iJ10 g_ a_ ?_
    intro H locs hP hS ls hl
    refine lv_aload_n hx hb dX7_fault_10 rfl (lv_at hl 0 rfl) ?_
    refine va_get (D := D) (ci := 6) (v := .int (g_ 1)) (C := RX7) (T := TX7) (N := 18) hx hb hts (by decide +kernel) hown hK hP 0 rfl rfl 2 (by decide) (hts (.fieldLink RX7 105 "PowerRestsModel" "at" "I") (by decide +kernel)) (fun _ h9 => h9) rfl dX7_fault_11 ?_
    refine lv_aload_n hx hb dX7_fault_14 rfl (lv_at hl 0 rfl) ?_
    refine va_get (D := D) (ci := 6) (v := .int (g_ 0)) (C := RX7) (T := TX7) (N := 18) hx hb hts (by decide +kernel) hown hK hP 0 rfl rfl 0 (by decide) (hts (.fieldLink RX7 102 "PowerRestsModel" "length" "I") (by decide +kernel)) (fun _ h9 => h9) rfl dX7_fault_15 ?_
    refine lv_icmp_ge (tgt := 38) hx hb dX7_fault_18 (by decide) (fun c_18 => ?_) (fun c_18 => ?_)
    · have hV := hV.1 c_18
      refine lv_bipush (v := (-4 : Int32)) hx hb dX7_fault_38 (by decide) ?_
      exact W.iret (v := (-4 : Int32)) hx hb hr (fun t ht hW => ⟨⟨_, (g_, a_), rfl, hV, ar_heap ht hP⟩, hS.F ht⟩) hS.2.2 dX7_fault_40
    · have hV := hV.2 c_18
      refine lv_aload_n hx hb dX7_fault_21 rfl (lv_at hl 0 rfl) ?_
      refine va_get (D := D) (ci := 6) (v := .int (g_ 1)) (C := RX7) (T := TX7) (N := 18) hx hb hts (by decide +kernel) hown hK hP 0 rfl rfl 2 (by decide) (hts (.fieldLink RX7 105 "PowerRestsModel" "at" "I") (by decide +kernel)) (fun _ h9 => h9) rfl dX7_fault_22 ?_
      refine lv_istore_n (lv' := [(1, .int (g_ 1)), (0, .ref (ad 0))]) hx hb dX7_fault_25 rfl hl (by decide) rfl (fun ls hl => ?_)
      refine lv_aload_n hx hb dX7_fault_26 rfl (lv_at hl 1 rfl) ?_
      obtain ⟨h_27, hV⟩ := hV
      refine cw_i (va_runV (As := []) (rest := []) ⟨hx, hb, hml, hown, hts⟩ (spec_X7_isItem l D cy ad _ g_ a_ h_27) (cwV 0 hts gX7_fault_X7_isItem rfl rfl rfl (by decide +kernel) ⟨Nat.le_of_ble_eq_true rfl, Nat.le_of_ble_eq_true rfl⟩) (ar_preV hN hK hP (maD hD) (ci := 6) (q0 := 0) rfl rfl) rfl rfl hl.1 rfl (lv_room (Nat.le_of_ble_eq_true rfl)) dX7_fault_27 ⟨Nat.zero_le _, Nat.zero_le _⟩) hS (maD hD) hA (fun r27 u_27 H locs q_27 hP hS => ?_)
      obtain ⟨g27, a27⟩ := u_27
      have hV := hV r27 g27 a27 q_27
      have hP : va_P D vwCl (maW ad cy g27 a27) H := hP
      refine lv_if_ne (tgt := 35) hx hb dX7_fault_30 (by decide) (fun c_30 => ?_) (fun c_30 => ?_)
      · have hV := hV.2 c_30
        refine lv_goto (tgt := 10) hx hb dX7_fault_35 (by decide) ?_
        exact oJ10 _ _ hV _ _ hP hS _ (lv_sub hl [1] rfl)
      · have hV := hV.1 c_30
        refine lv_iload_n hx hb dX7_fault_33 rfl (lv_at hl 0 rfl) ?_
        exact W.iret (v := (g_ 1)) hx hb hr (fun t ht hW => ⟨⟨_, (g27, a27), rfl, hV, ar_heap ht hP⟩, hS.F ht⟩) hS.2.2 dX7_fault_34)
  have hl := lv_entry ([.ref (ad 0)]) (n := 2) (Nat.le_of_ble_eq_true rfl)
  rw [lg_entry_eq]
  generalize (lg_sl ([.ref (ad 0)]) ++ List.replicate (2 - (lg_sl ([.ref (ad 0)])).length) Slot.unset).toArray = ls at hl ⊢
  have hl : lv_has ls 2 [(0, .ref (ad 0))] := hl
  refine lv_aload_n hx hb dX7_fault_0 rfl (lv_at hl 0 rfl) ?_
  refine lv_iconst (v := (0 : Int32)) hx hb dX7_fault_1 (by decide) ?_
  refine va_put (D := D) (ci := 6) (v := .int (0 : Int32)) (ty := .int) (C := RX7) (T := TX7) (N := 18) hx hb hts (by decide +kernel) tyX7 tyX7_ok nmX7 hown hK hP (maD hD) hS 0 rfl rfl 2 (by decide) (hts (.fieldLink RX7 105 "PowerRestsModel" "at" "I") (by decide +kernel)) (fun _ h9 => h9) rfl (by decide +kernel) rfl rfl (Nat.le_of_ble_eq_true rfl) dX7_fault_2 (fun H locs hP _ hS => ?_)
  have hP : va_P D vwCl (maW ad cy (va_up g 1 (0 : Int32)) a) H := hP
  refine lv_aload_n hx hb dX7_fault_5 rfl (lv_at hl 0 rfl) ?_
  refine lv_iconst (v := (0 : Int32)) hx hb dX7_fault_6 (by decide) ?_
  refine va_put (D := D) (ci := 6) (v := .int (0 : Int32)) (ty := .int) (C := RX7) (T := TX7) (N := 18) hx hb hts (by decide +kernel) tyX7 tyX7_ok nmX7 hown hK hP (maD hD) hS 0 rfl rfl 9 (by decide) (hts (.fieldLink RX7 118 "PowerRestsModel" "readItems" "I") (by decide +kernel)) (fun _ h9 => h9) rfl (by decide +kernel) rfl rfl (Nat.le_of_ble_eq_true rfl) dX7_fault_7 (fun H locs hP _ hS => ?_)
  have hP : va_P D vwCl (maW ad cy (va_up (va_up g 1 (0 : Int32)) 4 (0 : Int32)) a) H := hP
  exact oJ10 _ _ hV _ _ hP hS _ (lv_sub hl [0] rfl)
def post_X7_fault (g : Gs) (a : As) (r : Int32) (g' : Gs) (a' : As) : Prop := ItK g a g' a' ∧ FaultAns (mT a) (mL g) r ∧ (r = -4 → ∃ n, Right (mT a) (mL g) n ∧ g' 4 = nI n ∧ RowM (mT a) (mL g) n 5 a')
set_option maxRecDepth 4000 in
theorem spec_X7_fault (l : Launch) (D : va_G) (cy : Nat → ClassId) (ad : Nat → Nat) (sz : Nat) (g : Gs) (a : As) (hpre : pre_X7_fault g a) : Met l yX7_fault wsX7_fault ({ frames := 4, cells := 0, slots := 0, locals := 92 } : Room) (va_Pc [.ref (ad 0)] (ArP D cy sz (maW ad cy g a))) (va_Qi (fun (r : Int32) (u : Gs × As) => (post_X7_fault g a) r u.1 u.2) (fun u t => va_P D vwCl (maW ad cy u.1 u.2) t.heap) (va_A (maW ad cy g a) sz)) 0 0 (va_A (maW ad cy g a) sz) := by
  apply met_X7_fault
  intro J hJ
  have hO : OkM g a := hpre
  have hL := hO.1
  have m4 : ∀ k : Nat, k < 1000 → ¬ nI k = -4 := fun k hk z => by
    rw [i_eq, nI_toInt (by omega)] at z
    have : (-4 : Int32).toInt = -4 := rfl
    omega
  have key : ∀ (d k : Nat) (g1 : Gs) (a1 : As), k + d = 8 → ItK g a g1 a1 → (∀ i, i < k → isIt (mT a) (mL g) i) → g1 1 = nI (pos (mT a) (mL g) k) → g1 4 = nI k → RowM (mT a) (mL g) k 5 a1 → J g1 a1 := by
    intro d
    have stp : ∀ (k : Nat) (g1 : Gs) (a1 : As), k ≤ 8 → ItK g a g1 a1 → (∀ i, i < k → isIt (mT a) (mL g) i) → g1 1 = nI (pos (mT a) (mL g) k) → g1 4 = nI k → RowM (mT a) (mL g) k 5 a1 → (∀ g2 a2, k < 8 → isIt (mT a) (mL g) k → ItK g a g2 a2 → g2 1 = nI (pos (mT a) (mL g) (k + 1)) → g2 4 = nI (k + 1) → RowM (mT a) (mL g) (k + 1) 5 a2 → J g2 a2) → J g1 a1 := by
      intro k g1 a1 hk8 hK hi e1 e4 hR hnext
      have hp := pos_le hi
      obtain ⟨hO1, eL, eT⟩ := hK.ok hO
      refine hJ _ _ (pk_le (mL g) (pos (mT a) (mL g) k) (fun z => ⟨hK, ?_, fun _ => ⟨k, ⟨⟨hk8, hi, Or.inr (not_isIt z)⟩, by omega⟩, e4, hR⟩⟩) (fun z => ⟨⟨hO1, pos (mT a) (mL g) k, k, by rw [eL]; exact z, e1, hk8, e4⟩, fun r g2 a2 h2 => ?_⟩) (by rw [hK.1 0 (by decide) (by decide)]; exact hO.2.1) e1 (by omega) (by omega))
      · exact ⟨k, ⟨hk8, hi, Or.inr (not_isIt z)⟩, by rw [if_neg (by omega)]⟩
      · obtain ⟨hK2, hA⟩ := h2
        have hA := hA (pos (mT a) (mL g) k) k (by rw [eL]; exact z) e1 hk8 e4
        rw [eL, eT] at hA
        rcases hA with ⟨hno, rfl⟩ | ⟨hk, rfl, q, l, f, s, b, hit, q1, q4, r5, r6, r7, r8⟩
        · refine ⟨fun _ => ?_, fun y => absurd rfl y⟩
          rw [e1]
          exact ⟨hK.tr hK2, ⟨k, ⟨hk8, hi, hno⟩, by rw [if_pos z]⟩, fun y => absurd y (m4 _ (by omega))⟩
        · refine ⟨fun y => absurd y (by decide), fun _ => ?_⟩
          have hk2 : isIt (mT a) (mL g) k := ⟨q, l, f, s, b, hit⟩
          obtain ⟨rfl, rfl, rfl, rfl, rfl⟩ := hit.one hk2.it
          refine hnext g2 a2 hk hk2 (hK.tr hK2) q1 q4 (fun i hi2 => ?_)
          show a2 5 i = _ ∧ a2 6 i = _ ∧ a2 7 i = _ ∧ a2 8 i = _
          rw [r5, r6, r7, r8]
          by_cases y : i = k
          · rw [y, pk_us, pk_us, pk_us, pk_us]; exact ⟨rfl, rfl, rfl, rfl⟩
          · rw [pk_un y, pk_un y, pk_un y, pk_un y]
            exact hR i (by omega)
    induction d with
    | zero =>
      intro k g1 a1 hk hK hi e1 e4 hR
      exact stp k g1 a1 (by omega) hK hi e1 e4 hR (fun g2 a2 h8 => by omega)
    | succ d ih =>
      intro k g1 a1 hk hK hi e1 e4 hR
      refine stp k g1 a1 (by omega) hK hi e1 e4 hR (fun g2 a2 h8 hik hK2 q1 q4 hR2 => ih (k + 1) g2 a2 (by omega) hK2 (fun i hi2 => ?_) q1 q4 hR2)
      by_cases y : i = k
      · rw [y]; exact hik
      · exact hi i (by omega)
  exact key 8 0 _ _ (by omega) ⟨fun i h1 h4 => by rw [up_n _ _ h4, up_n _ _ h1], fun _ _ => rfl⟩ (fun i hi => by omega) (by rw [up_n _ _ (by decide), up_0]; rfl) (up_0 _ _ _) (fun i hi => by omega)
/-- what is laid -/
def LayOk (T : Nat → Nat) (L n : Nat) : Prop := Right T L n ∧ lcmF (xb T L) n ≤ 2000000
theorem LayOk.one {T : Nat → Nat} {L n n' : Nat} (h : LayOk T L n) (h' : LayOk T L n') : n = n' := h.1.1.one h'.1.1
def pre_X7_lay (g : Gs) (a : As) : Prop := OkM g a
set_option maxHeartbeats 4000000 in
set_option maxRecDepth 100000 in
theorem met_X7_lay (l : Launch) (D : va_G) (cy : Nat → ClassId) (ad : Nat → Nat) (sz : Nat) (g : Gs) (a : As) (post : Int32 → Gs → As → Prop)
  (hV : ∀ (J16 : Int32 → Int32 → Gs → As → Prop) (J82 : Int32 → Gs → As → Prop),
    (∀ (x1 : Int32) (x2 : Int32) (g_ : Gs) (a_ : As), (((g_ 4) ≤ x2 → J82 (0 : Int32) (va_up (va_up g_ 2 (g_ 4)) 3 x1) a_) ∧ (¬ (g_ 4) ≤ x2 → vp_in x2 8 ∧ (pre_X7_common x1 ((a_ 8) x2.toNatClampNeg) ∧ (∀ r33 : Int32, post_X7_common x1 ((a_ 8) x2.toNatClampNeg) r33 → ¬ r33.toInt64 = 0 ∧ (vp_in x2 8 ∧ (((((x1.toInt64 / r33.toInt64) * (((a_ 8) x2.toNatClampNeg).toInt64)) ≤ (2000000 : Int64) → J16 (((x1.toInt64 / r33.toInt64) * (((a_ 8) x2.toNatClampNeg).toInt64)).toInt32) (x2 + 1) g_ a_) ∧ (¬ ((x1.toInt64 / r33.toInt64) * (((a_ 8) x2.toNatClampNeg).toInt64)) ≤ (2000000 : Int64) → post (-2 : Int32) g_ a_)))))))) → J16 x1 x2 g_ a_) →
    (∀ (x2 : Int32) (g_ : Gs) (a_ : As), (((g_ 2) ≤ x2 → post (g_ 3) g_ a_) ∧ (¬ (g_ 2) ≤ x2 → vp_in x2 8 ∧ (vp_in x2 8 ∧ (vp_in x2 8 ∧ (vp_in x2 8 ∧ (vp_in x2 8 ∧ (vp_in x2 8 ∧ (vp_in x2 8 ∧ (vp_in x2 8 ∧ (J82 (x2 + 1) g_ (va_up (va_up (va_up (va_up a_ 1 (upd (a_ 1) x2.toNatClampNeg ((a_ 5) x2.toNatClampNeg))) 2 (upd (a_ 2) x2.toNatClampNeg ((a_ 6) x2.toNatClampNeg))) 3 (upd (a_ 3) x2.toNatClampNeg ((a_ 7) x2.toNatClampNeg))) 4 (upd (a_ 4) x2.toNatClampNeg ((a_ 8) x2.toNatClampNeg))))))))))))) → J82 x2 g_ a_) →
    pre_X7_fault g a ∧ (∀ (r1 : Int32) (g1 : Gs) (a1 : As), post_X7_fault g a r1 g1 a1 → ((r1 = (-4 : Int32) → J16 (1 : Int32) (0 : Int32) g1 a1) ∧ (¬ r1 = (-4 : Int32) → post (-2 : Int32) g1 a1)))) :
  Met l yX7_lay wsX7_lay ({ frames := 5, cells := 0, slots := 0, locals := 113 } : Room) (va_Pc [.ref (ad 0)] (ArP D cy sz (maW ad cy g a))) (va_Qi (fun (r : Int32) (u : Gs × As) => post r u.1 u.2) (fun u t => va_P D vwCl (maW ad cy u.1 u.2) t.heap) (va_A (maW ad cy g a) sz)) 0 0 (va_A (maW ad cy g a) sz) := by
  refine Met.ofW (cc := cX7_lay) (maxL := 5) (ret := (some .int)) (by decide) rfl ?_
  intro p e s m args below meth c s₁ B hml hv
  obtain ⟨rfl, hsz, hP, hK, hD0, hN⟩ := hv
  have hx := B.exec
  have hb := B.bytes
  have hr := B.returns
  have hts := atoms_spec (ws := wsX7_lay) B.pre
  have hown : s.vm.findClass RX7 = some m.cls := findClass_of_methodNamed B.named
  have hlocks := B.notSynchronized
  subst hsz
  have hD := hD0.self (sz := s.heap.size)
  have hP : va_P D vwCl (maW ad cy g a) s.heap := hP
  have hD : va_D (va_A (maW ad cy g a) s.heap.size) (maW ad cy g a) := hD
  have hS : va_S (va_A (maW ad cy g a) s.heap.size) s.heap s.heap [] := va_S.rf
  have hA : ∀ q : Nat, s.heap.size ≤ q → va_A (maW ad cy g a) s.heap.size q := fun q h => Or.inr h
  obtain ⟨J16, iJ16, oJ16⟩ : ∃ J : Int32 → Int32 → Gs → As → Prop, (∀ (x1 : Int32) (x2 : Int32) (g_ : Gs) (a_ : As), (∀ (H : Heap) (locs : List Loc), va_P D vwCl (maW ad cy g_ a_) H → va_S (va_A (maW ad cy g a) s.heap.size) s.heap H locs → ∀ ls : Array Slot, lv_has ls 5 [(0, .ref (ad 0)), (1, .int x1), (2, .int x2)] → W p l e (headSpec wsX7_lay ({ frames := 5, cells := 0, slots := 0, locals := 113 } : Room)).room s m [.ref (ad 0)].toArray below meth c H locs 0 0 (MQ below (va_Qi (fun (r : Int32) (u : Gs × As) => post r u.1 u.2) (fun u t => va_P D vwCl (maW ad cy u.1 u.2) t.heap) (va_A (maW ad cy g a) s.heap.size)) [.ref (ad 0)].toArray s 0 0 (va_A (maW ad cy g a) s.heap.size)) (F0 m 16 ls [])) → J x1 x2 g_ a_) ∧ (∀ (x1 : Int32) (x2 : Int32) (g_ : Gs) (a_ : As), J x1 x2 g_ a_ → (∀ (H : Heap) (locs : List Loc), va_P D vwCl (maW ad cy g_ a_) H → va_S (va_A (maW ad cy g a) s.heap.size) s.heap H locs → ∀ ls : Array Slot, lv_has ls 5 [(0, .ref (ad 0)), (1, .int x1), (2, .int x2)] → W p l e (headSpec wsX7_lay ({ frames := 5, cells := 0, slots := 0, locals := 113 } : Room)).room s m [.ref (ad 0)].toArray below meth c H locs 0 0 (MQ below (va_Qi (fun (r : Int32) (u : Gs × As) => post r u.1 u.2) (fun u t => va_P D vwCl (maW ad cy u.1 u.2) t.heap) (va_A (maW ad cy g a) s.heap.size)) [.ref (ad 0)].toArray s 0 0 (va_A (maW ad cy g a) s.heap.size)) (F0 m 16 ls []))) := ⟨fun (x1 : Int32) (x2 : Int32) (g_ : Gs) (a_ : As) => (∀ (H : Heap) (locs : List Loc), va_P D vwCl (maW ad cy g_ a_) H → va_S (va_A (maW ad cy g a) s.heap.size) s.heap H locs → ∀ ls : Array Slot, lv_has ls 5 [(0, .ref (ad 0)), (1, .int x1), (2, .int x2)] → W p l e (headSpec wsX7_lay ({ frames := 5, cells := 0, slots := 0, locals := 113 } : Room)).room s m [.ref (ad 0)].toArray below meth c H locs 0 0 (MQ below (va_Qi (fun (r : Int32) (u : Gs × As) => post r u.1 u.2) (fun u t => va_P D vwCl (maW ad cy u.1 u.2) t.heap) (va_A (maW ad cy g a) s.heap.size)) [.ref (ad 0)].toArray s 0 0 (va_A (maW ad cy g a) s.heap.size)) (F0 m 16 ls [])), fun _ _ _ _ h => h, fun _ _ _ _ h => h⟩
  obtain ⟨J82, iJ82, oJ82⟩ : ∃ J : Int32 → Gs → As → Prop, (∀ (x2 : Int32) (g_ : Gs) (a_ : As), (∀ (H : Heap) (locs : List Loc), va_P D vwCl (maW ad cy g_ a_) H → va_S (va_A (maW ad cy g a) s.heap.size) s.heap H locs → ∀ ls : Array Slot, lv_has ls 5 [(0, .ref (ad 0)), (2, .int x2)] → W p l e (headSpec wsX7_lay ({ frames := 5, cells := 0, slots := 0, locals := 113 } : Room)).room s m [.ref (ad 0)].toArray below meth c H locs 0 0 (MQ below (va_Qi (fun (r : Int32) (u : Gs × As) => post r u.1 u.2) (fun u t => va_P D vwCl (maW ad cy u.1 u.2) t.heap) (va_A (maW ad cy g a) s.heap.size)) [.ref (ad 0)].toArray s 0 0 (va_A (maW ad cy g a) s.heap.size)) (F0 m 82 ls [])) → J x2 g_ a_) ∧ (∀ (x2 : Int32) (g_ : Gs) (a_ : As), J x2 g_ a_ → (∀ (H : Heap) (locs : List Loc), va_P D vwCl (maW ad cy g_ a_) H → va_S (va_A (maW ad cy g a) s.heap.size) s.heap H locs → ∀ ls : Array Slot, lv_has ls 5 [(0, .ref (ad 0)), (2, .int x2)] → W p l e (headSpec wsX7_lay ({ frames := 5, cells := 0, slots := 0, locals := 113 } : Room)).room s m [.ref (ad 0)].toArray below meth c H locs 0 0 (MQ below (va_Qi (fun (r : Int32) (u : Gs × As) => post r u.1 u.2) (fun u t => va_P D vwCl (maW ad cy u.1 u.2) t.heap) (va_A (maW ad cy g a) s.heap.size)) [.ref (ad 0)].toArray s 0 0 (va_A (maW ad cy g a) s.heap.size)) (F0 m 82 ls []))) := ⟨fun (x2 : Int32) (g_ : Gs) (a_ : As) => (∀ (H : Heap) (locs : List Loc), va_P D vwCl (maW ad cy g_ a_) H → va_S (va_A (maW ad cy g a) s.heap.size) s.heap H locs → ∀ ls : Array Slot, lv_has ls 5 [(0, .ref (ad 0)), (2, .int x2)] → W p l e (headSpec wsX7_lay ({ frames := 5, cells := 0, slots := 0, locals := 113 } : Room)).room s m [.ref (ad 0)].toArray below meth c H locs 0 0 (MQ below (va_Qi (fun (r : Int32) (u : Gs × As) => post r u.1 u.2) (fun u t => va_P D vwCl (maW ad cy u.1 u.2) t.heap) (va_A (maW ad cy g a) s.heap.size)) [.ref (ad 0)].toArray s 0 0 (va_A (maW ad cy g a) s.heap.size)) (F0 m 82 ls [])), fun _ _ _ h => h, fun _ _ _ h => h⟩
  have hV := hV J16 J82
  replace hV := hV (by
    intro x1 x2 g_ a_ hV
    refine iJ16 x1 x2 g_ a_ ?_
    intro H locs hP hS ls hl
    refine lv_iload_n hx hb dX7_lay_16 rfl (lv_at hl 2 rfl) ?_
    refine lv_aload_n hx hb dX7_lay_17 rfl (lv_at hl 0 rfl) ?_
    refine va_get (D := D) (ci := 6) (v := .int (g_ 4)) (C := RX7) (T := TX7) (N := 18) hx hb hts (by decide +kernel) hown hK hP 0 rfl rfl 9 (by decide) (hts (.fieldLink RX7 118 "PowerRestsModel" "readItems" "I") (by decide +kernel)) (fun _ h9 => h9) rfl dX7_lay_18 ?_
    refine lv_icmp_ge (tgt := 67) hx hb dX7_lay_21 (by decide) (fun c_21 => ?_) (fun c_21 => ?_)
    · have hV := hV.1 c_21
      refine lv_aload_n hx hb dX7_lay_67 rfl (lv_at hl 0 rfl) ?_
      refine lv_iload_n hx hb dX7_lay_68 rfl (lv_at hl 1 rfl) ?_
      refine va_put (D := D) (ci := 6) (v := .int x1) (ty := .int) (C := RX7) (T := TX7) (N := 18) hx hb hts (by decide +kernel) tyX7 tyX7_ok nmX7 hown hK hP (maD hD) hS 0 rfl rfl 4 (by decide) (hts (.fieldLink RX7 13 "PowerRestsModel" "period" "I") (by decide +kernel)) (fun _ h9 => h9) rfl (by decide +kernel) rfl rfl (Nat.le_of_ble_eq_true rfl) dX7_lay_69 (fun H locs hP _ hS => ?_)
      have hP : va_P D vwCl (maW ad cy (va_up g_ 3 x1) a_) H := hP
      refine lv_aload_n hx hb dX7_lay_72 rfl (lv_at hl 0 rfl) ?_
      refine lv_aload_n hx hb dX7_lay_73 rfl (lv_at hl 0 rfl) ?_
      refine va_get (D := D) (ci := 6) (v := .int (g_ 4)) (C := RX7) (T := TX7) (N := 18) hx hb hts (by decide +kernel) hown hK hP 0 rfl rfl 9 (by decide) (hts (.fieldLink RX7 118 "PowerRestsModel" "readItems" "I") (by decide +kernel)) (fun _ h9 => h9) rfl dX7_lay_74 ?_
      refine va_put (D := D) (ci := 6) (v := .int (g_ 4)) (ty := .int) (C := RX7) (T := TX7) (N := 18) hx hb hts (by decide +kernel) tyX7 tyX7_ok nmX7 hown hK hP (maD hD) hS 0 rfl rfl 3 (by decide) (hts (.fieldLink RX7 137 "PowerRestsModel" "items" "I") (by decide +kernel)) (fun _ h9 => h9) rfl (by decide +kernel) rfl rfl (Nat.le_of_ble_eq_true rfl) dX7_lay_77 (fun H locs hP _ hS => ?_)
      have hP : va_P D vwCl (maW ad cy (va_up (va_up g_ 2 (g_ 4)) 3 x1) a_) H := hP
      refine lv_iconst (v := (0 : Int32)) hx hb dX7_lay_80 (by decide) ?_
      refine lv_istore_n (lv' := [(2, .int (0 : Int32)), (0, .ref (ad 0)), (1, .int x1)]) hx hb dX7_lay_81 rfl hl (by decide) rfl (fun ls hl => ?_)
      exact oJ82 _ _ _ hV _ _ hP hS _ (lv_sub hl [1, 0] rfl)
    · have hV := hV.2 c_21
      refine lv_iload_n hx hb dX7_lay_24 rfl (lv_at hl 1 rfl) ?_
      refine lv_i2l (v := x1.toInt64) hx hb dX7_lay_25 rfl ?_
      refine lv_iload_n hx hb dX7_lay_26 rfl (lv_at hl 1 rfl) ?_
      refine lv_aload_n hx hb dX7_lay_27 rfl (lv_at hl 0 rfl) ?_
      refine va_get (D := D) (ci := 6) (v := .ref (ad 9)) (C := RX7) (T := TX7) (N := 18) hx hb hts (by decide +kernel) hown hK hP 0 rfl rfl 13 (by decide) (hts (.fieldLink RX7 39 "PowerRestsModel" "readBy" "[I") (by decide +kernel)) (fun _ h9 => h9) rfl dX7_lay_28 ?_
      refine lv_iload_n hx hb dX7_lay_31 rfl (lv_at hl 2 rfl) ?_
      obtain ⟨h_32, hV⟩ := hV
      refine va_iald (f := (a_ 8)) hx hb hK hP 9 0 rfl rfl h_32 dX7_lay_32 ?_
      obtain ⟨h_33, hV⟩ := hV
      refine cp_i (va_runS (As := [.int x1, .int ((a_ 8) x2.toNatClampNeg)]) (rest := [.long x1.toInt64]) ⟨hx, hb, hml, hown, hts⟩ (spec_X7_common l x1 ((a_ 8) x2.toNatClampNeg) h_33) (va_cwS 2 hts gX7_lay_X7_common rfl rfl rfl (by decide +kernel) ⟨Nat.le_of_ble_eq_true rfl, Nat.le_of_ble_eq_true rfl⟩) cp_pre rfl rfl hl.1 rfl (lv_room (Nat.le_of_ble_eq_true rfl)) dX7_lay_33 ⟨Nat.zero_le _, Nat.zero_le _⟩) (fun r33 q_33 => ?_)
      have hV := hV r33 q_33
      refine lv_i2l (v := r33.toInt64) hx hb dX7_lay_36 rfl ?_
      obtain ⟨h_37, hV⟩ := hV
      refine lv_ldiv hx hb dX7_lay_37 h_37 ?_
      refine lv_aload_n hx hb dX7_lay_38 rfl (lv_at hl 0 rfl) ?_
      refine va_get (D := D) (ci := 6) (v := .ref (ad 9)) (C := RX7) (T := TX7) (N := 18) hx hb hts (by decide +kernel) hown hK hP 0 rfl rfl 13 (by decide) (hts (.fieldLink RX7 39 "PowerRestsModel" "readBy" "[I") (by decide +kernel)) (fun _ h9 => h9) rfl dX7_lay_39 ?_
      refine lv_iload_n hx hb dX7_lay_42 rfl (lv_at hl 2 rfl) ?_
      obtain ⟨h_43, hV⟩ := hV
      refine va_iald (f := (a_ 8)) hx hb hK hP 9 0 rfl rfl h_43 dX7_lay_43 ?_
      refine lv_i2l (v := ((a_ 8) x2.toNatClampNeg).toInt64) hx hb dX7_lay_44 rfl ?_
      refine lv_lmul hx hb dX7_lay_45 ?_
      refine lv_lstore_n (lv' := [(3, .long ((x1.toInt64 / r33.toInt64) * (((a_ 8) x2.toNatClampNeg).toInt64))), (0, .ref (ad 0)), (1, .int x1), (2, .int x2)]) hx hb dX7_lay_46 rfl hl (by decide) rfl (fun ls hl => ?_)
      refine lv_lload_n hx hb dX7_lay_47 rfl (lv_at hl 0 rfl) ?_
      refine lv_ldc2 (v := (2000000 : Int64)) hx hb hown (hts (.constantLong RX7 135 (2000000)) (by decide +kernel)) dX7_lay_48 ?_
      refine lc_le (tgt := 58) hx hb dX7_lay_51 dX7_lay_52 (by decide) (fun c_51 => ?_) (fun c_51 => ?_)
      · have hV := hV.1 c_51
        refine lv_lload_n hx hb dX7_lay_58 rfl (lv_at hl 0 rfl) ?_
        refine lv_l2i (v := ((x1.toInt64 / r33.toInt64) * (((a_ 8) x2.toNatClampNeg).toInt64)).toInt32) hx hb dX7_lay_59 rfl ?_
        refine lv_istore_n (lv' := [(1, .int (((x1.toInt64 / r33.toInt64) * (((a_ 8) x2.toNatClampNeg).toInt64)).toInt32)), (3, .long ((x1.toInt64 / r33.toInt64) * (((a_ 8) x2.toNatClampNeg).toInt64))), (0, .ref (ad 0)), (2, .int x2)]) hx hb dX7_lay_60 rfl hl (by decide) rfl (fun ls hl => ?_)
        refine lv_iinc (v := x2 + 1) (lv' := [(2, .int (x2 + 1)), (1, .int (((x1.toInt64 / r33.toInt64) * (((a_ 8) x2.toNatClampNeg).toInt64)).toInt32)), (3, .long ((x1.toInt64 / r33.toInt64) * (((a_ 8) x2.toNatClampNeg).toInt64))), (0, .ref (ad 0))]) hx hb dX7_lay_61 hl (k := 3) rfl rfl (by decide) rfl (fun ls hl => ?_)
        refine lv_goto (tgt := 16) hx hb dX7_lay_64 (by decide) ?_
        exact oJ16 _ _ _ _ hV _ _ hP hS _ (lv_sub hl [3, 1, 0] rfl)
      · have hV := hV.2 c_51
        refine lv_bipush (v := (-2 : Int32)) hx hb dX7_lay_55 (by decide) ?_
        exact W.iret (v := (-2 : Int32)) hx hb hr (fun t ht hW => ⟨⟨_, (g_, a_), rfl, hV, ar_heap ht hP⟩, hS.F ht⟩) hS.2.2 dX7_lay_57)
  replace hV := hV (by
    intro x2 g_ a_ hV
    refine iJ82 x2 g_ a_ ?_
    intro H locs hP hS ls hl
    refine lv_iload_n hx hb dX7_lay_82 rfl (lv_at hl 1 rfl) ?_
    refine lv_aload_n hx hb dX7_lay_83 rfl (lv_at hl 0 rfl) ?_
    refine va_get (D := D) (ci := 6) (v := .int (g_ 2)) (C := RX7) (T := TX7) (N := 18) hx hb hts (by decide +kernel) hown hK hP 0 rfl rfl 3 (by decide) (hts (.fieldLink RX7 137 "PowerRestsModel" "items" "I") (by decide +kernel)) (fun _ h9 => h9) rfl dX7_lay_84 ?_
    refine lv_icmp_ge (tgt := 144) hx hb dX7_lay_87 (by decide) (fun c_87 => ?_) (fun c_87 => ?_)
    · have hV := hV.1 c_87
      refine lv_aload_n hx hb dX7_lay_144 rfl (lv_at hl 0 rfl) ?_
      refine va_get (D := D) (ci := 6) (v := .int (g_ 3)) (C := RX7) (T := TX7) (N := 18) hx hb hts (by decide +kernel) hown hK hP 0 rfl rfl 4 (by decide) (hts (.fieldLink RX7 13 "PowerRestsModel" "period" "I") (by decide +kernel)) (fun _ h9 => h9) rfl dX7_lay_145 ?_
      exact W.iret (v := (g_ 3)) hx hb hr (fun t ht hW => ⟨⟨_, (g_, a_), rfl, hV, ar_heap ht hP⟩, hS.F ht⟩) hS.2.2 dX7_lay_148
    · have hV := hV.2 c_87
      refine lv_aload_n hx hb dX7_lay_90 rfl (lv_at hl 0 rfl) ?_
      refine va_get (D := D) (ci := 6) (v := .ref (ad 2)) (C := RX7) (T := TX7) (N := 18) hx hb hts (by decide +kernel) hown hK hP 0 rfl rfl 5 (by decide) (hts (.fieldLink RX7 17 "PowerRestsModel" "letter" "[I") (by decide +kernel)) (fun _ h9 => h9) rfl dX7_lay_91 ?_
      refine lv_iload_n hx hb dX7_lay_94 rfl (lv_at hl 1 rfl) ?_
      refine lv_aload_n hx hb dX7_lay_95 rfl (lv_at hl 0 rfl) ?_
      refine va_get (D := D) (ci := 6) (v := .ref (ad 6)) (C := RX7) (T := TX7) (N := 18) hx hb hts (by decide +kernel) hown hK hP 0 rfl rfl 10 (by decide) (hts (.fieldLink RX7 30 "PowerRestsModel" "readLetter" "[I") (by decide +kernel)) (fun _ h9 => h9) rfl dX7_lay_96 ?_
      refine lv_iload_n hx hb dX7_lay_99 rfl (lv_at hl 1 rfl) ?_
      obtain ⟨h_100, hV⟩ := hV
      refine va_iald (f := (a_ 5)) hx hb hK hP 6 0 rfl rfl h_100 dX7_lay_100 ?_
      obtain ⟨h_101, hV⟩ := hV
      refine va_iast (f := (a_ 1)) hx hb hK hP (maD hD) hS 2 0 rfl rfl h_101 dX7_lay_101 (fun H locs hP _ hS => ?_)
      have hP : va_P D vwCl (maW ad cy g_ (va_up a_ 1 (upd (a_ 1) x2.toNatClampNeg ((a_ 5) x2.toNatClampNeg)))) H := hP
      refine lv_aload_n hx hb dX7_lay_102 rfl (lv_at hl 0 rfl) ?_
      refine va_get (D := D) (ci := 6) (v := .ref (ad 3)) (C := RX7) (T := TX7) (N := 18) hx hb hts (by decide +kernel) hown hK hP 0 rfl rfl 6 (by decide) (hts (.fieldLink RX7 21 "PowerRestsModel" "first" "[I") (by decide +kernel)) (fun _ h9 => h9) rfl dX7_lay_103 ?_
      refine lv_iload_n hx hb dX7_lay_106 rfl (lv_at hl 1 rfl) ?_
      refine lv_aload_n hx hb dX7_lay_107 rfl (lv_at hl 0 rfl) ?_
      refine va_get (D := D) (ci := 6) (v := .ref (ad 7)) (C := RX7) (T := TX7) (N := 18) hx hb hts (by decide +kernel) hown hK hP 0 rfl rfl 11 (by decide) (hts (.fieldLink RX7 33 "PowerRestsModel" "readFirst" "[I") (by decide +kernel)) (fun _ h9 => h9) rfl dX7_lay_108 ?_
      refine lv_iload_n hx hb dX7_lay_111 rfl (lv_at hl 1 rfl) ?_
      obtain ⟨h_112, hV⟩ := hV
      refine va_iald (f := (a_ 6)) hx hb hK hP 7 0 rfl rfl h_112 dX7_lay_112 ?_
      obtain ⟨h_113, hV⟩ := hV
      refine va_iast (f := (a_ 2)) hx hb hK hP (maD hD) hS 3 0 rfl rfl h_113 dX7_lay_113 (fun H locs hP _ hS => ?_)
      have hP : va_P D vwCl (maW ad cy g_ (va_up (va_up a_ 1 (upd (a_ 1) x2.toNatClampNeg ((a_ 5) x2.toNatClampNeg))) 2 (upd (a_ 2) x2.toNatClampNeg ((a_ 6) x2.toNatClampNeg)))) H := hP
      refine lv_aload_n hx hb dX7_lay_114 rfl (lv_at hl 0 rfl) ?_
      refine va_get (D := D) (ci := 6) (v := .ref (ad 4)) (C := RX7) (T := TX7) (N := 18) hx hb hts (by decide +kernel) hown hK hP 0 rfl rfl 7 (by decide) (hts (.fieldLink RX7 24 "PowerRestsModel" "second" "[I") (by decide +kernel)) (fun _ h9 => h9) rfl dX7_lay_115 ?_
      refine lv_iload_n hx hb dX7_lay_118 rfl (lv_at hl 1 rfl) ?_
      refine lv_aload_n hx hb dX7_lay_119 rfl (lv_at hl 0 rfl) ?_
      refine va_get (D := D) (ci := 6) (v := .ref (ad 8)) (C := RX7) (T := TX7) (N := 18) hx hb hts (by decide +kernel) hown hK hP 0 rfl rfl 12 (by decide) (hts (.fieldLink RX7 36 "PowerRestsModel" "readSecond" "[I") (by decide +kernel)) (fun _ h9 => h9) rfl dX7_lay_120 ?_
      refine lv_iload_n hx hb dX7_lay_123 rfl (lv_at hl 1 rfl) ?_
      obtain ⟨h_124, hV⟩ := hV
      refine va_iald (f := (a_ 7)) hx hb hK hP 8 0 rfl rfl h_124 dX7_lay_124 ?_
      obtain ⟨h_125, hV⟩ := hV
      refine va_iast (f := (a_ 3)) hx hb hK hP (maD hD) hS 4 0 rfl rfl h_125 dX7_lay_125 (fun H locs hP _ hS => ?_)
      have hP : va_P D vwCl (maW ad cy g_ (va_up (va_up (va_up a_ 1 (upd (a_ 1) x2.toNatClampNeg ((a_ 5) x2.toNatClampNeg))) 2 (upd (a_ 2) x2.toNatClampNeg ((a_ 6) x2.toNatClampNeg))) 3 (upd (a_ 3) x2.toNatClampNeg ((a_ 7) x2.toNatClampNeg)))) H := hP
      refine lv_aload_n hx hb dX7_lay_126 rfl (lv_at hl 0 rfl) ?_
      refine va_get (D := D) (ci := 6) (v := .ref (ad 5)) (C := RX7) (T := TX7) (N := 18) hx hb hts (by decide +kernel) hown hK hP 0 rfl rfl 8 (by decide) (hts (.fieldLink RX7 27 "PowerRestsModel" "by" "[I") (by decide +kernel)) (fun _ h9 => h9) rfl dX7_lay_127 ?_
      refine lv_iload_n hx hb dX7_lay_130 rfl (lv_at hl 1 rfl) ?_
      refine lv_aload_n hx hb dX7_lay_131 rfl (lv_at hl 0 rfl) ?_
      refine va_get (D := D) (ci := 6) (v := .ref (ad 9)) (C := RX7) (T := TX7) (N := 18) hx hb hts (by decide +kernel) hown hK hP 0 rfl rfl 13 (by decide) (hts (.fieldLink RX7 39 "PowerRestsModel" "readBy" "[I") (by decide +kernel)) (fun _ h9 => h9) rfl dX7_lay_132 ?_
      refine lv_iload_n hx hb dX7_lay_135 rfl (lv_at hl 1 rfl) ?_
      obtain ⟨h_136, hV⟩ := hV
      refine va_iald (f := (a_ 8)) hx hb hK hP 9 0 rfl rfl h_136 dX7_lay_136 ?_
      obtain ⟨h_137, hV⟩ := hV
      refine va_iast (f := (a_ 4)) hx hb hK hP (maD hD) hS 5 0 rfl rfl h_137 dX7_lay_137 (fun H locs hP _ hS => ?_)
      have hP : va_P D vwCl (maW ad cy g_ (va_up (va_up (va_up (va_up a_ 1 (upd (a_ 1) x2.toNatClampNeg ((a_ 5) x2.toNatClampNeg))) 2 (upd (a_ 2) x2.toNatClampNeg ((a_ 6) x2.toNatClampNeg))) 3 (upd (a_ 3) x2.toNatClampNeg ((a_ 7) x2.toNatClampNeg))) 4 (upd (a_ 4) x2.toNatClampNeg ((a_ 8) x2.toNatClampNeg)))) H := hP
      refine lv_iinc (v := x2 + 1) (lv' := [(2, .int (x2 + 1)), (0, .ref (ad 0))]) hx hb dX7_lay_138 hl (k := 1) rfl rfl (by decide) rfl (fun ls hl => ?_)
      refine lv_goto (tgt := 82) hx hb dX7_lay_141 (by decide) ?_
      exact oJ82 _ _ _ hV _ _ hP hS _ (lv_sub hl [1, 0] rfl))
  have hl := lv_entry ([.ref (ad 0)]) (n := 5) (Nat.le_of_ble_eq_true rfl)
  rw [lg_entry_eq]
  generalize (lg_sl ([.ref (ad 0)]) ++ List.replicate (5 - (lg_sl ([.ref (ad 0)])).length) Slot.unset).toArray = ls at hl ⊢
  have hl : lv_has ls 5 [(0, .ref (ad 0))] := hl
  refine lv_aload_n hx hb dX7_lay_0 rfl (lv_at hl 0 rfl) ?_
  obtain ⟨h_1, hV⟩ := hV
  refine cw_i (va_runV (As := []) (rest := []) ⟨hx, hb, hml, hown, hts⟩ (spec_X7_fault l D cy ad _ g a h_1) (cwV 0 hts gX7_lay_X7_fault rfl rfl rfl (by decide +kernel) ⟨Nat.le_of_ble_eq_true rfl, Nat.le_of_ble_eq_true rfl⟩) (ar_preV hN hK hP (maD hD) (ci := 6) (q0 := 0) rfl rfl) rfl rfl hl.1 rfl (lv_room (Nat.le_of_ble_eq_true rfl)) dX7_lay_1 ⟨Nat.zero_le _, Nat.zero_le _⟩) hS (maD hD) hA (fun r1 u_1 H locs q_1 hP hS => ?_)
  obtain ⟨g1, a1⟩ := u_1
  have hV := hV r1 g1 a1 q_1
  have hP : va_P D vwCl (maW ad cy g1 a1) H := hP
  refine lv_bipush (v := (-4 : Int32)) hx hb dX7_lay_4 (by decide) ?_
  refine lv_icmp_eq (tgt := 12) hx hb dX7_lay_6 (by decide) (fun c_6 => ?_) (fun c_6 => ?_)
  · have hV := hV.1 c_6
    refine lv_iconst (v := (1 : Int32)) hx hb dX7_lay_12 (by decide) ?_
    refine lv_istore_n (lv' := [(1, .int (1 : Int32)), (0, .ref (ad 0))]) hx hb dX7_lay_13 rfl hl (by decide) rfl (fun ls hl => ?_)
    refine lv_iconst (v := (0 : Int32)) hx hb dX7_lay_14 (by decide) ?_
    refine lv_istore_n (lv' := [(2, .int (0 : Int32)), (1, .int (1 : Int32)), (0, .ref (ad 0))]) hx hb dX7_lay_15 rfl hl (by decide) rfl (fun ls hl => ?_)
    exact oJ16 _ _ _ _ hV _ _ hP hS _ (lv_sub hl [2, 1, 0] rfl)
  · have hV := hV.2 c_6
    refine lv_bipush (v := (-2 : Int32)) hx hb dX7_lay_9 (by decide) ?_
    exact W.iret (v := (-2 : Int32)) hx hb hr (fun t ht hW => ⟨⟨_, (g1, a1), rfl, hV, ar_heap ht hP⟩, hS.F ht⟩) hS.2.2 dX7_lay_11
def LayM (T : Nat → Nat) (L : Nat) (g : Gs) (a : As) (r : Int32) (g' : Gs) (a' : As) : Prop := ((¬ ∃ n, LayOk T L n) ∧ r = -2 ∧ g' 2 = g 2 ∧ g' 3 = g 3 ∧ ∀ j, j < 5 → a' j = a j) ∨ ∃ n, LayOk T L n ∧ r = nI (lcmF (xb T L) n) ∧ g' 2 = nI n ∧ g' 3 = nI (lcmF (xb T L) n) ∧ RowM T L n 1 a'
def post_X7_lay (g : Gs) (a : As) (r : Int32) (g' : Gs) (a' : As) : Prop := (g' 0 = g 0 ∧ a' 0 = a 0) ∧ LayM (mT a) (mL g) g a r g' a'
set_option maxRecDepth 4000 in
theorem spec_X7_lay (l : Launch) (D : va_G) (cy : Nat → ClassId) (ad : Nat → Nat) (sz : Nat) (g : Gs) (a : As) (hpre : pre_X7_lay g a) : Met l yX7_lay wsX7_lay ({ frames := 5, cells := 0, slots := 0, locals := 113 } : Room) (va_Pc [.ref (ad 0)] (ArP D cy sz (maW ad cy g a))) (va_Qi (fun (r : Int32) (u : Gs × As) => (post_X7_lay g a) r u.1 u.2) (fun u t => va_P D vwCl (maW ad cy u.1 u.2) t.heap) (va_A (maW ad cy g a) sz)) 0 0 (va_A (maW ad cy g a) sz) := by
  apply met_X7_lay
  intro J16 J82 h16 h82
  have hO : OkM g a := hpre
  have hL := hO.1
  refine ⟨hO, fun r1 g1 a1 hf => ?_⟩
  obtain ⟨hK, hF, hrow⟩ := hf
  generalize hTd : mT a = T at *
  generalize hLd : mL g = L at *
  have no : (¬ ∃ n, LayOk T L n) → post_X7_lay g a (-2) g1 a1 := fun h => ⟨⟨hK.1 0 (by decide) (by decide), hK.2 0 (by omega)⟩, Or.inl ⟨by rw [hTd, hLd]; exact h, rfl, hK.1 2 (by decide) (by decide), hK.1 3 (by decide) (by decide), fun j hj => hK.2 j (by omega)⟩⟩
  refine ⟨fun h4 => ?_, fun h4 => no (fun ⟨n, hn⟩ => h4 ((hF.right hL).mpr ⟨n, hn.1⟩))⟩
  obtain ⟨n, hR, e4, hRow⟩ := hrow h4
  obtain ⟨⟨hn8, hall, -⟩, hend⟩ := id hR
  have hb : ∀ i, i < n → 2 ≤ xb T L i ∧ xb T L i ≤ 200 := fun i hi => by
    have := (hall i hi).it.b
    omega
  have hlp : ∀ k, k ≤ n → 1 ≤ lcmF (xb T L) k := fun k hk => lcmF_pos (fun i hi => by have := hb i (by omega); omega)
  -- the rows are taken over
  have copy : lcmF (xb T L) n ≤ 2000000 → ∀ (d k : Nat) (a2 : As), k + d = n → a2 0 = a1 0 → (∀ j, 5 ≤ j → a2 j = a1 j) → RowM T L k 1 a2 → J82 (nI k) (va_up (va_up g1 2 (g1 4)) 3 (nI (lcmF (xb T L) n))) a2 := by
    intro hle d
    have f2 : (va_up (va_up g1 2 (g1 4)) 3 (nI (lcmF (xb T L) n))) 2 = nI n := by rw [up_n _ _ (by decide), up_0, e4]
    have f3 : (va_up (va_up g1 2 (g1 4)) 3 (nI (lcmF (xb T L) n))) 3 = nI (lcmF (xb T L) n) := up_0 _ _ _
    have f0 : (va_up (va_up g1 2 (g1 4)) 3 (nI (lcmF (xb T L) n))) 0 = g 0 := by rw [up_n _ _ (by decide), up_n _ _ (by decide)]; exact hK.1 0 (by decide) (by decide)
    generalize va_up (va_up g1 2 (g1 4)) 3 (nI (lcmF (xb T L) n)) = g3 at *
    induction d with
    | zero =>
      intro k a2 hk h0 h5 hR2
      have : k = n := by omega
      subst this
      refine h82 _ _ _ ?_
      rw [f2]
      refine pk_le k k (fun _ => ⟨⟨f0, h0.trans (hK.2 0 (by omega))⟩, Or.inr ?_⟩) (fun h => absurd h (by omega))
      rw [hTd, hLd]
      exact ⟨k, ⟨hR, hle⟩, f3, f2, f3, hR2⟩
    | succ d ih =>
      intro k a2 hk h0 h5 hR2
      refine h82 _ _ _ ?_
      rw [f2, nI_1, show (nI k).toNatClampNeg = k from tn_nI (by omega)]
      have vk := vp_in_nI (n := k) (N := 8) (by omega) (by omega)
      refine pk_le n k (fun h => absurd h (by omega)) (fun _ => ⟨vk, vk, vk, vk, vk, vk, vk, vk, ?_⟩)
      refine ih (k + 1) _ (by omega) (by rw [up_n _ _ (by decide), up_n _ _ (by decide), up_n _ _ (by decide), up_n _ _ (by decide)]; exact h0) (fun j hj => by rw [up_n _ _ (by omega), up_n _ _ (by omega), up_n _ _ (by omega), up_n _ _ (by omega)]; exact h5 j hj) (fun i hi => ?_)
      have r1 : (va_up (va_up (va_up (va_up a2 1 (upd (a2 1) k (a2 5 k))) 2 (upd (a2 2) k (a2 6 k))) 3 (upd (a2 3) k (a2 7 k))) 4 (upd (a2 4) k (a2 8 k))) 1 = upd (a2 1) k (a2 5 k) := by rw [up_n _ _ (by decide), up_n _ _ (by decide), up_n _ _ (by decide), up_0]
      have r2 : (va_up (va_up (va_up (va_up a2 1 (upd (a2 1) k (a2 5 k))) 2 (upd (a2 2) k (a2 6 k))) 3 (upd (a2 3) k (a2 7 k))) 4 (upd (a2 4) k (a2 8 k))) 2 = upd (a2 2) k (a2 6 k) := by rw [up_n _ _ (by decide), up_n _ _ (by decide), up_0]
      have r3 : (va_up (va_up (va_up (va_up a2 1 (upd (a2 1) k (a2 5 k))) 2 (upd (a2 2) k (a2 6 k))) 3 (upd (a2 3) k (a2 7 k))) 4 (upd (a2 4) k (a2 8 k))) 3 = upd (a2 3) k (a2 7 k) := by rw [up_n _ _ (by decide), up_0]
      have r4 : (va_up (va_up (va_up (va_up a2 1 (upd (a2 1) k (a2 5 k))) 2 (upd (a2 2) k (a2 6 k))) 3 (upd (a2 3) k (a2 7 k))) 4 (upd (a2 4) k (a2 8 k))) 4 = upd (a2 4) k (a2 8 k) := up_0 _ _ _
      generalize va_up (va_up (va_up (va_up a2 1 (upd (a2 1) k (a2 5 k))) 2 (upd (a2 2) k (a2 6 k))) 3 (upd (a2 3) k (a2 7 k))) 4 (upd (a2 4) k (a2 8 k)) = a3 at *
      show a3 1 i = _ ∧ a3 2 i = _ ∧ a3 3 i = _ ∧ a3 4 i = _
      rw [r1, r2, r3, r4]
      by_cases y : i = k
      · rw [y, pk_us, pk_us, pk_us, pk_us, h5 5 (by omega), h5 6 (by omega), h5 7 (by omega), h5 8 (by omega)]
        exact hRow k (by omega)
      · rw [pk_un y, pk_un y, pk_un y, pk_un y]
        exact hR2 i (by omega)
  have key : ∀ (d k : Nat), k + d = n → lcmF (xb T L) k ≤ 2000000 → J16 (nI (lcmF (xb T L) k)) (nI k) g1 a1 := by
    intro d
    induction d with
    | zero =>
      intro k hk hle
      have : k = n := by omega
      subst this
      refine h16 _ _ _ _ ?_
      have cp := copy hle k 0 a1 (by omega) rfl (fun _ _ => rfl) (fun i hi => by omega)
      rw [e4] at cp ⊢
      exact pk_le k k (fun _ => cp) (fun h => absurd h (by omega))
    | succ d ih =>
      intro k hk hle
      refine h16 _ _ _ _ ?_
      have hbk := hb k (by omega)
      have hl1 := hlp k (by omega)
      have hg0 : 0 < Nat.gcd (lcmF (xb T L) k) (xb T L k) := Nat.gcd_pos_of_pos_left _ hl1
      have hgl := Nat.gcd_le_left (xb T L k) hl1
      have hll := lcm_le_mul (a := lcmF (xb T L) k) (b := xb T L k) (by omega) (by omega)
      have hmm : lcmF (xb T L) k * xb T L k ≤ 2000000 * 200 := Nat.mul_le_mul hle (by omega)
      have e8 : a1 8 k = nI (xb T L k) := (hRow k (by omega)).2.2.2
      have vk := vp_in_nI (n := k) (N := 8) (by omega) (by omega)
      rw [e4, nI_1, show (nI k).toNatClampNeg = k from tn_nI (by omega), e8]
      refine pk_le n k (fun h => absurd h (by omega)) (fun _ => ⟨vk, ⟨by rw [nI_toInt (by omega)]; omega, by rw [nI_toInt (by omega)]; omega⟩, fun r hr => ?_⟩)
      unfold post_X7_common at hr
      rw [tn_nI (by omega), tn_nI (by omega)] at hr
      subst hr
      rw [nI_l (by omega), nI_l (by omega), nI_l (by omega), pk_lDiv (by omega) (by omega) (by omega), lN_mul, lcm_by hg0, lN_i]
      refine ⟨lN_nz (by omega) (by omega), vk, ql_le (Nat.lcm (lcmF (xb T L) k) (xb T L k)) 2000000 (fun h => ih (k + 1) (by omega) h) (fun h => no (fun ⟨n', hn'⟩ => ?_)) rfl rfl (by omega) (by omega)⟩
      have := hn'.1.1.one hR.1
      subst this
      have hd := Nat.le_of_dvd (hlp n' (Nat.le_refl n')) (lcmF_dvd (f := xb T L) (show k + 1 ≤ n' by omega))
      have h2 := hn'.2
      have h3 : lcmF (xb T L) (k + 1) = Nat.lcm (lcmF (xb T L) k) (xb T L k) := rfl
      omega
  exact key n 0 (by omega) (by show 1 ≤ 2000000; omega)
