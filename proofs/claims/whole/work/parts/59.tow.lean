/-! towers -/
theorem low_10 (n : Nat) : nI n &&& 1023 = nI (n % 1024) := by
  rw [pk_and (nI n) 10 (by decide)]
  have e : (nI n).toBitVec.toNat = n % 2 ^ 32 := BitVec.toNat_ofNat _ _
  rw [e]
  congr 1
  omega
theorem sh_l {a k : Nat} (hk : k < 64) (h : a < 2 ^ 63) : lN a >>> ((nI k).toInt64 &&& 63) = lN (a / 2 ^ k) := by
  have hd : a / 2 ^ k ≤ a := Nat.div_le_self _ _
  apply Int64.toInt_inj.mp
  have e : (lN a >>> ((nI k).toInt64 &&& 63)).toInt = (lN a).toInt >>> k := by
    conv => rhs; rw [← sh_c k hk]
    exact BitVec.toInt_sshiftRight ..
  rw [e, Int.shiftRight_eq_div_pow, pf_lI (by omega), pf_lI (by omega)]
  rfl
/-- the i-th number of a tower of k -/
def twc (k v i : Nat) : Nat := v / 2 ^ (10 * (k - 1 - i)) % 1024
theorem twc_lt (k v i : Nat) : twc k v i < 1024 := Nat.mod_lt _ (by decide)
theorem tw_sh {k i : Nat} (h : i < k) : (10 : Int32) * ((nI k - (1 : Int32)) - nI i) = nI (10 * (k - 1 - i)) := by
  rw [show nI k - (1 : Int32) = nI (k - 1) from pk_sub (b := 1) (by omega), pk_sub (by omega)]
  exact pk_mul 10 _
def pre_X6_towerNumber (p0 p1 : Int32) (p2 : Int64) : Prop := 0 ≤ p0.toInt ∧ p0.toInt < p1.toInt ∧ p1.toInt ≤ 6 ∧ 0 ≤ p2.toInt
set_option maxHeartbeats 4000000 in
set_option maxRecDepth 100000 in
theorem met_X6_towerNumber (l : Launch) (p0 : Int32) (p1 : Int32) (p2 : Int64) (post : Int32 → Prop)
  (hV : post ((((p2.toUInt64 >>> (((10 : Int32) * ((p1 - (1 : Int32)) - p0)).toInt64.toUInt64 &&& Int64.toUInt64 63)).toInt64).toInt32) &&& (1023 : Int32))) :
  Met l yX6_towerNumber wsX6_towerNumber ({ frames := 0, cells := 0, slots := 0, locals := 0 } : Room) (va_Pc [.int p0, .int p1, .long p2] (fun _ => True)) (Qpi post) 0 0 noF := by
  refine Met.ofW (cc := cX6_towerNumber) (maxL := 4) (ret := (some .int)) (by decide) rfl ?_
  intro p e s m args below meth c s₁ B hml hv
  obtain ⟨rfl, -⟩ := hv
  have hx := B.exec
  have hb := B.bytes
  have hr := B.returns
  have hts := atoms_spec (ws := wsX6_towerNumber) B.pre
  have hown : s.vm.findClass RX6 = some m.cls := findClass_of_methodNamed B.named
  have hlocks := B.notSynchronized
  have hl := lv_entry ([.int p0, .int p1, .long p2]) (n := 4) (Nat.le_of_ble_eq_true rfl)
  rw [lg_entry_eq]
  generalize (lg_sl ([.int p0, .int p1, .long p2]) ++ List.replicate (4 - (lg_sl ([.int p0, .int p1, .long p2])).length) Slot.unset).toArray = ls at hl ⊢
  have hl : lv_has ls 4 [(0, .int p0), (1, .int p1), (2, .long p2)] := hl
  refine lv_lload_n hx hb dX6_towerNumber_0 rfl (lv_at hl 2 rfl) ?_
  refine lv_bipush (v := (10 : Int32)) hx hb dX6_towerNumber_1 (by decide) ?_
  refine lv_iload_n hx hb dX6_towerNumber_3 rfl (lv_at hl 1 rfl) ?_
  refine lv_iconst (v := (1 : Int32)) hx hb dX6_towerNumber_4 (by decide) ?_
  refine lv_isub hx hb dX6_towerNumber_5 ?_
  refine lv_iload_n hx hb dX6_towerNumber_6 rfl (lv_at hl 0 rfl) ?_
  refine lv_isub hx hb dX6_towerNumber_7 ?_
  refine lv_imul hx hb dX6_towerNumber_8 ?_
  refine lv_lushr (v := (p2.toUInt64 >>> (((10 : Int32) * ((p1 - (1 : Int32)) - p0)).toInt64.toUInt64 &&& Int64.toUInt64 63)).toInt64) hx hb dX6_towerNumber_9 rfl ?_
  refine lv_l2i (v := ((p2.toUInt64 >>> (((10 : Int32) * ((p1 - (1 : Int32)) - p0)).toInt64.toUInt64 &&& Int64.toUInt64 63)).toInt64).toInt32) hx hb dX6_towerNumber_10 rfl ?_
  refine lv_sipush (v := (1023 : Int32)) hx hb dX6_towerNumber_11 (by decide) ?_
  refine lv_iand hx hb dX6_towerNumber_14 ?_
  exact W.iret (v := (((p2.toUInt64 >>> (((10 : Int32) * ((p1 - (1 : Int32)) - p0)).toInt64.toUInt64 &&& Int64.toUInt64 63)).toInt64).toInt32) &&& (1023 : Int32)) hx hb hr (fun t ht hW => ⟨_, rfl, hV, ht⟩) (fun _ h => by cases h) dX6_towerNumber_15
def post_X6_towerNumber (p0 p1 : Int32) (p2 : Int64) (r : Int32) : Prop := r = nI (twc (tn p1) (tl p2) (tn p0))
set_option maxRecDepth 4000 in
theorem spec_X6_towerNumber (l : Launch) (p0 : Int32) (p1 : Int32) (p2 : Int64) (hpre : pre_X6_towerNumber p0 p1 p2) : Met l yX6_towerNumber wsX6_towerNumber ({ frames := 0, cells := 0, slots := 0, locals := 0 } : Room) (va_Pc [.int p0, .int p1, .long p2] (fun _ => True)) (Qpi (post_X6_towerNumber p0 p1 p2)) 0 0 noF := by
  apply met_X6_towerNumber
  obtain ⟨h0, h1, h2, h3⟩ := hpre
  obtain ⟨i, hi, rfl, hi2⟩ := of_i h0
  obtain ⟨k, hk, rfl, hk2⟩ := of_i (x := p1) (by omega)
  obtain ⟨v, hv, rfl, hv2⟩ := of_l h3
  rw [tw_sh (by omega), wb_shr (by omega) (by omega), lN_i, low_10]
  unfold post_X6_towerNumber
  rw [tn_nI hi, tn_nI hk, tl_lN hv]
  rfl
def TS (g : Gs) (a : As) (w : Ws) (g' : Gs) (a' : As) (w' : Ws) : Prop := (∀ i, 2 ≤ i → g' i = g i) ∧ (∀ j, 4 ≤ j → j ≠ 8 → a' j = a j) ∧ w' = w
theorem TS.rf {g : Gs} {a : As} {w : Ws} : TS g a w g a w := ⟨fun _ _ => rfl, fun _ _ _ => rfl, rfl⟩
def pre_X6_findSizes (g : Gs) (a : As) (w : Ws) (p0 p1 : Int32) : Prop := 1 ≤ p0.toInt ∧ p0.toInt ≤ 6 ∧ 1 ≤ p1.toInt ∧ p1.toInt ≤ 50000
set_option maxHeartbeats 4000000 in
set_option maxRecDepth 100000 in
theorem met_X6_findSizes (l : Launch) (D : va_G) (cy : Nat → ClassId) (ad : Nat → Nat) (sz : Nat) (g : Gs) (a : As) (w : Ws) (p0 : Int32) (p1 : Int32) (post : Gs → As → Ws → Prop)
  (hV : ∀ (J5 : Int32 → Int32 → Gs → As → Ws → Prop),
    (∀ (x3 : Int32) (x4 : Int32) (g_ : Gs) (a_ : As) (w_ : Ws), ((p0 ≤ x4 → post g_ a_ w_) ∧ (¬ p0 ≤ x4 → (((7 : Int32) ≤ x4 → post g_ a_ w_) ∧ (¬ (7 : Int32) ≤ x4 → vp_in x4 7 ∧ (pre_X0_split 0 g_ (va_up a_ 8 (upd (a_ 8) x4.toNatClampNeg x3)) w_ x3 ∧ (∀ (g34 : Gs) (a34 : As) (w34 : Ws), post_X0_split 0 g_ (va_up a_ 8 (upd (a_ 8) x4.toNatClampNeg x3)) w_ x3 g34 a34 w34 → pre_X0_unitCount 0 g34 a34 w34 ∧ (∀ r41 : Int32, post_X0_unitCount 0 g34 a34 w34 r41 → J5 r41 (x4 + 1) g34 a34 w34))))))) → J5 x3 x4 g_ a_ w_) →
    J5 p1 (0 : Int32) g a w) :
  Met l yX6_findSizes wsX6_findSizes ({ frames := 2, cells := 0, slots := 0, locals := 48 } : Room) (va_Pc [.ref (ad 0), .int p0, .int p1] (ArP D cy sz (caW ad cy g a w))) (va_Qv (fun (u : Gs × As × Ws) => post u.1 u.2.1 u.2.2) (fun u t => va_P D vwCl (caW ad cy u.1 u.2.1 u.2.2) t.heap) (va_A (caW ad cy g a w) sz)) 0 0 (va_A (caW ad cy g a w) sz) := by
  refine Met.ofW (cc := cX6_findSizes) (maxL := 5) (ret := none) (by decide) rfl ?_
  intro p e s m args below meth c s₁ B hml hv
  obtain ⟨rfl, hsz, hP, hK, hD0, hN⟩ := hv
  have hx := B.exec
  have hb := B.bytes
  have hr := B.returns
  have hts := atoms_spec (ws := wsX6_findSizes) B.pre
  have hown : s.vm.findClass RX6 = some m.cls := findClass_of_methodNamed B.named
  have hlocks := B.notSynchronized
  subst hsz
  have hD := hD0.self (sz := s.heap.size)
  have hP : va_P D vwCl (caW ad cy g a w) s.heap := hP
  have hD : va_D (va_A (caW ad cy g a w) s.heap.size) (caW ad cy g a w) := hD
  have hS : va_S (va_A (caW ad cy g a w) s.heap.size) s.heap s.heap [] := va_S.rf
  have hA : ∀ q : Nat, s.heap.size ≤ q → va_A (caW ad cy g a w) s.heap.size q := fun q h => Or.inr h
  obtain ⟨J5, iJ5, oJ5⟩ : ∃ J : Int32 → Int32 → Gs → As → Ws → Prop, (∀ (x3 : Int32) (x4 : Int32) (g_ : Gs) (a_ : As) (w_ : Ws), (∀ (H : Heap) (locs : List Loc), va_P D vwCl (caW ad cy g_ a_ w_) H → va_S (va_A (caW ad cy g a w) s.heap.size) s.heap H locs → ∀ ls : Array Slot, lv_has ls 5 [(0, .ref (ad 0)), (1, .int p0), (3, .int x3), (4, .int x4)] → W p l e (headSpec wsX6_findSizes ({ frames := 2, cells := 0, slots := 0, locals := 48 } : Room)).room s m [.ref (ad 0), .int p0, .int p1].toArray below meth c H locs 0 0 (MQ below (va_Qv (fun (u : Gs × As × Ws) => post u.1 u.2.1 u.2.2) (fun u t => va_P D vwCl (caW ad cy u.1 u.2.1 u.2.2) t.heap) (va_A (caW ad cy g a w) s.heap.size)) [.ref (ad 0), .int p0, .int p1].toArray s 0 0 (va_A (caW ad cy g a w) s.heap.size)) (F0 m 5 ls [])) → J x3 x4 g_ a_ w_) ∧ (∀ (x3 : Int32) (x4 : Int32) (g_ : Gs) (a_ : As) (w_ : Ws), J x3 x4 g_ a_ w_ → (∀ (H : Heap) (locs : List Loc), va_P D vwCl (caW ad cy g_ a_ w_) H → va_S (va_A (caW ad cy g a w) s.heap.size) s.heap H locs → ∀ ls : Array Slot, lv_has ls 5 [(0, .ref (ad 0)), (1, .int p0), (3, .int x3), (4, .int x4)] → W p l e (headSpec wsX6_findSizes ({ frames := 2, cells := 0, slots := 0, locals := 48 } : Room)).room s m [.ref (ad 0), .int p0, .int p1].toArray below meth c H locs 0 0 (MQ below (va_Qv (fun (u : Gs × As × Ws) => post u.1 u.2.1 u.2.2) (fun u t => va_P D vwCl (caW ad cy u.1 u.2.1 u.2.2) t.heap) (va_A (caW ad cy g a w) s.heap.size)) [.ref (ad 0), .int p0, .int p1].toArray s 0 0 (va_A (caW ad cy g a w) s.heap.size)) (F0 m 5 ls []))) := ⟨fun (x3 : Int32) (x4 : Int32) (g_ : Gs) (a_ : As) (w_ : Ws) => (∀ (H : Heap) (locs : List Loc), va_P D vwCl (caW ad cy g_ a_ w_) H → va_S (va_A (caW ad cy g a w) s.heap.size) s.heap H locs → ∀ ls : Array Slot, lv_has ls 5 [(0, .ref (ad 0)), (1, .int p0), (3, .int x3), (4, .int x4)] → W p l e (headSpec wsX6_findSizes ({ frames := 2, cells := 0, slots := 0, locals := 48 } : Room)).room s m [.ref (ad 0), .int p0, .int p1].toArray below meth c H locs 0 0 (MQ below (va_Qv (fun (u : Gs × As × Ws) => post u.1 u.2.1 u.2.2) (fun u t => va_P D vwCl (caW ad cy u.1 u.2.1 u.2.2) t.heap) (va_A (caW ad cy g a w) s.heap.size)) [.ref (ad 0), .int p0, .int p1].toArray s 0 0 (va_A (caW ad cy g a w) s.heap.size)) (F0 m 5 ls [])), fun _ _ _ _ _ h => h, fun _ _ _ _ _ h => h⟩
  have hV := hV J5
  replace hV := hV (by
    intro x3 x4 g_ a_ w_ hV
    refine iJ5 x3 x4 g_ a_ w_ ?_
    intro H locs hP hS ls hl
    refine lv_iload hx hb dX6_findSizes_5 (lv_at hl 3 rfl) ?_
    refine lv_iload_n hx hb dX6_findSizes_7 rfl (lv_at hl 1 rfl) ?_
    refine lv_icmp_ge (tgt := 51) hx hb dX6_findSizes_8 (by decide) (fun c_8 => ?_) (fun c_8 => ?_)
    · have hV := hV.1 c_8
      exact W.vret hx hb hr (fun t ht hW => ⟨⟨(g_, a_, w_), rfl, hV, ar_heap ht hP⟩, hS.F ht⟩) hS.2.2 dX6_findSizes_51
    · have hV := hV.2 c_8
      refine lv_iload hx hb dX6_findSizes_11 (lv_at hl 3 rfl) ?_
      refine lv_aload_n hx hb dX6_findSizes_13 rfl (lv_at hl 0 rfl) ?_
      refine va_get (D := D) (ci := 5) (v := .ref (ad 24)) (C := RX6) (T := TX6) (N := 10) hx hb hts (by decide +kernel) hown hK hP 0 rfl rfl 6 (by decide) (hts (.fieldLink RX6 47 "PowerRests" "sizes" "[I") (by decide +kernel)) (fun _ h9 => h9) rfl dX6_findSizes_14 ?_
      refine va_alen (v := (7 : Int32)) hx hb hK hP 24 0 rfl rfl rfl dX6_findSizes_17 ?_
      refine lv_icmp_ge (tgt := 51) hx hb dX6_findSizes_18 (by decide) (fun c_18 => ?_) (fun c_18 => ?_)
      · have hV := hV.1 c_18
        exact W.vret hx hb hr (fun t ht hW => ⟨⟨(g_, a_, w_), rfl, hV, ar_heap ht hP⟩, hS.F ht⟩) hS.2.2 dX6_findSizes_51
      · have hV := hV.2 c_18
        refine lv_aload_n hx hb dX6_findSizes_21 rfl (lv_at hl 0 rfl) ?_
        refine va_get (D := D) (ci := 5) (v := .ref (ad 24)) (C := RX6) (T := TX6) (N := 10) hx hb hts (by decide +kernel) hown hK hP 0 rfl rfl 6 (by decide) (hts (.fieldLink RX6 47 "PowerRests" "sizes" "[I") (by decide +kernel)) (fun _ h9 => h9) rfl dX6_findSizes_22 ?_
        refine lv_iload hx hb dX6_findSizes_25 (lv_at hl 3 rfl) ?_
        refine lv_iload_n hx hb dX6_findSizes_27 rfl (lv_at hl 2 rfl) ?_
        obtain ⟨h_28, hV⟩ := hV
        refine va_iast (f := (a_ 8)) hx hb hK hP (caD hD) hS 24 0 rfl rfl h_28 dX6_findSizes_28 (fun H locs hP _ hS => ?_)
        have hP : va_P D vwCl (caW ad cy g_ (va_up a_ 8 (upd (a_ 8) x4.toNatClampNeg x3)) w_) H := hP
        refine lv_aload_n hx hb dX6_findSizes_29 rfl (lv_at hl 0 rfl) ?_
        refine va_get (D := D) (ci := 5) (v := .ref (ad 1)) (C := RX6) (T := TX6) (N := 10) hx hb hts (by decide +kernel) hown hK hP 0 rfl rfl 0 (by decide) (hts (.fieldLink RX6 10 "PowerRests" "ofN" "LPowerRests$Factors;") (by decide +kernel)) (fun _ h9 => h9) rfl dX6_findSizes_30 ?_
        refine lv_iload_n hx hb dX6_findSizes_33 rfl (lv_at hl 2 rfl) ?_
        obtain ⟨h_34, hV⟩ := hV
        refine cw_v (va_runV (As := [.int x3]) (rest := []) ⟨hx, hb, hml, hown, hts⟩ (spec_X0_split l 0 (by decide) D cy ad _ g_ (va_up a_ 8 (upd (a_ 8) x4.toNatClampNeg x3)) w_ x3 h_34) (cwV 1 hts gX6_findSizes_X0_split rfl rfl rfl (by decide +kernel) ⟨Nat.le_of_ble_eq_true rfl, Nat.le_of_ble_eq_true rfl⟩) (ar_preV hN hK hP (caD hD) (ci := 0) (q0 := 1) rfl rfl) rfl rfl hl.1 rfl (lv_room (Nat.le_of_ble_eq_true rfl)) dX6_findSizes_34 ⟨Nat.zero_le _, Nat.zero_le _⟩) hS (caD hD) hA (fun u_34 H locs q_34 hP hS => ?_)
        obtain ⟨g34, a34, w34⟩ := u_34
        have hV := hV g34 a34 w34 q_34
        have hP : va_P D vwCl (caW ad cy g34 a34 w34) H := hP
        refine lv_aload_n hx hb dX6_findSizes_37 rfl (lv_at hl 0 rfl) ?_
        refine va_get (D := D) (ci := 5) (v := .ref (ad 1)) (C := RX6) (T := TX6) (N := 10) hx hb hts (by decide +kernel) hown hK hP 0 rfl rfl 0 (by decide) (hts (.fieldLink RX6 10 "PowerRests" "ofN" "LPowerRests$Factors;") (by decide +kernel)) (fun _ h9 => h9) rfl dX6_findSizes_38 ?_
        obtain ⟨h_41, hV⟩ := hV
        refine cp_i (va_runV (As := []) (rest := []) ⟨hx, hb, hml, hown, hts⟩ (spec_X0_unitCount l 0 (by decide) D cy ad _ g34 a34 w34 h_41) (cwV 0 hts gX6_findSizes_X0_unitCount rfl rfl rfl (by decide +kernel) ⟨Nat.le_of_ble_eq_true rfl, Nat.le_of_ble_eq_true rfl⟩) (ar_preV hN hK hP (caD hD) (ci := 0) (q0 := 1) rfl rfl) rfl rfl hl.1 rfl (lv_room (Nat.le_of_ble_eq_true rfl)) dX6_findSizes_41 ⟨Nat.zero_le _, Nat.zero_le _⟩) (fun r41 q_41 => ?_)
        have hV := hV r41 q_41
        refine lv_istore_n (lv' := [(3, .int r41), (0, .ref (ad 0)), (1, .int p0), (4, .int x4)]) hx hb dX6_findSizes_44 rfl hl (by decide) rfl (fun ls hl => ?_)
        refine lv_iinc (v := x4 + 1) (lv' := [(4, .int (x4 + 1)), (3, .int r41), (0, .ref (ad 0)), (1, .int p0)]) hx hb dX6_findSizes_45 hl (k := 3) rfl rfl (by decide) rfl (fun ls hl => ?_)
        refine lv_goto (tgt := 5) hx hb dX6_findSizes_48 (by decide) ?_
        exact oJ5 _ _ _ _ _ hV _ _ hP hS _ (lv_sub hl [2, 3, 1, 0] rfl))
  have hl := lv_entry ([.ref (ad 0), .int p0, .int p1]) (n := 5) (Nat.le_of_ble_eq_true rfl)
  rw [lg_entry_eq]
  generalize (lg_sl ([.ref (ad 0), .int p0, .int p1]) ++ List.replicate (5 - (lg_sl ([.ref (ad 0), .int p0, .int p1])).length) Slot.unset).toArray = ls at hl ⊢
  have hl : lv_has ls 5 [(0, .ref (ad 0)), (1, .int p0), (2, .int p1)] := hl
  refine lv_iload_n hx hb dX6_findSizes_0 rfl (lv_at hl 2 rfl) ?_
  refine lv_istore_n (lv' := [(3, .int p1), (0, .ref (ad 0)), (1, .int p0), (2, .int p1)]) hx hb dX6_findSizes_1 rfl hl (by decide) rfl (fun ls hl => ?_)
  refine lv_iconst (v := (0 : Int32)) hx hb dX6_findSizes_2 (by decide) ?_
  refine lv_istore (lv' := [(4, .int (0 : Int32)), (3, .int p1), (0, .ref (ad 0)), (1, .int p0), (2, .int p1)]) hx hb dX6_findSizes_3 hl (by decide) rfl (fun ls hl => ?_)
  exact oJ5 _ _ _ _ _ hV _ _ hP hS _ (lv_sub hl [2, 3, 1, 0] rfl)
def post_X6_findSizes (g : Gs) (a : As) (w : Ws) (p0 p1 : Int32) (g' : Gs) (a' : As) (w' : Ws) : Prop := TS g a w g' a' w' ∧ ∀ i, i < tn p0 → a' 8 i = nI (szF (tn p1) i)
set_option maxRecDepth 4000 in
theorem spec_X6_findSizes (l : Launch) (D : va_G) (cy : Nat → ClassId) (ad : Nat → Nat) (sz : Nat) (g : Gs) (a : As) (w : Ws) (p0 : Int32) (p1 : Int32) (hpre : pre_X6_findSizes g a w p0 p1) : Met l yX6_findSizes wsX6_findSizes ({ frames := 2, cells := 0, slots := 0, locals := 48 } : Room) (va_Pc [.ref (ad 0), .int p0, .int p1] (ArP D cy sz (caW ad cy g a w))) (va_Qv (fun (u : Gs × As × Ws) => (post_X6_findSizes g a w p0 p1) u.1 u.2.1 u.2.2) (fun u t => va_P D vwCl (caW ad cy u.1 u.2.1 u.2.2) t.heap) (va_A (caW ad cy g a w) sz)) 0 0 (va_A (caW ad cy g a w) sz) := by
  apply met_X6_findSizes
  intro J hJ
  obtain ⟨h0, h1, h2, h3⟩ := hpre
  obtain ⟨k, hk, rfl, hk2⟩ := of_i (x := p0) (by omega)
  obtain ⟨n, hn, rfl, hn2⟩ := of_i (x := p1) (by omega)
  have key : ∀ (d i : Nat) (g1 : Gs) (a1 : As) (w1 : Ws), i + d = k → TS g a w g1 a1 w1 → (∀ j, j < i → a1 8 j = nI (szF n j)) → J (nI (szF n i)) (nI i) g1 a1 w1 := by
    intro d
    induction d with
    | zero =>
      intro i g1 a1 w1 hi hT hA
      refine hJ _ _ _ _ _ (pk_le k i (fun _ => ⟨hT, fun j hj => ?_⟩) (fun h => absurd h (by omega)))
      rw [tn_nI hk] at hj
      rw [tn_nI hn]
      exact hA j (by omega)
    | succ d ih =>
      intro i g1 a1 w1 hi hT hA
      have hs := szF_b (n := n) (by omega) i
      refine hJ _ _ _ _ _ (pk_le k i (fun h => absurd h (by omega)) (fun _ => pk_le 7 i (fun h => absurd h (by omega)) (fun _ => ⟨vp_in_nI (by omega) (by omega), ⟨by rw [nI_toInt (by omega)]; omega, by rw [nI_toInt (by omega)]; omega⟩, fun g2 a2 w2 hsp => ?_⟩)))
      rw [show (nI i).toNatClampNeg = i from tn_nI (by omega)] at hsp
      have hF : Fac 0 (szF n i) g2 a2 := by have := hsp.2.1 (by rw [tn_nI (by omega)]; omega); rwa [tn_nI (by omega)] at this
      have hFS := split_FS (by decide) hsp
      refine ⟨⟨_, hF⟩, fun r hr => ?_⟩
      unfold post_X0_unitCount at hr
      rw [← U_fac hF.1] at hr
      rw [hr, nI_1]
      refine ih (i + 1) g2 a2 w2 (by omega) ⟨fun j hj => (hFS.1 j hj).trans (hT.1 j hj), fun j hj h8 => ?_, hFS.2.2.trans hT.2.2⟩ (fun j hj => ?_)
      · rw [hFS.2.1 j hj, up_n _ _ h8]; exact hT.2.1 j hj h8
      · rw [hFS.2.1 8 (by decide), up_0]
        by_cases hji : j = i
        · rw [hji, pk_us]
        · rw [pk_un hji]; exact hA j (by omega)
  exact key k 0 g a w (by omega) TS.rf (fun j hj => by omega)
def pre_X6_powerBelowHigh (p0 : Int32) (p1 : Int64) : Prop := 1 ≤ p0.toInt ∧ p0.toInt ≤ 1023 ∧ 0 ≤ p1.toInt
set_option maxHeartbeats 4000000 in
set_option maxRecDepth 100000 in
theorem met_X6_powerBelowHigh (l : Launch) (p0 : Int32) (p1 : Int64) (post : Int64 → Prop)
  (hV : ∀ (J12 : Int64 → Int64 → Prop),
    (∀ (x3 : Int64) (x5 : Int64), ((p1 ≤ x5 → post (if (1000000 : Int64) < x3 then (1000000 : Int64) else x3)) ∧ (¬ p1 ≤ x5 → (((1000000 : Int64) ≤ x3 → post (if (1000000 : Int64) < x3 then (1000000 : Int64) else x3)) ∧ (¬ (1000000 : Int64) ≤ x3 → J12 (x3 * p0.toInt64) (x5 + (1 : Int64)))))) → J12 x3 x5) →
    (((2 : Int32) ≤ p0 → J12 (1 : Int64) (0 : Int64)) ∧ (¬ (2 : Int32) ≤ p0 → post (1 : Int64)))) :
  Met l yX6_powerBelowHigh wsX6_powerBelowHigh ({ frames := 1, cells := 0, slots := 0, locals := 23 } : Room) (va_Pc [.int p0, .long p1] (fun _ => True)) (Qpl post) 0 0 noF := by
  refine Met.ofW (cc := cX6_powerBelowHigh) (maxL := 7) (ret := (some .long)) (by decide) rfl ?_
  intro p e s m args below meth c s₁ B hml hv
  obtain ⟨rfl, -⟩ := hv
  have hx := B.exec
  have hb := B.bytes
  have hr := B.returns
  have hts := atoms_spec (ws := wsX6_powerBelowHigh) B.pre
  have hown : s.vm.findClass RX6 = some m.cls := findClass_of_methodNamed B.named
  have hlocks := B.notSynchronized
  obtain ⟨J12, iJ12, oJ12⟩ : ∃ J : Int64 → Int64 → Prop, (∀ (x3 : Int64) (x5 : Int64), (∀ ls : Array Slot, lv_has ls 7 [(0, .int p0), (1, .long p1), (3, .long x3), (5, .long x5)] → W p l e (headSpec wsX6_powerBelowHigh ({ frames := 1, cells := 0, slots := 0, locals := 23 } : Room)).room s m [.int p0, .long p1].toArray below meth c s.heap [] 0 0 (MQ below (Qpl post) [.int p0, .long p1].toArray s 0 0 noF) (F0 m 12 ls [])) → J x3 x5) ∧ (∀ (x3 : Int64) (x5 : Int64), J x3 x5 → (∀ ls : Array Slot, lv_has ls 7 [(0, .int p0), (1, .long p1), (3, .long x3), (5, .long x5)] → W p l e (headSpec wsX6_powerBelowHigh ({ frames := 1, cells := 0, slots := 0, locals := 23 } : Room)).room s m [.int p0, .long p1].toArray below meth c s.heap [] 0 0 (MQ below (Qpl post) [.int p0, .long p1].toArray s 0 0 noF) (F0 m 12 ls []))) := ⟨fun (x3 : Int64) (x5 : Int64) => (∀ ls : Array Slot, lv_has ls 7 [(0, .int p0), (1, .long p1), (3, .long x3), (5, .long x5)] → W p l e (headSpec wsX6_powerBelowHigh ({ frames := 1, cells := 0, slots := 0, locals := 23 } : Room)).room s m [.int p0, .long p1].toArray below meth c s.heap [] 0 0 (MQ below (Qpl post) [.int p0, .long p1].toArray s 0 0 noF) (F0 m 12 ls [])), fun _ _ h => h, fun _ _ h => h⟩
  have hV := hV J12
  replace hV := hV (by
    intro x3 x5 hV
    refine iJ12 x3 x5 ?_
    intro ls hl
    refine lv_lload hx hb dX6_powerBelowHigh_12 (lv_at hl 3 rfl) ?_
    refine lv_lload_n hx hb dX6_powerBelowHigh_14 rfl (lv_at hl 1 rfl) ?_
    refine lc_ge (tgt := 41) hx hb dX6_powerBelowHigh_15 dX6_powerBelowHigh_16 (by decide) (fun c_15 => ?_) (fun c_15 => ?_)
    · have hV := hV.1 c_15
      refine lv_lload_n hx hb dX6_powerBelowHigh_41 rfl (lv_at hl 2 rfl) ?_
      refine lv_ldc2 (v := (1000000 : Int64)) hx hb hown (hts (.constantLong RX6 315 (1000000)) (by decide +kernel)) dX6_powerBelowHigh_42 ?_
      refine va_mmin_long hx hb (hml.trans hl.1.symm) hown (hts (.methodLink RX6 321 Lib.MathLoose.min_long.x) (by decide +kernel)) (hts (.static Lib.MathLoose.min_long.x) (by decide +kernel)) (hts (.initialized "java/lang/Math") (by decide +kernel)) (hts (.code Lib.MathLoose.min_long.x Lib.MathLoose.min_long.code 4 (some .long)) (by decide +kernel)) (Nat.le_of_ble_eq_true rfl) (Nat.le_of_ble_eq_true rfl) (Nat.zero_le _) (Nat.zero_le _) dX6_powerBelowHigh_45 ?_
      exact W.lret (v := if (1000000 : Int64) < x3 then (1000000 : Int64) else x3) hx hb hr (fun t ht hW => ⟨_, rfl, hV, ht⟩) (fun _ h => by cases h) dX6_powerBelowHigh_48
    · have hV := hV.2 c_15
      refine lv_lload_n hx hb dX6_powerBelowHigh_19 rfl (lv_at hl 2 rfl) ?_
      refine lv_ldc2 (v := (1000000 : Int64)) hx hb hown (hts (.constantLong RX6 315 (1000000)) (by decide +kernel)) dX6_powerBelowHigh_20 ?_
      refine lc_ge (tgt := 41) hx hb dX6_powerBelowHigh_23 dX6_powerBelowHigh_24 (by decide) (fun c_23 => ?_) (fun c_23 => ?_)
      · have hV := hV.1 c_23
        refine lv_lload_n hx hb dX6_powerBelowHigh_41 rfl (lv_at hl 2 rfl) ?_
        refine lv_ldc2 (v := (1000000 : Int64)) hx hb hown (hts (.constantLong RX6 315 (1000000)) (by decide +kernel)) dX6_powerBelowHigh_42 ?_
        refine va_mmin_long hx hb (hml.trans hl.1.symm) hown (hts (.methodLink RX6 321 Lib.MathLoose.min_long.x) (by decide +kernel)) (hts (.static Lib.MathLoose.min_long.x) (by decide +kernel)) (hts (.initialized "java/lang/Math") (by decide +kernel)) (hts (.code Lib.MathLoose.min_long.x Lib.MathLoose.min_long.code 4 (some .long)) (by decide +kernel)) (Nat.le_of_ble_eq_true rfl) (Nat.le_of_ble_eq_true rfl) (Nat.zero_le _) (Nat.zero_le _) dX6_powerBelowHigh_45 ?_
        exact W.lret (v := if (1000000 : Int64) < x3 then (1000000 : Int64) else x3) hx hb hr (fun t ht hW => ⟨_, rfl, hV, ht⟩) (fun _ h => by cases h) dX6_powerBelowHigh_48
      · have hV := hV.2 c_23
        refine lv_lload_n hx hb dX6_powerBelowHigh_27 rfl (lv_at hl 2 rfl) ?_
        refine lv_iload_n hx hb dX6_powerBelowHigh_28 rfl (lv_at hl 0 rfl) ?_
        refine lv_i2l (v := p0.toInt64) hx hb dX6_powerBelowHigh_29 rfl ?_
        refine lv_lmul hx hb dX6_powerBelowHigh_30 ?_
        refine lv_lstore_n (lv' := [(3, .long (x3 * p0.toInt64)), (0, .int p0), (1, .long p1), (5, .long x5)]) hx hb dX6_powerBelowHigh_31 rfl hl (by decide) rfl (fun ls hl => ?_)
        refine lv_lload hx hb dX6_powerBelowHigh_32 (lv_at hl 3 rfl) ?_
        refine lv_lconst (v := (1 : Int64)) hx hb dX6_powerBelowHigh_34 (by decide) ?_
        refine lv_ladd hx hb dX6_powerBelowHigh_35 ?_
        refine lv_lstore (lv' := [(5, .long (x5 + (1 : Int64))), (3, .long (x3 * p0.toInt64)), (0, .int p0), (1, .long p1)]) hx hb dX6_powerBelowHigh_36 hl (by decide) rfl (fun ls hl => ?_)
        refine lv_goto (tgt := 12) hx hb dX6_powerBelowHigh_38 (by decide) ?_
        exact oJ12 _ _ hV _ (lv_sub hl [2, 3, 1, 0] rfl))
  have hl := lv_entry ([.int p0, .long p1]) (n := 7) (Nat.le_of_ble_eq_true rfl)
  rw [lg_entry_eq]
  generalize (lg_sl ([.int p0, .long p1]) ++ List.replicate (7 - (lg_sl ([.int p0, .long p1])).length) Slot.unset).toArray = ls at hl ⊢
  have hl : lv_has ls 7 [(0, .int p0), (1, .long p1)] := hl
  refine lv_iload_n hx hb dX6_powerBelowHigh_0 rfl (lv_at hl 0 rfl) ?_
  refine lv_iconst (v := (2 : Int32)) hx hb dX6_powerBelowHigh_1 (by decide) ?_
  refine lv_icmp_ge (tgt := 7) hx hb dX6_powerBelowHigh_2 (by decide) (fun c_2 => ?_) (fun c_2 => ?_)
  · have hV := hV.1 c_2
    refine lv_lconst (v := (1 : Int64)) hx hb dX6_powerBelowHigh_7 (by decide) ?_
    refine lv_lstore_n (lv' := [(3, .long (1 : Int64)), (0, .int p0), (1, .long p1)]) hx hb dX6_powerBelowHigh_8 rfl hl (by decide) rfl (fun ls hl => ?_)
    refine lv_lconst (v := (0 : Int64)) hx hb dX6_powerBelowHigh_9 (by decide) ?_
    refine lv_lstore (lv' := [(5, .long (0 : Int64)), (3, .long (1 : Int64)), (0, .int p0), (1, .long p1)]) hx hb dX6_powerBelowHigh_10 hl (by decide) rfl (fun ls hl => ?_)
    exact oJ12 _ _ hV _ (lv_sub hl [2, 3, 1, 0] rfl)
  · have hV := hV.2 c_2
    refine lv_lconst (v := (1 : Int64)) hx hb dX6_powerBelowHigh_5 (by decide) ?_
    exact W.lret (v := (1 : Int64)) hx hb hr (fun t ht hW => ⟨_, rfl, hV, ht⟩) (fun _ h => by cases h) dX6_powerBelowHigh_6
def HiK : Nat := 1000000
def post_X6_powerBelowHigh (p0 : Int32) (p1 r : Int64) : Prop := r = lN (min (tn p0 ^ tl p1) HiK)
set_option maxRecDepth 4000 in
theorem spec_X6_powerBelowHigh (l : Launch) (p0 : Int32) (p1 : Int64) (hpre : pre_X6_powerBelowHigh p0 p1) : Met l yX6_powerBelowHigh wsX6_powerBelowHigh ({ frames := 1, cells := 0, slots := 0, locals := 23 } : Room) (va_Pc [.int p0, .long p1] (fun _ => True)) (Qpl (post_X6_powerBelowHigh p0 p1)) 0 0 noF := by
  apply met_X6_powerBelowHigh
  intro J hJ
  obtain ⟨h0, h1, h2⟩ := hpre
  obtain ⟨c, hc, rfl, hc2⟩ := of_i (x := p0) (by omega)
  obtain ⟨e, he, rfl, he2⟩ := of_l h2
  have good : ∀ P, min P HiK = min (c ^ e) HiK → post_X6_powerBelowHigh (nI c) (lN e) (lN (min P HiK)) := fun P h => by
    unfold post_X6_powerBelowHigh
    rw [tn_nI hc, tl_lN he, h]
  have hif : ∀ P, P < 2 ^ 63 → (if (1000000 : Int64) < lN P then (1000000 : Int64) else lN P) = lN (min P HiK) := fun P hP => by
    have e1 : (1000000 : Int64) < lN P ↔ 1000000 < P := pk_lLT (a := 1000000) (b := P) (by decide) hP
    by_cases q : 1000000 < P
    · rw [if_pos (e1.mpr q), Nat.min_eq_right (by unfold HiK; omega)]; rfl
    · rw [if_neg (fun z => q (e1.mp z)), Nat.min_eq_left (by unfold HiK; omega)]
  rw [nI_l hc] at hJ
  refine pk_le 2 c (fun h => ?_) (fun h => ?_)
  · have key : ∀ (d s P : Nat), s + d = e → P = c ^ s → P < 1030000000 → J (lN P) (lN s) := by
      intro d
      induction d with
      | zero =>
        intro s P hs hP hb
        refine hJ _ _ (ql_le e s (fun _ => ?_) (fun h => absurd h (by omega)))
        rw [hif P (by omega)]
        refine good P ?_
        rw [hP, show s = e by omega]
      | succ d ih =>
        intro s P hs hP hb
        refine hJ _ _ (ql_le e s (fun h => absurd h (by omega)) (fun _ => ql_le 1000000 P (fun hk => ?_) (fun hk => ?_)))
        · rw [hif P (by omega)]
          refine good P ?_
          have : c ^ s ≤ c ^ e := Nat.pow_le_pow_right (by omega) (by omega)
          rw [Nat.min_eq_right (by unfold HiK; omega), Nat.min_eq_right (by unfold HiK; omega)]
        · have hm : P * c ≤ 1000000 * 1023 := Nat.mul_le_mul (by omega) (by omega)
          rw [lN_mul, show lN s + (1 : Int64) = lN (s + 1) from lN_1 s]
          exact ih (s + 1) (P * c) (by omega) (by rw [Nat.pow_succ, hP]) (by omega)
    exact key e 0 1 (by omega) rfl (by omega)
  · have h1 : c = 1 := by omega
    subst h1
    have := good 1 (by rw [Nat.one_pow])
    rwa [Nat.min_eq_left (by unfold HiK; omega)] at this
def pre_X6_towerRest (g : Gs) (a : As) (w : Ws) (p0 : Int32) (p1 : Int64) (p2 : Int32) : Prop := 1 ≤ p0.toInt ∧ p0.toInt ≤ 6 ∧ 0 ≤ p1.toInt ∧ 2 ≤ p2.toInt ∧ p2.toInt ≤ 50000 ∧ ∀ i, i < tn p0 → 1 ≤ twc (tn p0) (tl p1) i
set_option maxHeartbeats 4000000 in
set_option maxRecDepth 100000 in
theorem met_X6_towerRest (l : Launch) (D : va_G) (cy : Nat → ClassId) (ad : Nat → Nat) (sz : Nat) (g : Gs) (a : As) (w : Ws) (p0 : Int32) (p1 : Int64) (p2 : Int32) (post : Int32 → Gs → As → Ws → Prop)
  (hV : ∀ (J18 : Int32 → Int64 → Int32 → Gs → As → Ws → Prop),
    (∀ (x5 : Int32) (x6 : Int64) (x8 : Int32) (g_ : Gs) (a_ : As) (w_ : Ws), ((x8 < 0 → post x5 g_ a_ w_) ∧ (¬ x8 < 0 → (((7 : Int32) ≤ (x8 + (1 : Int32)) → post x5 g_ a_ w_) ∧ (¬ (7 : Int32) ≤ (x8 + (1 : Int32)) → pre_X6_towerNumber x8 p0 p1 ∧ (∀ r39 : Int32, post_X6_towerNumber x8 p0 p1 r39 → (((1000000 : Int64) ≤ x6 → vp_in (x8 + (1 : Int32)) 7 ∧ (vp_in x8 7 ∧ (pre_X4_raise r39.toInt64 (x5.toInt64 + (((a_ 8) (x8 + (1 : Int32)).toNatClampNeg).toInt64)) ((a_ 8) x8.toNatClampNeg) ∧ (∀ r86 : Int32, post_X4_raise r39.toInt64 (x5.toInt64 + (((a_ 8) (x8 + (1 : Int32)).toNatClampNeg).toInt64)) ((a_ 8) x8.toNatClampNeg) r86 → pre_X6_powerBelowHigh r39 x6 ∧ (∀ r95 : Int64, post_X6_powerBelowHigh r39 x6 r95 → J18 r86 r95 (x8 + (-1 : Int32)) g_ a_ w_))))) ∧ (¬ (1000000 : Int64) ≤ x6 → vp_in x8 7 ∧ (pre_X4_raise r39.toInt64 x6 ((a_ 8) x8.toNatClampNeg) ∧ (∀ r86 : Int32, post_X4_raise r39.toInt64 x6 ((a_ 8) x8.toNatClampNeg) r86 → pre_X6_powerBelowHigh r39 x6 ∧ (∀ r95 : Int64, post_X6_powerBelowHigh r39 x6 r95 → J18 r86 r95 (x8 + (-1 : Int32)) g_ a_ w_)))))))))) → J18 x5 x6 x8 g_ a_ w_) →
    pre_X6_findSizes g a w p0 p2 ∧ (∀ (g4 : Gs) (a4 : As) (w4 : Ws), post_X6_findSizes g a w p0 p2 g4 a4 w4 → J18 (1 : Int32) (1 : Int64) (p0 - (1 : Int32)) g4 a4 w4)) :
  Met l yX6_towerRest wsX6_towerRest ({ frames := 3, cells := 0, slots := 0, locals := 72 } : Room) (va_Pc [.ref (ad 0), .int p0, .long p1, .int p2] (ArP D cy sz (caW ad cy g a w))) (va_Qi (fun (r : Int32) (u : Gs × As × Ws) => post r u.1 u.2.1 u.2.2) (fun u t => va_P D vwCl (caW ad cy u.1 u.2.1 u.2.2) t.heap) (va_A (caW ad cy g a w) sz)) 0 0 (va_A (caW ad cy g a w) sz) := by
  refine Met.ofW (cc := cX6_towerRest) (maxL := 12) (ret := (some .int)) (by decide) rfl ?_
  intro p e s m args below meth c s₁ B hml hv
  obtain ⟨rfl, hsz, hP, hK, hD0, hN⟩ := hv
  have hx := B.exec
  have hb := B.bytes
  have hr := B.returns
  have hts := atoms_spec (ws := wsX6_towerRest) B.pre
  have hown : s.vm.findClass RX6 = some m.cls := findClass_of_methodNamed B.named
  have hlocks := B.notSynchronized
  subst hsz
  have hD := hD0.self (sz := s.heap.size)
  have hP : va_P D vwCl (caW ad cy g a w) s.heap := hP
  have hD : va_D (va_A (caW ad cy g a w) s.heap.size) (caW ad cy g a w) := hD
  have hS : va_S (va_A (caW ad cy g a w) s.heap.size) s.heap s.heap [] := va_S.rf
  have hA : ∀ q : Nat, s.heap.size ≤ q → va_A (caW ad cy g a w) s.heap.size q := fun q h => Or.inr h
  obtain ⟨J18, iJ18, oJ18⟩ : ∃ J : Int32 → Int64 → Int32 → Gs → As → Ws → Prop, (∀ (x5 : Int32) (x6 : Int64) (x8 : Int32) (g_ : Gs) (a_ : As) (w_ : Ws), (∀ (H : Heap) (locs : List Loc), va_P D vwCl (caW ad cy g_ a_ w_) H → va_S (va_A (caW ad cy g a w) s.heap.size) s.heap H locs → ∀ ls : Array Slot, lv_has ls 12 [(0, .ref (ad 0)), (1, .int p0), (2, .long p1), (5, .int x5), (6, .long x6), (8, .int x8)] → W p l e (headSpec wsX6_towerRest ({ frames := 3, cells := 0, slots := 0, locals := 72 } : Room)).room s m [.ref (ad 0), .int p0, .long p1, .int p2].toArray below meth c H locs 0 0 (MQ below (va_Qi (fun (r : Int32) (u : Gs × As × Ws) => post r u.1 u.2.1 u.2.2) (fun u t => va_P D vwCl (caW ad cy u.1 u.2.1 u.2.2) t.heap) (va_A (caW ad cy g a w) s.heap.size)) [.ref (ad 0), .int p0, .long p1, .int p2].toArray s 0 0 (va_A (caW ad cy g a w) s.heap.size)) (F0 m 18 ls [])) → J x5 x6 x8 g_ a_ w_) ∧ (∀ (x5 : Int32) (x6 : Int64) (x8 : Int32) (g_ : Gs) (a_ : As) (w_ : Ws), J x5 x6 x8 g_ a_ w_ → (∀ (H : Heap) (locs : List Loc), va_P D vwCl (caW ad cy g_ a_ w_) H → va_S (va_A (caW ad cy g a w) s.heap.size) s.heap H locs → ∀ ls : Array Slot, lv_has ls 12 [(0, .ref (ad 0)), (1, .int p0), (2, .long p1), (5, .int x5), (6, .long x6), (8, .int x8)] → W p l e (headSpec wsX6_towerRest ({ frames := 3, cells := 0, slots := 0, locals := 72 } : Room)).room s m [.ref (ad 0), .int p0, .long p1, .int p2].toArray below meth c H locs 0 0 (MQ below (va_Qi (fun (r : Int32) (u : Gs × As × Ws) => post r u.1 u.2.1 u.2.2) (fun u t => va_P D vwCl (caW ad cy u.1 u.2.1 u.2.2) t.heap) (va_A (caW ad cy g a w) s.heap.size)) [.ref (ad 0), .int p0, .long p1, .int p2].toArray s 0 0 (va_A (caW ad cy g a w) s.heap.size)) (F0 m 18 ls []))) := ⟨fun (x5 : Int32) (x6 : Int64) (x8 : Int32) (g_ : Gs) (a_ : As) (w_ : Ws) => (∀ (H : Heap) (locs : List Loc), va_P D vwCl (caW ad cy g_ a_ w_) H → va_S (va_A (caW ad cy g a w) s.heap.size) s.heap H locs → ∀ ls : Array Slot, lv_has ls 12 [(0, .ref (ad 0)), (1, .int p0), (2, .long p1), (5, .int x5), (6, .long x6), (8, .int x8)] → W p l e (headSpec wsX6_towerRest ({ frames := 3, cells := 0, slots := 0, locals := 72 } : Room)).room s m [.ref (ad 0), .int p0, .long p1, .int p2].toArray below meth c H locs 0 0 (MQ below (va_Qi (fun (r : Int32) (u : Gs × As × Ws) => post r u.1 u.2.1 u.2.2) (fun u t => va_P D vwCl (caW ad cy u.1 u.2.1 u.2.2) t.heap) (va_A (caW ad cy g a w) s.heap.size)) [.ref (ad 0), .int p0, .long p1, .int p2].toArray s 0 0 (va_A (caW ad cy g a w) s.heap.size)) (F0 m 18 ls [])), fun _ _ _ _ _ _ h => h, fun _ _ _ _ _ _ h => h⟩
  have hV := hV J18
  replace hV := hV (by
    intro x5 x6 x8 g_ a_ w_ hV
    refine iJ18 x5 x6 x8 g_ a_ w_ ?_
    intro H locs hP hS ls hl
    refine lv_iload hx hb dX6_towerRest_18 (lv_at hl 5 rfl) ?_
    refine lv_if_lt (tgt := 106) hx hb dX6_towerRest_20 (by decide) (fun c_20 => ?_) (fun c_20 => ?_)
    · have hV := hV.1 c_20
      refine lv_iload hx hb dX6_towerRest_106 (lv_at hl 3 rfl) ?_
      exact W.iret (v := x5) hx hb hr (fun t ht hW => ⟨⟨_, (g_, a_, w_), rfl, hV, ar_heap ht hP⟩, hS.F ht⟩) hS.2.2 dX6_towerRest_108
    · have hV := hV.2 c_20
      refine lv_iload hx hb dX6_towerRest_23 (lv_at hl 5 rfl) ?_
      refine lv_iconst (v := (1 : Int32)) hx hb dX6_towerRest_25 (by decide) ?_
      refine lv_iadd hx hb dX6_towerRest_26 ?_
      refine lv_aload_n hx hb dX6_towerRest_27 rfl (lv_at hl 0 rfl) ?_
      refine va_get (D := D) (ci := 5) (v := .ref (ad 24)) (C := RX6) (T := TX6) (N := 10) hx hb hts (by decide +kernel) hown hK hP 0 rfl rfl 6 (by decide) (hts (.fieldLink RX6 47 "PowerRests" "sizes" "[I") (by decide +kernel)) (fun _ h9 => h9) rfl dX6_towerRest_28 ?_
      refine va_alen (v := (7 : Int32)) hx hb hK hP 24 0 rfl rfl rfl dX6_towerRest_31 ?_
      refine lv_icmp_ge (tgt := 106) hx hb dX6_towerRest_32 (by decide) (fun c_32 => ?_) (fun c_32 => ?_)
      · have hV := hV.1 c_32
        refine lv_iload hx hb dX6_towerRest_106 (lv_at hl 3 rfl) ?_
        exact W.iret (v := x5) hx hb hr (fun t ht hW => ⟨⟨_, (g_, a_, w_), rfl, hV, ar_heap ht hP⟩, hS.F ht⟩) hS.2.2 dX6_towerRest_108
      · have hV := hV.2 c_32
        refine lv_iload hx hb dX6_towerRest_35 (lv_at hl 5 rfl) ?_
        refine lv_iload_n hx hb dX6_towerRest_37 rfl (lv_at hl 1 rfl) ?_
        refine lv_lload_n hx hb dX6_towerRest_38 rfl (lv_at hl 2 rfl) ?_
        obtain ⟨h_39, hV⟩ := hV
        refine cp_i (va_runS (As := [.int x8, .int p0, .long p1]) (rest := []) ⟨hx, hb, hml, hown, hts⟩ (spec_X6_towerNumber l x8 p0 p1 h_39) (va_cwS 3 hts gX6_towerRest_X6_towerNumber rfl rfl rfl (by decide +kernel) ⟨Nat.le_of_ble_eq_true rfl, Nat.le_of_ble_eq_true rfl⟩) cp_pre rfl rfl hl.1 rfl (lv_room (Nat.le_of_ble_eq_true rfl)) dX6_towerRest_39 ⟨Nat.zero_le _, Nat.zero_le _⟩) (fun r39 q_39 => ?_)
        have hV := hV r39 q_39
        refine lv_istore (lv' := [(9, .int r39), (0, .ref (ad 0)), (1, .int p0), (2, .long p1), (5, .int x5), (6, .long x6), (8, .int x8)]) hx hb dX6_towerRest_42 hl (by decide) rfl (fun ls hl => ?_)
        refine lv_lload hx hb dX6_towerRest_44 (lv_at hl 5 rfl) ?_
        refine lv_ldc2 (v := (1000000 : Int64)) hx hb hown (hts (.constantLong RX6 315 (1000000)) (by decide +kernel)) dX6_towerRest_46 ?_
        refine lc_ge (tgt := 58) hx hb dX6_towerRest_49 dX6_towerRest_50 (by decide) (fun c_49 => ?_) (fun c_49 => ?_)
        · have hV := hV.1 c_49
          refine lv_iload hx hb dX6_towerRest_58 (lv_at hl 4 rfl) ?_
          refine lv_i2l (v := x5.toInt64) hx hb dX6_towerRest_60 rfl ?_
          refine lv_aload_n hx hb dX6_towerRest_61 rfl (lv_at hl 1 rfl) ?_
          refine va_get (D := D) (ci := 5) (v := .ref (ad 24)) (C := RX6) (T := TX6) (N := 10) hx hb hts (by decide +kernel) hown hK hP 0 rfl rfl 6 (by decide) (hts (.fieldLink RX6 47 "PowerRests" "sizes" "[I") (by decide +kernel)) (fun _ h9 => h9) rfl dX6_towerRest_62 ?_
          refine lv_iload hx hb dX6_towerRest_65 (lv_at hl 6 rfl) ?_
          refine lv_iconst (v := (1 : Int32)) hx hb dX6_towerRest_67 (by decide) ?_
          refine lv_iadd hx hb dX6_towerRest_68 ?_
          obtain ⟨h_69, hV⟩ := hV
          refine va_iald (f := (a_ 8)) hx hb hK hP 24 0 rfl rfl h_69 dX6_towerRest_69 ?_
          refine lv_i2l (v := ((a_ 8) (x8 + (1 : Int32)).toNatClampNeg).toInt64) hx hb dX6_towerRest_70 rfl ?_
          refine lv_ladd hx hb dX6_towerRest_71 ?_
          refine lv_lstore (lv' := [(10, .long (x5.toInt64 + (((a_ 8) (x8 + (1 : Int32)).toNatClampNeg).toInt64))), (9, .int r39), (0, .ref (ad 0)), (1, .int p0), (2, .long p1), (5, .int x5), (6, .long x6), (8, .int x8)]) hx hb dX6_towerRest_72 hl (by decide) rfl (fun ls hl => ?_)
          refine lv_iload hx hb dX6_towerRest_74 (lv_at hl 1 rfl) ?_
          refine lv_i2l (v := r39.toInt64) hx hb dX6_towerRest_76 rfl ?_
          refine lv_lload hx hb dX6_towerRest_77 (lv_at hl 0 rfl) ?_
          refine lv_aload_n hx hb dX6_towerRest_79 rfl (lv_at hl 2 rfl) ?_
          refine va_get (D := D) (ci := 5) (v := .ref (ad 24)) (C := RX6) (T := TX6) (N := 10) hx hb hts (by decide +kernel) hown hK hP 0 rfl rfl 6 (by decide) (hts (.fieldLink RX6 47 "PowerRests" "sizes" "[I") (by decide +kernel)) (fun _ h9 => h9) rfl dX6_towerRest_80 ?_
          refine lv_iload hx hb dX6_towerRest_83 (lv_at hl 7 rfl) ?_
          obtain ⟨h_85, hV⟩ := hV
          refine va_iald (f := (a_ 8)) hx hb hK hP 24 0 rfl rfl h_85 dX6_towerRest_85 ?_
          obtain ⟨h_86, hV⟩ := hV
          refine cp_i (va_runS (As := [.long r39.toInt64, .long (x5.toInt64 + (((a_ 8) (x8 + (1 : Int32)).toNatClampNeg).toInt64)), .int ((a_ 8) x8.toNatClampNeg)]) (rest := []) ⟨hx, hb, hml, hown, hts⟩ (spec_X4_raise l r39.toInt64 (x5.toInt64 + (((a_ 8) (x8 + (1 : Int32)).toNatClampNeg).toInt64)) ((a_ 8) x8.toNatClampNeg) h_86) (va_cwS 3 hts gX6_towerRest_X4_raise rfl rfl rfl (by decide +kernel) ⟨Nat.le_of_ble_eq_true rfl, Nat.le_of_ble_eq_true rfl⟩) cp_pre rfl rfl hl.1 rfl (lv_room (Nat.le_of_ble_eq_true rfl)) dX6_towerRest_86 ⟨Nat.zero_le _, Nat.zero_le _⟩) (fun r86 q_86 => ?_)
          have hV := hV r86 q_86
          refine lv_istore (lv' := [(5, .int r86), (10, .long (x5.toInt64 + (((a_ 8) (x8 + (1 : Int32)).toNatClampNeg).toInt64))), (9, .int r39), (0, .ref (ad 0)), (1, .int p0), (2, .long p1), (6, .long x6), (8, .int x8)]) hx hb dX6_towerRest_89 hl (by decide) rfl (fun ls hl => ?_)
          refine lv_iload hx hb dX6_towerRest_91 (lv_at hl 2 rfl) ?_
          refine lv_lload hx hb dX6_towerRest_93 (lv_at hl 6 rfl) ?_
          obtain ⟨h_95, hV⟩ := hV
          refine cp_l (va_runS (As := [.int r39, .long x6]) (rest := []) ⟨hx, hb, hml, hown, hts⟩ (spec_X6_powerBelowHigh l r39 x6 h_95) (va_cwS 2 hts gX6_towerRest_X6_powerBelowHigh rfl rfl rfl (by decide +kernel) ⟨Nat.le_of_ble_eq_true rfl, Nat.le_of_ble_eq_true rfl⟩) cp_pre rfl rfl hl.1 rfl (lv_room (Nat.le_of_ble_eq_true rfl)) dX6_towerRest_95 ⟨Nat.zero_le _, Nat.zero_le _⟩) (fun r95 q_95 => ?_)
          have hV := hV r95 q_95
          refine lv_lstore (lv' := [(6, .long r95), (5, .int r86), (10, .long (x5.toInt64 + (((a_ 8) (x8 + (1 : Int32)).toNatClampNeg).toInt64))), (9, .int r39), (0, .ref (ad 0)), (1, .int p0), (2, .long p1), (8, .int x8)]) hx hb dX6_towerRest_98 hl (by decide) rfl (fun ls hl => ?_)
          refine lv_iinc (v := x8 + (-1 : Int32)) (lv' := [(8, .int (x8 + (-1 : Int32))), (6, .long r95), (5, .int r86), (10, .long (x5.toInt64 + (((a_ 8) (x8 + (1 : Int32)).toNatClampNeg).toInt64))), (9, .int r39), (0, .ref (ad 0)), (1, .int p0), (2, .long p1)]) hx hb dX6_towerRest_100 hl (k := 7) rfl rfl (by decide) rfl (fun ls hl => ?_)
          refine lv_goto (tgt := 18) hx hb dX6_towerRest_103 (by decide) ?_
          exact oJ18 _ _ _ _ _ _ hV _ _ hP hS _ (lv_sub hl [5, 6, 7, 2, 1, 0] rfl)
        · have hV := hV.2 c_49
          refine lv_lload hx hb dX6_towerRest_53 (lv_at hl 5 rfl) ?_
          refine lv_goto (tgt := 72) hx hb dX6_towerRest_55 (by decide) ?_
          refine lv_lstore (lv' := [(10, .long x6), (9, .int r39), (0, .ref (ad 0)), (1, .int p0), (2, .long p1), (5, .int x5), (6, .long x6), (8, .int x8)]) hx hb dX6_towerRest_72 hl (by decide) rfl (fun ls hl => ?_)
          refine lv_iload hx hb dX6_towerRest_74 (lv_at hl 1 rfl) ?_
          refine lv_i2l (v := r39.toInt64) hx hb dX6_towerRest_76 rfl ?_
          refine lv_lload hx hb dX6_towerRest_77 (lv_at hl 0 rfl) ?_
          refine lv_aload_n hx hb dX6_towerRest_79 rfl (lv_at hl 2 rfl) ?_
          refine va_get (D := D) (ci := 5) (v := .ref (ad 24)) (C := RX6) (T := TX6) (N := 10) hx hb hts (by decide +kernel) hown hK hP 0 rfl rfl 6 (by decide) (hts (.fieldLink RX6 47 "PowerRests" "sizes" "[I") (by decide +kernel)) (fun _ h9 => h9) rfl dX6_towerRest_80 ?_
          refine lv_iload hx hb dX6_towerRest_83 (lv_at hl 7 rfl) ?_
          obtain ⟨h_85, hV⟩ := hV
          refine va_iald (f := (a_ 8)) hx hb hK hP 24 0 rfl rfl h_85 dX6_towerRest_85 ?_
          obtain ⟨h_86, hV⟩ := hV
          refine cp_i (va_runS (As := [.long r39.toInt64, .long x6, .int ((a_ 8) x8.toNatClampNeg)]) (rest := []) ⟨hx, hb, hml, hown, hts⟩ (spec_X4_raise l r39.toInt64 x6 ((a_ 8) x8.toNatClampNeg) h_86) (va_cwS 3 hts gX6_towerRest_X4_raise rfl rfl rfl (by decide +kernel) ⟨Nat.le_of_ble_eq_true rfl, Nat.le_of_ble_eq_true rfl⟩) cp_pre rfl rfl hl.1 rfl (lv_room (Nat.le_of_ble_eq_true rfl)) dX6_towerRest_86 ⟨Nat.zero_le _, Nat.zero_le _⟩) (fun r86 q_86 => ?_)
          have hV := hV r86 q_86
          refine lv_istore (lv' := [(5, .int r86), (10, .long x6), (9, .int r39), (0, .ref (ad 0)), (1, .int p0), (2, .long p1), (6, .long x6), (8, .int x8)]) hx hb dX6_towerRest_89 hl (by decide) rfl (fun ls hl => ?_)
          refine lv_iload hx hb dX6_towerRest_91 (lv_at hl 2 rfl) ?_
          refine lv_lload hx hb dX6_towerRest_93 (lv_at hl 6 rfl) ?_
          obtain ⟨h_95, hV⟩ := hV
          refine cp_l (va_runS (As := [.int r39, .long x6]) (rest := []) ⟨hx, hb, hml, hown, hts⟩ (spec_X6_powerBelowHigh l r39 x6 h_95) (va_cwS 2 hts gX6_towerRest_X6_powerBelowHigh rfl rfl rfl (by decide +kernel) ⟨Nat.le_of_ble_eq_true rfl, Nat.le_of_ble_eq_true rfl⟩) cp_pre rfl rfl hl.1 rfl (lv_room (Nat.le_of_ble_eq_true rfl)) dX6_towerRest_95 ⟨Nat.zero_le _, Nat.zero_le _⟩) (fun r95 q_95 => ?_)
          have hV := hV r95 q_95
          refine lv_lstore (lv' := [(6, .long r95), (5, .int r86), (10, .long x6), (9, .int r39), (0, .ref (ad 0)), (1, .int p0), (2, .long p1), (8, .int x8)]) hx hb dX6_towerRest_98 hl (by decide) rfl (fun ls hl => ?_)
          refine lv_iinc (v := x8 + (-1 : Int32)) (lv' := [(8, .int (x8 + (-1 : Int32))), (6, .long r95), (5, .int r86), (10, .long x6), (9, .int r39), (0, .ref (ad 0)), (1, .int p0), (2, .long p1)]) hx hb dX6_towerRest_100 hl (k := 7) rfl rfl (by decide) rfl (fun ls hl => ?_)
          refine lv_goto (tgt := 18) hx hb dX6_towerRest_103 (by decide) ?_
          exact oJ18 _ _ _ _ _ _ hV _ _ hP hS _ (lv_sub hl [5, 6, 7, 2, 1, 0] rfl))
  have hl := lv_entry ([.ref (ad 0), .int p0, .long p1, .int p2]) (n := 12) (Nat.le_of_ble_eq_true rfl)
  rw [lg_entry_eq]
  generalize (lg_sl ([.ref (ad 0), .int p0, .long p1, .int p2]) ++ List.replicate (12 - (lg_sl ([.ref (ad 0), .int p0, .long p1, .int p2])).length) Slot.unset).toArray = ls at hl ⊢
  have hl : lv_has ls 12 [(0, .ref (ad 0)), (1, .int p0), (2, .long p1), (4, .int p2)] := hl
  refine lv_aload_n hx hb dX6_towerRest_0 rfl (lv_at hl 0 rfl) ?_
  refine lv_iload_n hx hb dX6_towerRest_1 rfl (lv_at hl 1 rfl) ?_
  refine lv_iload hx hb dX6_towerRest_2 (lv_at hl 3 rfl) ?_
  obtain ⟨h_4, hV⟩ := hV
  refine cw_v (va_runV (As := [.int p0, .int p2]) (rest := []) ⟨hx, hb, hml, hown, hts⟩ (spec_X6_findSizes l D cy ad _ g a w p0 p2 h_4) (cwV 2 hts gX6_towerRest_X6_findSizes rfl rfl rfl (by decide +kernel) ⟨Nat.le_of_ble_eq_true rfl, Nat.le_of_ble_eq_true rfl⟩) (ar_preV hN hK hP (caD hD) (ci := 5) (q0 := 0) rfl rfl) rfl rfl hl.1 rfl (lv_room (Nat.le_of_ble_eq_true rfl)) dX6_towerRest_4 ⟨Nat.zero_le _, Nat.zero_le _⟩) hS (caD hD) hA (fun u_4 H locs q_4 hP hS => ?_)
  obtain ⟨g4, a4, w4⟩ := u_4
  have hV := hV g4 a4 w4 q_4
  have hP : va_P D vwCl (caW ad cy g4 a4 w4) H := hP
  refine lv_iconst (v := (1 : Int32)) hx hb dX6_towerRest_7 (by decide) ?_
  refine lv_istore (lv' := [(5, .int (1 : Int32)), (0, .ref (ad 0)), (1, .int p0), (2, .long p1), (4, .int p2)]) hx hb dX6_towerRest_8 hl (by decide) rfl (fun ls hl => ?_)
  refine lv_lconst (v := (1 : Int64)) hx hb dX6_towerRest_10 (by decide) ?_
  refine lv_lstore (lv' := [(6, .long (1 : Int64)), (5, .int (1 : Int32)), (0, .ref (ad 0)), (1, .int p0), (2, .long p1), (4, .int p2)]) hx hb dX6_towerRest_11 hl (by decide) rfl (fun ls hl => ?_)
  refine lv_iload_n hx hb dX6_towerRest_13 rfl (lv_at hl 3 rfl) ?_
  refine lv_iconst (v := (1 : Int32)) hx hb dX6_towerRest_14 (by decide) ?_
  refine lv_isub hx hb dX6_towerRest_15 ?_
  refine lv_istore (lv' := [(8, .int (p0 - (1 : Int32))), (6, .long (1 : Int64)), (5, .int (1 : Int32)), (0, .ref (ad 0)), (1, .int p0), (2, .long p1), (4, .int p2)]) hx hb dX6_towerRest_16 hl (by decide) rfl (fun ls hl => ?_)
  exact oJ18 _ _ _ _ _ _ hV _ _ hP hS _ (lv_sub hl [3, 4, 5, 2, 1, 0] rfl)
def post_X6_towerRest (g : Gs) (a : As) (w : Ws) (p0 : Int32) (p1 : Int64) (p2 r : Int32) (g' : Gs) (a' : As) (w' : Ws) : Prop := r = nI (tw (twc (tn p0) (tl p1)) 0 (tn p0) % tn p2) ∧ TS g a w g' a' w'
set_option maxRecDepth 4000 in
theorem spec_X6_towerRest (l : Launch) (D : va_G) (cy : Nat → ClassId) (ad : Nat → Nat) (sz : Nat) (g : Gs) (a : As) (w : Ws) (p0 : Int32) (p1 : Int64) (p2 : Int32) (hpre : pre_X6_towerRest g a w p0 p1 p2) : Met l yX6_towerRest wsX6_towerRest ({ frames := 3, cells := 0, slots := 0, locals := 72 } : Room) (va_Pc [.ref (ad 0), .int p0, .long p1, .int p2] (ArP D cy sz (caW ad cy g a w))) (va_Qi (fun (r : Int32) (u : Gs × As × Ws) => (post_X6_towerRest g a w p0 p1 p2) r u.1 u.2.1 u.2.2) (fun u t => va_P D vwCl (caW ad cy u.1 u.2.1 u.2.2) t.heap) (va_A (caW ad cy g a w) sz)) 0 0 (va_A (caW ad cy g a w) sz) := by
  apply met_X6_towerRest
  intro J hJ
  obtain ⟨h0, h1, h2, h3, h4, h5⟩ := hpre
  obtain ⟨k, hk, rfl, hk2⟩ := of_i (x := p0) (by omega)
  obtain ⟨v, hv, rfl, hv2⟩ := of_l h2
  obtain ⟨n, hn, rfl, hn2⟩ := of_i (x := p2) (by omega)
  rw [tn_nI hk, tl_lN hv] at h5
  refine ⟨⟨by omega, by omega, by omega, by omega⟩, fun g1 a1 w1 hfs => ?_⟩
  obtain ⟨hT, hA⟩ := hfs
  rw [tn_nI hk, tn_nI hn] at hA
  rw [show nI k - (1 : Int32) = nI (k - 1) from pk_sub (b := 1) (by omega)]
  obtain ⟨c, hcd⟩ : ∃ c, c = twc k v := ⟨_, rfl⟩
  have step : ∀ (i T : Nat) (x5 : Int32), i < k → (i + 1 < k → x5 = nI (T % szF n (i + 1))) → (¬ i + 1 < k → T = 1) → (∀ x5', x5' = nI (c i ^ T % szF n i) → J x5' (lN (min (c i ^ T) HiK)) (nI i + (-1)) g1 a1 w1) → J x5 (lN (min T HiK)) (nI i) g1 a1 w1 := by
    intro i T x5 hi hx hT1 hnext
    have hs := szF_b (n := n) (by omega) i
    have hci := h5 i hi
    have hcb := twc_lt k v i
    have hAi := hA i hi
    have hKb : min T HiK ≤ 1000000 := Nat.min_le_right _ _
    have e1 : tn (nI i) = i := tn_nI (by omega)
    have e2 : (nI (szF n i)).toInt = szF n i := nI_toInt (by omega)
    have e3 : tn (nI (szF n i)) = szF n i := tn_nI (by omega)
    have e4 : tl (nI (c i)).toInt64 = c i := by rw [tl_i (by rw [nI_toInt (by rw [hcd]; omega)]; omega), tn_nI (by rw [hcd]; omega)]
    refine hJ _ _ _ _ _ _ ⟨fun h => absurd h (nI_pos (by omega)), fun _ => ?_⟩
    rw [nI_1, show (nI i).toNatClampNeg = i from e1]
    refine pk_le 7 (i + 1) (fun h => absurd h (by omega)) (fun _ => ⟨⟨by rw [nI_toInt (by omega)]; omega, by rw [nI_toInt (by omega)]; omega, by omega, by omega⟩, fun r39 hr39 => ?_⟩)
    unfold post_X6_towerNumber at hr39
    rw [tn_nI hk, tl_lN hv, e1, ← hcd] at hr39
    subst hr39
    rw [← hcd] at hci hcb
    have fin : ∀ (E : Int64) (r86 : Int32), tl E < 2 ^ 62 → c i ^ tl E % szF n i = c i ^ T % szF n i → post_X4_raise (nI (c i)).toInt64 E (nI (szF n i)) r86 → ∀ r95, post_X6_powerBelowHigh (nI (c i)) (lN (min T HiK)) r95 → J r86 r95 (nI i + (-1)) g1 a1 w1 := by
      intro E r86 hE hEq hr r95 hr95
      unfold post_X4_raise at hr
      unfold post_X6_powerBelowHigh at hr95
      rw [tn_nI (by omega), tl_lN (by omega), min_pow hci] at hr95
      rw [e4, e3, hEq] at hr
      subst hr95
      exact hnext r86 hr
    have hpb : pre_X6_powerBelowHigh (nI (c i)) (lN (min T HiK)) := ⟨by rw [nI_toInt (by omega)]; omega, by rw [nI_toInt (by omega)]; omega, by rw [pk_lT (by omega)]; omega⟩
    have hc0 : 0 ≤ (nI (c i)).toInt64.toInt := by rw [il_t, nI_toInt (by omega)]; omega
    rw [hAi]
    refine ql_le 1000000 (min T HiK) (fun hq => ?_) (fun hq => ?_)
    · have hTK : 1000000 ≤ T := Nat.le_trans hq (Nat.min_le_left _ _)
      have hi1 : i + 1 < k := Classical.byContradiction (fun h => by have := hT1 h; omega)
      have hs1 := szF_b (n := n) (by omega) (i + 1)
      have hml := Nat.mod_lt T (show 0 < szF n (i + 1) by omega)
      have e5 : x5.toInt64 + (a1 8 (nI (i + 1)).toNatClampNeg).toInt64 = lN (T % szF n (i + 1) + szF n (i + 1)) := by
        rw [show (nI (i + 1)).toNatClampNeg = i + 1 from tn_nI (by omega), hA (i + 1) hi1, hx hi1, nI_l (by omega), nI_l (by omega), lN_add]
      rw [e5]
      refine ⟨vp_in_nI (by omega) (by omega), vp_in_nI (by omega) (by omega), ⟨hc0, by rw [pk_lT (by omega)]; omega, by rw [pk_lT (by omega)]; omega, by rw [e2]; omega⟩, fun r86 hr => ?_⟩
      refine ⟨hpb, fun r95 => ?_⟩
      refine fin _ r86 (by rw [tl_lN (by omega)]; omega) ?_ hr r95
      rw [tl_lN (by omega)]
      exact tow_class hs.1 (by omega) rfl hTK
    · have hTm : min T HiK = T := by
        rcases Nat.le_total T HiK with q | q
        · exact Nat.min_eq_left q
        · rw [Nat.min_eq_right q] at hq; exact absurd hq (by unfold HiK; omega)
      refine ⟨vp_in_nI (by omega) (by omega), ⟨hc0, by rw [pk_lT (by omega)]; omega, by rw [pk_lT (by omega)]; omega, by rw [e2]; omega⟩, fun r86 hr => ?_⟩
      refine ⟨hpb, fun r95 => ?_⟩
      exact fin _ r86 (by rw [tl_lN (by omega)]; omega) (by rw [tl_lN (by omega), hTm]) hr r95
  have key : ∀ (i T : Nat) (x5 : Int32), i < k → T = tw c (i + 1) (k - 1 - i) → (i + 1 < k → x5 = nI (T % szF n (i + 1))) → (¬ i + 1 < k → T = 1) → J x5 (lN (min T HiK)) (nI i) g1 a1 w1 := by
    intro i
    have tws : ∀ i T, i < k → T = tw c (i + 1) (k - 1 - i) → c i ^ T = tw c i (k - i) := fun i T hi h => by
      rw [h, show k - i = (k - 1 - i) + 1 by omega]; rfl
    induction i with
    | zero =>
      intro T x5 hi hTT hx hT1
      refine step 0 T x5 hi hx hT1 (fun x5' hx' => hJ _ _ _ _ _ _ ⟨fun _ => ⟨?_, hT⟩, fun h => absurd (by decide) h⟩)
      rw [hx', tn_nI hk, tl_lN hv, tn_nI hn, ← hcd, tws 0 T hi hTT]
      rfl
    | succ i ih =>
      intro T x5 hi hTT hx hT1
      refine step (i + 1) T x5 hi hx hT1 (fun x5' hx' => ?_)
      rw [pk_m1]
      refine ih (c (i + 1) ^ T) x5' (by omega) ?_ (fun _ => hx') (fun h => absurd (by omega) h)
      rw [tws (i + 1) T hi hTT]
      congr 1
      omega
  have := key (k - 1) 1 1 (by omega) (by rw [show k - 1 - (k - 1) = 0 by omega]; rfl) (fun h => by omega) (fun _ => rfl)
  rwa [Nat.min_eq_left (by unfold HiK; omega)] at this
def TowB (n k : Int32) (v : Int64) : Prop := Dv n ∧ (1 ≤ k.toInt ∧ k.toInt ≤ 6) ∧ (0 ≤ v.toInt ∧ tl v < 2 ^ (10 * tn k)) ∧ ∀ i, i < tn k → 1 ≤ twc (tn k) (tl v) i ∧ twc (tn k) (tl v) i ≤ 1000
/-- TOWER -/
def TowAns (n k : Int32) (v : Int64) (r : Int32) : Prop := (¬ TowB n k v ∧ r = -1) ∨ (TowB n k v ∧ r = nI (tw (twc (tn k) (tl v)) 0 (tn k) % tn n))
theorem TowAns.one {n k : Int32} {v : Int64} {r r' : Int32} (h : TowAns n k v r) (h' : TowAns n k v r') : r = r' := by
  rcases h with ⟨h1, h2⟩ | ⟨h1, h2⟩ <;> rcases h' with ⟨k1, k2⟩ | ⟨k1, k2⟩
  · rw [h2, k2]
  · exact absurd k1 h1
  · exact absurd h1 k1
  · rw [h2, k2]
set_option maxHeartbeats 4000000 in
set_option maxRecDepth 100000 in
theorem met_X6_tower (l : Launch) (D : va_G) (cy : Nat → ClassId) (ad : Nat → Nat) (sz : Nat) (g : Gs) (a : As) (w : Ws) (p0 : Int32) (p1 : Int32) (p2 : Int64) (post : Int32 → Gs → As → Ws → Prop)
  (hV : ∀ (J34 : Int32 → Gs → As → Ws → Prop),
    (∀ (x5 : Int32) (g_ : Gs) (a_ : As) (w_ : Ws), ((p1 ≤ x5 → pre_X6_towerRest g_ a_ w_ p1 p2 p0 ∧ (∀ (r75 : Int32) (g75 : Gs) (a75 : As) (w75 : Ws), post_X6_towerRest g_ a_ w_ p1 p2 p0 r75 g75 a75 w75 → post r75 g75 a75 w75)) ∧ (¬ p1 ≤ x5 → pre_X6_towerNumber x5 p1 p2 ∧ (∀ r44 : Int32, post_X6_towerNumber x5 p1 p2 r44 → ((r44 < (1 : Int32) → post (-1 : Int32) g_ a_ w_) ∧ (¬ r44 < (1 : Int32) → ((r44 ≤ (1000 : Int32) → J34 (x5 + 1) g_ a_ w_) ∧ (¬ r44 ≤ (1000 : Int32) → post (-1 : Int32) g_ a_ w_))))))) → J34 x5 g_ a_ w_) →
    ∀ r1 : Int32, post_X6_isDivisor p0 r1 → ((r1 = 0 → post (-1 : Int32) g a w) ∧ (¬ r1 = 0 → ((p1 < (1 : Int32) → post (-1 : Int32) g a w) ∧ (¬ p1 < (1 : Int32) → (((6 : Int32) < p1 → post (-1 : Int32) g a w) ∧ (¬ (6 : Int32) < p1 → ((((p2.toUInt64 >>> (((10 : Int32) * p1).toInt64.toUInt64 &&& Int64.toUInt64 63)).toInt64) = (0 : Int64) → J34 (0 : Int32) g a w) ∧ (¬ ((p2.toUInt64 >>> (((10 : Int32) * p1).toInt64.toUInt64 &&& Int64.toUInt64 63)).toInt64) = (0 : Int64) → post (-1 : Int32) g a w))))))))) :
  Met l yX6_tower wsX6_tower ({ frames := 4, cells := 0, slots := 0, locals := 103 } : Room) (va_Pc [.ref (ad 0), .int p0, .int p1, .long p2] (ArP D cy sz (caW ad cy g a w))) (va_Qi (fun (r : Int32) (u : Gs × As × Ws) => post r u.1 u.2.1 u.2.2) (fun u t => va_P D vwCl (caW ad cy u.1 u.2.1 u.2.2) t.heap) (va_A (caW ad cy g a w) sz)) 0 0 (va_A (caW ad cy g a w) sz) := by
  refine Met.ofW (cc := cX6_tower) (maxL := 7) (ret := (some .int)) (by decide) rfl ?_
  intro p e s m args below meth c s₁ B hml hv
  obtain ⟨rfl, hsz, hP, hK, hD0, hN⟩ := hv
  have hx := B.exec
  have hb := B.bytes
  have hr := B.returns
  have hts := atoms_spec (ws := wsX6_tower) B.pre
  have hown : s.vm.findClass RX6 = some m.cls := findClass_of_methodNamed B.named
  have hlocks := B.notSynchronized
  subst hsz
  have hD := hD0.self (sz := s.heap.size)
  have hP : va_P D vwCl (caW ad cy g a w) s.heap := hP
  have hD : va_D (va_A (caW ad cy g a w) s.heap.size) (caW ad cy g a w) := hD
  have hS : va_S (va_A (caW ad cy g a w) s.heap.size) s.heap s.heap [] := va_S.rf
  have hA : ∀ q : Nat, s.heap.size ≤ q → va_A (caW ad cy g a w) s.heap.size q := fun q h => Or.inr h
  obtain ⟨J34, iJ34, oJ34⟩ : ∃ J : Int32 → Gs → As → Ws → Prop, (∀ (x5 : Int32) (g_ : Gs) (a_ : As) (w_ : Ws), (∀ (H : Heap) (locs : List Loc), va_P D vwCl (caW ad cy g_ a_ w_) H → va_S (va_A (caW ad cy g a w) s.heap.size) s.heap H locs → ∀ ls : Array Slot, lv_has ls 7 [(0, .ref (ad 0)), (1, .int p0), (2, .int p1), (3, .long p2), (5, .int x5)] → W p l e (headSpec wsX6_tower ({ frames := 4, cells := 0, slots := 0, locals := 103 } : Room)).room s m [.ref (ad 0), .int p0, .int p1, .long p2].toArray below meth c H locs 0 0 (MQ below (va_Qi (fun (r : Int32) (u : Gs × As × Ws) => post r u.1 u.2.1 u.2.2) (fun u t => va_P D vwCl (caW ad cy u.1 u.2.1 u.2.2) t.heap) (va_A (caW ad cy g a w) s.heap.size)) [.ref (ad 0), .int p0, .int p1, .long p2].toArray s 0 0 (va_A (caW ad cy g a w) s.heap.size)) (F0 m 34 ls [])) → J x5 g_ a_ w_) ∧ (∀ (x5 : Int32) (g_ : Gs) (a_ : As) (w_ : Ws), J x5 g_ a_ w_ → (∀ (H : Heap) (locs : List Loc), va_P D vwCl (caW ad cy g_ a_ w_) H → va_S (va_A (caW ad cy g a w) s.heap.size) s.heap H locs → ∀ ls : Array Slot, lv_has ls 7 [(0, .ref (ad 0)), (1, .int p0), (2, .int p1), (3, .long p2), (5, .int x5)] → W p l e (headSpec wsX6_tower ({ frames := 4, cells := 0, slots := 0, locals := 103 } : Room)).room s m [.ref (ad 0), .int p0, .int p1, .long p2].toArray below meth c H locs 0 0 (MQ below (va_Qi (fun (r : Int32) (u : Gs × As × Ws) => post r u.1 u.2.1 u.2.2) (fun u t => va_P D vwCl (caW ad cy u.1 u.2.1 u.2.2) t.heap) (va_A (caW ad cy g a w) s.heap.size)) [.ref (ad 0), .int p0, .int p1, .long p2].toArray s 0 0 (va_A (caW ad cy g a w) s.heap.size)) (F0 m 34 ls []))) := ⟨fun (x5 : Int32) (g_ : Gs) (a_ : As) (w_ : Ws) => (∀ (H : Heap) (locs : List Loc), va_P D vwCl (caW ad cy g_ a_ w_) H → va_S (va_A (caW ad cy g a w) s.heap.size) s.heap H locs → ∀ ls : Array Slot, lv_has ls 7 [(0, .ref (ad 0)), (1, .int p0), (2, .int p1), (3, .long p2), (5, .int x5)] → W p l e (headSpec wsX6_tower ({ frames := 4, cells := 0, slots := 0, locals := 103 } : Room)).room s m [.ref (ad 0), .int p0, .int p1, .long p2].toArray below meth c H locs 0 0 (MQ below (va_Qi (fun (r : Int32) (u : Gs × As × Ws) => post r u.1 u.2.1 u.2.2) (fun u t => va_P D vwCl (caW ad cy u.1 u.2.1 u.2.2) t.heap) (va_A (caW ad cy g a w) s.heap.size)) [.ref (ad 0), .int p0, .int p1, .long p2].toArray s 0 0 (va_A (caW ad cy g a w) s.heap.size)) (F0 m 34 ls [])), fun _ _ _ _ h => h, fun _ _ _ _ h => h⟩
  have hV := hV J34
  replace hV := hV (by
    intro x5 g_ a_ w_ hV
    refine iJ34 x5 g_ a_ w_ ?_
    intro H locs hP hS ls hl
    refine lv_iload hx hb dX6_tower_34 (lv_at hl 4 rfl) ?_
    refine lv_iload_n hx hb dX6_tower_36 rfl (lv_at hl 2 rfl) ?_
    refine lv_icmp_ge (tgt := 71) hx hb dX6_tower_37 (by decide) (fun c_37 => ?_) (fun c_37 => ?_)
    · have hV := hV.1 c_37
      refine lv_aload_n hx hb dX6_tower_71 rfl (lv_at hl 0 rfl) ?_
      refine lv_iload_n hx hb dX6_tower_72 rfl (lv_at hl 2 rfl) ?_
      refine lv_lload_n hx hb dX6_tower_73 rfl (lv_at hl 3 rfl) ?_
      refine lv_iload_n hx hb dX6_tower_74 rfl (lv_at hl 1 rfl) ?_
      obtain ⟨h_75, hV⟩ := hV
      refine cw_i (va_runV (As := [.int p1, .long p2, .int p0]) (rest := []) ⟨hx, hb, hml, hown, hts⟩ (spec_X6_towerRest l D cy ad _ g_ a_ w_ p1 p2 p0 h_75) (cwV 3 hts gX6_tower_X6_towerRest rfl rfl rfl (by decide +kernel) ⟨Nat.le_of_ble_eq_true rfl, Nat.le_of_ble_eq_true rfl⟩) (ar_preV hN hK hP (caD hD) (ci := 5) (q0 := 0) rfl rfl) rfl rfl hl.1 rfl (lv_room (Nat.le_of_ble_eq_true rfl)) dX6_tower_75 ⟨Nat.zero_le _, Nat.zero_le _⟩) hS (caD hD) hA (fun r75 u_75 H locs q_75 hP hS => ?_)
      obtain ⟨g75, a75, w75⟩ := u_75
      have hV := hV r75 g75 a75 w75 q_75
      have hP : va_P D vwCl (caW ad cy g75 a75 w75) H := hP
      exact W.iret (v := r75) hx hb hr (fun t ht hW => ⟨⟨_, (g75, a75, w75), rfl, hV, ar_heap ht hP⟩, hS.F ht⟩) hS.2.2 dX6_tower_78
    · have hV := hV.2 c_37
      refine lv_iload hx hb dX6_tower_40 (lv_at hl 4 rfl) ?_
      refine lv_iload_n hx hb dX6_tower_42 rfl (lv_at hl 2 rfl) ?_
      refine lv_lload_n hx hb dX6_tower_43 rfl (lv_at hl 3 rfl) ?_
      obtain ⟨h_44, hV⟩ := hV
      refine cp_i (va_runS (As := [.int x5, .int p1, .long p2]) (rest := []) ⟨hx, hb, hml, hown, hts⟩ (spec_X6_towerNumber l x5 p1 p2 h_44) (va_cwS 3 hts gX6_tower_X6_towerNumber rfl rfl rfl (by decide +kernel) ⟨Nat.le_of_ble_eq_true rfl, Nat.le_of_ble_eq_true rfl⟩) cp_pre rfl rfl hl.1 rfl (lv_room (Nat.le_of_ble_eq_true rfl)) dX6_tower_44 ⟨Nat.zero_le _, Nat.zero_le _⟩) (fun r44 q_44 => ?_)
      have hV := hV r44 q_44
      refine lv_istore (lv' := [(6, .int r44), (0, .ref (ad 0)), (1, .int p0), (2, .int p1), (3, .long p2), (5, .int x5)]) hx hb dX6_tower_47 hl (by decide) rfl (fun ls hl => ?_)
      refine lv_iload hx hb dX6_tower_49 (lv_at hl 0 rfl) ?_
      refine lv_iconst (v := (1 : Int32)) hx hb dX6_tower_51 (by decide) ?_
      refine lv_icmp_lt (tgt := 63) hx hb dX6_tower_52 (by decide) (fun c_52 => ?_) (fun c_52 => ?_)
      · have hV := hV.1 c_52
        refine lv_iconst (v := (-1 : Int32)) hx hb dX6_tower_63 (by decide) ?_
        exact W.iret (v := (-1 : Int32)) hx hb hr (fun t ht hW => ⟨⟨_, (g_, a_, w_), rfl, hV, ar_heap ht hP⟩, hS.F ht⟩) hS.2.2 dX6_tower_64
      · have hV := hV.2 c_52
        refine lv_iload hx hb dX6_tower_55 (lv_at hl 0 rfl) ?_
        refine lv_sipush (v := (1000 : Int32)) hx hb dX6_tower_57 (by decide) ?_
        refine lv_icmp_le (tgt := 65) hx hb dX6_tower_60 (by decide) (fun c_60 => ?_) (fun c_60 => ?_)
        · have hV := hV.1 c_60
          refine lv_iinc (v := x5 + 1) (lv' := [(5, .int (x5 + 1)), (6, .int r44), (0, .ref (ad 0)), (1, .int p0), (2, .int p1), (3, .long p2)]) hx hb dX6_tower_65 hl (k := 5) rfl rfl (by decide) rfl (fun ls hl => ?_)
          refine lv_goto (tgt := 34) hx hb dX6_tower_68 (by decide) ?_
          exact oJ34 _ _ _ _ hV _ _ hP hS _ (lv_sub hl [2, 3, 4, 5, 0] rfl)
        · have hV := hV.2 c_60
          refine lv_iconst (v := (-1 : Int32)) hx hb dX6_tower_63 (by decide) ?_
          exact W.iret (v := (-1 : Int32)) hx hb hr (fun t ht hW => ⟨⟨_, (g_, a_, w_), rfl, hV, ar_heap ht hP⟩, hS.F ht⟩) hS.2.2 dX6_tower_64)
  have hl := lv_entry ([.ref (ad 0), .int p0, .int p1, .long p2]) (n := 7) (Nat.le_of_ble_eq_true rfl)
  rw [lg_entry_eq]
  generalize (lg_sl ([.ref (ad 0), .int p0, .int p1, .long p2]) ++ List.replicate (7 - (lg_sl ([.ref (ad 0), .int p0, .int p1, .long p2])).length) Slot.unset).toArray = ls at hl ⊢
  have hl : lv_has ls 7 [(0, .ref (ad 0)), (1, .int p0), (2, .int p1), (3, .long p2)] := hl
  refine lv_iload_n hx hb dX6_tower_0 rfl (lv_at hl 1 rfl) ?_
  refine cp_i (va_runS (As := [.int p0]) (rest := []) ⟨hx, hb, hml, hown, hts⟩ (spec_X6_isDivisor l p0) (va_cwS 1 hts gX6_tower_X6_isDivisor rfl rfl rfl (by decide +kernel) ⟨Nat.le_of_ble_eq_true rfl, Nat.le_of_ble_eq_true rfl⟩) cp_pre rfl rfl hl.1 rfl (lv_room (Nat.le_of_ble_eq_true rfl)) dX6_tower_1 ⟨Nat.zero_le _, Nat.zero_le _⟩) (fun r1 q_1 => ?_)
  have hV := hV r1 q_1
  refine lv_if_eq (tgt := 29) hx hb dX6_tower_4 (by decide) (fun c_4 => ?_) (fun c_4 => ?_)
  · have hV := hV.1 c_4
    refine lv_iconst (v := (-1 : Int32)) hx hb dX6_tower_29 (by decide) ?_
    exact W.iret (v := (-1 : Int32)) hx hb hr (fun t ht hW => ⟨⟨_, (g, a, w), rfl, hV, ar_heap ht hP⟩, hS.F ht⟩) hS.2.2 dX6_tower_30
  · have hV := hV.2 c_4
    refine lv_iload_n hx hb dX6_tower_7 rfl (lv_at hl 2 rfl) ?_
    refine lv_iconst (v := (1 : Int32)) hx hb dX6_tower_8 (by decide) ?_
    refine lv_icmp_lt (tgt := 29) hx hb dX6_tower_9 (by decide) (fun c_9 => ?_) (fun c_9 => ?_)
    · have hV := hV.1 c_9
      refine lv_iconst (v := (-1 : Int32)) hx hb dX6_tower_29 (by decide) ?_
      exact W.iret (v := (-1 : Int32)) hx hb hr (fun t ht hW => ⟨⟨_, (g, a, w), rfl, hV, ar_heap ht hP⟩, hS.F ht⟩) hS.2.2 dX6_tower_30
    · have hV := hV.2 c_9
      refine lv_iload_n hx hb dX6_tower_12 rfl (lv_at hl 2 rfl) ?_
      refine lv_bipush (v := (6 : Int32)) hx hb dX6_tower_13 (by decide) ?_
      refine lv_icmp_gt (tgt := 29) hx hb dX6_tower_15 (by decide) (fun c_15 => ?_) (fun c_15 => ?_)
      · have hV := hV.1 c_15
        refine lv_iconst (v := (-1 : Int32)) hx hb dX6_tower_29 (by decide) ?_
        exact W.iret (v := (-1 : Int32)) hx hb hr (fun t ht hW => ⟨⟨_, (g, a, w), rfl, hV, ar_heap ht hP⟩, hS.F ht⟩) hS.2.2 dX6_tower_30
      · have hV := hV.2 c_15
        refine lv_lload_n hx hb dX6_tower_18 rfl (lv_at hl 3 rfl) ?_
        refine lv_bipush (v := (10 : Int32)) hx hb dX6_tower_19 (by decide) ?_
        refine lv_iload_n hx hb dX6_tower_21 rfl (lv_at hl 2 rfl) ?_
        refine lv_imul hx hb dX6_tower_22 ?_
        refine lv_lushr (v := (p2.toUInt64 >>> (((10 : Int32) * p1).toInt64.toUInt64 &&& Int64.toUInt64 63)).toInt64) hx hb dX6_tower_23 rfl ?_
        refine lv_lconst (v := (0 : Int64)) hx hb dX6_tower_24 (by decide) ?_
        refine lc_eq (tgt := 31) hx hb dX6_tower_25 dX6_tower_26 (by decide) (fun c_25 => ?_) (fun c_25 => ?_)
        · have hV := hV.1 c_25
          refine lv_iconst (v := (0 : Int32)) hx hb dX6_tower_31 (by decide) ?_
          refine lv_istore (lv' := [(5, .int (0 : Int32)), (0, .ref (ad 0)), (1, .int p0), (2, .int p1), (3, .long p2)]) hx hb dX6_tower_32 hl (by decide) rfl (fun ls hl => ?_)
          exact oJ34 _ _ _ _ hV _ _ hP hS _ (lv_sub hl [1, 2, 3, 4, 0] rfl)
        · have hV := hV.2 c_25
          refine lv_iconst (v := (-1 : Int32)) hx hb dX6_tower_29 (by decide) ?_
          exact W.iret (v := (-1 : Int32)) hx hb hr (fun t ht hW => ⟨⟨_, (g, a, w), rfl, hV, ar_heap ht hP⟩, hS.F ht⟩) hS.2.2 dX6_tower_30
def post_X6_tower (g : Gs) (a : As) (w : Ws) (p0 p1 : Int32) (p2 : Int64) (r : Int32) (g' : Gs) (a' : As) (w' : Ws) : Prop := TowAns p0 p1 p2 r ∧ TS g a w g' a' w'
set_option maxRecDepth 4000 in
theorem spec_X6_tower (l : Launch) (D : va_G) (cy : Nat → ClassId) (ad : Nat → Nat) (sz : Nat) (g : Gs) (a : As) (w : Ws) (p0 : Int32) (p1 : Int32) (p2 : Int64) : Met l yX6_tower wsX6_tower ({ frames := 4, cells := 0, slots := 0, locals := 103 } : Room) (va_Pc [.ref (ad 0), .int p0, .int p1, .long p2] (ArP D cy sz (caW ad cy g a w))) (va_Qi (fun (r : Int32) (u : Gs × As × Ws) => (post_X6_tower g a w p0 p1 p2) r u.1 u.2.1 u.2.2) (fun u t => va_P D vwCl (caW ad cy u.1 u.2.1 u.2.2) t.heap) (va_A (caW ad cy g a w) sz)) 0 0 (va_A (caW ad cy g a w) sz) := by
  apply met_X6_tower
  intro J hJ r hr
  unfold post_X6_isDivisor at hr
  subst hr
  have e1 : (1 : Int32).toInt = 1 := rfl
  have e6 : (6 : Int32).toInt = 6 := rfl
  have no : ¬ TowB p0 p1 p2 → post_X6_tower g a w p0 p1 p2 (-1) g a w := fun h => ⟨Or.inl ⟨h, rfl⟩, TS.rf⟩
  refine ⟨fun h => no (fun q => zb_0 h q.1), fun h => ⟨fun h2 => no (fun q => ?_), fun h2 => ⟨fun h3 => no (fun q => ?_), fun h3 => ?_⟩⟩⟩
  · rw [i_lt, e1] at h2; have := q.2.1; omega
  · rw [i_lt, e6] at h3; have := q.2.1; omega
  have hdv : Dv p0 := zb_1 h
  rw [i_lt, e1] at h2
  rw [i_lt, e6] at h3
  obtain ⟨d1, d2⟩ := id hdv
  obtain ⟨k, hk, rfl, hk2⟩ := of_i (x := p1) (by omega)
  have e10 : (10 : Int32) * nI k = nI (10 * k) := pk_mul 10 k
  obtain ⟨v, hv, rfl⟩ := wb_of p2
  rw [e10, wb_shr hv (by omega)]
  have hvd : v / 2 ^ (10 * k) < 2 ^ 63 := by
    have h10 : 2 ^ 10 ≤ 2 ^ (10 * k) := Nat.pow_le_pow_right (by decide) (by omega)
    have : v / 2 ^ (10 * k) ≤ v / 2 ^ 10 := Nat.div_le_div_left h10 (by decide)
    omega
  refine ql_eq (v / 2 ^ (10 * k)) 0 (fun q => ?_) (fun q => no (fun z => ?_)) rfl rfl hvd (by decide)
  · have hv1 : v < 2 ^ (10 * k) := by
      rcases Nat.div_eq_zero_iff.mp q with h | h
      · have := Nat.two_pow_pos (10 * k); omega
      · exact h
    have hv2 : v < 2 ^ 63 := by
      have h60 : 2 ^ (10 * k) ≤ 2 ^ 60 := Nat.pow_le_pow_right (by decide) (by omega)
      omega
    have hvi : (lN v).toInt = v := pk_lT hv2
    have key : ∀ (d i : Nat), i + d = k → (∀ j, j < i → 1 ≤ twc k v j ∧ twc k v j ≤ 1000) → J (nI i) g a w := by
      intro d
      induction d with
      | zero =>
        intro i hi hj
        have : i = k := by omega
        subst this
        refine hJ _ _ _ _ (pk_le i i (fun _ => ⟨⟨by omega, by omega, by omega, by omega, by omega, fun j hj2 => ?_⟩, fun r75 g2 a2 w2 hr => ⟨Or.inr ⟨⟨hdv, ⟨by omega, by omega⟩, ⟨by omega, ?_⟩, fun j hj2 => ?_⟩, hr.1⟩, hr.2⟩⟩) (fun h => absurd h (by omega)))
        · rw [tn_nI hk] at hj2 ⊢; rw [tl_lN hv2]; exact (hj j hj2).1
        · rw [tl_lN hv2, tn_nI hk]; exact hv1
        · rw [tn_nI hk] at hj2 ⊢; rw [tl_lN hv2]; exact hj j hj2
      | succ d ih =>
        intro i hi hj
        refine hJ _ _ _ _ (pk_le k i (fun h => absurd h (by omega)) (fun _ => ⟨⟨by rw [nI_toInt (by omega)]; omega, by rw [nI_toInt (by omega)]; omega, by omega, by omega⟩, fun r44 hr => ?_⟩))
        unfold post_X6_towerNumber at hr
        rw [tn_nI hk, tl_lN hv2, tn_nI (by omega)] at hr
        subst hr
        have hcb := twc_lt k v i
        have bad : ¬ (1 ≤ twc k v i ∧ twc k v i ≤ 1000) → ¬ TowB p0 (nI k) (lN v) := fun h z => by
          have := z.2.2.2 i (by rw [tn_nI hk]; omega)
          rw [tn_nI hk, tl_lN hv2] at this
          exact h this
        refine pk_lt (twc k v i) 1 (fun h => no (bad (by omega))) (fun h => pk_le (twc k v i) 1000 (fun h2 => ?_) (fun h2 => no (bad (by omega))))
        rw [nI_1]
        refine ih (i + 1) (by omega) (fun j hj2 => ?_)
        by_cases hji : j = i
        · rw [hji]; exact ⟨h, h2⟩
        · exact hj j (by omega)
    exact key k 0 (by omega) (fun j hj => by omega)
  · obtain ⟨z1, z2⟩ := z.2.2.1
    apply q
    have hv2 : v < 2 ^ 63 := by
      apply Classical.byContradiction
      intro hc
      have := uN_int (lN v)
      have e : uN (lN v) = v := wb_tn hv
      rw [e, if_neg (by omega)] at this
      omega
    rw [tl_lN hv2, tn_nI hk] at z2
    exact Nat.div_eq_of_lt z2
def pre_X7_share (p0 : Int32) : Prop := 1 ≤ p0.toInt ∧ p0.toInt ≤ 50001
set_option maxHeartbeats 4000000 in
set_option maxRecDepth 100000 in
theorem met_X7_share (l : Launch) (p0 : Int32) (post : Int32 → Prop)
  (hV : ∀ (J6 : Int32 → Int32 → Int32 → Prop) (J27 : Int32 → Int32 → Int32 → Prop),
    (∀ (x1 : Int32) (x2 : Int32) (x3 : Int32), ((x2 < (x3 * x3) → ((x2 ≤ (1 : Int32) → post x1) ∧ (¬ x2 ≤ (1 : Int32) → ¬ x2 = 0 ∧ (post ((x1 / x2) * (x2 - (1 : Int32))))))) ∧ (¬ x2 < (x3 * x3) → ¬ x3 = 0 ∧ ((((x2 - x2 / x3 * x3) = 0 → J27 ((x1 / x3) * (x3 - (1 : Int32))) x2 x3) ∧ (¬ (x2 - x2 / x3 * x3) = 0 → J6 x1 x2 (x3 + 1)))))) → J6 x1 x2 x3) →
    (∀ (x1 : Int32) (x2 : Int32) (x3 : Int32), ¬ x3 = 0 ∧ ((((x2 - x2 / x3 * x3) = 0 → J27 x1 (x2 / x3) x3) ∧ (¬ (x2 - x2 / x3 * x3) = 0 → J6 x1 x2 (x3 + 1)))) → J27 x1 x2 x3) →
    J6 p0 p0 (2 : Int32)) :
  Met l yX7_share wsX7_share ({ frames := 0, cells := 0, slots := 0, locals := 0 } : Room) (va_Pc [.int p0] (fun _ => True)) (Qpi post) 0 0 noF := by
  refine Met.ofW (cc := cX7_share) (maxL := 4) (ret := (some .int)) (by decide) rfl ?_
  intro p e s m args below meth c s₁ B hml hv
  obtain ⟨rfl, -⟩ := hv
  have hx := B.exec
  have hb := B.bytes
  have hr := B.returns
  have hts := atoms_spec (ws := wsX7_share) B.pre
  have hown : s.vm.findClass RX7 = some m.cls := findClass_of_methodNamed B.named
  have hlocks := B.notSynchronized
  obtain ⟨J6, iJ6, oJ6⟩ : ∃ J : Int32 → Int32 → Int32 → Prop, (∀ (x1 : Int32) (x2 : Int32) (x3 : Int32), (∀ ls : Array Slot, lv_has ls 4 [(1, .int x1), (2, .int x2), (3, .int x3)] → W p l e (headSpec wsX7_share ({ frames := 0, cells := 0, slots := 0, locals := 0 } : Room)).room s m [.int p0].toArray below meth c s.heap [] 0 0 (MQ below (Qpi post) [.int p0].toArray s 0 0 noF) (F0 m 6 ls [])) → J x1 x2 x3) ∧ (∀ (x1 : Int32) (x2 : Int32) (x3 : Int32), J x1 x2 x3 → (∀ ls : Array Slot, lv_has ls 4 [(1, .int x1), (2, .int x2), (3, .int x3)] → W p l e (headSpec wsX7_share ({ frames := 0, cells := 0, slots := 0, locals := 0 } : Room)).room s m [.int p0].toArray below meth c s.heap [] 0 0 (MQ below (Qpi post) [.int p0].toArray s 0 0 noF) (F0 m 6 ls []))) := ⟨fun (x1 : Int32) (x2 : Int32) (x3 : Int32) => (∀ ls : Array Slot, lv_has ls 4 [(1, .int x1), (2, .int x2), (3, .int x3)] → W p l e (headSpec wsX7_share ({ frames := 0, cells := 0, slots := 0, locals := 0 } : Room)).room s m [.int p0].toArray below meth c s.heap [] 0 0 (MQ below (Qpi post) [.int p0].toArray s 0 0 noF) (F0 m 6 ls [])), fun _ _ _ h => h, fun _ _ _ h => h⟩
  obtain ⟨J27, iJ27, oJ27⟩ : ∃ J : Int32 → Int32 → Int32 → Prop, (∀ (x1 : Int32) (x2 : Int32) (x3 : Int32), (∀ ls : Array Slot, lv_has ls 4 [(1, .int x1), (2, .int x2), (3, .int x3)] → W p l e (headSpec wsX7_share ({ frames := 0, cells := 0, slots := 0, locals := 0 } : Room)).room s m [.int p0].toArray below meth c s.heap [] 0 0 (MQ below (Qpi post) [.int p0].toArray s 0 0 noF) (F0 m 27 ls [])) → J x1 x2 x3) ∧ (∀ (x1 : Int32) (x2 : Int32) (x3 : Int32), J x1 x2 x3 → (∀ ls : Array Slot, lv_has ls 4 [(1, .int x1), (2, .int x2), (3, .int x3)] → W p l e (headSpec wsX7_share ({ frames := 0, cells := 0, slots := 0, locals := 0 } : Room)).room s m [.int p0].toArray below meth c s.heap [] 0 0 (MQ below (Qpi post) [.int p0].toArray s 0 0 noF) (F0 m 27 ls []))) := ⟨fun (x1 : Int32) (x2 : Int32) (x3 : Int32) => (∀ ls : Array Slot, lv_has ls 4 [(1, .int x1), (2, .int x2), (3, .int x3)] → W p l e (headSpec wsX7_share ({ frames := 0, cells := 0, slots := 0, locals := 0 } : Room)).room s m [.int p0].toArray below meth c s.heap [] 0 0 (MQ below (Qpi post) [.int p0].toArray s 0 0 noF) (F0 m 27 ls [])), fun _ _ _ h => h, fun _ _ _ h => h⟩
  have hV := hV J6 J27
  replace hV := hV (by
    intro x1 x2 x3 hV
    refine iJ6 x1 x2 x3 ?_
    intro ls hl
    refine lv_iload_n hx hb dX7_share_6 rfl (lv_at hl 2 rfl) ?_
    refine lv_iload_n hx hb dX7_share_7 rfl (lv_at hl 2 rfl) ?_
    refine lv_imul hx hb dX7_share_8 ?_
    refine lv_iload_n hx hb dX7_share_9 rfl (lv_at hl 1 rfl) ?_
    refine lv_icmp_gt (tgt := 46) hx hb dX7_share_10 (by decide) (fun c_10 => ?_) (fun c_10 => ?_)
    · have hV := hV.1 c_10
      refine lv_iload_n hx hb dX7_share_46 rfl (lv_at hl 1 rfl) ?_
      refine lv_iconst (v := (1 : Int32)) hx hb dX7_share_47 (by decide) ?_
      refine lv_icmp_le (tgt := 61) hx hb dX7_share_48 (by decide) (fun c_48 => ?_) (fun c_48 => ?_)
      · have hV := hV.1 c_48
        refine lv_iload_n hx hb dX7_share_61 rfl (lv_at hl 0 rfl) ?_
        exact W.iret (v := x1) hx hb hr (fun t ht hW => ⟨_, rfl, hV, ht⟩) (fun _ h => by cases h) dX7_share_62
      · have hV := hV.2 c_48
        refine lv_iload_n hx hb dX7_share_51 rfl (lv_at hl 0 rfl) ?_
        refine lv_iload_n hx hb dX7_share_52 rfl (lv_at hl 1 rfl) ?_
        obtain ⟨h_53, hV⟩ := hV
        refine lv_idiv hx hb dX7_share_53 h_53 ?_
        refine lv_iload_n hx hb dX7_share_54 rfl (lv_at hl 1 rfl) ?_
        refine lv_iconst (v := (1 : Int32)) hx hb dX7_share_55 (by decide) ?_
        refine lv_isub hx hb dX7_share_56 ?_
        refine lv_imul hx hb dX7_share_57 ?_
        refine lv_goto (tgt := 62) hx hb dX7_share_58 (by decide) ?_
        exact W.iret (v := (x1 / x2) * (x2 - (1 : Int32))) hx hb hr (fun t ht hW => ⟨_, rfl, hV, ht⟩) (fun _ h => by cases h) dX7_share_62
    · have hV := hV.2 c_10
      refine lv_iload_n hx hb dX7_share_13 rfl (lv_at hl 1 rfl) ?_
      refine lv_iload_n hx hb dX7_share_14 rfl (lv_at hl 2 rfl) ?_
      obtain ⟨h_15, hV⟩ := hV
      refine lv_irem hx hb dX7_share_15 h_15 ?_
      refine lv_if_ne (tgt := 40) hx hb dX7_share_16 (by decide) (fun c_16 => ?_) (fun c_16 => ?_)
      · have hV := hV.2 c_16
        refine lv_iinc (v := x3 + 1) (lv' := [(3, .int (x3 + 1)), (1, .int x1), (2, .int x2)]) hx hb dX7_share_40 hl (k := 2) rfl rfl (by decide) rfl (fun ls hl => ?_)
        refine lv_goto (tgt := 6) hx hb dX7_share_43 (by decide) ?_
        exact oJ6 _ _ _ hV _ (lv_sub hl [1, 2, 0] rfl)
      · have hV := hV.1 c_16
        refine lv_iload_n hx hb dX7_share_19 rfl (lv_at hl 0 rfl) ?_
        refine lv_iload_n hx hb dX7_share_20 rfl (lv_at hl 2 rfl) ?_
        refine lv_idiv hx hb dX7_share_21 h_15 ?_
        refine lv_iload_n hx hb dX7_share_22 rfl (lv_at hl 2 rfl) ?_
        refine lv_iconst (v := (1 : Int32)) hx hb dX7_share_23 (by decide) ?_
        refine lv_isub hx hb dX7_share_24 ?_
        refine lv_imul hx hb dX7_share_25 ?_
        refine lv_istore_n (lv' := [(1, .int ((x1 / x3) * (x3 - (1 : Int32)))), (2, .int x2), (3, .int x3)]) hx hb dX7_share_26 rfl hl (by decide) rfl (fun ls hl => ?_)
        exact oJ27 _ _ _ hV _ (lv_sub hl [0, 1, 2] rfl))
  replace hV := hV (by
    intro x1 x2 x3 hV
    refine iJ27 x1 x2 x3 ?_
    intro ls hl
    refine lv_iload_n hx hb dX7_share_27 rfl (lv_at hl 1 rfl) ?_
    refine lv_iload_n hx hb dX7_share_28 rfl (lv_at hl 2 rfl) ?_
    obtain ⟨h_29, hV⟩ := hV
    refine lv_irem hx hb dX7_share_29 h_29 ?_
    refine lv_if_ne (tgt := 40) hx hb dX7_share_30 (by decide) (fun c_30 => ?_) (fun c_30 => ?_)
    · have hV := hV.2 c_30
      refine lv_iinc (v := x3 + 1) (lv' := [(3, .int (x3 + 1)), (1, .int x1), (2, .int x2)]) hx hb dX7_share_40 hl (k := 2) rfl rfl (by decide) rfl (fun ls hl => ?_)
      refine lv_goto (tgt := 6) hx hb dX7_share_43 (by decide) ?_
      exact oJ6 _ _ _ hV _ (lv_sub hl [1, 2, 0] rfl)
    · have hV := hV.1 c_30
      refine lv_iload_n hx hb dX7_share_33 rfl (lv_at hl 1 rfl) ?_
      refine lv_iload_n hx hb dX7_share_34 rfl (lv_at hl 2 rfl) ?_
      refine lv_idiv hx hb dX7_share_35 h_29 ?_
      refine lv_istore_n (lv' := [(2, .int (x2 / x3)), (1, .int x1), (3, .int x3)]) hx hb dX7_share_36 rfl hl (by decide) rfl (fun ls hl => ?_)
      refine lv_goto (tgt := 27) hx hb dX7_share_37 (by decide) ?_
      exact oJ27 _ _ _ hV _ (lv_sub hl [1, 0, 2] rfl))
  have hl := lv_entry ([.int p0]) (n := 4) (Nat.le_of_ble_eq_true rfl)
  rw [lg_entry_eq]
  generalize (lg_sl ([.int p0]) ++ List.replicate (4 - (lg_sl ([.int p0])).length) Slot.unset).toArray = ls at hl ⊢
  have hl : lv_has ls 4 [(0, .int p0)] := hl
  refine lv_iload_n hx hb dX7_share_0 rfl (lv_at hl 0 rfl) ?_
  refine lv_istore_n (lv' := [(1, .int p0), (0, .int p0)]) hx hb dX7_share_1 rfl hl (by decide) rfl (fun ls hl => ?_)
  refine lv_iload_n hx hb dX7_share_2 rfl (lv_at hl 1 rfl) ?_
  refine lv_istore_n (lv' := [(2, .int p0), (1, .int p0), (0, .int p0)]) hx hb dX7_share_3 rfl hl (by decide) rfl (fun ls hl => ?_)
  refine lv_iconst (v := (2 : Int32)) hx hb dX7_share_4 (by decide) ?_
  refine lv_istore_n (lv' := [(3, .int (2 : Int32)), (2, .int p0), (1, .int p0), (0, .int p0)]) hx hb dX7_share_5 rfl hl (by decide) rfl (fun ls hl => ?_)
  exact oJ6 _ _ _ hV _ (lv_sub hl [2, 1, 0] rfl)
def post_X7_share (p0 r : Int32) : Prop := r = nI (U (tn p0))
set_option maxRecDepth 4000 in
theorem spec_X7_share (l : Launch) (p0 : Int32) (hpre : pre_X7_share p0) : Met l yX7_share wsX7_share ({ frames := 0, cells := 0, slots := 0, locals := 0 } : Room) (va_Pc [.int p0] (fun _ => True)) (Qpi (post_X7_share p0)) 0 0 noF := by
  apply met_X7_share
  intro J6 J27 h6 h27
  obtain ⟨h0, h1⟩ := hpre
  obtain ⟨n, hn, rfl, hn2⟩ := of_i (x := p0) (by omega)
  have good : ∀ r, r = nI (U n) → post_X7_share (nI n) r := fun r h => by unfold post_X7_share; rw [tn_nI hn]; exact h
  have sizes : ∀ A L, 1 ≤ L → n = A * L → 1 ≤ A ∧ L ≤ n ∧ U A * L ≤ n := fun A L hL e => by
    have hA : 1 ≤ A := Nat.pos_of_ne_zero (fun z => by rw [z, Nat.zero_mul] at e; omega)
    refine ⟨hA, by rw [e]; exact Nat.le_mul_of_pos_left L hA, by rw [e]; exact Nat.mul_le_mul_right L (U_le A)⟩
  have key : ∀ (d k A L : Nat), k + d = 1000 → 2 ≤ k → 1 ≤ L → n = A * L → Nat.Coprime A L → (∀ p, 2 ≤ p → p < k → ¬ p ∣ L) → J6 (nI (U A * L)) (nI L) (nI k) := by
    intro d
    induction d with
    | zero =>
      intro k A L hk hk2 hL e hc hp
      obtain ⟨hA, hLn, hUL⟩ := sizes A L hL e
      have hk1 : k = 1000 := by omega
      subst hk1
      refine h6 _ _ _ (pk_lt L 1000000 (fun hlt => pk_le L 1 (fun hl1 => good _ ?_) (fun hl1 => ⟨nI_nz (by omega) (by omega), good _ ?_⟩)) (fun h => absurd h (by omega)) rfl (pk_mul 1000 1000))
      · have : L = 1 := by omega
        subst this
        rw [e, Nat.mul_one, Nat.mul_one]
      · have hpr : Pr L := pr_trial (by omega) (fun p h2 h3 => hp p h2 (Classical.byContradiction (fun hh => by
          have := Nat.mul_le_mul (show 1000 ≤ p by omega) (show 1000 ≤ p by omega)
          omega)))
        rw [pk_div (by omega) (by omega) (by omega), Nat.mul_div_cancel _ (by omega), show nI L - (1 : Int32) = nI (L - 1) from pk_sub (b := 1) (by omega), pk_mul, e, U_mul hc (by omega) (by omega)]
        have := U_pp (t := 1) hpr (Nat.le_refl 1)
        rw [Nat.pow_one, Nat.sub_self, Nat.pow_zero, Nat.one_mul] at this
        rw [this]
    | succ d ih =>
      intro k A L hk hk2 hL e hc hp
      obtain ⟨hA, hLn, hUL⟩ := sizes A L hL e
      have hkk : k * k ≤ 1000 * 1000 := Nat.mul_le_mul (by omega) (by omega)
      refine h6 _ _ _ (pk_lt L (k * k) (fun hlt => pk_le L 1 (fun hl1 => good _ ?_) (fun hl1 => ⟨nI_nz (by omega) (by omega), good _ ?_⟩)) (fun hge => ⟨nI_nz (by omega) (by omega), ?_⟩) rfl (pk_mul k k))
      · have : L = 1 := by omega
        subst this
        rw [e, Nat.mul_one, Nat.mul_one]
      · have hpr : Pr L := pr_trial (by omega) (fun p h2 h3 => hp p h2 (Classical.byContradiction (fun hh => by
          have := Nat.mul_le_mul (show k ≤ p by omega) (show k ≤ p by omega)
          omega)))
        rw [pk_div (by omega) (by omega) (by omega), Nat.mul_div_cancel _ (by omega), show nI L - (1 : Int32) = nI (L - 1) from pk_sub (b := 1) (by omega), pk_mul, e, U_mul hc (by omega) (by omega)]
        have := U_pp (t := 1) hpr (Nat.le_refl 1)
        rw [Nat.pow_one, Nat.sub_self, Nat.pow_zero, Nat.one_mul] at this
        rw [this]
      · rw [pk_rem (by omega) (by omega) (by omega)]
        refine pk_eq (L % k) 0 (fun q => ?_) (fun q => ?_) rfl rfl (by have := Nat.mod_lt L (show 0 < k by omega); omega) (by omega)
        · have hkL : k ∣ L := Nat.dvd_of_mod_eq_zero q
          have hpr : Pr k := ⟨hk2, fun x hx => by
            have hxk := Nat.le_of_dvd (by omega) hx
            have hx0 : x ≠ 0 := fun z => by rw [z] at hx; have := Nat.eq_zero_of_zero_dvd hx; omega
            by_cases hx1 : x = 1
            · exact Or.inl hx1
            · by_cases hx2 : x = k
              · exact Or.inr hx2
              · exact absurd (Nat.dvd_trans hx hkL) (hp x (by omega) (by omega))⟩
          obtain ⟨t, Q, eL, hQ⟩ := pp_ex hk2 L L hL (Nat.le_refl L)
          have hQ1 : 1 ≤ Q := Nat.pos_of_ne_zero (fun z => hQ (by rw [z]; exact Nat.dvd_zero k))
          have ht : 1 ≤ t := Nat.pos_of_ne_zero (fun z => hQ (by rw [z, Nat.pow_zero, Nat.one_mul] at eL; rw [← eL]; exact hkL))
          have hkt : 0 < k ^ t := Nat.pow_pos (by omega)
          have hAt : Nat.Coprime A (k ^ t) := Nat.Coprime.coprime_dvd_right ⟨Q, eL⟩ hc
          have hAQ : Nat.Coprime A Q := Nat.Coprime.coprime_dvd_right ⟨k ^ t, by rw [Nat.mul_comm]; exact eL⟩ hc
          have hall : nI (U A * L) / nI k * (nI k - 1) = nI (U (A * k ^ t) * Q) := by
            rw [pk_div (by omega) (by omega) (by omega), show nI k - (1 : Int32) = nI (k - 1) from pk_sub (b := 1) (by omega), pk_mul, U_mul hAt hA hkt, U_pp hpr ht]
            congr 1
            obtain ⟨s, rfl⟩ : ∃ s, t = s + 1 := ⟨t - 1, by omega⟩
            rw [Nat.add_sub_cancel]
            have : U A * L = k * (U A * k ^ s * Q) := by
              rw [eL, Nat.pow_succ]; ac_rfl
            rw [this, Nat.mul_div_cancel_left _ (by omega)]
            ac_rfl
          rw [hall]
          have inner : ∀ s, s ≤ t → J27 (nI (U (A * k ^ t) * Q)) (nI (k ^ s * Q)) (nI k) := by
            intro s
            have hb : ∀ s, s ≤ t → k ^ s * Q ≤ L ∧ 1 ≤ k ^ s * Q := fun s hs => ⟨by rw [eL]; exact Nat.mul_le_mul_right Q (Nat.pow_le_pow_right (by omega) hs), Nat.mul_pos (Nat.pow_pos (by omega)) hQ1⟩
            induction s with
            | zero =>
              intro hs
              rw [Nat.pow_zero, Nat.one_mul]
              have := hb 0 hs
              rw [Nat.pow_zero, Nat.one_mul] at this
              refine h27 _ _ _ ⟨nI_nz (by omega) (by omega), ?_⟩
              rw [pk_rem (by omega) (by omega) (by omega)]
              refine pk_eq (Q % k) 0 (fun z => absurd (Nat.dvd_of_mod_eq_zero z) hQ) (fun _ => ?_) rfl rfl (by have := Nat.mod_lt Q (show 0 < k by omega); omega) (by omega)
              rw [nI_1]
              refine ih (k + 1) (A * k ^ t) Q (by omega) (by omega) hQ1 (by rw [Nat.mul_assoc, ← eL]; exact e) (Nat.Coprime.mul_left hAQ ((pr_cop hpr hQ).pow_left t)) (fun p h2 h3 h4 => ?_)
              by_cases hpk : p = k
              · exact hQ (hpk ▸ h4)
              · exact hp p h2 (by omega) (by rw [eL]; exact Nat.dvd_trans h4 (Nat.dvd_mul_left Q _))
            | succ s ihs =>
              intro hs
              have hbs := hb (s + 1) hs
              have es : k ^ (s + 1) * Q = k * (k ^ s * Q) := by rw [Nat.pow_succ]; ac_rfl
              refine h27 _ _ _ ⟨nI_nz (by omega) (by omega), ?_⟩
              rw [pk_rem (by omega) (by omega) (by omega), pk_div (by omega) (by omega) (by omega), es, Nat.mul_mod_right, Nat.mul_div_cancel_left _ (by omega)]
              exact ⟨fun _ => ihs (by omega), fun z => absurd rfl z⟩
          have := inner t (Nat.le_refl t)
          rwa [← eL] at this
        · rw [nI_1]
          refine ih (k + 1) A L (by omega) (by omega) hL e hc (fun p h2 h3 h4 => ?_)
          by_cases hpk : p = k
          · subst hpk; exact q (Nat.mod_eq_zero_of_dvd h4)
          · exact hp p h2 (by omega) h4
  have := key 998 2 1 n (by omega) (by omega) (by omega) (by omega) (Nat.coprime_one_left n) (fun p h1 h2 => by omega)
  rwa [U_one, Nat.one_mul] at this
