theorem fac1_keep {n : Nat} {g g' : Gs} {a a' : As} (h : Fac 1 n g a) (e1 : g' 1 = g 1) (e2 : a' 1 = a 1) (e3 : a' 3 = a 3) : Fac 1 n g' a' := by
  unfold Fac PP TT at *
  show FacF n (fun i => tn (a' 1 i)) (fun i => tn (a' 3 i)) (tn (g' 1)) ∧ n ≤ 100000 ∧ g' 1 = nI (tn (g' 1)) ∧ ∀ i, i < tn (g' 1) → a' 1 i = nI (tn (a' 1 i)) ∧ a' 3 i = nI (tn (a' 3 i))
  rw [e1, e2, e3]
  exact h
def pre_X6_markMakers (g : Gs) (a : As) (w : Ws) (p0 p1 : Int32) : Prop := Dv p0 ∧ 1 ≤ p1.toInt ∧ Fac 1 (tn p1) g a ∧ (∃ x, IsOrd (tn p0) x (tn p1)) ∧ U (tn p0) = tn p1
set_option maxHeartbeats 4000000 in
set_option maxRecDepth 100000 in
theorem met_X6_markMakers (l : Launch) (D : va_G) (cy : Nat → ClassId) (ad : Nat → Nat) (sz : Nat) (g : Gs) (a : As) (w : Ws) (p0 : Int32) (p1 : Int32) (post : Gs → As → Ws → Prop)
  (hV : ∀ (J22 : Int64 → Int32 → Int32 → Gs → As → Ws → Prop),
    (∀ (x3 : Int64) (x5 : Int32) (x6 : Int32) (g_ : Gs) (a_ : As) (w_ : Ws), ((p1 < x6 → post g_ a_ w_) ∧ (¬ p1 < x6 → pre_X0_sharesWith 1 g_ a_ w_ x6 ∧ (∀ r34 : Int32, post_X0_sharesWith 1 g_ a_ w_ x6 r34 → ((r34 = 0 → pre_X3_put g_ a_ w_ x5 ∧ (∀ (g46 : Gs) (a46 : As) (w46 : Ws), post_X3_put g_ a_ w_ x5 g46 a46 w46 → ∀ r55 : Int32, post_X4_rest (x5.toInt64 * x3) p0 r55 → J22 x3 r55 (x6 + 1) g46 a46 w46)) ∧ (¬ r34 = 0 → ∀ r55 : Int32, post_X4_rest (x5.toInt64 * x3) p0 r55 → J22 x3 r55 (x6 + 1) g_ a_ w_))))) → J22 x3 x5 x6 g_ a_ w_) →
    pre_X6_firstMaker g a w p0 p1 ∧ (∀ r3 : Int32, post_X6_firstMaker g a w p0 p1 r3 → ∀ (g16 : Gs) (a16 : As) (w16 : Ws), post_X3_wipeAll g a w g16 a16 w16 → J22 r3.toInt64 r3.toInt64.toInt32 (1 : Int32) g16 a16 w16)) :
  Met l yX6_markMakers wsX6_markMakers ({ frames := 3, cells := 0, slots := 0, locals := 79 } : Room) (va_Pc [.ref (ad 0), .int p0, .int p1] (ArP D cy sz (caW ad cy g a w))) (va_Qv (fun (u : Gs × As × Ws) => post u.1 u.2.1 u.2.2) (fun u t => va_P D vwCl (caW ad cy u.1 u.2.1 u.2.2) t.heap) (va_A (caW ad cy g a w) sz)) 0 0 (va_A (caW ad cy g a w) sz) := by
  refine Met.ofW (cc := cX6_markMakers) (maxL := 7) (ret := none) (by decide) rfl ?_
  intro p e s m args below meth c s₁ B hml hv
  obtain ⟨rfl, hsz, hP, hK, hD0, hN⟩ := hv
  have hx := B.exec
  have hb := B.bytes
  have hr := B.returns
  have hts := atoms_spec (ws := wsX6_markMakers) B.pre
  have hown : s.vm.findClass RX6 = some m.cls := findClass_of_methodNamed B.named
  have hlocks := B.notSynchronized
  subst hsz
  have hD := hD0.self (sz := s.heap.size)
  have hP : va_P D vwCl (caW ad cy g a w) s.heap := hP
  have hD : va_D (va_A (caW ad cy g a w) s.heap.size) (caW ad cy g a w) := hD
  have hS : va_S (va_A (caW ad cy g a w) s.heap.size) s.heap s.heap [] := va_S.rf
  have hA : ∀ q : Nat, s.heap.size ≤ q → va_A (caW ad cy g a w) s.heap.size q := fun q h => Or.inr h
  obtain ⟨J22, iJ22, oJ22⟩ : ∃ J : Int64 → Int32 → Int32 → Gs → As → Ws → Prop, (∀ (x3 : Int64) (x5 : Int32) (x6 : Int32) (g_ : Gs) (a_ : As) (w_ : Ws), (∀ (H : Heap) (locs : List Loc), va_P D vwCl (caW ad cy g_ a_ w_) H → va_S (va_A (caW ad cy g a w) s.heap.size) s.heap H locs → ∀ ls : Array Slot, lv_has ls 7 [(0, .ref (ad 0)), (1, .int p0), (2, .int p1), (3, .long x3), (5, .int x5), (6, .int x6)] → W p l e (headSpec wsX6_markMakers ({ frames := 3, cells := 0, slots := 0, locals := 79 } : Room)).room s m [.ref (ad 0), .int p0, .int p1].toArray below meth c H locs 0 0 (MQ below (va_Qv (fun (u : Gs × As × Ws) => post u.1 u.2.1 u.2.2) (fun u t => va_P D vwCl (caW ad cy u.1 u.2.1 u.2.2) t.heap) (va_A (caW ad cy g a w) s.heap.size)) [.ref (ad 0), .int p0, .int p1].toArray s 0 0 (va_A (caW ad cy g a w) s.heap.size)) (F0 m 22 ls [])) → J x3 x5 x6 g_ a_ w_) ∧ (∀ (x3 : Int64) (x5 : Int32) (x6 : Int32) (g_ : Gs) (a_ : As) (w_ : Ws), J x3 x5 x6 g_ a_ w_ → (∀ (H : Heap) (locs : List Loc), va_P D vwCl (caW ad cy g_ a_ w_) H → va_S (va_A (caW ad cy g a w) s.heap.size) s.heap H locs → ∀ ls : Array Slot, lv_has ls 7 [(0, .ref (ad 0)), (1, .int p0), (2, .int p1), (3, .long x3), (5, .int x5), (6, .int x6)] → W p l e (headSpec wsX6_markMakers ({ frames := 3, cells := 0, slots := 0, locals := 79 } : Room)).room s m [.ref (ad 0), .int p0, .int p1].toArray below meth c H locs 0 0 (MQ below (va_Qv (fun (u : Gs × As × Ws) => post u.1 u.2.1 u.2.2) (fun u t => va_P D vwCl (caW ad cy u.1 u.2.1 u.2.2) t.heap) (va_A (caW ad cy g a w) s.heap.size)) [.ref (ad 0), .int p0, .int p1].toArray s 0 0 (va_A (caW ad cy g a w) s.heap.size)) (F0 m 22 ls []))) := ⟨fun (x3 : Int64) (x5 : Int32) (x6 : Int32) (g_ : Gs) (a_ : As) (w_ : Ws) => (∀ (H : Heap) (locs : List Loc), va_P D vwCl (caW ad cy g_ a_ w_) H → va_S (va_A (caW ad cy g a w) s.heap.size) s.heap H locs → ∀ ls : Array Slot, lv_has ls 7 [(0, .ref (ad 0)), (1, .int p0), (2, .int p1), (3, .long x3), (5, .int x5), (6, .int x6)] → W p l e (headSpec wsX6_markMakers ({ frames := 3, cells := 0, slots := 0, locals := 79 } : Room)).room s m [.ref (ad 0), .int p0, .int p1].toArray below meth c H locs 0 0 (MQ below (va_Qv (fun (u : Gs × As × Ws) => post u.1 u.2.1 u.2.2) (fun u t => va_P D vwCl (caW ad cy u.1 u.2.1 u.2.2) t.heap) (va_A (caW ad cy g a w) s.heap.size)) [.ref (ad 0), .int p0, .int p1].toArray s 0 0 (va_A (caW ad cy g a w) s.heap.size)) (F0 m 22 ls [])), fun _ _ _ _ _ _ h => h, fun _ _ _ _ _ _ h => h⟩
  have hV := hV J22
  replace hV := hV (by
    intro x3 x5 x6 g_ a_ w_ hV
    refine iJ22 x3 x5 x6 g_ a_ w_ ?_
    intro H locs hP hS ls hl
    refine lv_iload hx hb dX6_markMakers_22 (lv_at hl 5 rfl) ?_
    refine lv_iload_n hx hb dX6_markMakers_24 rfl (lv_at hl 2 rfl) ?_
    refine lv_icmp_gt (tgt := 66) hx hb dX6_markMakers_25 (by decide) (fun c_25 => ?_) (fun c_25 => ?_)
    · have hV := hV.1 c_25
      exact W.vret hx hb hr (fun t ht hW => ⟨⟨(g_, a_, w_), rfl, hV, ar_heap ht hP⟩, hS.F ht⟩) hS.2.2 dX6_markMakers_66
    · have hV := hV.2 c_25
      refine lv_aload_n hx hb dX6_markMakers_28 rfl (lv_at hl 0 rfl) ?_
      refine va_get (D := D) (ci := 5) (v := .ref (ad 4)) (C := RX6) (T := TX6) (N := 10) hx hb hts (by decide +kernel) hown hK hP 0 rfl rfl 1 (by decide) (hts (.fieldLink RX6 16 "PowerRests" "ofOrder" "LPowerRests$Factors;") (by decide +kernel)) (fun _ h9 => h9) rfl dX6_markMakers_29 ?_
      refine lv_iload hx hb dX6_markMakers_32 (lv_at hl 5 rfl) ?_
      obtain ⟨h_34, hV⟩ := hV
      refine cp_i (va_runV (As := [.int x6]) (rest := []) ⟨hx, hb, hml, hown, hts⟩ (spec_X0_sharesWith l 1 (by decide) D cy ad _ g_ a_ w_ x6 h_34) (cwV 1 hts gX6_markMakers_X0_sharesWith rfl rfl rfl (by decide +kernel) ⟨Nat.le_of_ble_eq_true rfl, Nat.le_of_ble_eq_true rfl⟩) (ar_preV hN hK hP (caD hD) (ci := 0) (q0 := 4) rfl rfl) rfl rfl hl.1 rfl (lv_room (Nat.le_of_ble_eq_true rfl)) dX6_markMakers_34 ⟨Nat.zero_le _, Nat.zero_le _⟩) (fun r34 q_34 => ?_)
      have hV := hV r34 q_34
      refine lv_if_ne (tgt := 49) hx hb dX6_markMakers_37 (by decide) (fun c_37 => ?_) (fun c_37 => ?_)
      · have hV := hV.2 c_37
        refine lv_iload hx hb dX6_markMakers_49 (lv_at hl 4 rfl) ?_
        refine lv_i2l (v := x5.toInt64) hx hb dX6_markMakers_51 rfl ?_
        refine lv_lload_n hx hb dX6_markMakers_52 rfl (lv_at hl 3 rfl) ?_
        refine lv_lmul hx hb dX6_markMakers_53 ?_
        refine lv_iload_n hx hb dX6_markMakers_54 rfl (lv_at hl 1 rfl) ?_
        refine cp_i (va_runS (As := [.long (x5.toInt64 * x3), .int p0]) (rest := []) ⟨hx, hb, hml, hown, hts⟩ (spec_X4_rest l (x5.toInt64 * x3) p0) (va_cwS 2 hts gX6_markMakers_X4_rest rfl rfl rfl (by decide +kernel) ⟨Nat.le_of_ble_eq_true rfl, Nat.le_of_ble_eq_true rfl⟩) cp_pre rfl rfl hl.1 rfl (lv_room (Nat.le_of_ble_eq_true rfl)) dX6_markMakers_55 ⟨Nat.zero_le _, Nat.zero_le _⟩) (fun r55 q_55 => ?_)
        have hV := hV r55 q_55
        refine lv_istore (lv' := [(5, .int r55), (0, .ref (ad 0)), (1, .int p0), (2, .int p1), (3, .long x3), (6, .int x6)]) hx hb dX6_markMakers_58 hl (by decide) rfl (fun ls hl => ?_)
        refine lv_iinc (v := x6 + 1) (lv' := [(6, .int (x6 + 1)), (5, .int r55), (0, .ref (ad 0)), (1, .int p0), (2, .int p1), (3, .long x3)]) hx hb dX6_markMakers_60 hl (k := 5) rfl rfl (by decide) rfl (fun ls hl => ?_)
        refine lv_goto (tgt := 22) hx hb dX6_markMakers_63 (by decide) ?_
        exact oJ22 _ _ _ _ _ _ hV _ _ hP hS _ (lv_sub hl [2, 3, 4, 5, 1, 0] rfl)
      · have hV := hV.1 c_37
        refine lv_aload_n hx hb dX6_markMakers_40 rfl (lv_at hl 0 rfl) ?_
        refine va_get (D := D) (ci := 5) (v := .ref (ad 7)) (C := RX6) (T := TX6) (N := 10) hx hb hts (by decide +kernel) hown hK hP 0 rfl rfl 2 (by decide) (hts (.fieldLink RX6 22 "PowerRests" "marks" "LPowerRests$Marks;") (by decide +kernel)) (fun _ h9 => h9) rfl dX6_markMakers_41 ?_
        refine lv_iload hx hb dX6_markMakers_44 (lv_at hl 4 rfl) ?_
        obtain ⟨h_46, hV⟩ := hV
        refine cw_v (va_runV (As := [.int x5]) (rest := []) ⟨hx, hb, hml, hown, hts⟩ (spec_X3_put l D cy ad _ g_ a_ w_ x5 h_46) (cwV 1 hts gX6_markMakers_X3_put rfl rfl rfl (by decide +kernel) ⟨Nat.le_of_ble_eq_true rfl, Nat.le_of_ble_eq_true rfl⟩) (ar_preV hN hK hP (caD hD) (ci := 3) (q0 := 7) rfl rfl) rfl rfl hl.1 rfl (lv_room (Nat.le_of_ble_eq_true rfl)) dX6_markMakers_46 ⟨Nat.zero_le _, Nat.zero_le _⟩) hS (caD hD) hA (fun u_46 H locs q_46 hP hS => ?_)
        obtain ⟨g46, a46, w46⟩ := u_46
        have hV := hV g46 a46 w46 q_46
        have hP : va_P D vwCl (caW ad cy g46 a46 w46) H := hP
        refine lv_iload hx hb dX6_markMakers_49 (lv_at hl 4 rfl) ?_
        refine lv_i2l (v := x5.toInt64) hx hb dX6_markMakers_51 rfl ?_
        refine lv_lload_n hx hb dX6_markMakers_52 rfl (lv_at hl 3 rfl) ?_
        refine lv_lmul hx hb dX6_markMakers_53 ?_
        refine lv_iload_n hx hb dX6_markMakers_54 rfl (lv_at hl 1 rfl) ?_
        refine cp_i (va_runS (As := [.long (x5.toInt64 * x3), .int p0]) (rest := []) ⟨hx, hb, hml, hown, hts⟩ (spec_X4_rest l (x5.toInt64 * x3) p0) (va_cwS 2 hts gX6_markMakers_X4_rest rfl rfl rfl (by decide +kernel) ⟨Nat.le_of_ble_eq_true rfl, Nat.le_of_ble_eq_true rfl⟩) cp_pre rfl rfl hl.1 rfl (lv_room (Nat.le_of_ble_eq_true rfl)) dX6_markMakers_55 ⟨Nat.zero_le _, Nat.zero_le _⟩) (fun r55 q_55 => ?_)
        have hV := hV r55 q_55
        refine lv_istore (lv' := [(5, .int r55), (0, .ref (ad 0)), (1, .int p0), (2, .int p1), (3, .long x3), (6, .int x6)]) hx hb dX6_markMakers_58 hl (by decide) rfl (fun ls hl => ?_)
        refine lv_iinc (v := x6 + 1) (lv' := [(6, .int (x6 + 1)), (5, .int r55), (0, .ref (ad 0)), (1, .int p0), (2, .int p1), (3, .long x3)]) hx hb dX6_markMakers_60 hl (k := 5) rfl rfl (by decide) rfl (fun ls hl => ?_)
        refine lv_goto (tgt := 22) hx hb dX6_markMakers_63 (by decide) ?_
        exact oJ22 _ _ _ _ _ _ hV _ _ hP hS _ (lv_sub hl [2, 3, 4, 5, 1, 0] rfl))
  have hl := lv_entry ([.ref (ad 0), .int p0, .int p1]) (n := 7) (Nat.le_of_ble_eq_true rfl)
  rw [lg_entry_eq]
  generalize (lg_sl ([.ref (ad 0), .int p0, .int p1]) ++ List.replicate (7 - (lg_sl ([.ref (ad 0), .int p0, .int p1])).length) Slot.unset).toArray = ls at hl ⊢
  have hl : lv_has ls 7 [(0, .ref (ad 0)), (1, .int p0), (2, .int p1)] := hl
  refine lv_aload_n hx hb dX6_markMakers_0 rfl (lv_at hl 0 rfl) ?_
  refine lv_iload_n hx hb dX6_markMakers_1 rfl (lv_at hl 1 rfl) ?_
  refine lv_iload_n hx hb dX6_markMakers_2 rfl (lv_at hl 2 rfl) ?_
  obtain ⟨h_3, hV⟩ := hV
  refine cp_i (va_runV (As := [.int p0, .int p1]) (rest := []) ⟨hx, hb, hml, hown, hts⟩ (spec_X6_firstMaker l D cy ad _ g a w p0 p1 h_3) (cwV 2 hts gX6_markMakers_X6_firstMaker rfl rfl rfl (by decide +kernel) ⟨Nat.le_of_ble_eq_true rfl, Nat.le_of_ble_eq_true rfl⟩) (ar_preV hN hK hP (caD hD) (ci := 5) (q0 := 0) rfl rfl) rfl rfl hl.1 rfl (lv_room (Nat.le_of_ble_eq_true rfl)) dX6_markMakers_3 ⟨Nat.zero_le _, Nat.zero_le _⟩) (fun r3 q_3 => ?_)
  have hV := hV r3 q_3
  refine lv_i2l (v := r3.toInt64) hx hb dX6_markMakers_6 rfl ?_
  refine lv_lstore_n (lv' := [(3, .long r3.toInt64), (0, .ref (ad 0)), (1, .int p0), (2, .int p1)]) hx hb dX6_markMakers_7 rfl hl (by decide) rfl (fun ls hl => ?_)
  refine lv_lload_n hx hb dX6_markMakers_8 rfl (lv_at hl 0 rfl) ?_
  refine lv_l2i (v := r3.toInt64.toInt32) hx hb dX6_markMakers_9 rfl ?_
  refine lv_istore (lv' := [(5, .int r3.toInt64.toInt32), (3, .long r3.toInt64), (0, .ref (ad 0)), (1, .int p0), (2, .int p1)]) hx hb dX6_markMakers_10 hl (by decide) rfl (fun ls hl => ?_)
  refine lv_aload_n hx hb dX6_markMakers_12 rfl (lv_at hl 2 rfl) ?_
  refine va_get (D := D) (ci := 5) (v := .ref (ad 7)) (C := RX6) (T := TX6) (N := 10) hx hb hts (by decide +kernel) hown hK hP 0 rfl rfl 2 (by decide) (hts (.fieldLink RX6 22 "PowerRests" "marks" "LPowerRests$Marks;") (by decide +kernel)) (fun _ h9 => h9) rfl dX6_markMakers_13 ?_
  refine cw_v (va_runV (As := []) (rest := []) ⟨hx, hb, hml, hown, hts⟩ (spec_X3_wipeAll l D cy ad _ g a w) (cwV 0 hts gX6_markMakers_X3_wipeAll rfl rfl rfl (by decide +kernel) ⟨Nat.le_of_ble_eq_true rfl, Nat.le_of_ble_eq_true rfl⟩) (ar_preV hN hK hP (caD hD) (ci := 3) (q0 := 7) rfl rfl) rfl rfl hl.1 rfl (lv_room (Nat.le_of_ble_eq_true rfl)) dX6_markMakers_16 ⟨Nat.zero_le _, Nat.zero_le _⟩) hS (caD hD) hA (fun u_16 H locs q_16 hP hS => ?_)
  obtain ⟨g16, a16, w16⟩ := u_16
  have hV := hV g16 a16 w16 q_16
  have hP : va_P D vwCl (caW ad cy g16 a16 w16) H := hP
  refine lv_iconst (v := (1 : Int32)) hx hb dX6_markMakers_19 (by decide) ?_
  refine lv_istore (lv' := [(6, .int (1 : Int32)), (5, .int r3.toInt64.toInt32), (3, .long r3.toInt64), (0, .ref (ad 0)), (1, .int p0), (2, .int p1)]) hx hb dX6_markMakers_20 hl (by decide) rfl (fun ls hl => ?_)
  exact oJ22 _ _ _ _ _ _ hV _ _ hP hS _ (lv_sub hl [3, 4, 5, 2, 1, 0] rfl)
def post_X6_markMakers (g : Gs) (a : As) (w : Ws) (p0 p1 : Int32) (g' : Gs) (a' : As) (w' : Ws) : Prop := Marked (fun x => x < tn p0 ∧ IsOrd (tn p0) x (tn p1)) g a w g' a' w'
set_option maxRecDepth 4000 in
theorem spec_X6_markMakers (l : Launch) (D : va_G) (cy : Nat → ClassId) (ad : Nat → Nat) (sz : Nat) (g : Gs) (a : As) (w : Ws) (p0 : Int32) (p1 : Int32) (hpre : pre_X6_markMakers g a w p0 p1) : Met l yX6_markMakers wsX6_markMakers ({ frames := 3, cells := 0, slots := 0, locals := 79 } : Room) (va_Pc [.ref (ad 0), .int p0, .int p1] (ArP D cy sz (caW ad cy g a w))) (va_Qv (fun (u : Gs × As × Ws) => (post_X6_markMakers g a w p0 p1) u.1 u.2.1 u.2.2) (fun u t => va_P D vwCl (caW ad cy u.1 u.2.1 u.2.2) t.heap) (va_A (caW ad cy g a w) sz)) 0 0 (va_A (caW ad cy g a w) sz) := by
  apply met_X6_markMakers
  intro J hJ
  obtain ⟨hdv, h1, hF, hex, hU⟩ := hpre
  obtain ⟨d1, d2⟩ := id hdv
  obtain ⟨n, hn, rfl, hn2⟩ := of_i (x := p0) (by omega)
  obtain ⟨z, hz, rfl, hz2⟩ := of_i (x := p1) (by omega)
  have tnn : tn (nI n) = n := tn_nI hn
  have tnz : tn (nI z) = z := tn_nI hz
  refine ⟨⟨d1, h1, hF, hex⟩, fun r hr => ?_⟩
  obtain ⟨x, hxn, hxo, rfl⟩ := hr
  rw [tnn] at hxn
  rw [tnn, tnz] at hxo hU
  rw [tnz] at hF
  rintro g1 a1 w1 ⟨rfl, rfl, f0, rfl, hf0⟩
  have hzn : z ≤ n := by
    rw [← hU]
    exact fb_ct_le _ _
  have key : ∀ (d k : Nat) (f : Nat → Int64), k + d = z + 1 → 1 ≤ k → (∀ y, y < 50000 → (mB f y = true ↔ ∃ j, 1 ≤ j ∧ j < k ∧ Nat.Coprime z j ∧ x ^ j % n = y)) → J (lN x) (nI (x ^ k % n)) (nI k) g1 a1 (va_up w 8 f) := by
    intro d
    induction d with
    | zero =>
      intro k f hk hk1 hf
      refine hJ _ _ _ _ _ _ (pk_lt z k (fun _ => ⟨rfl, rfl, f, rfl, fun y hy => ?_⟩) (fun h => absurd h (by omega)))
      rw [tnn, tnz]
      have hiff : (∃ j, 1 ≤ j ∧ j < k ∧ Nat.Coprime z j ∧ x ^ j % n = y) ↔ (y < n ∧ IsOrd n y z) := by
        constructor
        · rintro ⟨j, j1, j2, j3, rfl⟩
          exact ⟨Nat.mod_lt _ (by omega), (ord_powg hxo).mpr j3⟩
        · rintro ⟨y1, y2⟩
          obtain ⟨j, j1, j2⟩ := ord_onto (by omega) hxo hU y1 (cop_of_pow y2.1 y2.2.1)
          have j3 : Nat.gcd z j = 1 := (ord_powg hxo).mp (by rw [j2]; exact y2)
          by_cases hj0 : j = 0
          · subst hj0
            rw [Nat.gcd_zero_right] at j3
            refine ⟨1, by omega, by omega, by rw [j3]; exact Nat.coprime_one_left 1, ?_⟩
            rw [← j2, Nat.pow_zero]
            have := hxo.2.1
            rw [j3] at this
            exact this
          · exact ⟨j, by omega, by omega, j3, j2⟩
      exact (hf y hy).trans hiff
    | succ d ih =>
      intro k f hk hk1 hf
      have hml := Nat.mod_lt (x ^ k) (show 0 < n by omega)
      have hb := mul_lt62 hn hml hxn
      have hnext : x ^ k % n * x % n = x ^ (k + 1) % n := by rw [Nat.mod_mul_mod, ← Nat.pow_succ]
      refine hJ _ _ _ _ _ _ (pk_lt z k (fun h => absurd h (by omega)) (fun _ => ⟨⟨by rw [nI_toInt (by omega)]; omega, z, hF⟩, fun r hr => ?_⟩))
      unfold post_X0_sharesWith at hr
      rw [tn_nI (by omega), zb_c (fac_shares hF.1)] at hr
      subst hr
      have nx : ∀ r, post_X4_rest ((nI (x ^ k % n)).toInt64 * lN x) (nI n) r → r = nI (x ^ (k + 1) % n) := fun r hr => by
        rw [nI_l (show x ^ k % n < 2 ^ 31 by omega), lN_mul] at hr
        have h5 := rest_eq hr (by omega) (by omega) hn
        rwa [hnext] at h5
      rw [nI_1]
      refine ⟨fun h => ?_, fun h r5 hr5 => ?_⟩
      · have hc : Nat.Coprime z k := Classical.not_not.mp (zb_0 h)
        refine ⟨⟨by rw [nI_toInt (by omega)]; omega, by rw [nI_toInt (by omega)]; omega⟩, fun g3 a3 w3 hp3 r5 hr5 => ?_⟩
        obtain ⟨e1, e2, f3, e3, hf3⟩ := hp3
        rw [nx r5 hr5, e1, e2, e3, up_up]
        rw [up_0, tn_nI (by omega)] at hf3
        refine ih (k + 1) f3 (by omega) (by omega) (fun y hy => ?_)
        rw [hf3 y, Bool.or_eq_true, decide_eq_true_iff, hf y hy]
        constructor
        · rintro (⟨j, j1, j2, j3, j4⟩ | ey)
          · exact ⟨j, j1, by omega, j3, j4⟩
          · exact ⟨k, hk1, by omega, hc, ey.symm⟩
        · rintro ⟨j, j1, j2, j3, j4⟩
          by_cases ej : j = k
          · subst ej; exact Or.inr j4.symm
          · exact Or.inl ⟨j, j1, by omega, j3, j4⟩
      · have hc : ¬ Nat.Coprime z k := zb_1 h
        rw [nx r5 hr5]
        refine ih (k + 1) f (by omega) (by omega) (fun y hy => ?_)
        rw [hf y hy]
        constructor
        · rintro ⟨j, j1, j2, j3, j4⟩
          exact ⟨j, j1, by omega, j3, j4⟩
        · rintro ⟨j, j1, j2, j3, j4⟩
          by_cases ej : j = k
          · subst ej; exact absurd j3 hc
          · exact ⟨j, j1, by omega, j3, j4⟩
  have st := key z 1 f0 (by omega) (by omega) (fun y hy => by
    rw [hf0 y hy]
    exact ⟨fun q => Bool.noConfusion q, fun ⟨j, j1, j2, _⟩ => by omega⟩)
  rw [Nat.pow_one, Nat.mod_eq_of_lt hxn] at st
  rw [nI_l (by omega), lN_i]
  exact st
def MakersAns (n i r : Int32) : Prop := ((¬ Dv n ∨ i.toInt < -1) ∧ r = -1) ∨ ((Dv n ∧ -1 ≤ i.toInt) ∧ Ith (OrdB (U (tn n)) (tn n)) (tn n) i r)
set_option maxHeartbeats 4000000 in
set_option maxRecDepth 100000 in
theorem met_X6_makers (l : Launch) (D : va_G) (cy : Nat → ClassId) (ad : Nat → Nat) (sz : Nat) (g : Gs) (a : As) (w : Ws) (p0 : Int32) (p1 : Int32) (post : Int32 → Gs → As → Ws → Prop)
  (hV : ∀ r1 : Int32, post_X6_isDivisor p0 r1 → ((r1 = 0 → post (-1 : Int32) g a w) ∧ (¬ r1 = 0 → (((-1 : Int32) ≤ p1 → pre_X0_split 0 g a w p0 ∧ (∀ (g19 : Gs) (a19 : As) (w19 : Ws), post_X0_split 0 g a w p0 g19 a19 w19 → pre_X0_unitCount 0 g19 a19 w19 ∧ (∀ r26 : Int32, post_X0_unitCount 0 g19 a19 w19 r26 → pre_X0_split 1 g19 a19 w19 r26 ∧ (∀ (g35 : Gs) (a35 : As) (w35 : Ws), post_X0_split 1 g19 a19 w19 r26 g35 a35 w35 → pre_X0_greatestOrder 0 g35 a35 w35 ∧ (∀ r42 : Int32, post_X0_greatestOrder 0 g35 a35 w35 r42 → ((r42 = r26 → pre_X0_unitCount 1 g35 a35 w35 ∧ (∀ r53 : Int32, post_X0_unitCount 1 g35 a35 w35 r53 → ((p1 = (-1 : Int32) → post r53 g35 a35 w35) ∧ (¬ p1 = (-1 : Int32) → ((p1 < r53 → pre_X6_markMakers g35 a35 w35 p0 r26 ∧ (∀ (g82 : Gs) (a82 : As) (w82 : Ws), post_X6_markMakers g35 a35 w35 p0 r26 g82 a82 w82 → pre_X3_pick g82 a82 w82 p1 p0 ∧ (∀ r91 : Int32, post_X3_pick g82 a82 w82 p1 p0 r91 → post r91 g82 a82 w82))) ∧ (¬ p1 < r53 → post (-4 : Int32) g35 a35 w35)))))) ∧ (¬ r42 = r26 → ((p1 = (-1 : Int32) → post (0 : Int32) g35 a35 w35) ∧ (¬ p1 = (-1 : Int32) → ((p1 < (0 : Int32) → pre_X6_markMakers g35 a35 w35 p0 r26 ∧ (∀ (g82 : Gs) (a82 : As) (w82 : Ws), post_X6_markMakers g35 a35 w35 p0 r26 g82 a82 w82 → pre_X3_pick g82 a82 w82 p1 p0 ∧ (∀ r91 : Int32, post_X3_pick g82 a82 w82 p1 p0 r91 → post r91 g82 a82 w82))) ∧ (¬ p1 < (0 : Int32) → post (-4 : Int32) g35 a35 w35))))))))))) ∧ (¬ (-1 : Int32) ≤ p1 → post (-1 : Int32) g a w))))) :
  Met l yX6_makers wsX6_makers ({ frames := 4, cells := 0, slots := 0, locals := 105 } : Room) (va_Pc [.ref (ad 0), .int p0, .int p1] (ArP D cy sz (caW ad cy g a w))) (va_Qi (fun (r : Int32) (u : Gs × As × Ws) => post r u.1 u.2.1 u.2.2) (fun u t => va_P D vwCl (caW ad cy u.1 u.2.1 u.2.2) t.heap) (va_A (caW ad cy g a w) sz)) 0 0 (va_A (caW ad cy g a w) sz) := by
  refine Met.ofW (cc := cX6_makers) (maxL := 5) (ret := (some .int)) (by decide) rfl ?_
  intro p e s m args below meth c s₁ B hml hv
  obtain ⟨rfl, hsz, hP, hK, hD0, hN⟩ := hv
  have hx := B.exec
  have hb := B.bytes
  have hr := B.returns
  have hts := atoms_spec (ws := wsX6_makers) B.pre
  have hown : s.vm.findClass RX6 = some m.cls := findClass_of_methodNamed B.named
  have hlocks := B.notSynchronized
  subst hsz
  have hD := hD0.self (sz := s.heap.size)
  have hP : va_P D vwCl (caW ad cy g a w) s.heap := hP
  have hD : va_D (va_A (caW ad cy g a w) s.heap.size) (caW ad cy g a w) := hD
  have hS : va_S (va_A (caW ad cy g a w) s.heap.size) s.heap s.heap [] := va_S.rf
  have hA : ∀ q : Nat, s.heap.size ≤ q → va_A (caW ad cy g a w) s.heap.size q := fun q h => Or.inr h
  have hl := lv_entry ([.ref (ad 0), .int p0, .int p1]) (n := 5) (Nat.le_of_ble_eq_true rfl)
  rw [lg_entry_eq]
  generalize (lg_sl ([.ref (ad 0), .int p0, .int p1]) ++ List.replicate (5 - (lg_sl ([.ref (ad 0), .int p0, .int p1])).length) Slot.unset).toArray = ls at hl ⊢
  have hl : lv_has ls 5 [(0, .ref (ad 0)), (1, .int p0), (2, .int p1)] := hl
  refine lv_iload_n hx hb dX6_makers_0 rfl (lv_at hl 1 rfl) ?_
  refine cp_i (va_runS (As := [.int p0]) (rest := []) ⟨hx, hb, hml, hown, hts⟩ (spec_X6_isDivisor l p0) (va_cwS 1 hts gX6_makers_X6_isDivisor rfl rfl rfl (by decide +kernel) ⟨Nat.le_of_ble_eq_true rfl, Nat.le_of_ble_eq_true rfl⟩) cp_pre rfl rfl hl.1 rfl (lv_room (Nat.le_of_ble_eq_true rfl)) dX6_makers_1 ⟨Nat.zero_le _, Nat.zero_le _⟩) (fun r1 q_1 => ?_)
  have hV := hV r1 q_1
  refine lv_if_eq (tgt := 12) hx hb dX6_makers_4 (by decide) (fun c_4 => ?_) (fun c_4 => ?_)
  · have hV := hV.1 c_4
    refine lv_iconst (v := (-1 : Int32)) hx hb dX6_makers_12 (by decide) ?_
    exact W.iret (v := (-1 : Int32)) hx hb hr (fun t ht hW => ⟨⟨_, (g, a, w), rfl, hV, ar_heap ht hP⟩, hS.F ht⟩) hS.2.2 dX6_makers_13
  · have hV := hV.2 c_4
    refine lv_iload_n hx hb dX6_makers_7 rfl (lv_at hl 2 rfl) ?_
    refine lv_iconst (v := (-1 : Int32)) hx hb dX6_makers_8 (by decide) ?_
    refine lv_icmp_ge (tgt := 14) hx hb dX6_makers_9 (by decide) (fun c_9 => ?_) (fun c_9 => ?_)
    · have hV := hV.1 c_9
      refine lv_aload_n hx hb dX6_makers_14 rfl (lv_at hl 0 rfl) ?_
      refine va_get (D := D) (ci := 5) (v := .ref (ad 1)) (C := RX6) (T := TX6) (N := 10) hx hb hts (by decide +kernel) hown hK hP 0 rfl rfl 0 (by decide) (hts (.fieldLink RX6 10 "PowerRests" "ofN" "LPowerRests$Factors;") (by decide +kernel)) (fun _ h9 => h9) rfl dX6_makers_15 ?_
      refine lv_iload_n hx hb dX6_makers_18 rfl (lv_at hl 1 rfl) ?_
      obtain ⟨h_19, hV⟩ := hV
      refine cw_v (va_runV (As := [.int p0]) (rest := []) ⟨hx, hb, hml, hown, hts⟩ (spec_X0_split l 0 (by decide) D cy ad _ g a w p0 h_19) (cwV 1 hts gX6_makers_X0_split rfl rfl rfl (by decide +kernel) ⟨Nat.le_of_ble_eq_true rfl, Nat.le_of_ble_eq_true rfl⟩) (ar_preV hN hK hP (caD hD) (ci := 0) (q0 := 1) rfl rfl) rfl rfl hl.1 rfl (lv_room (Nat.le_of_ble_eq_true rfl)) dX6_makers_19 ⟨Nat.zero_le _, Nat.zero_le _⟩) hS (caD hD) hA (fun u_19 H locs q_19 hP hS => ?_)
      obtain ⟨g19, a19, w19⟩ := u_19
      have hV := hV g19 a19 w19 q_19
      have hP : va_P D vwCl (caW ad cy g19 a19 w19) H := hP
      refine lv_aload_n hx hb dX6_makers_22 rfl (lv_at hl 0 rfl) ?_
      refine va_get (D := D) (ci := 5) (v := .ref (ad 1)) (C := RX6) (T := TX6) (N := 10) hx hb hts (by decide +kernel) hown hK hP 0 rfl rfl 0 (by decide) (hts (.fieldLink RX6 10 "PowerRests" "ofN" "LPowerRests$Factors;") (by decide +kernel)) (fun _ h9 => h9) rfl dX6_makers_23 ?_
      obtain ⟨h_26, hV⟩ := hV
      refine cp_i (va_runV (As := []) (rest := []) ⟨hx, hb, hml, hown, hts⟩ (spec_X0_unitCount l 0 (by decide) D cy ad _ g19 a19 w19 h_26) (cwV 0 hts gX6_makers_X0_unitCount rfl rfl rfl (by decide +kernel) ⟨Nat.le_of_ble_eq_true rfl, Nat.le_of_ble_eq_true rfl⟩) (ar_preV hN hK hP (caD hD) (ci := 0) (q0 := 1) rfl rfl) rfl rfl hl.1 rfl (lv_room (Nat.le_of_ble_eq_true rfl)) dX6_makers_26 ⟨Nat.zero_le _, Nat.zero_le _⟩) (fun r26 q_26 => ?_)
      have hV := hV r26 q_26
      refine lv_istore_n (lv' := [(3, .int r26), (0, .ref (ad 0)), (1, .int p0), (2, .int p1)]) hx hb dX6_makers_29 rfl hl (by decide) rfl (fun ls hl => ?_)
      refine lv_aload_n hx hb dX6_makers_30 rfl (lv_at hl 1 rfl) ?_
      refine va_get (D := D) (ci := 5) (v := .ref (ad 4)) (C := RX6) (T := TX6) (N := 10) hx hb hts (by decide +kernel) hown hK hP 0 rfl rfl 1 (by decide) (hts (.fieldLink RX6 16 "PowerRests" "ofOrder" "LPowerRests$Factors;") (by decide +kernel)) (fun _ h9 => h9) rfl dX6_makers_31 ?_
      refine lv_iload_n hx hb dX6_makers_34 rfl (lv_at hl 0 rfl) ?_
      obtain ⟨h_35, hV⟩ := hV
      refine cw_v (va_runV (As := [.int r26]) (rest := []) ⟨hx, hb, hml, hown, hts⟩ (spec_X0_split l 1 (by decide) D cy ad _ g19 a19 w19 r26 h_35) (cwV 1 hts gX6_makers_X0_split rfl rfl rfl (by decide +kernel) ⟨Nat.le_of_ble_eq_true rfl, Nat.le_of_ble_eq_true rfl⟩) (ar_preV hN hK hP (caD hD) (ci := 0) (q0 := 4) rfl rfl) rfl rfl hl.1 rfl (lv_room (Nat.le_of_ble_eq_true rfl)) dX6_makers_35 ⟨Nat.zero_le _, Nat.zero_le _⟩) hS (caD hD) hA (fun u_35 H locs q_35 hP hS => ?_)
      obtain ⟨g35, a35, w35⟩ := u_35
      have hV := hV g35 a35 w35 q_35
      have hP : va_P D vwCl (caW ad cy g35 a35 w35) H := hP
      refine lv_aload_n hx hb dX6_makers_38 rfl (lv_at hl 1 rfl) ?_
      refine va_get (D := D) (ci := 5) (v := .ref (ad 1)) (C := RX6) (T := TX6) (N := 10) hx hb hts (by decide +kernel) hown hK hP 0 rfl rfl 0 (by decide) (hts (.fieldLink RX6 10 "PowerRests" "ofN" "LPowerRests$Factors;") (by decide +kernel)) (fun _ h9 => h9) rfl dX6_makers_39 ?_
      obtain ⟨h_42, hV⟩ := hV
      refine cp_i (va_runV (As := []) (rest := []) ⟨hx, hb, hml, hown, hts⟩ (spec_X0_greatestOrder l 0 (by decide) D cy ad _ g35 a35 w35 h_42) (cwV 0 hts gX6_makers_X0_greatestOrder rfl rfl rfl (by decide +kernel) ⟨Nat.le_of_ble_eq_true rfl, Nat.le_of_ble_eq_true rfl⟩) (ar_preV hN hK hP (caD hD) (ci := 0) (q0 := 1) rfl rfl) rfl rfl hl.1 rfl (lv_room (Nat.le_of_ble_eq_true rfl)) dX6_makers_42 ⟨Nat.zero_le _, Nat.zero_le _⟩) (fun r42 q_42 => ?_)
      have hV := hV r42 q_42
      refine lv_iload_n hx hb dX6_makers_45 rfl (lv_at hl 0 rfl) ?_
      refine lv_icmp_ne (tgt := 59) hx hb dX6_makers_46 (by decide) (fun c_46 => ?_) (fun c_46 => ?_)
      · have hV := hV.2 c_46
        refine lv_iconst (v := (0 : Int32)) hx hb dX6_makers_59 (by decide) ?_
        refine lv_istore (lv' := [(4, .int (0 : Int32)), (3, .int r26), (0, .ref (ad 0)), (1, .int p0), (2, .int p1)]) hx hb dX6_makers_60 hl (by decide) rfl (fun ls hl => ?_)
        refine lv_iload_n hx hb dX6_makers_62 rfl (lv_at hl 4 rfl) ?_
        refine lv_iconst (v := (-1 : Int32)) hx hb dX6_makers_63 (by decide) ?_
        refine lv_icmp_ne (tgt := 70) hx hb dX6_makers_64 (by decide) (fun c_64 => ?_) (fun c_64 => ?_)
        · have hV := hV.2 c_64
          refine lv_iload_n hx hb dX6_makers_70 rfl (lv_at hl 4 rfl) ?_
          refine lv_iload hx hb dX6_makers_71 (lv_at hl 0 rfl) ?_
          refine lv_icmp_lt (tgt := 79) hx hb dX6_makers_73 (by decide) (fun c_73 => ?_) (fun c_73 => ?_)
          · have hV := hV.1 c_73
            refine lv_aload_n hx hb dX6_makers_79 rfl (lv_at hl 2 rfl) ?_
            refine lv_iload_n hx hb dX6_makers_80 rfl (lv_at hl 3 rfl) ?_
            refine lv_iload_n hx hb dX6_makers_81 rfl (lv_at hl 1 rfl) ?_
            obtain ⟨h_82, hV⟩ := hV
            refine cw_v (va_runV (As := [.int p0, .int r26]) (rest := []) ⟨hx, hb, hml, hown, hts⟩ (spec_X6_markMakers l D cy ad _ g35 a35 w35 p0 r26 h_82) (cwV 2 hts gX6_makers_X6_markMakers rfl rfl rfl (by decide +kernel) ⟨Nat.le_of_ble_eq_true rfl, Nat.le_of_ble_eq_true rfl⟩) (ar_preV hN hK hP (caD hD) (ci := 5) (q0 := 0) rfl rfl) rfl rfl hl.1 rfl (lv_room (Nat.le_of_ble_eq_true rfl)) dX6_makers_82 ⟨Nat.zero_le _, Nat.zero_le _⟩) hS (caD hD) hA (fun u_82 H locs q_82 hP hS => ?_)
            obtain ⟨g82, a82, w82⟩ := u_82
            have hV := hV g82 a82 w82 q_82
            have hP : va_P D vwCl (caW ad cy g82 a82 w82) H := hP
            refine lv_aload_n hx hb dX6_makers_85 rfl (lv_at hl 2 rfl) ?_
            refine va_get (D := D) (ci := 5) (v := .ref (ad 7)) (C := RX6) (T := TX6) (N := 10) hx hb hts (by decide +kernel) hown hK hP 0 rfl rfl 2 (by decide) (hts (.fieldLink RX6 22 "PowerRests" "marks" "LPowerRests$Marks;") (by decide +kernel)) (fun _ h9 => h9) rfl dX6_makers_86 ?_
            refine lv_iload_n hx hb dX6_makers_89 rfl (lv_at hl 4 rfl) ?_
            refine lv_iload_n hx hb dX6_makers_90 rfl (lv_at hl 3 rfl) ?_
            obtain ⟨h_91, hV⟩ := hV
            refine cp_i (va_runV (As := [.int p1, .int p0]) (rest := []) ⟨hx, hb, hml, hown, hts⟩ (spec_X3_pick l D cy ad _ g82 a82 w82 p1 p0 h_91) (cwV 2 hts gX6_makers_X3_pick rfl rfl rfl (by decide +kernel) ⟨Nat.le_of_ble_eq_true rfl, Nat.le_of_ble_eq_true rfl⟩) (ar_preV hN hK hP (caD hD) (ci := 3) (q0 := 7) rfl rfl) rfl rfl hl.1 rfl (lv_room (Nat.le_of_ble_eq_true rfl)) dX6_makers_91 ⟨Nat.zero_le _, Nat.zero_le _⟩) (fun r91 q_91 => ?_)
            have hV := hV r91 q_91
            exact W.iret (v := r91) hx hb hr (fun t ht hW => ⟨⟨_, (g82, a82, w82), rfl, hV, ar_heap ht hP⟩, hS.F ht⟩) hS.2.2 dX6_makers_94
          · have hV := hV.2 c_73
            refine lv_bipush (v := (-4 : Int32)) hx hb dX6_makers_76 (by decide) ?_
            exact W.iret (v := (-4 : Int32)) hx hb hr (fun t ht hW => ⟨⟨_, (g35, a35, w35), rfl, hV, ar_heap ht hP⟩, hS.F ht⟩) hS.2.2 dX6_makers_78
        · have hV := hV.1 c_64
          refine lv_iload hx hb dX6_makers_67 (lv_at hl 0 rfl) ?_
          exact W.iret (v := (0 : Int32)) hx hb hr (fun t ht hW => ⟨⟨_, (g35, a35, w35), rfl, hV, ar_heap ht hP⟩, hS.F ht⟩) hS.2.2 dX6_makers_69
      · have hV := hV.1 c_46
        refine lv_aload_n hx hb dX6_makers_49 rfl (lv_at hl 1 rfl) ?_
        refine va_get (D := D) (ci := 5) (v := .ref (ad 4)) (C := RX6) (T := TX6) (N := 10) hx hb hts (by decide +kernel) hown hK hP 0 rfl rfl 1 (by decide) (hts (.fieldLink RX6 16 "PowerRests" "ofOrder" "LPowerRests$Factors;") (by decide +kernel)) (fun _ h9 => h9) rfl dX6_makers_50 ?_
        obtain ⟨h_53, hV⟩ := hV
        refine cp_i (va_runV (As := []) (rest := []) ⟨hx, hb, hml, hown, hts⟩ (spec_X0_unitCount l 1 (by decide) D cy ad _ g35 a35 w35 h_53) (cwV 0 hts gX6_makers_X0_unitCount rfl rfl rfl (by decide +kernel) ⟨Nat.le_of_ble_eq_true rfl, Nat.le_of_ble_eq_true rfl⟩) (ar_preV hN hK hP (caD hD) (ci := 0) (q0 := 4) rfl rfl) rfl rfl hl.1 rfl (lv_room (Nat.le_of_ble_eq_true rfl)) dX6_makers_53 ⟨Nat.zero_le _, Nat.zero_le _⟩) (fun r53 q_53 => ?_)
        have hV := hV r53 q_53
        refine lv_goto (tgt := 60) hx hb dX6_makers_56 (by decide) ?_
        refine lv_istore (lv' := [(4, .int r53), (3, .int r26), (0, .ref (ad 0)), (1, .int p0), (2, .int p1)]) hx hb dX6_makers_60 hl (by decide) rfl (fun ls hl => ?_)
        refine lv_iload_n hx hb dX6_makers_62 rfl (lv_at hl 4 rfl) ?_
        refine lv_iconst (v := (-1 : Int32)) hx hb dX6_makers_63 (by decide) ?_
        refine lv_icmp_ne (tgt := 70) hx hb dX6_makers_64 (by decide) (fun c_64 => ?_) (fun c_64 => ?_)
        · have hV := hV.2 c_64
          refine lv_iload_n hx hb dX6_makers_70 rfl (lv_at hl 4 rfl) ?_
          refine lv_iload hx hb dX6_makers_71 (lv_at hl 0 rfl) ?_
          refine lv_icmp_lt (tgt := 79) hx hb dX6_makers_73 (by decide) (fun c_73 => ?_) (fun c_73 => ?_)
          · have hV := hV.1 c_73
            refine lv_aload_n hx hb dX6_makers_79 rfl (lv_at hl 2 rfl) ?_
            refine lv_iload_n hx hb dX6_makers_80 rfl (lv_at hl 3 rfl) ?_
            refine lv_iload_n hx hb dX6_makers_81 rfl (lv_at hl 1 rfl) ?_
            obtain ⟨h_82, hV⟩ := hV
            refine cw_v (va_runV (As := [.int p0, .int r26]) (rest := []) ⟨hx, hb, hml, hown, hts⟩ (spec_X6_markMakers l D cy ad _ g35 a35 w35 p0 r26 h_82) (cwV 2 hts gX6_makers_X6_markMakers rfl rfl rfl (by decide +kernel) ⟨Nat.le_of_ble_eq_true rfl, Nat.le_of_ble_eq_true rfl⟩) (ar_preV hN hK hP (caD hD) (ci := 5) (q0 := 0) rfl rfl) rfl rfl hl.1 rfl (lv_room (Nat.le_of_ble_eq_true rfl)) dX6_makers_82 ⟨Nat.zero_le _, Nat.zero_le _⟩) hS (caD hD) hA (fun u_82 H locs q_82 hP hS => ?_)
            obtain ⟨g82, a82, w82⟩ := u_82
            have hV := hV g82 a82 w82 q_82
            have hP : va_P D vwCl (caW ad cy g82 a82 w82) H := hP
            refine lv_aload_n hx hb dX6_makers_85 rfl (lv_at hl 2 rfl) ?_
            refine va_get (D := D) (ci := 5) (v := .ref (ad 7)) (C := RX6) (T := TX6) (N := 10) hx hb hts (by decide +kernel) hown hK hP 0 rfl rfl 2 (by decide) (hts (.fieldLink RX6 22 "PowerRests" "marks" "LPowerRests$Marks;") (by decide +kernel)) (fun _ h9 => h9) rfl dX6_makers_86 ?_
            refine lv_iload_n hx hb dX6_makers_89 rfl (lv_at hl 4 rfl) ?_
            refine lv_iload_n hx hb dX6_makers_90 rfl (lv_at hl 3 rfl) ?_
            obtain ⟨h_91, hV⟩ := hV
            refine cp_i (va_runV (As := [.int p1, .int p0]) (rest := []) ⟨hx, hb, hml, hown, hts⟩ (spec_X3_pick l D cy ad _ g82 a82 w82 p1 p0 h_91) (cwV 2 hts gX6_makers_X3_pick rfl rfl rfl (by decide +kernel) ⟨Nat.le_of_ble_eq_true rfl, Nat.le_of_ble_eq_true rfl⟩) (ar_preV hN hK hP (caD hD) (ci := 3) (q0 := 7) rfl rfl) rfl rfl hl.1 rfl (lv_room (Nat.le_of_ble_eq_true rfl)) dX6_makers_91 ⟨Nat.zero_le _, Nat.zero_le _⟩) (fun r91 q_91 => ?_)
            have hV := hV r91 q_91
            exact W.iret (v := r91) hx hb hr (fun t ht hW => ⟨⟨_, (g82, a82, w82), rfl, hV, ar_heap ht hP⟩, hS.F ht⟩) hS.2.2 dX6_makers_94
          · have hV := hV.2 c_73
            refine lv_bipush (v := (-4 : Int32)) hx hb dX6_makers_76 (by decide) ?_
            exact W.iret (v := (-4 : Int32)) hx hb hr (fun t ht hW => ⟨⟨_, (g35, a35, w35), rfl, hV, ar_heap ht hP⟩, hS.F ht⟩) hS.2.2 dX6_makers_78
        · have hV := hV.1 c_64
          refine lv_iload hx hb dX6_makers_67 (lv_at hl 0 rfl) ?_
          exact W.iret (v := r53) hx hb hr (fun t ht hW => ⟨⟨_, (g35, a35, w35), rfl, hV, ar_heap ht hP⟩, hS.F ht⟩) hS.2.2 dX6_makers_69
    · have hV := hV.2 c_9
      refine lv_iconst (v := (-1 : Int32)) hx hb dX6_makers_12 (by decide) ?_
      exact W.iret (v := (-1 : Int32)) hx hb hr (fun t ht hW => ⟨⟨_, (g, a, w), rfl, hV, ar_heap ht hP⟩, hS.F ht⟩) hS.2.2 dX6_makers_13
def post_X6_makers (g : Gs) (a : As) (w : Ws) (p0 p1 r : Int32) (g' : Gs) (a' : As) (w' : Ws) : Prop := MakersAns p0 p1 r ∧ MS g a w g' a' w'
theorem lam_lt {n : Nat} {P T : Nat → Nat} {m : Nat} (h : FacF n P T m) : lcmF (cyF P T) m ≤ U n := by
  have hc := fac_cy h
  have h1 := lcmF_le (f := cyF P T) (m := m) (fun i hi => (hc i hi).1)
  have h2 : prodF (cyF P T) m ≤ prodF (un P T) m := prodF_le (fun i hi => (cy_b (h.2.1 i hi).1.1 (h.2.1 i hi).2).2)
  rw [U_fac h]
  omega
set_option maxRecDepth 4000 in
theorem spec_X6_makers (l : Launch) (D : va_G) (cy : Nat → ClassId) (ad : Nat → Nat) (sz : Nat) (g : Gs) (a : As) (w : Ws) (p0 : Int32) (p1 : Int32) : Met l yX6_makers wsX6_makers ({ frames := 4, cells := 0, slots := 0, locals := 105 } : Room) (va_Pc [.ref (ad 0), .int p0, .int p1] (ArP D cy sz (caW ad cy g a w))) (va_Qi (fun (r : Int32) (u : Gs × As × Ws) => (post_X6_makers g a w p0 p1) r u.1 u.2.1 u.2.2) (fun u t => va_P D vwCl (caW ad cy u.1 u.2.1 u.2.2) t.heap) (va_A (caW ad cy g a w) sz)) 0 0 (va_A (caW ad cy g a w) sz) := by
  apply met_X6_makers
  intro r hr
  unfold post_X6_isDivisor at hr
  subst hr
  have hm1 : (-1 : Int32).toInt = -1 := rfl
  refine ⟨fun h => ⟨Or.inl ⟨Or.inl (zb_0 h), rfl⟩, MS.rf⟩, fun h => ⟨fun h2 => ?_, fun h2 => ⟨Or.inl ⟨Or.inr (by rw [i_le, hm1] at h2; omega), rfl⟩, MS.rf⟩⟩⟩
  have hdv : Dv p0 := zb_1 h
  have hi1 : -1 ≤ p1.toInt := by rw [i_le] at h2; exact h2
  obtain ⟨d1, d2⟩ := id hdv
  obtain ⟨n, hn, rfl, hn2⟩ := of_i (x := p0) (by omega)
  have tnn : tn (nI n) = n := tn_nI hn
  refine ⟨⟨by omega, by omega⟩, fun g1 a1 w1 hsp => ?_⟩
  have hF1 : Fac 0 n g1 a1 := by have := hsp.2.1 (by rw [tnn]; omega); rwa [tnn] at this
  refine ⟨⟨n, hF1⟩, fun r1 hr1 => ?_⟩
  unfold post_X0_unitCount at hr1
  rw [← U_fac hF1.1] at hr1
  have hU1 : 1 ≤ U n := by rw [U_fac hF1.1]; exact prodF_pos (fun i hi => (fac_un hF1.1 i hi).1)
  have hUn : U n ≤ n := fb_ct_le _ _
  generalize hUz : U n = z at *
  subst hr1
  have tnz : tn (nI z) = z := tn_nI (by omega)
  refine ⟨⟨by rw [nI_toInt (by omega)]; omega, by rw [nI_toInt (by omega)]; omega⟩, fun g2 a2 w2 hsp2 => ?_⟩
  have hF : Fac 0 n g2 a2 := split_keep hsp2 hF1
  have hG : Fac 1 z g2 a2 := by have := hsp2.2.1 (by rw [tnz]; omega); rwa [tnz] at this
  have hFS := (split_FS (by decide) hsp).tr (split_FS (by decide) hsp2)
  have hMS := hFS.ms
  refine ⟨⟨n, hF⟩, fun r2 hr2 => ?_⟩
  unfold post_X0_greatestOrder at hr2
  obtain ⟨lamK, x, lamX⟩ := lam_fac hF.1 (by omega)
  have hll := lam_lt hF.1
  have hl1 := (lam_le hF.1).1
  have hol : ∀ y e, IsOrd n y e → e ∣ lcmF (cyF (PP 0 a2) (TT 0 a2)) (tn (g2 0)) := fun y e ho => ord_lam hF.1 (by omega) ho
  rw [hUz] at hll
  generalize lcmF (cyF (PP 0 a2) (TT 0 a2)) (tn (g2 0)) = L at hr2 lamK lamX hll hl1 hol
  subst hr2
  refine pk_eq L z (fun hLz => ⟨⟨z, hG⟩, fun r3 hr3 => ?_⟩) (fun hLz => ?_)
  · -- there are makers
    subst hLz
    unfold post_X0_unitCount at hr3
    rw [← U_fac hG.1] at hr3
    subst hr3
    have hcnt : fb_ct (OrdB L n) n = U L := gen_ct (by omega) lamX hUz
    have hULb : U L ≤ L := fb_ct_le _ _
    refine ⟨fun h3 => ⟨Or.inr ⟨⟨hdv, hi1⟩, Or.inl ⟨h3, ?_⟩⟩, hMS⟩, fun h3 => ?_⟩
    · rw [tnn, hUz, hcnt]
    · have hi0 : 0 ≤ p1.toInt := by
        have : p1.toInt ≠ -1 := fun e => h3 (i_m1.mp e)
        omega
      obtain ⟨i, hi, rfl, hi2⟩ := of_i hi0
      refine pk_lt i (U L) (fun h4 => ⟨⟨hdv, by rw [nI_toInt (by omega)]; omega, by rw [tnz]; exact hG, ⟨x, by rw [tnn, tnz]; exact lamX⟩, by rw [tnn, tnz]; exact hUz⟩, fun g4 a4 w4 h5 => ?_⟩) (fun h4 => ⟨Or.inr ⟨⟨hdv, hi1⟩, Or.inr (Or.inr ⟨hi0, ?_, rfl⟩)⟩, hMS⟩)
      · refine ⟨⟨hi0, by omega, by omega⟩, fun r6 hr6 => ⟨Or.inr ⟨⟨hdv, hi1⟩, ?_⟩, h5.ms hFS⟩⟩
        unfold post_X3_pick at hr6
        rw [tnn] at hr6 ⊢
        rw [hUz]
        refine hr6.cong (fun y hy => ?_)
        have e := h5.has (x := y) (by omega)
        rw [tnn, tnz] at e
        by_cases ho : IsOrd n y L
        · rw [e.mpr ⟨hy, ho⟩]
          exact (cb_t ho).symm
        · rw [ts_nt (fun q => ho (e.mp q).2)]
          exact (cb_f ho).symm
      · rw [tnn, hUz, hcnt, hi2]; omega
  · -- none
    have hcnt : fb_ct (OrdB z n) n = 0 := fb_ct_zero.mpr (fun y _ => cb_f (fun ho => by
      have := Nat.le_of_dvd hl1 (hol y z ho)
      omega))
    refine ⟨fun h3 => ⟨Or.inr ⟨⟨hdv, hi1⟩, Or.inl ⟨h3, ?_⟩⟩, hMS⟩, fun h3 => ?_⟩
    · rw [tnn, hUz, hcnt]; rfl
    · have hi0 : 0 ≤ p1.toInt := by
        have : p1.toInt ≠ -1 := fun e => h3 (i_m1.mp e)
        omega
      refine ⟨fun h4 => ?_, fun _ => ⟨Or.inr ⟨⟨hdv, hi1⟩, Or.inr (Or.inr ⟨hi0, ?_, rfl⟩)⟩, hMS⟩⟩
      · rw [i_lt, Int32.toInt_zero] at h4; omega
      · rw [tnn, hUz, hcnt]; exact hi0
