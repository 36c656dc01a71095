/-! laying, the class -/
theorem Hold_mod {l f s b x y : Nat} (h : x % b = y % b) : Hold l f s b x ↔ Hold l f s b y := by
  unfold Hold
  rw [h]
theorem mod_next {y b : Nat} (hb : 1 ≤ b) : (y + 1) % b = if y % b + 1 < b then y % b + 1 else 0 := by
  have h := Nat.mod_lt y (show 0 < b by omega)
  rw [← Nat.mod_add_mod]
  by_cases z : y % b + 1 < b
  · rw [if_pos z, Nat.mod_eq_of_lt z]
  · rw [if_neg z, show y % b + 1 = b by omega, Nat.mod_self]
theorem nar_b (c : Prop) : vp_nar .boolean (zb c) = zb c := by
  rcases zb_01 c with h | h <;> rw [h] <;> rfl
def pre_X2_add (g : Gs) (a : As) (w : Ws) : Prop := ∃ n l f s b, n < 8 ∧ g 9 = nI n ∧ ItG g l f s b
set_option maxHeartbeats 4000000 in
set_option maxRecDepth 100000 in
theorem met_X2_add (l : Launch) (D : va_G) (cy : Nat → ClassId) (ad : Nat → Nat) (sz : Nat) (g : Gs) (a : As) (w : Ws) (post : Gs → As → Ws → Prop)
  (hV : ∀ (J30 : Int32 → Gs → As → Ws → Prop) (J59 : Int32 → Int32 → Gs → As → Ws → Prop) (J73 : Int32 → Int32 → Int64 → Int32 → Gs → As → Ws → Prop),
    (∀ (x2 : Int32) (g_ : Gs) (a_ : As) (w_ : Ws), (((g_ 7) ≤ x2 → J59 (0 : Int32) (0 : Int32) g_ a_ w_) ∧ (¬ (g_ 7) ≤ x2 → pre_X1_allows g_ a_ w_ x2 ∧ (∀ r45 : Int32, post_X1_allows g_ a_ w_ x2 r45 → vp_in x2 200 ∧ (J30 (x2 + 1) g_ (va_up a_ 7 (upd (a_ 7) x2.toNatClampNeg (vp_nar .boolean r45))) w_)))) → J30 x2 g_ a_ w_) →
    (∀ (x2 : Int32) (x3 : Int32) (g_ : Gs) (a_ : As) (w_ : Ws), (((g_ 7) ≤ x3 → vp_in (g_ 9) 8 ∧ (post (va_up g_ 9 ((g_ 9) + (1 : Int32))) (va_up a_ 6 (upd (a_ 6) (g_ 9).toNatClampNeg (g_ 7))) w_)) ∧ (¬ (g_ 7) ≤ x3 → J73 x2 x3 (0 : Int64) (0 : Int32) g_ a_ w_)) → J59 x2 x3 g_ a_ w_) →
    (∀ (x2 : Int32) (x3 : Int32) (x4 : Int64) (x6 : Int32) (g_ : Gs) (a_ : As) (w_ : Ws), (((64 : Int32) ≤ x6 → vp_in (g_ 9) 8 ∧ (vp_in x3 200 ∧ (J59 x2 (x3 + 1) g_ a_ (va_up w_ (g_ 9).toNatClampNeg (vp_updL (w_ (g_ 9).toNatClampNeg) x3.toNatClampNeg x4))))) ∧ (¬ (64 : Int32) ≤ x6 → vp_in x2 200 ∧ (((((a_ 7) x2.toNatClampNeg) = 0 → (((g_ 7) ≤ (x2 + (1 : Int32)) → J73 (0 : Int32) x3 x4 (x6 + 1) g_ a_ w_) ∧ (¬ (g_ 7) ≤ (x2 + (1 : Int32)) → J73 (x2 + (1 : Int32)) x3 x4 (x6 + 1) g_ a_ w_))) ∧ (¬ ((a_ 7) x2.toNatClampNeg) = 0 → (((g_ 7) ≤ (x2 + (1 : Int32)) → J73 (0 : Int32) x3 (x4 ||| ((1 : Int64) <<< (x6.toInt64 &&& 63))) (x6 + 1) g_ a_ w_) ∧ (¬ (g_ 7) ≤ (x2 + (1 : Int32)) → J73 (x2 + (1 : Int32)) x3 (x4 ||| ((1 : Int64) <<< (x6.toInt64 &&& 63))) (x6 + 1) g_ a_ w_))))))) → J73 x2 x3 x4 x6 g_ a_ w_) →
    (((8 : Int32) ≤ (g 9) → post g a w) ∧ (¬ (8 : Int32) ≤ (g 9) → (((g 7) < (2 : Int32) → post g a w) ∧ (¬ (g 7) < (2 : Int32) → (((g 7) ≤ (200 : Int32) → J30 (0 : Int32) g a w) ∧ (¬ (g 7) ≤ (200 : Int32) → post g a w))))))) :
  Met l yX2_add wsX2_add ({ frames := 2, cells := 0, slots := 0, locals := 52 } : Room) (va_Pc [.ref (ad 12), .ref (ad 11)] (ArP D cy sz (caW ad cy g a w))) (va_Qv (fun (u : Gs × As × Ws) => post u.1 u.2.1 u.2.2) (fun u t => va_P D vwCl (caW ad cy u.1 u.2.1 u.2.2) t.heap) (va_A (caW ad cy g a w) sz)) 0 0 (va_A (caW ad cy g a w) sz) := by
  refine Met.ofW (cc := cX2_add) (maxL := 7) (ret := none) (by decide) rfl ?_
  intro p e s m args below meth c s₁ B hml hv
  obtain ⟨rfl, hsz, hP, hK, hD0, hN⟩ := hv
  have hx := B.exec
  have hb := B.bytes
  have hr := B.returns
  have hts := atoms_spec (ws := wsX2_add) B.pre
  have hown : s.vm.findClass RX2 = some m.cls := findClass_of_methodNamed B.named
  have hlocks := B.notSynchronized
  subst hsz
  have hD := hD0.self (sz := s.heap.size)
  have hP : va_P D vwCl (caW ad cy g a w) s.heap := hP
  have hD : va_D (va_A (caW ad cy g a w) s.heap.size) (caW ad cy g a w) := hD
  have hS : va_S (va_A (caW ad cy g a w) s.heap.size) s.heap s.heap [] := va_S.rf
  have hA : ∀ q : Nat, s.heap.size ≤ q → va_A (caW ad cy g a w) s.heap.size q := fun q h => Or.inr h
  obtain ⟨J30, iJ30, oJ30⟩ : ∃ J : Int32 → Gs → As → Ws → Prop, (∀ (x2 : Int32) (g_ : Gs) (a_ : As) (w_ : Ws), (∀ (H : Heap) (locs : List Loc), va_P D vwCl (caW ad cy g_ a_ w_) H → va_S (va_A (caW ad cy g a w) s.heap.size) s.heap H locs → ∀ ls : Array Slot, lv_has ls 7 [(0, .ref (ad 12)), (1, .ref (ad 11)), (2, .int x2)] → W p l e (headSpec wsX2_add ({ frames := 2, cells := 0, slots := 0, locals := 52 } : Room)).room s m [.ref (ad 12), .ref (ad 11)].toArray below meth c H locs 0 0 (MQ below (va_Qv (fun (u : Gs × As × Ws) => post u.1 u.2.1 u.2.2) (fun u t => va_P D vwCl (caW ad cy u.1 u.2.1 u.2.2) t.heap) (va_A (caW ad cy g a w) s.heap.size)) [.ref (ad 12), .ref (ad 11)].toArray s 0 0 (va_A (caW ad cy g a w) s.heap.size)) (F0 m 30 ls [])) → J x2 g_ a_ w_) ∧ (∀ (x2 : Int32) (g_ : Gs) (a_ : As) (w_ : Ws), J x2 g_ a_ w_ → (∀ (H : Heap) (locs : List Loc), va_P D vwCl (caW ad cy g_ a_ w_) H → va_S (va_A (caW ad cy g a w) s.heap.size) s.heap H locs → ∀ ls : Array Slot, lv_has ls 7 [(0, .ref (ad 12)), (1, .ref (ad 11)), (2, .int x2)] → W p l e (headSpec wsX2_add ({ frames := 2, cells := 0, slots := 0, locals := 52 } : Room)).room s m [.ref (ad 12), .ref (ad 11)].toArray below meth c H locs 0 0 (MQ below (va_Qv (fun (u : Gs × As × Ws) => post u.1 u.2.1 u.2.2) (fun u t => va_P D vwCl (caW ad cy u.1 u.2.1 u.2.2) t.heap) (va_A (caW ad cy g a w) s.heap.size)) [.ref (ad 12), .ref (ad 11)].toArray s 0 0 (va_A (caW ad cy g a w) s.heap.size)) (F0 m 30 ls []))) := ⟨fun (x2 : Int32) (g_ : Gs) (a_ : As) (w_ : Ws) => (∀ (H : Heap) (locs : List Loc), va_P D vwCl (caW ad cy g_ a_ w_) H → va_S (va_A (caW ad cy g a w) s.heap.size) s.heap H locs → ∀ ls : Array Slot, lv_has ls 7 [(0, .ref (ad 12)), (1, .ref (ad 11)), (2, .int x2)] → W p l e (headSpec wsX2_add ({ frames := 2, cells := 0, slots := 0, locals := 52 } : Room)).room s m [.ref (ad 12), .ref (ad 11)].toArray below meth c H locs 0 0 (MQ below (va_Qv (fun (u : Gs × As × Ws) => post u.1 u.2.1 u.2.2) (fun u t => va_P D vwCl (caW ad cy u.1 u.2.1 u.2.2) t.heap) (va_A (caW ad cy g a w) s.heap.size)) [.ref (ad 12), .ref (ad 11)].toArray s 0 0 (va_A (caW ad cy g a w) s.heap.size)) (F0 m 30 ls [])), fun _ _ _ _ h => h, fun _ _ _ _ h => h⟩
  obtain ⟨J59, iJ59, oJ59⟩ : ∃ J : Int32 → Int32 → Gs → As → Ws → Prop, (∀ (x2 : Int32) (x3 : Int32) (g_ : Gs) (a_ : As) (w_ : Ws), (∀ (H : Heap) (locs : List Loc), va_P D vwCl (caW ad cy g_ a_ w_) H → va_S (va_A (caW ad cy g a w) s.heap.size) s.heap H locs → ∀ ls : Array Slot, lv_has ls 7 [(0, .ref (ad 12)), (1, .ref (ad 11)), (2, .int x2), (3, .int x3)] → W p l e (headSpec wsX2_add ({ frames := 2, cells := 0, slots := 0, locals := 52 } : Room)).room s m [.ref (ad 12), .ref (ad 11)].toArray below meth c H locs 0 0 (MQ below (va_Qv (fun (u : Gs × As × Ws) => post u.1 u.2.1 u.2.2) (fun u t => va_P D vwCl (caW ad cy u.1 u.2.1 u.2.2) t.heap) (va_A (caW ad cy g a w) s.heap.size)) [.ref (ad 12), .ref (ad 11)].toArray s 0 0 (va_A (caW ad cy g a w) s.heap.size)) (F0 m 59 ls [])) → J x2 x3 g_ a_ w_) ∧ (∀ (x2 : Int32) (x3 : Int32) (g_ : Gs) (a_ : As) (w_ : Ws), J x2 x3 g_ a_ w_ → (∀ (H : Heap) (locs : List Loc), va_P D vwCl (caW ad cy g_ a_ w_) H → va_S (va_A (caW ad cy g a w) s.heap.size) s.heap H locs → ∀ ls : Array Slot, lv_has ls 7 [(0, .ref (ad 12)), (1, .ref (ad 11)), (2, .int x2), (3, .int x3)] → W p l e (headSpec wsX2_add ({ frames := 2, cells := 0, slots := 0, locals := 52 } : Room)).room s m [.ref (ad 12), .ref (ad 11)].toArray below meth c H locs 0 0 (MQ below (va_Qv (fun (u : Gs × As × Ws) => post u.1 u.2.1 u.2.2) (fun u t => va_P D vwCl (caW ad cy u.1 u.2.1 u.2.2) t.heap) (va_A (caW ad cy g a w) s.heap.size)) [.ref (ad 12), .ref (ad 11)].toArray s 0 0 (va_A (caW ad cy g a w) s.heap.size)) (F0 m 59 ls []))) := ⟨fun (x2 : Int32) (x3 : Int32) (g_ : Gs) (a_ : As) (w_ : Ws) => (∀ (H : Heap) (locs : List Loc), va_P D vwCl (caW ad cy g_ a_ w_) H → va_S (va_A (caW ad cy g a w) s.heap.size) s.heap H locs → ∀ ls : Array Slot, lv_has ls 7 [(0, .ref (ad 12)), (1, .ref (ad 11)), (2, .int x2), (3, .int x3)] → W p l e (headSpec wsX2_add ({ frames := 2, cells := 0, slots := 0, locals := 52 } : Room)).room s m [.ref (ad 12), .ref (ad 11)].toArray below meth c H locs 0 0 (MQ below (va_Qv (fun (u : Gs × As × Ws) => post u.1 u.2.1 u.2.2) (fun u t => va_P D vwCl (caW ad cy u.1 u.2.1 u.2.2) t.heap) (va_A (caW ad cy g a w) s.heap.size)) [.ref (ad 12), .ref (ad 11)].toArray s 0 0 (va_A (caW ad cy g a w) s.heap.size)) (F0 m 59 ls [])), fun _ _ _ _ _ h => h, fun _ _ _ _ _ h => h⟩
  obtain ⟨J73, iJ73, oJ73⟩ : ∃ J : Int32 → Int32 → Int64 → Int32 → Gs → As → Ws → Prop, (∀ (x2 : Int32) (x3 : Int32) (x4 : Int64) (x6 : Int32) (g_ : Gs) (a_ : As) (w_ : Ws), (∀ (H : Heap) (locs : List Loc), va_P D vwCl (caW ad cy g_ a_ w_) H → va_S (va_A (caW ad cy g a w) s.heap.size) s.heap H locs → ∀ ls : Array Slot, lv_has ls 7 [(0, .ref (ad 12)), (1, .ref (ad 11)), (2, .int x2), (3, .int x3), (4, .long x4), (6, .int x6)] → W p l e (headSpec wsX2_add ({ frames := 2, cells := 0, slots := 0, locals := 52 } : Room)).room s m [.ref (ad 12), .ref (ad 11)].toArray below meth c H locs 0 0 (MQ below (va_Qv (fun (u : Gs × As × Ws) => post u.1 u.2.1 u.2.2) (fun u t => va_P D vwCl (caW ad cy u.1 u.2.1 u.2.2) t.heap) (va_A (caW ad cy g a w) s.heap.size)) [.ref (ad 12), .ref (ad 11)].toArray s 0 0 (va_A (caW ad cy g a w) s.heap.size)) (F0 m 73 ls [])) → J x2 x3 x4 x6 g_ a_ w_) ∧ (∀ (x2 : Int32) (x3 : Int32) (x4 : Int64) (x6 : Int32) (g_ : Gs) (a_ : As) (w_ : Ws), J x2 x3 x4 x6 g_ a_ w_ → (∀ (H : Heap) (locs : List Loc), va_P D vwCl (caW ad cy g_ a_ w_) H → va_S (va_A (caW ad cy g a w) s.heap.size) s.heap H locs → ∀ ls : Array Slot, lv_has ls 7 [(0, .ref (ad 12)), (1, .ref (ad 11)), (2, .int x2), (3, .int x3), (4, .long x4), (6, .int x6)] → W p l e (headSpec wsX2_add ({ frames := 2, cells := 0, slots := 0, locals := 52 } : Room)).room s m [.ref (ad 12), .ref (ad 11)].toArray below meth c H locs 0 0 (MQ below (va_Qv (fun (u : Gs × As × Ws) => post u.1 u.2.1 u.2.2) (fun u t => va_P D vwCl (caW ad cy u.1 u.2.1 u.2.2) t.heap) (va_A (caW ad cy g a w) s.heap.size)) [.ref (ad 12), .ref (ad 11)].toArray s 0 0 (va_A (caW ad cy g a w) s.heap.size)) (F0 m 73 ls []))) := ⟨fun (x2 : Int32) (x3 : Int32) (x4 : Int64) (x6 : Int32) (g_ : Gs) (a_ : As) (w_ : Ws) => (∀ (H : Heap) (locs : List Loc), va_P D vwCl (caW ad cy g_ a_ w_) H → va_S (va_A (caW ad cy g a w) s.heap.size) s.heap H locs → ∀ ls : Array Slot, lv_has ls 7 [(0, .ref (ad 12)), (1, .ref (ad 11)), (2, .int x2), (3, .int x3), (4, .long x4), (6, .int x6)] → W p l e (headSpec wsX2_add ({ frames := 2, cells := 0, slots := 0, locals := 52 } : Room)).room s m [.ref (ad 12), .ref (ad 11)].toArray below meth c H locs 0 0 (MQ below (va_Qv (fun (u : Gs × As × Ws) => post u.1 u.2.1 u.2.2) (fun u t => va_P D vwCl (caW ad cy u.1 u.2.1 u.2.2) t.heap) (va_A (caW ad cy g a w) s.heap.size)) [.ref (ad 12), .ref (ad 11)].toArray s 0 0 (va_A (caW ad cy g a w) s.heap.size)) (F0 m 73 ls [])), fun _ _ _ _ _ _ _ h => h, fun _ _ _ _ _ _ _ h => h⟩
  have hV := hV J30 J59 J73
  replace hV := hV (by
    intro x2 g_ a_ w_ hV
    refine iJ30 x2 g_ a_ w_ ?_
    intro H locs hP hS ls hl
    refine lv_iload_n hx hb dX2_add_30 rfl (lv_at hl 2 rfl) ?_
    refine lv_aload_n hx hb dX2_add_31 rfl (lv_at hl 1 rfl) ?_
    refine va_getN (D := D) (ci := 1) (v := .int (g_ 7)) (C := RX1) (T := TX1) (N := 5) hx hb hts (by decide +kernel) hown hK hP 11 rfl rfl 3 (by decide) (hN.use 9 (q := (RX2, 34, RX1, "by", "I")) rfl) (fun _ h9 => h9) rfl dX2_add_32 ?_
    refine lv_icmp_ge (tgt := 55) hx hb dX2_add_35 (by decide) (fun c_35 => ?_) (fun c_35 => ?_)
    · have hV := hV.1 c_35
      refine lv_iconst (v := (0 : Int32)) hx hb dX2_add_55 (by decide) ?_
      refine lv_istore_n (lv' := [(2, .int (0 : Int32)), (0, .ref (ad 12)), (1, .ref (ad 11))]) hx hb dX2_add_56 rfl hl (by decide) rfl (fun ls hl => ?_)
      refine lv_iconst (v := (0 : Int32)) hx hb dX2_add_57 (by decide) ?_
      refine lv_istore_n (lv' := [(3, .int (0 : Int32)), (2, .int (0 : Int32)), (0, .ref (ad 12)), (1, .ref (ad 11))]) hx hb dX2_add_58 rfl hl (by decide) rfl (fun ls hl => ?_)
      exact oJ59 _ _ _ _ _ hV _ _ hP hS _ (lv_sub hl [2, 3, 1, 0] rfl)
    · have hV := hV.2 c_35
      refine lv_aload_n hx hb dX2_add_38 rfl (lv_at hl 0 rfl) ?_
      refine va_get (D := D) (ci := 2) (v := .ref (ad 15)) (C := RX2) (T := TX2) (N := 6) hx hb hts (by decide +kernel) hown hK hP 12 rfl rfl 2 (by decide) (hts (.fieldLink RX2 20 "PowerRests$Laid" "allowed" "[Z") (by decide +kernel)) (fun _ h9 => h9) rfl dX2_add_39 ?_
      refine lv_iload_n hx hb dX2_add_42 rfl (lv_at hl 2 rfl) ?_
      refine lv_aload_n hx hb dX2_add_43 rfl (lv_at hl 1 rfl) ?_
      refine lv_iload_n hx hb dX2_add_44 rfl (lv_at hl 2 rfl) ?_
      obtain ⟨h_45, hV⟩ := hV
      refine cp_i (va_runV (As := [.int x2]) (rest := [.int x2, .ref (ad 15)]) ⟨hx, hb, hml, hown, hts⟩ (spec_X1_allows l D cy ad _ g_ a_ w_ x2 h_45) (cwV 1 hts gX2_add_X1_allows rfl rfl rfl (by decide +kernel) ⟨Nat.le_of_ble_eq_true rfl, Nat.le_of_ble_eq_true rfl⟩) (ar_preV hN hK hP (caD hD) (ci := 1) (q0 := 11) rfl rfl) rfl rfl hl.1 rfl (lv_room (Nat.le_of_ble_eq_true rfl)) dX2_add_45 ⟨Nat.zero_le _, Nat.zero_le _⟩) (fun r45 q_45 => ?_)
      have hV := hV r45 q_45
      obtain ⟨h_48, hV⟩ := hV
      refine va_zast (f := (a_ 7)) hx hb hK hP (caD hD) hS 15 1 rfl rfl h_48 dX2_add_48 (fun H locs hP _ hS => ?_)
      have hP : va_P D vwCl (caW ad cy g_ (va_up a_ 7 (upd (a_ 7) x2.toNatClampNeg (vp_nar .boolean r45))) w_) H := hP
      refine lv_iinc (v := x2 + 1) (lv' := [(2, .int (x2 + 1)), (0, .ref (ad 12)), (1, .ref (ad 11))]) hx hb dX2_add_49 hl (k := 2) rfl rfl (by decide) rfl (fun ls hl => ?_)
      refine lv_goto (tgt := 30) hx hb dX2_add_52 (by decide) ?_
      exact oJ30 _ _ _ _ hV _ _ hP hS _ (lv_sub hl [1, 2, 0] rfl))
  replace hV := hV (by
    intro x2 x3 g_ a_ w_ hV
    refine iJ59 x2 x3 g_ a_ w_ ?_
    intro H locs hP hS ls hl
    refine lv_iload_n hx hb dX2_add_59 rfl (lv_at hl 3 rfl) ?_
    refine lv_aload_n hx hb dX2_add_60 rfl (lv_at hl 1 rfl) ?_
    refine va_getN (D := D) (ci := 1) (v := .int (g_ 7)) (C := RX1) (T := TX1) (N := 5) hx hb hts (by decide +kernel) hown hK hP 11 rfl rfl 3 (by decide) (hN.use 9 (q := (RX2, 34, RX1, "by", "I")) rfl) (fun _ h9 => h9) rfl dX2_add_61 ?_
    refine lv_icmp_ge (tgt := 141) hx hb dX2_add_64 (by decide) (fun c_64 => ?_) (fun c_64 => ?_)
    · have hV := hV.1 c_64
      refine lv_aload_n hx hb dX2_add_141 rfl (lv_at hl 0 rfl) ?_
      refine va_get (D := D) (ci := 2) (v := .ref (ad 14)) (C := RX2) (T := TX2) (N := 6) hx hb hts (by decide +kernel) hown hK hP 12 rfl rfl 1 (by decide) (hts (.fieldLink RX2 16 "PowerRests$Laid" "divisors" "[I") (by decide +kernel)) (fun _ h9 => h9) rfl dX2_add_142 ?_
      refine lv_aload_n hx hb dX2_add_145 rfl (lv_at hl 0 rfl) ?_
      refine va_get (D := D) (ci := 2) (v := .int (g_ 9)) (C := RX2) (T := TX2) (N := 6) hx hb hts (by decide +kernel) hown hK hP 12 rfl rfl 3 (by decide) (hts (.fieldLink RX2 31 "PowerRests$Laid" "items" "I") (by decide +kernel)) (fun _ h9 => h9) rfl dX2_add_146 ?_
      refine lv_aload_n hx hb dX2_add_149 rfl (lv_at hl 1 rfl) ?_
      refine va_getN (D := D) (ci := 1) (v := .int (g_ 7)) (C := RX1) (T := TX1) (N := 5) hx hb hts (by decide +kernel) hown hK hP 11 rfl rfl 3 (by decide) (hN.use 9 (q := (RX2, 34, RX1, "by", "I")) rfl) (fun _ h9 => h9) rfl dX2_add_150 ?_
      obtain ⟨h_153, hV⟩ := hV
      refine va_iast (f := (a_ 6)) hx hb hK hP (caD hD) hS 14 0 rfl rfl h_153 dX2_add_153 (fun H locs hP _ hS => ?_)
      have hP : va_P D vwCl (caW ad cy g_ (va_up a_ 6 (upd (a_ 6) (g_ 9).toNatClampNeg (g_ 7))) w_) H := hP
      refine lv_aload_n hx hb dX2_add_154 rfl (lv_at hl 0 rfl) ?_
      refine lv_dup hx hb dX2_add_155 rfl ?_
      refine va_get (D := D) (ci := 2) (v := .int (g_ 9)) (C := RX2) (T := TX2) (N := 6) hx hb hts (by decide +kernel) hown hK hP 12 rfl rfl 3 (by decide) (hts (.fieldLink RX2 31 "PowerRests$Laid" "items" "I") (by decide +kernel)) (fun _ h9 => h9) rfl dX2_add_156 ?_
      refine lv_iconst (v := (1 : Int32)) hx hb dX2_add_159 (by decide) ?_
      refine lv_iadd hx hb dX2_add_160 ?_
      refine va_put (D := D) (ci := 2) (v := .int ((g_ 9) + (1 : Int32))) (ty := .int) (C := RX2) (T := TX2) (N := 6) hx hb hts (by decide +kernel) tyX2 tyX2_ok nmX2 hown hK hP (caD hD) hS 12 rfl rfl 3 (by decide) (hts (.fieldLink RX2 31 "PowerRests$Laid" "items" "I") (by decide +kernel)) (fun _ h9 => h9) rfl (by decide +kernel) rfl rfl (Nat.le_of_ble_eq_true rfl) dX2_add_161 (fun H locs hP _ hS => ?_)
      have hP : va_P D vwCl (caW ad cy (va_up g_ 9 ((g_ 9) + (1 : Int32))) (va_up a_ 6 (upd (a_ 6) (g_ 9).toNatClampNeg (g_ 7))) w_) H := hP
      exact W.vret hx hb hr (fun t ht hW => ⟨⟨((va_up g_ 9 ((g_ 9) + (1 : Int32))), (va_up a_ 6 (upd (a_ 6) (g_ 9).toNatClampNeg (g_ 7))), w_), rfl, hV, ar_heap ht hP⟩, hS.F ht⟩) hS.2.2 dX2_add_164
    · have hV := hV.2 c_64
      refine lv_lconst (v := (0 : Int64)) hx hb dX2_add_67 (by decide) ?_
      refine lv_lstore (lv' := [(4, .long (0 : Int64)), (0, .ref (ad 12)), (1, .ref (ad 11)), (2, .int x2), (3, .int x3)]) hx hb dX2_add_68 hl (by decide) rfl (fun ls hl => ?_)
      refine lv_iconst (v := (0 : Int32)) hx hb dX2_add_70 (by decide) ?_
      refine lv_istore (lv' := [(6, .int (0 : Int32)), (4, .long (0 : Int64)), (0, .ref (ad 12)), (1, .ref (ad 11)), (2, .int x2), (3, .int x3)]) hx hb dX2_add_71 hl (by decide) rfl (fun ls hl => ?_)
      exact oJ73 _ _ _ _ _ _ _ hV _ _ hP hS _ (lv_sub hl [2, 3, 4, 5, 1, 0] rfl))
  replace hV := hV (by
    intro x2 x3 x4 x6 g_ a_ w_ hV
    refine iJ73 x2 x3 x4 x6 g_ a_ w_ ?_
    intro H locs hP hS ls hl
    refine lv_iload hx hb dX2_add_73 (lv_at hl 5 rfl) ?_
    refine lv_bipush (v := (64 : Int32)) hx hb dX2_add_75 (by decide) ?_
    refine lv_icmp_ge (tgt := 122) hx hb dX2_add_77 (by decide) (fun c_77 => ?_) (fun c_77 => ?_)
    · have hV := hV.1 c_77
      refine lv_aload_n hx hb dX2_add_122 rfl (lv_at hl 0 rfl) ?_
      refine va_get (D := D) (ci := 2) (v := .ref (ad 13)) (C := RX2) (T := TX2) (N := 6) hx hb hts (by decide +kernel) hown hK hP 12 rfl rfl 0 (by decide) (hts (.fieldLink RX2 13 "PowerRests$Laid" "words" "[[J") (by decide +kernel)) (fun _ h9 => h9) rfl dX2_add_123 ?_
      refine lv_aload_n hx hb dX2_add_126 rfl (lv_at hl 0 rfl) ?_
      refine va_get (D := D) (ci := 2) (v := .int (g_ 9)) (C := RX2) (T := TX2) (N := 6) hx hb hts (by decide +kernel) hown hK hP 12 rfl rfl 3 (by decide) (hts (.fieldLink RX2 31 "PowerRests$Laid" "items" "I") (by decide +kernel)) (fun _ h9 => h9) rfl dX2_add_127 ?_
      obtain ⟨h_130, hV⟩ := hV
      refine ar_words hx hb hK hP h_130 dX2_add_130 ?_
      refine lv_iload_n hx hb dX2_add_131 rfl (lv_at hl 3 rfl) ?_
      refine lv_lload hx hb dX2_add_132 (lv_at hl 4 rfl) ?_
      obtain ⟨h_134, hV⟩ := hV
      refine ar_rowst hx hb hK hP (caD hD) hS h_130 h_134 dX2_add_134 (fun H locs hP hS => ?_)
      have hP : va_P D vwCl (caW ad cy g_ a_ (va_up w_ (g_ 9).toNatClampNeg (vp_updL (w_ (g_ 9).toNatClampNeg) x3.toNatClampNeg x4))) H := hP
      refine lv_iinc (v := x3 + 1) (lv' := [(3, .int (x3 + 1)), (0, .ref (ad 12)), (1, .ref (ad 11)), (2, .int x2), (4, .long x4), (6, .int x6)]) hx hb dX2_add_135 hl (k := 3) rfl rfl (by decide) rfl (fun ls hl => ?_)
      refine lv_goto (tgt := 59) hx hb dX2_add_138 (by decide) ?_
      exact oJ59 _ _ _ _ _ hV _ _ hP hS _ (lv_sub hl [1, 2, 3, 0] rfl)
    · have hV := hV.2 c_77
      refine lv_aload_n hx hb dX2_add_80 rfl (lv_at hl 0 rfl) ?_
      refine va_get (D := D) (ci := 2) (v := .ref (ad 15)) (C := RX2) (T := TX2) (N := 6) hx hb hts (by decide +kernel) hown hK hP 12 rfl rfl 2 (by decide) (hts (.fieldLink RX2 20 "PowerRests$Laid" "allowed" "[Z") (by decide +kernel)) (fun _ h9 => h9) rfl dX2_add_81 ?_
      refine lv_iload_n hx hb dX2_add_84 rfl (lv_at hl 2 rfl) ?_
      obtain ⟨h_85, hV⟩ := hV
      refine va_zald (f := (a_ 7)) hx hb hK hP 15 1 rfl rfl h_85 dX2_add_85 ?_
      refine lv_if_eq (tgt := 98) hx hb dX2_add_86 (by decide) (fun c_86 => ?_) (fun c_86 => ?_)
      · have hV := hV.1 c_86
        refine lv_iload_n hx hb dX2_add_98 rfl (lv_at hl 2 rfl) ?_
        refine lv_iconst (v := (1 : Int32)) hx hb dX2_add_99 (by decide) ?_
        refine lv_iadd hx hb dX2_add_100 ?_
        refine lv_aload_n hx hb dX2_add_101 rfl (lv_at hl 1 rfl) ?_
        refine va_getN (D := D) (ci := 1) (v := .int (g_ 7)) (C := RX1) (T := TX1) (N := 5) hx hb hts (by decide +kernel) hown hK hP 11 rfl rfl 3 (by decide) (hN.use 9 (q := (RX2, 34, RX1, "by", "I")) rfl) (fun _ h9 => h9) rfl dX2_add_102 ?_
        refine lv_icmp_ge (tgt := 114) hx hb dX2_add_105 (by decide) (fun c_105 => ?_) (fun c_105 => ?_)
        · have hV := hV.1 c_105
          refine lv_iconst (v := (0 : Int32)) hx hb dX2_add_114 (by decide) ?_
          refine lv_istore_n (lv' := [(2, .int (0 : Int32)), (0, .ref (ad 12)), (1, .ref (ad 11)), (3, .int x3), (4, .long x4), (6, .int x6)]) hx hb dX2_add_115 rfl hl (by decide) rfl (fun ls hl => ?_)
          refine lv_iinc (v := x6 + 1) (lv' := [(6, .int (x6 + 1)), (2, .int (0 : Int32)), (0, .ref (ad 12)), (1, .ref (ad 11)), (3, .int x3), (4, .long x4)]) hx hb dX2_add_116 hl (k := 5) rfl rfl (by decide) rfl (fun ls hl => ?_)
          refine lv_goto (tgt := 73) hx hb dX2_add_119 (by decide) ?_
          exact oJ73 _ _ _ _ _ _ _ hV _ _ hP hS _ (lv_sub hl [2, 3, 1, 4, 5, 0] rfl)
        · have hV := hV.2 c_105
          refine lv_iload_n hx hb dX2_add_108 rfl (lv_at hl 2 rfl) ?_
          refine lv_iconst (v := (1 : Int32)) hx hb dX2_add_109 (by decide) ?_
          refine lv_iadd hx hb dX2_add_110 ?_
          refine lv_goto (tgt := 115) hx hb dX2_add_111 (by decide) ?_
          refine lv_istore_n (lv' := [(2, .int (x2 + (1 : Int32))), (0, .ref (ad 12)), (1, .ref (ad 11)), (3, .int x3), (4, .long x4), (6, .int x6)]) hx hb dX2_add_115 rfl hl (by decide) rfl (fun ls hl => ?_)
          refine lv_iinc (v := x6 + 1) (lv' := [(6, .int (x6 + 1)), (2, .int (x2 + (1 : Int32))), (0, .ref (ad 12)), (1, .ref (ad 11)), (3, .int x3), (4, .long x4)]) hx hb dX2_add_116 hl (k := 5) rfl rfl (by decide) rfl (fun ls hl => ?_)
          refine lv_goto (tgt := 73) hx hb dX2_add_119 (by decide) ?_
          exact oJ73 _ _ _ _ _ _ _ hV _ _ hP hS _ (lv_sub hl [2, 3, 1, 4, 5, 0] rfl)
      · have hV := hV.2 c_86
        refine lv_lload hx hb dX2_add_89 (lv_at hl 4 rfl) ?_
        refine lv_lconst (v := (1 : Int64)) hx hb dX2_add_91 (by decide) ?_
        refine lv_iload hx hb dX2_add_92 (lv_at hl 5 rfl) ?_
        refine lv_lshl (v := (1 : Int64) <<< (x6.toInt64 &&& 63)) hx hb dX2_add_94 rfl ?_
        refine lv_lor hx hb dX2_add_95 ?_
        refine lv_lstore (lv' := [(4, .long (x4 ||| ((1 : Int64) <<< (x6.toInt64 &&& 63)))), (0, .ref (ad 12)), (1, .ref (ad 11)), (2, .int x2), (3, .int x3), (6, .int x6)]) hx hb dX2_add_96 hl (by decide) rfl (fun ls hl => ?_)
        refine lv_iload_n hx hb dX2_add_98 rfl (lv_at hl 3 rfl) ?_
        refine lv_iconst (v := (1 : Int32)) hx hb dX2_add_99 (by decide) ?_
        refine lv_iadd hx hb dX2_add_100 ?_
        refine lv_aload_n hx hb dX2_add_101 rfl (lv_at hl 2 rfl) ?_
        refine va_getN (D := D) (ci := 1) (v := .int (g_ 7)) (C := RX1) (T := TX1) (N := 5) hx hb hts (by decide +kernel) hown hK hP 11 rfl rfl 3 (by decide) (hN.use 9 (q := (RX2, 34, RX1, "by", "I")) rfl) (fun _ h9 => h9) rfl dX2_add_102 ?_
        refine lv_icmp_ge (tgt := 114) hx hb dX2_add_105 (by decide) (fun c_105 => ?_) (fun c_105 => ?_)
        · have hV := hV.1 c_105
          refine lv_iconst (v := (0 : Int32)) hx hb dX2_add_114 (by decide) ?_
          refine lv_istore_n (lv' := [(2, .int (0 : Int32)), (4, .long (x4 ||| ((1 : Int64) <<< (x6.toInt64 &&& 63)))), (0, .ref (ad 12)), (1, .ref (ad 11)), (3, .int x3), (6, .int x6)]) hx hb dX2_add_115 rfl hl (by decide) rfl (fun ls hl => ?_)
          refine lv_iinc (v := x6 + 1) (lv' := [(6, .int (x6 + 1)), (2, .int (0 : Int32)), (4, .long (x4 ||| ((1 : Int64) <<< (x6.toInt64 &&& 63)))), (0, .ref (ad 12)), (1, .ref (ad 11)), (3, .int x3)]) hx hb dX2_add_116 hl (k := 5) rfl rfl (by decide) rfl (fun ls hl => ?_)
          refine lv_goto (tgt := 73) hx hb dX2_add_119 (by decide) ?_
          exact oJ73 _ _ _ _ _ _ _ hV _ _ hP hS _ (lv_sub hl [3, 4, 1, 5, 2, 0] rfl)
        · have hV := hV.2 c_105
          refine lv_iload_n hx hb dX2_add_108 rfl (lv_at hl 3 rfl) ?_
          refine lv_iconst (v := (1 : Int32)) hx hb dX2_add_109 (by decide) ?_
          refine lv_iadd hx hb dX2_add_110 ?_
          refine lv_goto (tgt := 115) hx hb dX2_add_111 (by decide) ?_
          refine lv_istore_n (lv' := [(2, .int (x2 + (1 : Int32))), (4, .long (x4 ||| ((1 : Int64) <<< (x6.toInt64 &&& 63)))), (0, .ref (ad 12)), (1, .ref (ad 11)), (3, .int x3), (6, .int x6)]) hx hb dX2_add_115 rfl hl (by decide) rfl (fun ls hl => ?_)
          refine lv_iinc (v := x6 + 1) (lv' := [(6, .int (x6 + 1)), (2, .int (x2 + (1 : Int32))), (4, .long (x4 ||| ((1 : Int64) <<< (x6.toInt64 &&& 63)))), (0, .ref (ad 12)), (1, .ref (ad 11)), (3, .int x3)]) hx hb dX2_add_116 hl (k := 5) rfl rfl (by decide) rfl (fun ls hl => ?_)
          refine lv_goto (tgt := 73) hx hb dX2_add_119 (by decide) ?_
          exact oJ73 _ _ _ _ _ _ _ hV _ _ hP hS _ (lv_sub hl [3, 4, 1, 5, 2, 0] rfl))
  have hl := lv_entry ([.ref (ad 12), .ref (ad 11)]) (n := 7) (Nat.le_of_ble_eq_true rfl)
  rw [lg_entry_eq]
  generalize (lg_sl ([.ref (ad 12), .ref (ad 11)]) ++ List.replicate (7 - (lg_sl ([.ref (ad 12), .ref (ad 11)])).length) Slot.unset).toArray = ls at hl ⊢
  have hl : lv_has ls 7 [(0, .ref (ad 12)), (1, .ref (ad 11))] := hl
  refine lv_aload_n hx hb dX2_add_0 rfl (lv_at hl 0 rfl) ?_
  refine va_get (D := D) (ci := 2) (v := .int (g 9)) (C := RX2) (T := TX2) (N := 6) hx hb hts (by decide +kernel) hown hK hP 12 rfl rfl 3 (by decide) (hts (.fieldLink RX2 31 "PowerRests$Laid" "items" "I") (by decide +kernel)) (fun _ h9 => h9) rfl dX2_add_1 ?_
  refine lv_bipush (v := (8 : Int32)) hx hb dX2_add_4 (by decide) ?_
  refine lv_icmp_ge (tgt := 27) hx hb dX2_add_6 (by decide) (fun c_6 => ?_) (fun c_6 => ?_)
  · have hV := hV.1 c_6
    exact W.vret hx hb hr (fun t ht hW => ⟨⟨(g, a, w), rfl, hV, ar_heap ht hP⟩, hS.F ht⟩) hS.2.2 dX2_add_27
  · have hV := hV.2 c_6
    refine lv_aload_n hx hb dX2_add_9 rfl (lv_at hl 1 rfl) ?_
    refine va_getN (D := D) (ci := 1) (v := .int (g 7)) (C := RX1) (T := TX1) (N := 5) hx hb hts (by decide +kernel) hown hK hP 11 rfl rfl 3 (by decide) (hN.use 9 (q := (RX2, 34, RX1, "by", "I")) rfl) (fun _ h9 => h9) rfl dX2_add_10 ?_
    refine lv_iconst (v := (2 : Int32)) hx hb dX2_add_13 (by decide) ?_
    refine lv_icmp_lt (tgt := 27) hx hb dX2_add_14 (by decide) (fun c_14 => ?_) (fun c_14 => ?_)
    · have hV := hV.1 c_14
      exact W.vret hx hb hr (fun t ht hW => ⟨⟨(g, a, w), rfl, hV, ar_heap ht hP⟩, hS.F ht⟩) hS.2.2 dX2_add_27
    · have hV := hV.2 c_14
      refine lv_aload_n hx hb dX2_add_17 rfl (lv_at hl 1 rfl) ?_
      refine va_getN (D := D) (ci := 1) (v := .int (g 7)) (C := RX1) (T := TX1) (N := 5) hx hb hts (by decide +kernel) hown hK hP 11 rfl rfl 3 (by decide) (hN.use 9 (q := (RX2, 34, RX1, "by", "I")) rfl) (fun _ h9 => h9) rfl dX2_add_18 ?_
      refine lv_sipush (v := (200 : Int32)) hx hb dX2_add_21 (by decide) ?_
      refine lv_icmp_le (tgt := 28) hx hb dX2_add_24 (by decide) (fun c_24 => ?_) (fun c_24 => ?_)
      · have hV := hV.1 c_24
        refine lv_iconst (v := (0 : Int32)) hx hb dX2_add_28 (by decide) ?_
        refine lv_istore_n (lv' := [(2, .int (0 : Int32)), (0, .ref (ad 12)), (1, .ref (ad 11))]) hx hb dX2_add_29 rfl hl (by decide) rfl (fun ls hl => ?_)
        exact oJ30 _ _ _ _ hV _ _ hP hS _ (lv_sub hl [1, 2, 0] rfl)
      · have hV := hV.2 c_24
        exact W.vret hx hb hr (fun t ht hW => ⟨⟨(g, a, w), rfl, hV, ar_heap ht hP⟩, hS.F ht⟩) hS.2.2 dX2_add_27
def AddC (n l f s b : Nat) (g : Gs) (a : As) (w : Ws) (g' : Gs) (a' : As) (w' : Ws) : Prop := g' = va_up g 9 (nI (n + 1)) ∧ (∃ r7, a' = va_up (va_up a 7 r7) 6 (upd (a 6) n (nI b))) ∧ ∃ row, w' = va_up w n row ∧ ∀ q, q < b → ∀ j, j < 64 → wB (row q) j = cb (Hold l f s b (64 * q + j))
def post_X2_add (g : Gs) (a : As) (w : Ws) (g' : Gs) (a' : As) (w' : Ws) : Prop := ∀ n l f s b, n < 8 → g 9 = nI n → ItG g l f s b → AddC n l f s b g a w g' a' w'
set_option maxRecDepth 4000 in
theorem spec_X2_add (l : Launch) (D : va_G) (cy : Nat → ClassId) (ad : Nat → Nat) (sz : Nat) (g : Gs) (a : As) (w : Ws) (hpre : pre_X2_add g a w) : Met l yX2_add wsX2_add ({ frames := 2, cells := 0, slots := 0, locals := 52 } : Room) (va_Pc [.ref (ad 12), .ref (ad 11)] (ArP D cy sz (caW ad cy g a w))) (va_Qv (fun (u : Gs × As × Ws) => (post_X2_add g a w) u.1 u.2.1 u.2.2) (fun u t => va_P D vwCl (caW ad cy u.1 u.2.1 u.2.2) t.heap) (va_A (caW ad cy g a w) sz)) 0 0 (va_A (caW ad cy g a w) sz) := by
  apply met_X2_add
  intro J30 J59 J73 h30 h59 h73
  obtain ⟨n, l, f, s, b, hn, hg9, hI⟩ := hpre
  obtain ⟨⟨e4, e5, e6, e7⟩, hl, hf, hs, hb1, hb2⟩ := id hI
  have good : ∀ g' a' w', AddC n l f s b g a w g' a' w' → post_X2_add g a w g' a' w' := fun g' a' w' h => by
    intro n' l' f' s' b' hn' hg' hI'
    obtain ⟨rfl, rfl, rfl, rfl⟩ := hI.one hI'
    have : n' = n := (nI_eq (by omega) (by omega)).mp (hg'.symm.trans hg9)
    subst this
    exact h
  rw [hg9, e7]
  refine pk_le 8 n (fun h => absurd h (by omega)) (fun _ => pk_lt b 2 (fun h => absurd h (by omega)) (fun _ => pk_le b 200 (fun _ => ?_) (fun h => absurd h (by omega))))
  have eg9 : (nI n).toNatClampNeg = n := tn_nI (by omega)
  -- the words, with the row of the allowed rests
  have words : ∀ (r7 : Nat → Int32), (∀ i, i < b → r7 i = zb (Hold l f s b i)) → J59 0 0 g (va_up a 7 r7) w := by
    intro r7 hr7
    have u7 : (va_up a 7 r7) 7 = r7 := up_0 _ _ _
    have u6 : (va_up a 7 r7) 6 = a 6 := up_n _ _ (by decide)
    have fin : ∀ (row : Nat → Int64), (∀ q, q < b → ∀ j, j < 64 → wB (row q) j = cb (Hold l f s b (64 * q + j))) → post_X2_add g a w (va_up g 9 (nI (n + 1))) (va_up (va_up a 7 r7) 6 (upd (a 6) n (nI b))) (va_up w n row) := fun row h => good _ _ _ ⟨rfl, ⟨r7, rfl⟩, row, rfl, h⟩
    have block : ∀ (d k : Nat) (row : Nat → Int64), k + d = b → (∀ q, q < k → ∀ j, j < 64 → wB (row q) j = cb (Hold l f s b (64 * q + j))) → J59 (nI (64 * k % b)) (nI k) g (va_up a 7 r7) (va_up w n row) := by
      intro d
      induction d with
      | zero =>
        intro k row hk hrow
        have : k = b := by omega
        subst this
        refine h59 _ _ _ _ _ ?_
        rw [e7, hg9, u6, eg9, nI_1]
        exact pk_le k k (fun _ => ⟨vp_in_nI hn (by omega), fin row hrow⟩) (fun h => absurd h (by omega))
      | succ d ih =>
        intro k row hk hrow
        refine h59 _ _ _ _ _ ?_
        rw [e7]
        refine pk_le b k (fun h => absurd h (by omega)) (fun _ => ?_)
        have bits : ∀ (e t : Nat) (W : Int64), t + e = 64 → (∀ j, wB W j = (decide (j < t) && cb (Hold l f s b (64 * k + j)))) → J73 (nI ((64 * k + t) % b)) (nI k) W (nI t) g (va_up a 7 r7) (va_up w n row) := by
          intro e
          induction e with
          | zero =>
            intro t W ht hW
            have : t = 64 := by omega
            subst this
            refine h73 _ _ _ _ _ _ _ ?_
            rw [hg9, eg9, up_0, up_up, nI_1, show (nI k).toNatClampNeg = k from tn_nI (by omega)]
            refine pk_le 64 64 (fun _ => ⟨vp_in_nI hn (by omega), vp_in_nI (by omega) (by omega), ?_⟩) (fun h => absurd h (by omega))
            have := ih (k + 1) (vp_updL row k W) (by omega) (fun q hq j hj => ?_)
            · rwa [show 64 * (k + 1) = 64 * k + 64 by omega] at this
            · by_cases hqk : q = k
              · rw [hqk, pk_uLs, hW j, decide_eq_true hj, Bool.true_and]
              · rw [pk_uLn hqk]; exact hrow q (by omega) j hj
          | succ e ihe =>
            intro t W ht hW
            have hml := Nat.mod_lt (64 * k + t) (show 0 < b by omega)
            refine h73 _ _ _ _ _ _ _ ?_
            rw [e7, u7, show (nI ((64 * k + t) % b)).toNatClampNeg = (64 * k + t) % b from tn_nI (by omega), nI_1, nI_1, nI_1, hr7 _ hml]
            have hHm : Hold l f s b ((64 * k + t) % b) ↔ Hold l f s b (64 * k + t) := Hold_mod (Nat.mod_mod _ _)
            rw [zb_c hHm]
            have nx : ∀ (W' : Int64), (∀ j, wB W' j = (decide (j < t + 1) && cb (Hold l f s b (64 * k + j)))) → ((nI b ≤ nI ((64 * k + t) % b + 1) → J73 0 (nI k) W' (nI (t + 1)) g (va_up a 7 r7) (va_up w n row)) ∧ (¬ nI b ≤ nI ((64 * k + t) % b + 1) → J73 (nI ((64 * k + t) % b + 1)) (nI k) W' (nI (t + 1)) g (va_up a 7 r7) (va_up w n row))) := by
              intro W' hW'
              have := ihe (t + 1) W' (by omega) hW'
              rw [← Nat.add_assoc, mod_next (by omega)] at this
              refine pk_le b ((64 * k + t) % b + 1) (fun z => ?_) (fun z => ?_)
              · rw [if_neg (by omega)] at this; exact this
              · rw [if_pos (by omega)] at this; exact this
            refine pk_le 64 t (fun h => absurd h (by omega)) (fun _ => ⟨vp_in_nI (by omega) (by omega), fun z => nx W (fun j => ?_), fun z => nx _ (fun j => ?_)⟩)
            · rw [hW j]
              by_cases hjt : j = t
              · subst hjt
                rw [cb_f (zb_0 z), Bool.and_false, Bool.and_false]
              · by_cases h2 : j < t
                · rw [decide_eq_true h2, decide_eq_true (show j < t + 1 by omega)]
                · rw [decide_eq_false h2, decide_eq_false (show ¬ j < t + 1 by omega)]
            · rw [wB_or, wB_shl1 (by omega), hW j]
              by_cases hjt : j = t
              · subst hjt
                rw [cb_t (zb_1 z), decide_eq_true rfl, decide_eq_true (show j < j + 1 by omega), Bool.or_true]; rfl
              · rw [decide_eq_false (show ¬ t = j by omega), Bool.or_false]
                by_cases h2 : j < t
                · rw [decide_eq_true h2, decide_eq_true (show j < t + 1 by omega)]
                · rw [decide_eq_false h2, decide_eq_false (show ¬ j < t + 1 by omega)]
        have := bits 64 0 0 (by omega) (fun j => by rw [wB_0, decide_eq_false (Nat.not_lt_zero j), Bool.false_and])
        rw [Nat.add_zero] at this
        exact this
    have := block b 0 (w n) (by omega) (fun q hq => by omega)
    rw [up_id, Nat.mul_zero, Nat.zero_mod] at this
    exact this
  have key : ∀ (d k : Nat) (r7 : Nat → Int32), k + d = b → (∀ i, i < k → r7 i = zb (Hold l f s b i)) → J30 (nI k) g (va_up a 7 r7) w := by
    intro d
    induction d with
    | zero =>
      intro k r7 hk hr
      have : k = b := by omega
      subst this
      refine h30 _ _ _ _ ?_
      rw [e7]
      exact pk_le k k (fun _ => words r7 hr) (fun h => absurd h (by omega))
    | succ d ih =>
      intro k r7 hk hr
      refine h30 _ _ _ _ ?_
      simp only [up_up]
      rw [e7, up_0, show (nI k).toNatClampNeg = k from tn_nI (by omega), nI_1]
      refine pk_le b k (fun h => absurd h (by omega)) (fun _ => ⟨⟨l, f, s, b, k, hI, by omega, rfl⟩, fun r hr2 => ⟨vp_in_nI (by omega) (by omega), ?_⟩⟩)
      have := hr2 l f s b hI
      rw [tn_nI (by omega)] at this
      rw [this, nar_b]
      refine ih (k + 1) _ (by omega) (fun i hi => ?_)
      by_cases hik : i = k
      · rw [hik, pk_us]
      · rw [pk_un hik]; exact hr i (by omega)
  have := key b 0 (a 7) (by omega) (fun i hi => by omega)
  rw [up_id] at this
  exact this
theorem LdC.up {g : Gs} {a : As} {w : Ws} (h : LdC g a w) {g' : Gs} (h9 : g' 9 = g 9) : LdC g' a w := by
  have e : cN g' = cN g := by show tn (g' 9) = tn (g 9); rw [h9]
  unfold LdC
  rw [e, h9]
  exact h
/-- left: all items allow it -/
noncomputable def LfB (n : Nat) (H : Nat → Nat → Bool) (x : Nat) : Bool := cb (∀ k, k < n → H k x = true)
theorem AsB_all (n : Nat) (H : Nat → Nat → Bool) (x : Nat) : AsB n H (2 ^ n - 1) x = LfB n H x := by
  refine cb_iff ⟨fun h k hk => h k hk ?_, fun h k hk _ => h k hk⟩
  rw [Nat.testBit_two_pow_sub_one, decide_eq_true hk]
theorem two_le {n : Nat} (h : n ≤ 8) : 2 ^ n - 1 < 256 := by
  have : 2 ^ n ≤ 2 ^ 8 := Nat.pow_le_pow_right (by decide) h
  have := Nat.two_pow_pos n
  omega
theorem lf_block {p : Nat → Bool} {i : Nat} : fb_ct p (64 * (i + 1)) = fb_ct p (64 * i) + fb_ct (fun j => p (64 * i + j)) 64 := by
  rw [show 64 * (i + 1) = 64 * i + 64 by omega, fb_ct_split]
def pre_X2_close (g : Gs) (a : As) (w : Ws) (p0 : Int32) : Prop := LdC g a w ∧ 1 ≤ p0.toInt ∧ p0.toInt ≤ 2000000
set_option maxHeartbeats 4000000 in
set_option maxRecDepth 100000 in
theorem met_X2_close (l : Launch) (D : va_G) (cy : Nat → ClassId) (ad : Nat → Nat) (sz : Nat) (g : Gs) (a : As) (w : Ws) (p0 : Int32) (post : Gs → As → Ws → Prop)
  (hV : ∀ (J12 : Int32 → Gs → As → Ws → Prop),
    (∀ (x2 : Int32) (g_ : Gs) (a_ : As) (w_ : Ws), (((g_ 10) ≤ ((64 : Int32) * x2) → post g_ a_ w_) ∧ (¬ (g_ 10) ≤ ((64 : Int32) * x2) → (((64 : Int32) ≤ ((g_ 10) - ((64 : Int32) * x2)) → pre_X2_all g_ a_ w_ ∧ (∀ r61 : Int32, post_X2_all g_ a_ w_ r61 → pre_X2_wordOf g_ a_ w_ x2.toInt64 r61 ∧ (∀ r64 : Int64, post_X2_wordOf g_ a_ w_ x2.toInt64 r61 r64 → ∀ r70 : Int32, post_J13_bitCount_95d88 (r64 &&& (-1 : Int64)) r70 → J12 (x2 + 1) (va_up g_ 11 ((g_ 11) + r70)) a_ w_))) ∧ (¬ (64 : Int32) ≤ ((g_ 10) - ((64 : Int32) * x2)) → pre_X2_all g_ a_ w_ ∧ (∀ r61 : Int32, post_X2_all g_ a_ w_ r61 → pre_X2_wordOf g_ a_ w_ x2.toInt64 r61 ∧ (∀ r64 : Int64, post_X2_wordOf g_ a_ w_ x2.toInt64 r61 r64 → ∀ r70 : Int32, post_J13_bitCount_95d88 (r64 &&& (((1 : Int64) <<< (((g_ 10) - ((64 : Int32) * x2)).toInt64 &&& 63)) - (1 : Int64))) r70 → J12 (x2 + 1) (va_up g_ 11 ((g_ 11) + r70)) a_ w_)))))) → J12 x2 g_ a_ w_) →
    J12 (0 : Int32) (va_up (va_up g 10 p0) 11 (0 : Int32)) a w) :
  Met l yX2_close wsX2_close ({ frames := 2, cells := 0, slots := 0, locals := 48 } : Room) (va_Pc [.ref (ad 12), .int p0] (ArP D cy sz (caW ad cy g a w))) (va_Qv (fun (u : Gs × As × Ws) => post u.1 u.2.1 u.2.2) (fun u t => va_P D vwCl (caW ad cy u.1 u.2.1 u.2.2) t.heap) (va_A (caW ad cy g a w) sz)) 0 0 (va_A (caW ad cy g a w) sz) := by
  refine Met.ofW (cc := cX2_close) (maxL := 6) (ret := none) (by decide) rfl ?_
  intro p e s m args below meth c s₁ B hml hv
  obtain ⟨rfl, hsz, hP, hK, hD0, hN⟩ := hv
  have hx := B.exec
  have hb := B.bytes
  have hr := B.returns
  have hts := atoms_spec (ws := wsX2_close) B.pre
  have hown : s.vm.findClass RX2 = some m.cls := findClass_of_methodNamed B.named
  have hlocks := B.notSynchronized
  subst hsz
  have hD := hD0.self (sz := s.heap.size)
  have hP : va_P D vwCl (caW ad cy g a w) s.heap := hP
  have hD : va_D (va_A (caW ad cy g a w) s.heap.size) (caW ad cy g a w) := hD
  have hS : va_S (va_A (caW ad cy g a w) s.heap.size) s.heap s.heap [] := va_S.rf
  have hA : ∀ q : Nat, s.heap.size ≤ q → va_A (caW ad cy g a w) s.heap.size q := fun q h => Or.inr h
  obtain ⟨J12, iJ12, oJ12⟩ : ∃ J : Int32 → Gs → As → Ws → Prop, (∀ (x2 : Int32) (g_ : Gs) (a_ : As) (w_ : Ws), (∀ (H : Heap) (locs : List Loc), va_P D vwCl (caW ad cy g_ a_ w_) H → va_S (va_A (caW ad cy g a w) s.heap.size) s.heap H locs → ∀ ls : Array Slot, lv_has ls 6 [(0, .ref (ad 12)), (2, .int x2)] → W p l e (headSpec wsX2_close ({ frames := 2, cells := 0, slots := 0, locals := 48 } : Room)).room s m [.ref (ad 12), .int p0].toArray below meth c H locs 0 0 (MQ below (va_Qv (fun (u : Gs × As × Ws) => post u.1 u.2.1 u.2.2) (fun u t => va_P D vwCl (caW ad cy u.1 u.2.1 u.2.2) t.heap) (va_A (caW ad cy g a w) s.heap.size)) [.ref (ad 12), .int p0].toArray s 0 0 (va_A (caW ad cy g a w) s.heap.size)) (F0 m 12 ls [])) → J x2 g_ a_ w_) ∧ (∀ (x2 : Int32) (g_ : Gs) (a_ : As) (w_ : Ws), J x2 g_ a_ w_ → (∀ (H : Heap) (locs : List Loc), va_P D vwCl (caW ad cy g_ a_ w_) H → va_S (va_A (caW ad cy g a w) s.heap.size) s.heap H locs → ∀ ls : Array Slot, lv_has ls 6 [(0, .ref (ad 12)), (2, .int x2)] → W p l e (headSpec wsX2_close ({ frames := 2, cells := 0, slots := 0, locals := 48 } : Room)).room s m [.ref (ad 12), .int p0].toArray below meth c H locs 0 0 (MQ below (va_Qv (fun (u : Gs × As × Ws) => post u.1 u.2.1 u.2.2) (fun u t => va_P D vwCl (caW ad cy u.1 u.2.1 u.2.2) t.heap) (va_A (caW ad cy g a w) s.heap.size)) [.ref (ad 12), .int p0].toArray s 0 0 (va_A (caW ad cy g a w) s.heap.size)) (F0 m 12 ls []))) := ⟨fun (x2 : Int32) (g_ : Gs) (a_ : As) (w_ : Ws) => (∀ (H : Heap) (locs : List Loc), va_P D vwCl (caW ad cy g_ a_ w_) H → va_S (va_A (caW ad cy g a w) s.heap.size) s.heap H locs → ∀ ls : Array Slot, lv_has ls 6 [(0, .ref (ad 12)), (2, .int x2)] → W p l e (headSpec wsX2_close ({ frames := 2, cells := 0, slots := 0, locals := 48 } : Room)).room s m [.ref (ad 12), .int p0].toArray below meth c H locs 0 0 (MQ below (va_Qv (fun (u : Gs × As × Ws) => post u.1 u.2.1 u.2.2) (fun u t => va_P D vwCl (caW ad cy u.1 u.2.1 u.2.2) t.heap) (va_A (caW ad cy g a w) s.heap.size)) [.ref (ad 12), .int p0].toArray s 0 0 (va_A (caW ad cy g a w) s.heap.size)) (F0 m 12 ls [])), fun _ _ _ _ h => h, fun _ _ _ _ h => h⟩
  have hV := hV J12
  replace hV := hV (by
    intro x2 g_ a_ w_ hV
    refine iJ12 x2 g_ a_ w_ ?_
    intro H locs hP hS ls hl
    refine lv_bipush (v := (64 : Int32)) hx hb dX2_close_12 (by decide) ?_
    refine lv_iload_n hx hb dX2_close_14 rfl (lv_at hl 1 rfl) ?_
    refine lv_imul hx hb dX2_close_15 ?_
    refine lv_aload_n hx hb dX2_close_16 rfl (lv_at hl 0 rfl) ?_
    refine va_get (D := D) (ci := 2) (v := .int (g_ 10)) (C := RX2) (T := TX2) (N := 6) hx hb hts (by decide +kernel) hown hK hP 12 rfl rfl 4 (by decide) (hts (.fieldLink RX2 24 "PowerRests$Laid" "period" "I") (by decide +kernel)) (fun _ h9 => h9) rfl dX2_close_17 ?_
    refine lv_icmp_ge (tgt := 83) hx hb dX2_close_20 (by decide) (fun c_20 => ?_) (fun c_20 => ?_)
    · have hV := hV.1 c_20
      exact W.vret hx hb hr (fun t ht hW => ⟨⟨(g_, a_, w_), rfl, hV, ar_heap ht hP⟩, hS.F ht⟩) hS.2.2 dX2_close_83
    · have hV := hV.2 c_20
      refine lv_aload_n hx hb dX2_close_23 rfl (lv_at hl 0 rfl) ?_
      refine va_get (D := D) (ci := 2) (v := .int (g_ 10)) (C := RX2) (T := TX2) (N := 6) hx hb hts (by decide +kernel) hown hK hP 12 rfl rfl 4 (by decide) (hts (.fieldLink RX2 24 "PowerRests$Laid" "period" "I") (by decide +kernel)) (fun _ h9 => h9) rfl dX2_close_24 ?_
      refine lv_bipush (v := (64 : Int32)) hx hb dX2_close_27 (by decide) ?_
      refine lv_iload_n hx hb dX2_close_29 rfl (lv_at hl 1 rfl) ?_
      refine lv_imul hx hb dX2_close_30 ?_
      refine lv_isub hx hb dX2_close_31 ?_
      refine lv_istore_n (lv' := [(3, .int ((g_ 10) - ((64 : Int32) * x2))), (0, .ref (ad 12)), (2, .int x2)]) hx hb dX2_close_32 rfl hl (by decide) rfl (fun ls hl => ?_)
      refine lv_iload_n hx hb dX2_close_33 rfl (lv_at hl 0 rfl) ?_
      refine lv_bipush (v := (64 : Int32)) hx hb dX2_close_34 (by decide) ?_
      refine lv_icmp_ge (tgt := 47) hx hb dX2_close_36 (by decide) (fun c_36 => ?_) (fun c_36 => ?_)
      · have hV := hV.1 c_36
        refine lv_ldc2 (v := (-1 : Int64)) hx hb hown (hts (.constantLong RX2 43 (-1)) (by decide +kernel)) dX2_close_47 ?_
        refine lv_lstore (lv' := [(4, .long (-1 : Int64)), (3, .int ((g_ 10) - ((64 : Int32) * x2))), (0, .ref (ad 12)), (2, .int x2)]) hx hb dX2_close_50 hl (by decide) rfl (fun ls hl => ?_)
        refine lv_aload_n hx hb dX2_close_52 rfl (lv_at hl 2 rfl) ?_
        refine lv_dup hx hb dX2_close_53 rfl ?_
        refine va_get (D := D) (ci := 2) (v := .int (g_ 11)) (C := RX2) (T := TX2) (N := 6) hx hb hts (by decide +kernel) hown hK hP 12 rfl rfl 5 (by decide) (hts (.fieldLink RX2 28 "PowerRests$Laid" "leftMany" "I") (by decide +kernel)) (fun _ h9 => h9) rfl dX2_close_54 ?_
        refine lv_aload_n hx hb dX2_close_57 rfl (lv_at hl 2 rfl) ?_
        refine lv_iload_n hx hb dX2_close_58 rfl (lv_at hl 3 rfl) ?_
        refine lv_i2l (v := x2.toInt64) hx hb dX2_close_59 rfl ?_
        refine lv_aload_n hx hb dX2_close_60 rfl (lv_at hl 2 rfl) ?_
        obtain ⟨h_61, hV⟩ := hV
        refine cp_i (va_runV (As := []) (rest := [.long x2.toInt64, .ref (ad 12), .int (g_ 11), .ref (ad 12)]) ⟨hx, hb, hml, hown, hts⟩ (spec_X2_all l D cy ad _ g_ a_ w_ h_61) (cwV 0 hts gX2_close_X2_all rfl rfl rfl (by decide +kernel) ⟨Nat.le_of_ble_eq_true rfl, Nat.le_of_ble_eq_true rfl⟩) (ar_preV hN hK hP (caD hD) (ci := 2) (q0 := 12) rfl rfl) rfl rfl hl.1 rfl (lv_room (Nat.le_of_ble_eq_true rfl)) dX2_close_61 ⟨Nat.zero_le _, Nat.zero_le _⟩) (fun r61 q_61 => ?_)
        have hV := hV r61 q_61
        obtain ⟨h_64, hV⟩ := hV
        refine cp_l (va_runV (As := [.long x2.toInt64, .int r61]) (rest := [.int (g_ 11), .ref (ad 12)]) ⟨hx, hb, hml, hown, hts⟩ (spec_X2_wordOf l D cy ad _ g_ a_ w_ x2.toInt64 r61 h_64) (cwV 2 hts gX2_close_X2_wordOf rfl rfl rfl (by decide +kernel) ⟨Nat.le_of_ble_eq_true rfl, Nat.le_of_ble_eq_true rfl⟩) (ar_preV hN hK hP (caD hD) (ci := 2) (q0 := 12) rfl rfl) rfl rfl hl.1 rfl (lv_room (Nat.le_of_ble_eq_true rfl)) dX2_close_64 ⟨Nat.zero_le _, Nat.zero_le _⟩) (fun r64 q_64 => ?_)
        have hV := hV r64 q_64
        refine lv_lload hx hb dX2_close_67 (lv_at hl 0 rfl) ?_
        refine lv_land hx hb dX2_close_69 ?_
        refine cp_i (va_runS (As := [.long (r64 &&& (-1 : Int64))]) (rest := [.int (g_ 11), .ref (ad 12)]) ⟨hx, hb, hml, hown, hts⟩ (spec_J13_bitCount_95d88 l (r64 &&& (-1 : Int64))) (va_cwS 1 hts gX2_close_J13_bitCount_95d88 rfl rfl rfl (by decide +kernel) ⟨Nat.le_of_ble_eq_true rfl, Nat.le_of_ble_eq_true rfl⟩) cp_pre rfl rfl hl.1 rfl (lv_room (Nat.le_of_ble_eq_true rfl)) dX2_close_70 ⟨Nat.zero_le _, Nat.zero_le _⟩) (fun r70 q_70 => ?_)
        have hV := hV r70 q_70
        refine lv_iadd hx hb dX2_close_73 ?_
        refine va_put (D := D) (ci := 2) (v := .int ((g_ 11) + r70)) (ty := .int) (C := RX2) (T := TX2) (N := 6) hx hb hts (by decide +kernel) tyX2 tyX2_ok nmX2 hown hK hP (caD hD) hS 12 rfl rfl 5 (by decide) (hts (.fieldLink RX2 28 "PowerRests$Laid" "leftMany" "I") (by decide +kernel)) (fun _ h9 => h9) rfl (by decide +kernel) rfl rfl (Nat.le_of_ble_eq_true rfl) dX2_close_74 (fun H locs hP _ hS => ?_)
        have hP : va_P D vwCl (caW ad cy (va_up g_ 11 ((g_ 11) + r70)) a_ w_) H := hP
        refine lv_iinc (v := x2 + 1) (lv' := [(2, .int (x2 + 1)), (4, .long (-1 : Int64)), (3, .int ((g_ 10) - ((64 : Int32) * x2))), (0, .ref (ad 12))]) hx hb dX2_close_77 hl (k := 3) rfl rfl (by decide) rfl (fun ls hl => ?_)
        refine lv_goto (tgt := 12) hx hb dX2_close_80 (by decide) ?_
        exact oJ12 _ _ _ _ hV _ _ hP hS _ (lv_sub hl [3, 0] rfl)
      · have hV := hV.2 c_36
        refine lv_lconst (v := (1 : Int64)) hx hb dX2_close_39 (by decide) ?_
        refine lv_iload_n hx hb dX2_close_40 rfl (lv_at hl 0 rfl) ?_
        refine lv_lshl (v := (1 : Int64) <<< (((g_ 10) - ((64 : Int32) * x2)).toInt64 &&& 63)) hx hb dX2_close_41 rfl ?_
        refine lv_lconst (v := (1 : Int64)) hx hb dX2_close_42 (by decide) ?_
        refine lv_lsub hx hb dX2_close_43 ?_
        refine lv_goto (tgt := 50) hx hb dX2_close_44 (by decide) ?_
        refine lv_lstore (lv' := [(4, .long (((1 : Int64) <<< (((g_ 10) - ((64 : Int32) * x2)).toInt64 &&& 63)) - (1 : Int64))), (3, .int ((g_ 10) - ((64 : Int32) * x2))), (0, .ref (ad 12)), (2, .int x2)]) hx hb dX2_close_50 hl (by decide) rfl (fun ls hl => ?_)
        refine lv_aload_n hx hb dX2_close_52 rfl (lv_at hl 2 rfl) ?_
        refine lv_dup hx hb dX2_close_53 rfl ?_
        refine va_get (D := D) (ci := 2) (v := .int (g_ 11)) (C := RX2) (T := TX2) (N := 6) hx hb hts (by decide +kernel) hown hK hP 12 rfl rfl 5 (by decide) (hts (.fieldLink RX2 28 "PowerRests$Laid" "leftMany" "I") (by decide +kernel)) (fun _ h9 => h9) rfl dX2_close_54 ?_
        refine lv_aload_n hx hb dX2_close_57 rfl (lv_at hl 2 rfl) ?_
        refine lv_iload_n hx hb dX2_close_58 rfl (lv_at hl 3 rfl) ?_
        refine lv_i2l (v := x2.toInt64) hx hb dX2_close_59 rfl ?_
        refine lv_aload_n hx hb dX2_close_60 rfl (lv_at hl 2 rfl) ?_
        obtain ⟨h_61, hV⟩ := hV
        refine cp_i (va_runV (As := []) (rest := [.long x2.toInt64, .ref (ad 12), .int (g_ 11), .ref (ad 12)]) ⟨hx, hb, hml, hown, hts⟩ (spec_X2_all l D cy ad _ g_ a_ w_ h_61) (cwV 0 hts gX2_close_X2_all rfl rfl rfl (by decide +kernel) ⟨Nat.le_of_ble_eq_true rfl, Nat.le_of_ble_eq_true rfl⟩) (ar_preV hN hK hP (caD hD) (ci := 2) (q0 := 12) rfl rfl) rfl rfl hl.1 rfl (lv_room (Nat.le_of_ble_eq_true rfl)) dX2_close_61 ⟨Nat.zero_le _, Nat.zero_le _⟩) (fun r61 q_61 => ?_)
        have hV := hV r61 q_61
        obtain ⟨h_64, hV⟩ := hV
        refine cp_l (va_runV (As := [.long x2.toInt64, .int r61]) (rest := [.int (g_ 11), .ref (ad 12)]) ⟨hx, hb, hml, hown, hts⟩ (spec_X2_wordOf l D cy ad _ g_ a_ w_ x2.toInt64 r61 h_64) (cwV 2 hts gX2_close_X2_wordOf rfl rfl rfl (by decide +kernel) ⟨Nat.le_of_ble_eq_true rfl, Nat.le_of_ble_eq_true rfl⟩) (ar_preV hN hK hP (caD hD) (ci := 2) (q0 := 12) rfl rfl) rfl rfl hl.1 rfl (lv_room (Nat.le_of_ble_eq_true rfl)) dX2_close_64 ⟨Nat.zero_le _, Nat.zero_le _⟩) (fun r64 q_64 => ?_)
        have hV := hV r64 q_64
        refine lv_lload hx hb dX2_close_67 (lv_at hl 0 rfl) ?_
        refine lv_land hx hb dX2_close_69 ?_
        refine cp_i (va_runS (As := [.long (r64 &&& (((1 : Int64) <<< (((g_ 10) - ((64 : Int32) * x2)).toInt64 &&& 63)) - (1 : Int64)))]) (rest := [.int (g_ 11), .ref (ad 12)]) ⟨hx, hb, hml, hown, hts⟩ (spec_J13_bitCount_95d88 l (r64 &&& (((1 : Int64) <<< (((g_ 10) - ((64 : Int32) * x2)).toInt64 &&& 63)) - (1 : Int64)))) (va_cwS 1 hts gX2_close_J13_bitCount_95d88 rfl rfl rfl (by decide +kernel) ⟨Nat.le_of_ble_eq_true rfl, Nat.le_of_ble_eq_true rfl⟩) cp_pre rfl rfl hl.1 rfl (lv_room (Nat.le_of_ble_eq_true rfl)) dX2_close_70 ⟨Nat.zero_le _, Nat.zero_le _⟩) (fun r70 q_70 => ?_)
        have hV := hV r70 q_70
        refine lv_iadd hx hb dX2_close_73 ?_
        refine va_put (D := D) (ci := 2) (v := .int ((g_ 11) + r70)) (ty := .int) (C := RX2) (T := TX2) (N := 6) hx hb hts (by decide +kernel) tyX2 tyX2_ok nmX2 hown hK hP (caD hD) hS 12 rfl rfl 5 (by decide) (hts (.fieldLink RX2 28 "PowerRests$Laid" "leftMany" "I") (by decide +kernel)) (fun _ h9 => h9) rfl (by decide +kernel) rfl rfl (Nat.le_of_ble_eq_true rfl) dX2_close_74 (fun H locs hP _ hS => ?_)
        have hP : va_P D vwCl (caW ad cy (va_up g_ 11 ((g_ 11) + r70)) a_ w_) H := hP
        refine lv_iinc (v := x2 + 1) (lv' := [(2, .int (x2 + 1)), (4, .long (((1 : Int64) <<< (((g_ 10) - ((64 : Int32) * x2)).toInt64 &&& 63)) - (1 : Int64))), (3, .int ((g_ 10) - ((64 : Int32) * x2))), (0, .ref (ad 12))]) hx hb dX2_close_77 hl (k := 3) rfl rfl (by decide) rfl (fun ls hl => ?_)
        refine lv_goto (tgt := 12) hx hb dX2_close_80 (by decide) ?_
        exact oJ12 _ _ _ _ hV _ _ hP hS _ (lv_sub hl [3, 0] rfl))
  have hl := lv_entry ([.ref (ad 12), .int p0]) (n := 6) (Nat.le_of_ble_eq_true rfl)
  rw [lg_entry_eq]
  generalize (lg_sl ([.ref (ad 12), .int p0]) ++ List.replicate (6 - (lg_sl ([.ref (ad 12), .int p0])).length) Slot.unset).toArray = ls at hl ⊢
  have hl : lv_has ls 6 [(0, .ref (ad 12)), (1, .int p0)] := hl
  refine lv_aload_n hx hb dX2_close_0 rfl (lv_at hl 0 rfl) ?_
  refine lv_iload_n hx hb dX2_close_1 rfl (lv_at hl 1 rfl) ?_
  refine va_put (D := D) (ci := 2) (v := .int p0) (ty := .int) (C := RX2) (T := TX2) (N := 6) hx hb hts (by decide +kernel) tyX2 tyX2_ok nmX2 hown hK hP (caD hD) hS 12 rfl rfl 4 (by decide) (hts (.fieldLink RX2 24 "PowerRests$Laid" "period" "I") (by decide +kernel)) (fun _ h9 => h9) rfl (by decide +kernel) rfl rfl (Nat.le_of_ble_eq_true rfl) dX2_close_2 (fun H locs hP _ hS => ?_)
  have hP : va_P D vwCl (caW ad cy (va_up g 10 p0) a w) H := hP
  refine lv_aload_n hx hb dX2_close_5 rfl (lv_at hl 0 rfl) ?_
  refine lv_iconst (v := (0 : Int32)) hx hb dX2_close_6 (by decide) ?_
  refine va_put (D := D) (ci := 2) (v := .int (0 : Int32)) (ty := .int) (C := RX2) (T := TX2) (N := 6) hx hb hts (by decide +kernel) tyX2 tyX2_ok nmX2 hown hK hP (caD hD) hS 12 rfl rfl 5 (by decide) (hts (.fieldLink RX2 28 "PowerRests$Laid" "leftMany" "I") (by decide +kernel)) (fun _ h9 => h9) rfl (by decide +kernel) rfl rfl (Nat.le_of_ble_eq_true rfl) dX2_close_7 (fun H locs hP _ hS => ?_)
  have hP : va_P D vwCl (caW ad cy (va_up (va_up g 10 p0) 11 (0 : Int32)) a w) H := hP
  refine lv_iconst (v := (0 : Int32)) hx hb dX2_close_10 (by decide) ?_
  refine lv_istore_n (lv' := [(2, .int (0 : Int32)), (0, .ref (ad 12)), (1, .int p0)]) hx hb dX2_close_11 rfl hl (by decide) rfl (fun ls hl => ?_)
  exact oJ12 _ _ _ _ hV _ _ hP hS _ (lv_sub hl [1, 0] rfl)
def post_X2_close (g : Gs) (a : As) (w : Ws) (p0 : Int32) (g' : Gs) (a' : As) (w' : Ws) : Prop := g' = va_up (va_up g 10 p0) 11 (nI (fb_ct (LfB (cN g) (cH a w)) (tn p0))) ∧ a' = a ∧ w' = w
set_option maxRecDepth 4000 in
theorem spec_X2_close (l : Launch) (D : va_G) (cy : Nat → ClassId) (ad : Nat → Nat) (sz : Nat) (g : Gs) (a : As) (w : Ws) (p0 : Int32) (hpre : pre_X2_close g a w p0) : Met l yX2_close wsX2_close ({ frames := 2, cells := 0, slots := 0, locals := 48 } : Room) (va_Pc [.ref (ad 12), .int p0] (ArP D cy sz (caW ad cy g a w))) (va_Qv (fun (u : Gs × As × Ws) => (post_X2_close g a w p0) u.1 u.2.1 u.2.2) (fun u t => va_P D vwCl (caW ad cy u.1 u.2.1 u.2.2) t.heap) (va_A (caW ad cy g a w) sz)) 0 0 (va_A (caW ad cy g a w) sz) := by
  apply met_X2_close
  intro J hJ
  obtain ⟨hLd, h0, h1⟩ := hpre
  obtain ⟨P, hP, rfl, hP2⟩ := of_i (x := p0) (by omega)
  obtain ⟨hn8, hg9⟩ := hLd.1
  have key : ∀ (d i : Nat), i + d = (P + 63) / 64 → J (nI i) (va_up (va_up g 10 (nI P)) 11 (nI (fb_ct (LfB (cN g) (cH a w)) (min (64 * i) P)))) a w := by
    intro d
    induction d with
    | zero =>
      intro i hi
      refine hJ _ _ _ _ ?_
      rw [up_n _ _ (show (10 : Nat) ≠ 11 by decide), up_0]
      refine pk_le P (64 * i) (fun _ => ?_) (fun h => absurd h (by omega)) rfl (pk_mul 64 i) (by omega) (by omega)
      rw [Nat.min_eq_right (by omega)]
      refine ⟨?_, rfl, rfl⟩
      rw [tn_nI hP]
    | succ d ih =>
      intro i hi
      have hc := fb_ct_le (LfB (cN g) (cH a w)) (min (64 * i) P)
      have hmn : min (64 * i) P = 64 * i := Nat.min_eq_left (by omega)
      refine hJ _ _ _ _ ?_
      have hl9 : (va_up (va_up g 10 (nI P)) 11 (nI (fb_ct (LfB (cN g) (cH a w)) (min (64 * i) P)))) 9 = g 9 := by rw [up_n _ _ (by decide), up_n _ _ (by decide)]
      have eN : cN (va_up (va_up g 10 (nI P)) 11 (nI (fb_ct (LfB (cN g) (cH a w)) (min (64 * i) P)))) = cN g := by show tn (va_up _ _ _ 9) = _; rw [hl9]
      have hL2 : LdC (va_up (va_up g 10 (nI P)) 11 (nI (fb_ct (LfB (cN g) (cH a w)) (min (64 * i) P)))) a w := hLd.up hl9
      rw [up_n _ _ (show (10 : Nat) ≠ 11 by decide), up_0, show (64 : Int32) * nI i = nI (64 * i) from pk_mul 64 i, show nI P - nI (64 * i) = nI (P - 64 * i) from pk_sub (by omega), nI_1]
      simp only [up_up, up_0]
      -- the word of the block
      have wd : ∀ r61 r64, post_X2_all (va_up (va_up g 10 (nI P)) 11 (nI (fb_ct (LfB (cN g) (cH a w)) (min (64 * i) P)))) a w r61 → post_X2_wordOf (va_up (va_up g 10 (nI P)) 11 (nI (fb_ct (LfB (cN g) (cH a w)) (min (64 * i) P)))) a w (nI i).toInt64 r61 r64 → ∀ j, j < 64 → wB r64 j = LfB (cN g) (cH a w) (64 * i + j) := by
        intro r61 r64 h61 h64 j hj
        unfold post_X2_all at h61
        rw [eN] at h61
        have := h64 j hj
        rw [h61, tn_nI (by have := two_le hn8; omega), eN, nI_l (by omega), tl_lN (by omega), AsB_all] at this
        exact this
      have pa : pre_X2_all (va_up (va_up g 10 (nI P)) 11 (nI (fb_ct (LfB (cN g) (cH a w)) (min (64 * i) P)))) a w := by unfold pre_X2_all; rw [eN, hl9]; exact hLd.1
      have pw : ∀ r61, post_X2_all (va_up (va_up g 10 (nI P)) 11 (nI (fb_ct (LfB (cN g) (cH a w)) (min (64 * i) P)))) a w r61 → pre_X2_wordOf (va_up (va_up g 10 (nI P)) 11 (nI (fb_ct (LfB (cN g) (cH a w)) (min (64 * i) P)))) a w (nI i).toInt64 r61 := fun r61 h61 => by
        unfold post_X2_all at h61
        rw [eN] at h61
        exact ⟨hL2, by rw [il_t, nI_toInt (by omega)]; omega, _, two_le hn8, h61⟩
      refine pk_le P (64 * i) (fun h => absurd h (by omega)) (fun _ => pk_le 64 (P - 64 * i) (fun hw => ⟨pa, fun r61 h61 => ⟨pw r61 h61, fun r64 h64 r70 h70 => ?_⟩⟩) (fun hw => ⟨pa, fun r61 h61 => ⟨pw r61 h61, fun r64 h64 r70 h70 => ?_⟩⟩) rfl rfl (by omega) (by omega)) rfl rfl (by omega) (by omega)
      · have hb := wd r61 r64 h61 h64
        unfold post_J13_bitCount_95d88 at h70
        have e70 : r70 = nI (fb_ct (fun j => LfB (cN g) (cH a w) (64 * i + j)) 64) := by
          rw [h70]
          congr 1
          refine fb_ct_cong (fun j hj => ?_)
          show wB (r64 &&& -1) j = _
          rw [wB_and, wB_m1 hj, Bool.and_true, hb j hj]
        have := ih (i + 1) (by omega)
        rw [e70, nI_add, hmn, ← lf_block]
        rwa [show min (64 * (i + 1)) P = 64 * (i + 1) from Nat.min_eq_left (by omega)] at this
      · have hb := wd r61 r64 h61 h64
        unfold post_J13_bitCount_95d88 at h70
        obtain ⟨m, hm⟩ : ∃ m, P = 64 * i + m := ⟨P - 64 * i, by omega⟩
        have hmv : P - 64 * i = m := by omega
        rw [hmv] at h70 hw
        have e70 : r70 = nI (fb_ct (fun j => LfB (cN g) (cH a w) (64 * i + j)) m) := by
          rw [h70]
          congr 1
          have z64 : m + (64 - m) = 64 := by omega
          have sp := fb_ct_split (wB (r64 &&& (((1 : Int64) <<< ((nI m).toInt64 &&& 63)) - 1))) m (64 - m)
          rw [z64, (fb_ct_zero (p := fun k => wB (r64 &&& (((1 : Int64) <<< ((nI m).toInt64 &&& 63)) - 1)) (m + k)) (n := 64 - m)).mpr (fun j hj => by rw [wB_and, wB_low (by omega), decide_eq_false (by omega), Bool.and_false]), Nat.add_zero] at sp
          refine Eq.trans sp (fb_ct_cong (fun j hj => ?_))
          rw [wB_and, wB_low (by omega), decide_eq_true hj, Bool.and_true, hb j (by omega)]
        have := ih (i + 1) (by omega)
        rw [e70, nI_add, hmn, ← fb_ct_split, ← hm]
        rwa [show min (64 * (i + 1)) P = P from Nat.min_eq_right (by omega)] at this
  have := key ((P + 63) / 64) 0 (by omega)
  rw [Nat.mul_zero, Nat.zero_min] at this
  exact this
