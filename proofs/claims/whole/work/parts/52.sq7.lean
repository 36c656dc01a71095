set_option maxHeartbeats 4000000 in
set_option maxRecDepth 100000 in
theorem met_X7_squares (l : Launch) (D : va_G) (cy : Nat → ClassId) (ad : Nat → Nat) (sz : Nat) (g : Gs) (a : As) (p0 : Int32) (p1 : Int32) (post : Int32 → Gs → As → Prop)
  (hV : ∀ (J23 : Int32 → Gs → As → Prop) (J43 : Int32 → Gs → As → Prop) (J95 : Int32 → Int32 → Int32 → Int32 → Int32 → Int32 → Gs → As → Prop) (J137 : Int32 → Int32 → Int32 → Int32 → Int32 → Int32 → Gs → As → Prop),
    (∀ (x3 : Int32) (g_ : Gs) (a_ : As), ((p0 ≤ x3 → J43 (0 : Int32) g_ a_) ∧ (¬ p0 ≤ x3 → vp_in x3 50002 ∧ (J23 (x3 + 1) g_ (va_up a_ 10 (upd (a_ 10) x3.toNatClampNeg (vp_nar .boolean (0 : Int32))))))) → J23 x3 g_ a_) →
    (∀ (x3 : Int32) (g_ : Gs) (a_ : As), ((p0 ≤ x3 → J95 (0 : Int32) (0 : Int32) (0 : Int32) (0 : Int32) (-4 : Int32) (0 : Int32) g_ a_) ∧ (¬ p0 ≤ x3 → pre_X7_isUnit p0 x3 ∧ (∀ r50 : Int32, post_X7_isUnit p0 x3 r50 → ((r50 = 0 → J43 (x3 + 1) g_ a_) ∧ (¬ r50 = 0 → ¬ p0.toInt64 = 0 ∧ (vp_in (((x3.toInt64 * x3.toInt64) - (x3.toInt64 * x3.toInt64) / p0.toInt64 * p0.toInt64).toInt32) 50002 ∧ (J43 (x3 + 1) g_ (va_up a_ 10 (upd (a_ 10) (((x3.toInt64 * x3.toInt64) - (x3.toInt64 * x3.toInt64) / p0.toInt64 * p0.toInt64).toInt32).toNatClampNeg (vp_nar .boolean (1 : Int32))))))))))) → J43 x3 g_ a_) →
    (∀ (x3 : Int32) (x4 : Int32) (x5 : Int32) (x6 : Int32) (x7 : Int32) (x8 : Int32) (g_ : Gs) (a_ : As), ((p0 ≤ x8 → ((p1 = 0 → post x3 g_ a_) ∧ (¬ p1 = 0 → ((p1 = (1 : Int32) → post x5 g_ a_) ∧ (¬ p1 = (1 : Int32) → ((p1 = (2 : Int32) → post x6 g_ a_) ∧ (¬ p1 = (2 : Int32) → post x7 g_ a_))))))) ∧ (¬ p0 ≤ x8 → vp_in x8 50002 ∧ (((((a_ 10) x8.toNatClampNeg) = 0 → vp_in x8 50002 ∧ (((((a_ 10) x8.toNatClampNeg) = 0 → J137 (x3 + (0 : Int32)) x5 x6 x7 x8 (0 : Int32) g_ a_) ∧ (¬ ((a_ 10) x8.toNatClampNeg) = 0 → J137 (x3 + (0 : Int32)) x5 x6 x7 x8 (x4 + (1 : Int32)) g_ a_)))) ∧ (¬ ((a_ 10) x8.toNatClampNeg) = 0 → vp_in x8 50002 ∧ (((((a_ 10) x8.toNatClampNeg) = 0 → J137 (x3 + (1 : Int32)) x5 x6 x7 x8 (0 : Int32) g_ a_) ∧ (¬ ((a_ 10) x8.toNatClampNeg) = 0 → J137 (x3 + (1 : Int32)) x5 x6 x7 x8 (x4 + (1 : Int32)) g_ a_)))))))) → J95 x3 x4 x5 x6 x7 x8 g_ a_) →
    (∀ (x3 : Int32) (x5 : Int32) (x6 : Int32) (x7 : Int32) (x8 : Int32) (s0 : Int32) (g_ : Gs) (a_ : As), ((s0 ≤ x5 → ((0 ≤ x7 → J95 x3 s0 x5 x6 x7 (x8 + 1) g_ a_) ∧ (¬ 0 ≤ x7 → vp_in x8 50002 ∧ (((((a_ 10) x8.toNatClampNeg) = 0 → pre_X7_isUnit p0 x8 ∧ (∀ r177 : Int32, post_X7_isUnit p0 x8 r177 → ((r177 = 0 → J95 x3 s0 x5 x6 x7 (x8 + 1) g_ a_) ∧ (¬ r177 = 0 → J95 x3 s0 x5 x6 x8 (x8 + 1) g_ a_)))) ∧ (¬ ((a_ 10) x8.toNatClampNeg) = 0 → J95 x3 s0 x5 x6 x7 (x8 + 1) g_ a_)))))) ∧ (¬ s0 ≤ x5 → ((0 ≤ x7 → J95 x3 s0 s0 ((x8 - s0) + (1 : Int32)) x7 (x8 + 1) g_ a_) ∧ (¬ 0 ≤ x7 → vp_in x8 50002 ∧ (((((a_ 10) x8.toNatClampNeg) = 0 → pre_X7_isUnit p0 x8 ∧ (∀ r177 : Int32, post_X7_isUnit p0 x8 r177 → ((r177 = 0 → J95 x3 s0 s0 ((x8 - s0) + (1 : Int32)) x7 (x8 + 1) g_ a_) ∧ (¬ r177 = 0 → J95 x3 s0 s0 ((x8 - s0) + (1 : Int32)) x8 (x8 + 1) g_ a_)))) ∧ (¬ ((a_ 10) x8.toNatClampNeg) = 0 → J95 x3 s0 s0 ((x8 - s0) + (1 : Int32)) x7 (x8 + 1) g_ a_))))))) → J137 x3 x5 x6 x7 x8 s0 g_ a_) →
    ∀ r1 : Int32, post_X7_isBy p0 r1 → ((r1 = 0 → post (-1 : Int32) g a) ∧ (¬ r1 = 0 → ∀ r13 : Int32, post_X7_in p1.toInt64 (0 : Int64) (3 : Int64) r13 → ((r13 = 0 → post (-1 : Int32) g a) ∧ (¬ r13 = 0 → J23 (0 : Int32) g a))))) :
  Met l yX7_squares wsX7_squares ({ frames := 2, cells := 0, slots := 0, locals := 45 } : Room) (va_Pc [.ref (ad 0), .int p0, .int p1] (ArP D cy sz (maW ad cy g a))) (va_Qi (fun (r : Int32) (u : Gs × As) => post r u.1 u.2) (fun u t => va_P D vwCl (maW ad cy u.1 u.2) t.heap) (va_A (maW ad cy g a) sz)) 0 0 (va_A (maW ad cy g a) sz) := by
  refine Met.ofW (cc := cX7_squares) (maxL := 9) (ret := (some .int)) (by decide) rfl ?_
  intro p e s m args below meth c s₁ B hml hv
  obtain ⟨rfl, hsz, hP, hK, hD0, hN⟩ := hv
  have hx := B.exec
  have hb := B.bytes
  have hr := B.returns
  have hts := atoms_spec (ws := wsX7_squares) B.pre
  have hown : s.vm.findClass RX7 = some m.cls := findClass_of_methodNamed B.named
  have hlocks := B.notSynchronized
  subst hsz
  have hD := hD0.self (sz := s.heap.size)
  have hP : va_P D vwCl (maW ad cy g a) s.heap := hP
  have hD : va_D (va_A (maW ad cy g a) s.heap.size) (maW ad cy g a) := hD
  have hS : va_S (va_A (maW ad cy g a) s.heap.size) s.heap s.heap [] := va_S.rf
  have hA : ∀ q : Nat, s.heap.size ≤ q → va_A (maW ad cy g a) s.heap.size q := fun q h => Or.inr h
  obtain ⟨J23, iJ23, oJ23⟩ : ∃ J : Int32 → Gs → As → Prop, (∀ (x3 : Int32) (g_ : Gs) (a_ : As), (∀ (H : Heap) (locs : List Loc), va_P D vwCl (maW ad cy g_ a_) H → va_S (va_A (maW ad cy g a) s.heap.size) s.heap H locs → ∀ ls : Array Slot, lv_has ls 9 [(0, .ref (ad 0)), (1, .int p0), (2, .int p1), (3, .int x3)] → W p l e (headSpec wsX7_squares ({ frames := 2, cells := 0, slots := 0, locals := 45 } : Room)).room s m [.ref (ad 0), .int p0, .int p1].toArray below meth c H locs 0 0 (MQ below (va_Qi (fun (r : Int32) (u : Gs × As) => post r u.1 u.2) (fun u t => va_P D vwCl (maW ad cy u.1 u.2) t.heap) (va_A (maW ad cy g a) s.heap.size)) [.ref (ad 0), .int p0, .int p1].toArray s 0 0 (va_A (maW ad cy g a) s.heap.size)) (F0 m 23 ls [])) → J x3 g_ a_) ∧ (∀ (x3 : Int32) (g_ : Gs) (a_ : As), J x3 g_ a_ → (∀ (H : Heap) (locs : List Loc), va_P D vwCl (maW ad cy g_ a_) H → va_S (va_A (maW ad cy g a) s.heap.size) s.heap H locs → ∀ ls : Array Slot, lv_has ls 9 [(0, .ref (ad 0)), (1, .int p0), (2, .int p1), (3, .int x3)] → W p l e (headSpec wsX7_squares ({ frames := 2, cells := 0, slots := 0, locals := 45 } : Room)).room s m [.ref (ad 0), .int p0, .int p1].toArray below meth c H locs 0 0 (MQ below (va_Qi (fun (r : Int32) (u : Gs × As) => post r u.1 u.2) (fun u t => va_P D vwCl (maW ad cy u.1 u.2) t.heap) (va_A (maW ad cy g a) s.heap.size)) [.ref (ad 0), .int p0, .int p1].toArray s 0 0 (va_A (maW ad cy g a) s.heap.size)) (F0 m 23 ls []))) := ⟨fun (x3 : Int32) (g_ : Gs) (a_ : As) => (∀ (H : Heap) (locs : List Loc), va_P D vwCl (maW ad cy g_ a_) H → va_S (va_A (maW ad cy g a) s.heap.size) s.heap H locs → ∀ ls : Array Slot, lv_has ls 9 [(0, .ref (ad 0)), (1, .int p0), (2, .int p1), (3, .int x3)] → W p l e (headSpec wsX7_squares ({ frames := 2, cells := 0, slots := 0, locals := 45 } : Room)).room s m [.ref (ad 0), .int p0, .int p1].toArray below meth c H locs 0 0 (MQ below (va_Qi (fun (r : Int32) (u : Gs × As) => post r u.1 u.2) (fun u t => va_P D vwCl (maW ad cy u.1 u.2) t.heap) (va_A (maW ad cy g a) s.heap.size)) [.ref (ad 0), .int p0, .int p1].toArray s 0 0 (va_A (maW ad cy g a) s.heap.size)) (F0 m 23 ls [])), fun _ _ _ h => h, fun _ _ _ h => h⟩
  obtain ⟨J43, iJ43, oJ43⟩ : ∃ J : Int32 → Gs → As → Prop, (∀ (x3 : Int32) (g_ : Gs) (a_ : As), (∀ (H : Heap) (locs : List Loc), va_P D vwCl (maW ad cy g_ a_) H → va_S (va_A (maW ad cy g a) s.heap.size) s.heap H locs → ∀ ls : Array Slot, lv_has ls 9 [(0, .ref (ad 0)), (1, .int p0), (2, .int p1), (3, .int x3)] → W p l e (headSpec wsX7_squares ({ frames := 2, cells := 0, slots := 0, locals := 45 } : Room)).room s m [.ref (ad 0), .int p0, .int p1].toArray below meth c H locs 0 0 (MQ below (va_Qi (fun (r : Int32) (u : Gs × As) => post r u.1 u.2) (fun u t => va_P D vwCl (maW ad cy u.1 u.2) t.heap) (va_A (maW ad cy g a) s.heap.size)) [.ref (ad 0), .int p0, .int p1].toArray s 0 0 (va_A (maW ad cy g a) s.heap.size)) (F0 m 43 ls [])) → J x3 g_ a_) ∧ (∀ (x3 : Int32) (g_ : Gs) (a_ : As), J x3 g_ a_ → (∀ (H : Heap) (locs : List Loc), va_P D vwCl (maW ad cy g_ a_) H → va_S (va_A (maW ad cy g a) s.heap.size) s.heap H locs → ∀ ls : Array Slot, lv_has ls 9 [(0, .ref (ad 0)), (1, .int p0), (2, .int p1), (3, .int x3)] → W p l e (headSpec wsX7_squares ({ frames := 2, cells := 0, slots := 0, locals := 45 } : Room)).room s m [.ref (ad 0), .int p0, .int p1].toArray below meth c H locs 0 0 (MQ below (va_Qi (fun (r : Int32) (u : Gs × As) => post r u.1 u.2) (fun u t => va_P D vwCl (maW ad cy u.1 u.2) t.heap) (va_A (maW ad cy g a) s.heap.size)) [.ref (ad 0), .int p0, .int p1].toArray s 0 0 (va_A (maW ad cy g a) s.heap.size)) (F0 m 43 ls []))) := ⟨fun (x3 : Int32) (g_ : Gs) (a_ : As) => (∀ (H : Heap) (locs : List Loc), va_P D vwCl (maW ad cy g_ a_) H → va_S (va_A (maW ad cy g a) s.heap.size) s.heap H locs → ∀ ls : Array Slot, lv_has ls 9 [(0, .ref (ad 0)), (1, .int p0), (2, .int p1), (3, .int x3)] → W p l e (headSpec wsX7_squares ({ frames := 2, cells := 0, slots := 0, locals := 45 } : Room)).room s m [.ref (ad 0), .int p0, .int p1].toArray below meth c H locs 0 0 (MQ below (va_Qi (fun (r : Int32) (u : Gs × As) => post r u.1 u.2) (fun u t => va_P D vwCl (maW ad cy u.1 u.2) t.heap) (va_A (maW ad cy g a) s.heap.size)) [.ref (ad 0), .int p0, .int p1].toArray s 0 0 (va_A (maW ad cy g a) s.heap.size)) (F0 m 43 ls [])), fun _ _ _ h => h, fun _ _ _ h => h⟩
  obtain ⟨J95, iJ95, oJ95⟩ : ∃ J : Int32 → Int32 → Int32 → Int32 → Int32 → Int32 → Gs → As → Prop, (∀ (x3 : Int32) (x4 : Int32) (x5 : Int32) (x6 : Int32) (x7 : Int32) (x8 : Int32) (g_ : Gs) (a_ : As), (∀ (H : Heap) (locs : List Loc), va_P D vwCl (maW ad cy g_ a_) H → va_S (va_A (maW ad cy g a) s.heap.size) s.heap H locs → ∀ ls : Array Slot, lv_has ls 9 [(0, .ref (ad 0)), (1, .int p0), (2, .int p1), (3, .int x3), (4, .int x4), (5, .int x5), (6, .int x6), (7, .int x7), (8, .int x8)] → W p l e (headSpec wsX7_squares ({ frames := 2, cells := 0, slots := 0, locals := 45 } : Room)).room s m [.ref (ad 0), .int p0, .int p1].toArray below meth c H locs 0 0 (MQ below (va_Qi (fun (r : Int32) (u : Gs × As) => post r u.1 u.2) (fun u t => va_P D vwCl (maW ad cy u.1 u.2) t.heap) (va_A (maW ad cy g a) s.heap.size)) [.ref (ad 0), .int p0, .int p1].toArray s 0 0 (va_A (maW ad cy g a) s.heap.size)) (F0 m 95 ls [])) → J x3 x4 x5 x6 x7 x8 g_ a_) ∧ (∀ (x3 : Int32) (x4 : Int32) (x5 : Int32) (x6 : Int32) (x7 : Int32) (x8 : Int32) (g_ : Gs) (a_ : As), J x3 x4 x5 x6 x7 x8 g_ a_ → (∀ (H : Heap) (locs : List Loc), va_P D vwCl (maW ad cy g_ a_) H → va_S (va_A (maW ad cy g a) s.heap.size) s.heap H locs → ∀ ls : Array Slot, lv_has ls 9 [(0, .ref (ad 0)), (1, .int p0), (2, .int p1), (3, .int x3), (4, .int x4), (5, .int x5), (6, .int x6), (7, .int x7), (8, .int x8)] → W p l e (headSpec wsX7_squares ({ frames := 2, cells := 0, slots := 0, locals := 45 } : Room)).room s m [.ref (ad 0), .int p0, .int p1].toArray below meth c H locs 0 0 (MQ below (va_Qi (fun (r : Int32) (u : Gs × As) => post r u.1 u.2) (fun u t => va_P D vwCl (maW ad cy u.1 u.2) t.heap) (va_A (maW ad cy g a) s.heap.size)) [.ref (ad 0), .int p0, .int p1].toArray s 0 0 (va_A (maW ad cy g a) s.heap.size)) (F0 m 95 ls []))) := ⟨fun (x3 : Int32) (x4 : Int32) (x5 : Int32) (x6 : Int32) (x7 : Int32) (x8 : Int32) (g_ : Gs) (a_ : As) => (∀ (H : Heap) (locs : List Loc), va_P D vwCl (maW ad cy g_ a_) H → va_S (va_A (maW ad cy g a) s.heap.size) s.heap H locs → ∀ ls : Array Slot, lv_has ls 9 [(0, .ref (ad 0)), (1, .int p0), (2, .int p1), (3, .int x3), (4, .int x4), (5, .int x5), (6, .int x6), (7, .int x7), (8, .int x8)] → W p l e (headSpec wsX7_squares ({ frames := 2, cells := 0, slots := 0, locals := 45 } : Room)).room s m [.ref (ad 0), .int p0, .int p1].toArray below meth c H locs 0 0 (MQ below (va_Qi (fun (r : Int32) (u : Gs × As) => post r u.1 u.2) (fun u t => va_P D vwCl (maW ad cy u.1 u.2) t.heap) (va_A (maW ad cy g a) s.heap.size)) [.ref (ad 0), .int p0, .int p1].toArray s 0 0 (va_A (maW ad cy g a) s.heap.size)) (F0 m 95 ls [])), fun _ _ _ _ _ _ _ _ h => h, fun _ _ _ _ _ _ _ _ h => h⟩
  obtain ⟨J137, iJ137, oJ137⟩ : ∃ J : Int32 → Int32 → Int32 → Int32 → Int32 → Int32 → Gs → As → Prop, (∀ (x3 : Int32) (x5 : Int32) (x6 : Int32) (x7 : Int32) (x8 : Int32) (s0 : Int32) (g_ : Gs) (a_ : As), (∀ (H : Heap) (locs : List Loc), va_P D vwCl (maW ad cy g_ a_) H → va_S (va_A (maW ad cy g a) s.heap.size) s.heap H locs → ∀ ls : Array Slot, lv_has ls 9 [(0, .ref (ad 0)), (1, .int p0), (2, .int p1), (3, .int x3), (5, .int x5), (6, .int x6), (7, .int x7), (8, .int x8)] → W p l e (headSpec wsX7_squares ({ frames := 2, cells := 0, slots := 0, locals := 45 } : Room)).room s m [.ref (ad 0), .int p0, .int p1].toArray below meth c H locs 0 0 (MQ below (va_Qi (fun (r : Int32) (u : Gs × As) => post r u.1 u.2) (fun u t => va_P D vwCl (maW ad cy u.1 u.2) t.heap) (va_A (maW ad cy g a) s.heap.size)) [.ref (ad 0), .int p0, .int p1].toArray s 0 0 (va_A (maW ad cy g a) s.heap.size)) (F0 m 137 ls [.int s0])) → J x3 x5 x6 x7 x8 s0 g_ a_) ∧ (∀ (x3 : Int32) (x5 : Int32) (x6 : Int32) (x7 : Int32) (x8 : Int32) (s0 : Int32) (g_ : Gs) (a_ : As), J x3 x5 x6 x7 x8 s0 g_ a_ → (∀ (H : Heap) (locs : List Loc), va_P D vwCl (maW ad cy g_ a_) H → va_S (va_A (maW ad cy g a) s.heap.size) s.heap H locs → ∀ ls : Array Slot, lv_has ls 9 [(0, .ref (ad 0)), (1, .int p0), (2, .int p1), (3, .int x3), (5, .int x5), (6, .int x6), (7, .int x7), (8, .int x8)] → W p l e (headSpec wsX7_squares ({ frames := 2, cells := 0, slots := 0, locals := 45 } : Room)).room s m [.ref (ad 0), .int p0, .int p1].toArray below meth c H locs 0 0 (MQ below (va_Qi (fun (r : Int32) (u : Gs × As) => post r u.1 u.2) (fun u t => va_P D vwCl (maW ad cy u.1 u.2) t.heap) (va_A (maW ad cy g a) s.heap.size)) [.ref (ad 0), .int p0, .int p1].toArray s 0 0 (va_A (maW ad cy g a) s.heap.size)) (F0 m 137 ls [.int s0]))) := ⟨fun (x3 : Int32) (x5 : Int32) (x6 : Int32) (x7 : Int32) (x8 : Int32) (s0 : Int32) (g_ : Gs) (a_ : As) => (∀ (H : Heap) (locs : List Loc), va_P D vwCl (maW ad cy g_ a_) H → va_S (va_A (maW ad cy g a) s.heap.size) s.heap H locs → ∀ ls : Array Slot, lv_has ls 9 [(0, .ref (ad 0)), (1, .int p0), (2, .int p1), (3, .int x3), (5, .int x5), (6, .int x6), (7, .int x7), (8, .int x8)] → W p l e (headSpec wsX7_squares ({ frames := 2, cells := 0, slots := 0, locals := 45 } : Room)).room s m [.ref (ad 0), .int p0, .int p1].toArray below meth c H locs 0 0 (MQ below (va_Qi (fun (r : Int32) (u : Gs × As) => post r u.1 u.2) (fun u t => va_P D vwCl (maW ad cy u.1 u.2) t.heap) (va_A (maW ad cy g a) s.heap.size)) [.ref (ad 0), .int p0, .int p1].toArray s 0 0 (va_A (maW ad cy g a) s.heap.size)) (F0 m 137 ls [.int s0])), fun _ _ _ _ _ _ _ _ h => h, fun _ _ _ _ _ _ _ _ h => h⟩
  have hV := hV J23 J43 J95 J137
  replace hV := hV (by
    intro x3 g_ a_ hV
    refine iJ23 x3 g_ a_ ?_
    intro H locs hP hS ls hl
    refine lv_iload_n hx hb dX7_squares_23 rfl (lv_at hl 3 rfl) ?_
    refine lv_iload_n hx hb dX7_squares_24 rfl (lv_at hl 1 rfl) ?_
    refine lv_icmp_ge (tgt := 41) hx hb dX7_squares_25 (by decide) (fun c_25 => ?_) (fun c_25 => ?_)
    · have hV := hV.1 c_25
      refine lv_iconst (v := (0 : Int32)) hx hb dX7_squares_41 (by decide) ?_
      refine lv_istore_n (lv' := [(3, .int (0 : Int32)), (0, .ref (ad 0)), (1, .int p0), (2, .int p1)]) hx hb dX7_squares_42 rfl hl (by decide) rfl (fun ls hl => ?_)
      exact oJ43 _ _ _ hV _ _ hP hS _ (lv_sub hl [1, 2, 3, 0] rfl)
    · have hV := hV.2 c_25
      refine lv_aload_n hx hb dX7_squares_28 rfl (lv_at hl 0 rfl) ?_
      refine va_get (D := D) (ci := 6) (v := .ref (ad 11)) (C := RX7) (T := TX7) (N := 18) hx hb hts (by decide +kernel) hown hK hP 0 rfl rfl 15 (by decide) (hts (.fieldLink RX7 46 "PowerRestsModel" "mark" "[Z") (by decide +kernel)) (fun _ h9 => h9) rfl dX7_squares_29 ?_
      refine lv_iload_n hx hb dX7_squares_32 rfl (lv_at hl 3 rfl) ?_
      refine lv_iconst (v := (0 : Int32)) hx hb dX7_squares_33 (by decide) ?_
      obtain ⟨h_34, hV⟩ := hV
      refine va_zast (f := (a_ 10)) hx hb hK hP (maD hD) hS 11 1 rfl rfl h_34 dX7_squares_34 (fun H locs hP _ hS => ?_)
      have hP : va_P D vwCl (maW ad cy g_ (va_up a_ 10 (upd (a_ 10) x3.toNatClampNeg (vp_nar .boolean (0 : Int32))))) H := hP
      refine lv_iinc (v := x3 + 1) (lv' := [(3, .int (x3 + 1)), (0, .ref (ad 0)), (1, .int p0), (2, .int p1)]) hx hb dX7_squares_35 hl (k := 3) rfl rfl (by decide) rfl (fun ls hl => ?_)
      refine lv_goto (tgt := 23) hx hb dX7_squares_38 (by decide) ?_
      exact oJ23 _ _ _ hV _ _ hP hS _ (lv_sub hl [1, 2, 3, 0] rfl))
  replace hV := hV (by
    intro x3 g_ a_ hV
    refine iJ43 x3 g_ a_ ?_
    intro H locs hP hS ls hl
    refine lv_iload_n hx hb dX7_squares_43 rfl (lv_at hl 3 rfl) ?_
    refine lv_iload_n hx hb dX7_squares_44 rfl (lv_at hl 1 rfl) ?_
    refine lv_icmp_ge (tgt := 77) hx hb dX7_squares_45 (by decide) (fun c_45 => ?_) (fun c_45 => ?_)
    · have hV := hV.1 c_45
      refine lv_iconst (v := (0 : Int32)) hx hb dX7_squares_77 (by decide) ?_
      refine lv_istore_n (lv' := [(3, .int (0 : Int32)), (0, .ref (ad 0)), (1, .int p0), (2, .int p1)]) hx hb dX7_squares_78 rfl hl (by decide) rfl (fun ls hl => ?_)
      refine lv_iconst (v := (0 : Int32)) hx hb dX7_squares_79 (by decide) ?_
      refine lv_istore (lv' := [(4, .int (0 : Int32)), (3, .int (0 : Int32)), (0, .ref (ad 0)), (1, .int p0), (2, .int p1)]) hx hb dX7_squares_80 hl (by decide) rfl (fun ls hl => ?_)
      refine lv_iconst (v := (0 : Int32)) hx hb dX7_squares_82 (by decide) ?_
      refine lv_istore (lv' := [(5, .int (0 : Int32)), (4, .int (0 : Int32)), (3, .int (0 : Int32)), (0, .ref (ad 0)), (1, .int p0), (2, .int p1)]) hx hb dX7_squares_83 hl (by decide) rfl (fun ls hl => ?_)
      refine lv_iconst (v := (0 : Int32)) hx hb dX7_squares_85 (by decide) ?_
      refine lv_istore (lv' := [(6, .int (0 : Int32)), (5, .int (0 : Int32)), (4, .int (0 : Int32)), (3, .int (0 : Int32)), (0, .ref (ad 0)), (1, .int p0), (2, .int p1)]) hx hb dX7_squares_86 hl (by decide) rfl (fun ls hl => ?_)
      refine lv_bipush (v := (-4 : Int32)) hx hb dX7_squares_88 (by decide) ?_
      refine lv_istore (lv' := [(7, .int (-4 : Int32)), (6, .int (0 : Int32)), (5, .int (0 : Int32)), (4, .int (0 : Int32)), (3, .int (0 : Int32)), (0, .ref (ad 0)), (1, .int p0), (2, .int p1)]) hx hb dX7_squares_90 hl (by decide) rfl (fun ls hl => ?_)
      refine lv_iconst (v := (0 : Int32)) hx hb dX7_squares_92 (by decide) ?_
      refine lv_istore (lv' := [(8, .int (0 : Int32)), (7, .int (-4 : Int32)), (6, .int (0 : Int32)), (5, .int (0 : Int32)), (4, .int (0 : Int32)), (3, .int (0 : Int32)), (0, .ref (ad 0)), (1, .int p0), (2, .int p1)]) hx hb dX7_squares_93 hl (by decide) rfl (fun ls hl => ?_)
      exact oJ95 _ _ _ _ _ _ _ _ hV _ _ hP hS _ (lv_sub hl [6, 7, 8, 5, 4, 3, 2, 1, 0] rfl)
    · have hV := hV.2 c_45
      refine lv_iload_n hx hb dX7_squares_48 rfl (lv_at hl 1 rfl) ?_
      refine lv_iload_n hx hb dX7_squares_49 rfl (lv_at hl 3 rfl) ?_
      obtain ⟨h_50, hV⟩ := hV
      refine cp_i (va_runS (As := [.int p0, .int x3]) (rest := []) ⟨hx, hb, hml, hown, hts⟩ (spec_X7_isUnit l p0 x3 h_50) (va_cwS 2 hts gX7_squares_X7_isUnit rfl rfl rfl (by decide +kernel) ⟨Nat.le_of_ble_eq_true rfl, Nat.le_of_ble_eq_true rfl⟩) cp_pre rfl rfl hl.1 rfl (lv_room (Nat.le_of_ble_eq_true rfl)) dX7_squares_50 ⟨Nat.zero_le _, Nat.zero_le _⟩) (fun r50 q_50 => ?_)
      have hV := hV r50 q_50
      refine lv_if_eq (tgt := 71) hx hb dX7_squares_53 (by decide) (fun c_53 => ?_) (fun c_53 => ?_)
      · have hV := hV.1 c_53
        refine lv_iinc (v := x3 + 1) (lv' := [(3, .int (x3 + 1)), (0, .ref (ad 0)), (1, .int p0), (2, .int p1)]) hx hb dX7_squares_71 hl (k := 3) rfl rfl (by decide) rfl (fun ls hl => ?_)
        refine lv_goto (tgt := 43) hx hb dX7_squares_74 (by decide) ?_
        exact oJ43 _ _ _ hV _ _ hP hS _ (lv_sub hl [1, 2, 3, 0] rfl)
      · have hV := hV.2 c_53
        refine lv_aload_n hx hb dX7_squares_56 rfl (lv_at hl 0 rfl) ?_
        refine va_get (D := D) (ci := 6) (v := .ref (ad 11)) (C := RX7) (T := TX7) (N := 18) hx hb hts (by decide +kernel) hown hK hP 0 rfl rfl 15 (by decide) (hts (.fieldLink RX7 46 "PowerRestsModel" "mark" "[Z") (by decide +kernel)) (fun _ h9 => h9) rfl dX7_squares_57 ?_
        refine lv_iload_n hx hb dX7_squares_60 rfl (lv_at hl 3 rfl) ?_
        refine lv_i2l (v := x3.toInt64) hx hb dX7_squares_61 rfl ?_
        refine lv_iload_n hx hb dX7_squares_62 rfl (lv_at hl 3 rfl) ?_
        refine lv_i2l (v := x3.toInt64) hx hb dX7_squares_63 rfl ?_
        refine lv_lmul hx hb dX7_squares_64 ?_
        refine lv_iload_n hx hb dX7_squares_65 rfl (lv_at hl 1 rfl) ?_
        refine lv_i2l (v := p0.toInt64) hx hb dX7_squares_66 rfl ?_
        obtain ⟨h_67, hV⟩ := hV
        refine lv_lrem hx hb dX7_squares_67 h_67 ?_
        refine lv_l2i (v := ((x3.toInt64 * x3.toInt64) - (x3.toInt64 * x3.toInt64) / p0.toInt64 * p0.toInt64).toInt32) hx hb dX7_squares_68 rfl ?_
        refine lv_iconst (v := (1 : Int32)) hx hb dX7_squares_69 (by decide) ?_
        obtain ⟨h_70, hV⟩ := hV
        refine va_zast (f := (a_ 10)) hx hb hK hP (maD hD) hS 11 1 rfl rfl h_70 dX7_squares_70 (fun H locs hP _ hS => ?_)
        have hP : va_P D vwCl (maW ad cy g_ (va_up a_ 10 (upd (a_ 10) (((x3.toInt64 * x3.toInt64) - (x3.toInt64 * x3.toInt64) / p0.toInt64 * p0.toInt64).toInt32).toNatClampNeg (vp_nar .boolean (1 : Int32))))) H := hP
        refine lv_iinc (v := x3 + 1) (lv' := [(3, .int (x3 + 1)), (0, .ref (ad 0)), (1, .int p0), (2, .int p1)]) hx hb dX7_squares_71 hl (k := 3) rfl rfl (by decide) rfl (fun ls hl => ?_)
        refine lv_goto (tgt := 43) hx hb dX7_squares_74 (by decide) ?_
        exact oJ43 _ _ _ hV _ _ hP hS _ (lv_sub hl [1, 2, 3, 0] rfl))
  replace hV := hV (by
    intro x3 x4 x5 x6 x7 x8 g_ a_ hV
    refine iJ95 x3 x4 x5 x6 x7 x8 g_ a_ ?_
    intro H locs hP hS ls hl
    refine lv_iload hx hb dX7_squares_95 (lv_at hl 8 rfl) ?_
    refine lv_iload_n hx hb dX7_squares_97 rfl (lv_at hl 1 rfl) ?_
    refine lv_icmp_ge (tgt := 198) hx hb dX7_squares_98 (by decide) (fun c_98 => ?_) (fun c_98 => ?_)
    · have hV := hV.1 c_98
      refine lv_iload_n hx hb dX7_squares_198 rfl (lv_at hl 2 rfl) ?_
      refine lv_if_ne (tgt := 206) hx hb dX7_squares_199 (by decide) (fun c_199 => ?_) (fun c_199 => ?_)
      · have hV := hV.2 c_199
        refine lv_iload_n hx hb dX7_squares_206 rfl (lv_at hl 2 rfl) ?_
        refine lv_iconst (v := (1 : Int32)) hx hb dX7_squares_207 (by decide) ?_
        refine lv_icmp_ne (tgt := 216) hx hb dX7_squares_208 (by decide) (fun c_208 => ?_) (fun c_208 => ?_)
        · have hV := hV.2 c_208
          refine lv_iload_n hx hb dX7_squares_216 rfl (lv_at hl 2 rfl) ?_
          refine lv_iconst (v := (2 : Int32)) hx hb dX7_squares_217 (by decide) ?_
          refine lv_icmp_ne (tgt := 226) hx hb dX7_squares_218 (by decide) (fun c_218 => ?_) (fun c_218 => ?_)
          · have hV := hV.2 c_218
            refine lv_iload hx hb dX7_squares_226 (lv_at hl 7 rfl) ?_
            exact W.iret (v := x7) hx hb hr (fun t ht hW => ⟨⟨_, (g_, a_), rfl, hV, ar_heap ht hP⟩, hS.F ht⟩) hS.2.2 dX7_squares_228
          · have hV := hV.1 c_218
            refine lv_iload hx hb dX7_squares_221 (lv_at hl 6 rfl) ?_
            refine lv_goto (tgt := 228) hx hb dX7_squares_223 (by decide) ?_
            exact W.iret (v := x6) hx hb hr (fun t ht hW => ⟨⟨_, (g_, a_), rfl, hV, ar_heap ht hP⟩, hS.F ht⟩) hS.2.2 dX7_squares_228
        · have hV := hV.1 c_208
          refine lv_iload hx hb dX7_squares_211 (lv_at hl 5 rfl) ?_
          refine lv_goto (tgt := 228) hx hb dX7_squares_213 (by decide) ?_
          exact W.iret (v := x5) hx hb hr (fun t ht hW => ⟨⟨_, (g_, a_), rfl, hV, ar_heap ht hP⟩, hS.F ht⟩) hS.2.2 dX7_squares_228
      · have hV := hV.1 c_199
        refine lv_iload_n hx hb dX7_squares_202 rfl (lv_at hl 3 rfl) ?_
        refine lv_goto (tgt := 228) hx hb dX7_squares_203 (by decide) ?_
        exact W.iret (v := x3) hx hb hr (fun t ht hW => ⟨⟨_, (g_, a_), rfl, hV, ar_heap ht hP⟩, hS.F ht⟩) hS.2.2 dX7_squares_228
    · have hV := hV.2 c_98
      refine lv_iload_n hx hb dX7_squares_101 rfl (lv_at hl 3 rfl) ?_
      refine lv_aload_n hx hb dX7_squares_102 rfl (lv_at hl 0 rfl) ?_
      refine va_get (D := D) (ci := 6) (v := .ref (ad 11)) (C := RX7) (T := TX7) (N := 18) hx hb hts (by decide +kernel) hown hK hP 0 rfl rfl 15 (by decide) (hts (.fieldLink RX7 46 "PowerRestsModel" "mark" "[Z") (by decide +kernel)) (fun _ h9 => h9) rfl dX7_squares_103 ?_
      refine lv_iload hx hb dX7_squares_106 (lv_at hl 8 rfl) ?_
      obtain ⟨h_108, hV⟩ := hV
      refine va_zald (f := (a_ 10)) hx hb hK hP 11 1 rfl rfl h_108 dX7_squares_108 ?_
      refine lv_if_eq (tgt := 116) hx hb dX7_squares_109 (by decide) (fun c_109 => ?_) (fun c_109 => ?_)
      · have hV := hV.1 c_109
        refine lv_iconst (v := (0 : Int32)) hx hb dX7_squares_116 (by decide) ?_
        refine lv_iadd hx hb dX7_squares_117 ?_
        refine lv_istore_n (lv' := [(3, .int (x3 + (0 : Int32))), (0, .ref (ad 0)), (1, .int p0), (2, .int p1), (4, .int x4), (5, .int x5), (6, .int x6), (7, .int x7), (8, .int x8)]) hx hb dX7_squares_118 rfl hl (by decide) rfl (fun ls hl => ?_)
        refine lv_aload_n hx hb dX7_squares_119 rfl (lv_at hl 1 rfl) ?_
        refine va_get (D := D) (ci := 6) (v := .ref (ad 11)) (C := RX7) (T := TX7) (N := 18) hx hb hts (by decide +kernel) hown hK hP 0 rfl rfl 15 (by decide) (hts (.fieldLink RX7 46 "PowerRestsModel" "mark" "[Z") (by decide +kernel)) (fun _ h9 => h9) rfl dX7_squares_120 ?_
        refine lv_iload hx hb dX7_squares_123 (lv_at hl 8 rfl) ?_
        obtain ⟨h_125, hV⟩ := hV
        refine va_zald (f := (a_ 10)) hx hb hK hP 11 1 rfl rfl h_125 dX7_squares_125 ?_
        refine lv_if_eq (tgt := 136) hx hb dX7_squares_126 (by decide) (fun c_126 => ?_) (fun c_126 => ?_)
        · have hV := hV.1 c_126
          refine lv_iconst (v := (0 : Int32)) hx hb dX7_squares_136 (by decide) ?_
          exact oJ137 _ _ _ _ _ _ _ _ hV _ _ hP hS _ (lv_sub hl [1, 2, 3, 0, 5, 6, 7, 8] rfl)
        · have hV := hV.2 c_126
          refine lv_iload hx hb dX7_squares_129 (lv_at hl 4 rfl) ?_
          refine lv_iconst (v := (1 : Int32)) hx hb dX7_squares_131 (by decide) ?_
          refine lv_iadd hx hb dX7_squares_132 ?_
          refine lv_goto (tgt := 137) hx hb dX7_squares_133 (by decide) ?_
          exact oJ137 _ _ _ _ _ _ _ _ hV _ _ hP hS _ (lv_sub hl [1, 2, 3, 0, 5, 6, 7, 8] rfl)
      · have hV := hV.2 c_109
        refine lv_iconst (v := (1 : Int32)) hx hb dX7_squares_112 (by decide) ?_
        refine lv_goto (tgt := 117) hx hb dX7_squares_113 (by decide) ?_
        refine lv_iadd hx hb dX7_squares_117 ?_
        refine lv_istore_n (lv' := [(3, .int (x3 + (1 : Int32))), (0, .ref (ad 0)), (1, .int p0), (2, .int p1), (4, .int x4), (5, .int x5), (6, .int x6), (7, .int x7), (8, .int x8)]) hx hb dX7_squares_118 rfl hl (by decide) rfl (fun ls hl => ?_)
        refine lv_aload_n hx hb dX7_squares_119 rfl (lv_at hl 1 rfl) ?_
        refine va_get (D := D) (ci := 6) (v := .ref (ad 11)) (C := RX7) (T := TX7) (N := 18) hx hb hts (by decide +kernel) hown hK hP 0 rfl rfl 15 (by decide) (hts (.fieldLink RX7 46 "PowerRestsModel" "mark" "[Z") (by decide +kernel)) (fun _ h9 => h9) rfl dX7_squares_120 ?_
        refine lv_iload hx hb dX7_squares_123 (lv_at hl 8 rfl) ?_
        obtain ⟨h_125, hV⟩ := hV
        refine va_zald (f := (a_ 10)) hx hb hK hP 11 1 rfl rfl h_125 dX7_squares_125 ?_
        refine lv_if_eq (tgt := 136) hx hb dX7_squares_126 (by decide) (fun c_126 => ?_) (fun c_126 => ?_)
        · have hV := hV.1 c_126
          refine lv_iconst (v := (0 : Int32)) hx hb dX7_squares_136 (by decide) ?_
          exact oJ137 _ _ _ _ _ _ _ _ hV _ _ hP hS _ (lv_sub hl [1, 2, 3, 0, 5, 6, 7, 8] rfl)
        · have hV := hV.2 c_126
          refine lv_iload hx hb dX7_squares_129 (lv_at hl 4 rfl) ?_
          refine lv_iconst (v := (1 : Int32)) hx hb dX7_squares_131 (by decide) ?_
          refine lv_iadd hx hb dX7_squares_132 ?_
          refine lv_goto (tgt := 137) hx hb dX7_squares_133 (by decide) ?_
          exact oJ137 _ _ _ _ _ _ _ _ hV _ _ hP hS _ (lv_sub hl [1, 2, 3, 0, 5, 6, 7, 8] rfl))
  replace hV := hV (by
    intro x3 x5 x6 x7 x8 s0 g_ a_ hV
    refine iJ137 x3 x5 x6 x7 x8 s0 g_ a_ ?_
    intro H locs hP hS ls hl
    refine lv_istore (lv' := [(4, .int s0), (0, .ref (ad 0)), (1, .int p0), (2, .int p1), (3, .int x3), (5, .int x5), (6, .int x6), (7, .int x7), (8, .int x8)]) hx hb dX7_squares_137 hl (by decide) rfl (fun ls hl => ?_)
    refine lv_iload hx hb dX7_squares_139 (lv_at hl 0 rfl) ?_
    refine lv_iload hx hb dX7_squares_141 (lv_at hl 5 rfl) ?_
    refine lv_icmp_le (tgt := 159) hx hb dX7_squares_143 (by decide) (fun c_143 => ?_) (fun c_143 => ?_)
    · have hV := hV.1 c_143
      refine lv_iload hx hb dX7_squares_159 (lv_at hl 7 rfl) ?_
      refine lv_if_ge (tgt := 188) hx hb dX7_squares_161 (by decide) (fun c_161 => ?_) (fun c_161 => ?_)
      · have hV := hV.1 c_161
        refine lv_iload hx hb dX7_squares_188 (lv_at hl 7 rfl) ?_
        refine lv_istore (lv' := [(7, .int x7), (4, .int s0), (0, .ref (ad 0)), (1, .int p0), (2, .int p1), (3, .int x3), (5, .int x5), (6, .int x6), (8, .int x8)]) hx hb dX7_squares_190 hl (by decide) rfl (fun ls hl => ?_)
        refine lv_iinc (v := x8 + 1) (lv' := [(8, .int (x8 + 1)), (7, .int x7), (4, .int s0), (0, .ref (ad 0)), (1, .int p0), (2, .int p1), (3, .int x3), (5, .int x5), (6, .int x6)]) hx hb dX7_squares_192 hl (k := 8) rfl rfl (by decide) rfl (fun ls hl => ?_)
        refine lv_goto (tgt := 95) hx hb dX7_squares_195 (by decide) ?_
        exact oJ95 _ _ _ _ _ _ _ _ hV _ _ hP hS _ (lv_sub hl [3, 4, 5, 6, 2, 7, 8, 1, 0] rfl)
      · have hV := hV.2 c_161
        refine lv_aload_n hx hb dX7_squares_164 rfl (lv_at hl 1 rfl) ?_
        refine va_get (D := D) (ci := 6) (v := .ref (ad 11)) (C := RX7) (T := TX7) (N := 18) hx hb hts (by decide +kernel) hown hK hP 0 rfl rfl 15 (by decide) (hts (.fieldLink RX7 46 "PowerRestsModel" "mark" "[Z") (by decide +kernel)) (fun _ h9 => h9) rfl dX7_squares_165 ?_
        refine lv_iload hx hb dX7_squares_168 (lv_at hl 8 rfl) ?_
        obtain ⟨h_170, hV⟩ := hV
        refine va_zald (f := (a_ 10)) hx hb hK hP 11 1 rfl rfl h_170 dX7_squares_170 ?_
        refine lv_if_ne (tgt := 188) hx hb dX7_squares_171 (by decide) (fun c_171 => ?_) (fun c_171 => ?_)
        · have hV := hV.2 c_171
          refine lv_iload hx hb dX7_squares_188 (lv_at hl 7 rfl) ?_
          refine lv_istore (lv' := [(7, .int x7), (4, .int s0), (0, .ref (ad 0)), (1, .int p0), (2, .int p1), (3, .int x3), (5, .int x5), (6, .int x6), (8, .int x8)]) hx hb dX7_squares_190 hl (by decide) rfl (fun ls hl => ?_)
          refine lv_iinc (v := x8 + 1) (lv' := [(8, .int (x8 + 1)), (7, .int x7), (4, .int s0), (0, .ref (ad 0)), (1, .int p0), (2, .int p1), (3, .int x3), (5, .int x5), (6, .int x6)]) hx hb dX7_squares_192 hl (k := 8) rfl rfl (by decide) rfl (fun ls hl => ?_)
          refine lv_goto (tgt := 95) hx hb dX7_squares_195 (by decide) ?_
          exact oJ95 _ _ _ _ _ _ _ _ hV _ _ hP hS _ (lv_sub hl [3, 4, 5, 6, 2, 7, 8, 1, 0] rfl)
        · have hV := hV.1 c_171
          refine lv_iload_n hx hb dX7_squares_174 rfl (lv_at hl 2 rfl) ?_
          refine lv_iload hx hb dX7_squares_175 (lv_at hl 8 rfl) ?_
          obtain ⟨h_177, hV⟩ := hV
          refine cp_i (va_runS (As := [.int p0, .int x8]) (rest := []) ⟨hx, hb, hml, hown, hts⟩ (spec_X7_isUnit l p0 x8 h_177) (va_cwS 2 hts gX7_squares_X7_isUnit rfl rfl rfl (by decide +kernel) ⟨Nat.le_of_ble_eq_true rfl, Nat.le_of_ble_eq_true rfl⟩) cp_pre rfl rfl hl.1 rfl (lv_room (Nat.le_of_ble_eq_true rfl)) dX7_squares_177 ⟨Nat.zero_le _, Nat.zero_le _⟩) (fun r177 q_177 => ?_)
          have hV := hV r177 q_177
          refine lv_if_eq (tgt := 188) hx hb dX7_squares_180 (by decide) (fun c_180 => ?_) (fun c_180 => ?_)
          · have hV := hV.1 c_180
            refine lv_iload hx hb dX7_squares_188 (lv_at hl 7 rfl) ?_
            refine lv_istore (lv' := [(7, .int x7), (4, .int s0), (0, .ref (ad 0)), (1, .int p0), (2, .int p1), (3, .int x3), (5, .int x5), (6, .int x6), (8, .int x8)]) hx hb dX7_squares_190 hl (by decide) rfl (fun ls hl => ?_)
            refine lv_iinc (v := x8 + 1) (lv' := [(8, .int (x8 + 1)), (7, .int x7), (4, .int s0), (0, .ref (ad 0)), (1, .int p0), (2, .int p1), (3, .int x3), (5, .int x5), (6, .int x6)]) hx hb dX7_squares_192 hl (k := 8) rfl rfl (by decide) rfl (fun ls hl => ?_)
            refine lv_goto (tgt := 95) hx hb dX7_squares_195 (by decide) ?_
            exact oJ95 _ _ _ _ _ _ _ _ hV _ _ hP hS _ (lv_sub hl [3, 4, 5, 6, 2, 7, 8, 1, 0] rfl)
          · have hV := hV.2 c_180
            refine lv_iload hx hb dX7_squares_183 (lv_at hl 8 rfl) ?_
            refine lv_goto (tgt := 190) hx hb dX7_squares_185 (by decide) ?_
            refine lv_istore (lv' := [(7, .int x8), (4, .int s0), (0, .ref (ad 0)), (1, .int p0), (2, .int p1), (3, .int x3), (5, .int x5), (6, .int x6), (8, .int x8)]) hx hb dX7_squares_190 hl (by decide) rfl (fun ls hl => ?_)
            refine lv_iinc (v := x8 + 1) (lv' := [(8, .int (x8 + 1)), (7, .int x8), (4, .int s0), (0, .ref (ad 0)), (1, .int p0), (2, .int p1), (3, .int x3), (5, .int x5), (6, .int x6)]) hx hb dX7_squares_192 hl (k := 8) rfl rfl (by decide) rfl (fun ls hl => ?_)
            refine lv_goto (tgt := 95) hx hb dX7_squares_195 (by decide) ?_
            exact oJ95 _ _ _ _ _ _ _ _ hV _ _ hP hS _ (lv_sub hl [3, 4, 5, 6, 2, 7, 8, 1, 0] rfl)
    · have hV := hV.2 c_143
      refine lv_iload hx hb dX7_squares_146 (lv_at hl 0 rfl) ?_
      refine lv_istore (lv' := [(5, .int s0), (4, .int s0), (0, .ref (ad 0)), (1, .int p0), (2, .int p1), (3, .int x3), (6, .int x6), (7, .int x7), (8, .int x8)]) hx hb dX7_squares_148 hl (by decide) rfl (fun ls hl => ?_)
      refine lv_iload hx hb dX7_squares_150 (lv_at hl 8 rfl) ?_
      refine lv_iload hx hb dX7_squares_152 (lv_at hl 1 rfl) ?_
      refine lv_isub hx hb dX7_squares_154 ?_
      refine lv_iconst (v := (1 : Int32)) hx hb dX7_squares_155 (by decide) ?_
      refine lv_iadd hx hb dX7_squares_156 ?_
      refine lv_istore (lv' := [(6, .int ((x8 - s0) + (1 : Int32))), (5, .int s0), (4, .int s0), (0, .ref (ad 0)), (1, .int p0), (2, .int p1), (3, .int x3), (7, .int x7), (8, .int x8)]) hx hb dX7_squares_157 hl (by decide) rfl (fun ls hl => ?_)
      refine lv_iload hx hb dX7_squares_159 (lv_at hl 7 rfl) ?_
      refine lv_if_ge (tgt := 188) hx hb dX7_squares_161 (by decide) (fun c_161 => ?_) (fun c_161 => ?_)
      · have hV := hV.1 c_161
        refine lv_iload hx hb dX7_squares_188 (lv_at hl 7 rfl) ?_
        refine lv_istore (lv' := [(7, .int x7), (6, .int ((x8 - s0) + (1 : Int32))), (5, .int s0), (4, .int s0), (0, .ref (ad 0)), (1, .int p0), (2, .int p1), (3, .int x3), (8, .int x8)]) hx hb dX7_squares_190 hl (by decide) rfl (fun ls hl => ?_)
        refine lv_iinc (v := x8 + 1) (lv' := [(8, .int (x8 + 1)), (7, .int x7), (6, .int ((x8 - s0) + (1 : Int32))), (5, .int s0), (4, .int s0), (0, .ref (ad 0)), (1, .int p0), (2, .int p1), (3, .int x3)]) hx hb dX7_squares_192 hl (k := 8) rfl rfl (by decide) rfl (fun ls hl => ?_)
        refine lv_goto (tgt := 95) hx hb dX7_squares_195 (by decide) ?_
        exact oJ95 _ _ _ _ _ _ _ _ hV _ _ hP hS _ (lv_sub hl [5, 6, 7, 8, 4, 3, 2, 1, 0] rfl)
      · have hV := hV.2 c_161
        refine lv_aload_n hx hb dX7_squares_164 rfl (lv_at hl 3 rfl) ?_
        refine va_get (D := D) (ci := 6) (v := .ref (ad 11)) (C := RX7) (T := TX7) (N := 18) hx hb hts (by decide +kernel) hown hK hP 0 rfl rfl 15 (by decide) (hts (.fieldLink RX7 46 "PowerRestsModel" "mark" "[Z") (by decide +kernel)) (fun _ h9 => h9) rfl dX7_squares_165 ?_
        refine lv_iload hx hb dX7_squares_168 (lv_at hl 8 rfl) ?_
        obtain ⟨h_170, hV⟩ := hV
        refine va_zald (f := (a_ 10)) hx hb hK hP 11 1 rfl rfl h_170 dX7_squares_170 ?_
        refine lv_if_ne (tgt := 188) hx hb dX7_squares_171 (by decide) (fun c_171 => ?_) (fun c_171 => ?_)
        · have hV := hV.2 c_171
          refine lv_iload hx hb dX7_squares_188 (lv_at hl 7 rfl) ?_
          refine lv_istore (lv' := [(7, .int x7), (6, .int ((x8 - s0) + (1 : Int32))), (5, .int s0), (4, .int s0), (0, .ref (ad 0)), (1, .int p0), (2, .int p1), (3, .int x3), (8, .int x8)]) hx hb dX7_squares_190 hl (by decide) rfl (fun ls hl => ?_)
          refine lv_iinc (v := x8 + 1) (lv' := [(8, .int (x8 + 1)), (7, .int x7), (6, .int ((x8 - s0) + (1 : Int32))), (5, .int s0), (4, .int s0), (0, .ref (ad 0)), (1, .int p0), (2, .int p1), (3, .int x3)]) hx hb dX7_squares_192 hl (k := 8) rfl rfl (by decide) rfl (fun ls hl => ?_)
          refine lv_goto (tgt := 95) hx hb dX7_squares_195 (by decide) ?_
          exact oJ95 _ _ _ _ _ _ _ _ hV _ _ hP hS _ (lv_sub hl [5, 6, 7, 8, 4, 3, 2, 1, 0] rfl)
        · have hV := hV.1 c_171
          refine lv_iload_n hx hb dX7_squares_174 rfl (lv_at hl 4 rfl) ?_
          refine lv_iload hx hb dX7_squares_175 (lv_at hl 8 rfl) ?_
          obtain ⟨h_177, hV⟩ := hV
          refine cp_i (va_runS (As := [.int p0, .int x8]) (rest := []) ⟨hx, hb, hml, hown, hts⟩ (spec_X7_isUnit l p0 x8 h_177) (va_cwS 2 hts gX7_squares_X7_isUnit rfl rfl rfl (by decide +kernel) ⟨Nat.le_of_ble_eq_true rfl, Nat.le_of_ble_eq_true rfl⟩) cp_pre rfl rfl hl.1 rfl (lv_room (Nat.le_of_ble_eq_true rfl)) dX7_squares_177 ⟨Nat.zero_le _, Nat.zero_le _⟩) (fun r177 q_177 => ?_)
          have hV := hV r177 q_177
          refine lv_if_eq (tgt := 188) hx hb dX7_squares_180 (by decide) (fun c_180 => ?_) (fun c_180 => ?_)
          · have hV := hV.1 c_180
            refine lv_iload hx hb dX7_squares_188 (lv_at hl 7 rfl) ?_
            refine lv_istore (lv' := [(7, .int x7), (6, .int ((x8 - s0) + (1 : Int32))), (5, .int s0), (4, .int s0), (0, .ref (ad 0)), (1, .int p0), (2, .int p1), (3, .int x3), (8, .int x8)]) hx hb dX7_squares_190 hl (by decide) rfl (fun ls hl => ?_)
            refine lv_iinc (v := x8 + 1) (lv' := [(8, .int (x8 + 1)), (7, .int x7), (6, .int ((x8 - s0) + (1 : Int32))), (5, .int s0), (4, .int s0), (0, .ref (ad 0)), (1, .int p0), (2, .int p1), (3, .int x3)]) hx hb dX7_squares_192 hl (k := 8) rfl rfl (by decide) rfl (fun ls hl => ?_)
            refine lv_goto (tgt := 95) hx hb dX7_squares_195 (by decide) ?_
            exact oJ95 _ _ _ _ _ _ _ _ hV _ _ hP hS _ (lv_sub hl [5, 6, 7, 8, 4, 3, 2, 1, 0] rfl)
          · have hV := hV.2 c_180
            refine lv_iload hx hb dX7_squares_183 (lv_at hl 8 rfl) ?_
            refine lv_goto (tgt := 190) hx hb dX7_squares_185 (by decide) ?_
            refine lv_istore (lv' := [(7, .int x8), (6, .int ((x8 - s0) + (1 : Int32))), (5, .int s0), (4, .int s0), (0, .ref (ad 0)), (1, .int p0), (2, .int p1), (3, .int x3), (8, .int x8)]) hx hb dX7_squares_190 hl (by decide) rfl (fun ls hl => ?_)
            refine lv_iinc (v := x8 + 1) (lv' := [(8, .int (x8 + 1)), (7, .int x8), (6, .int ((x8 - s0) + (1 : Int32))), (5, .int s0), (4, .int s0), (0, .ref (ad 0)), (1, .int p0), (2, .int p1), (3, .int x3)]) hx hb dX7_squares_192 hl (k := 8) rfl rfl (by decide) rfl (fun ls hl => ?_)
            refine lv_goto (tgt := 95) hx hb dX7_squares_195 (by decide) ?_
            exact oJ95 _ _ _ _ _ _ _ _ hV _ _ hP hS _ (lv_sub hl [5, 6, 7, 8, 4, 3, 2, 1, 0] rfl))
  have hl := lv_entry ([.ref (ad 0), .int p0, .int p1]) (n := 9) (Nat.le_of_ble_eq_true rfl)
  rw [lg_entry_eq]
  generalize (lg_sl ([.ref (ad 0), .int p0, .int p1]) ++ List.replicate (9 - (lg_sl ([.ref (ad 0), .int p0, .int p1])).length) Slot.unset).toArray = ls at hl ⊢
  have hl : lv_has ls 9 [(0, .ref (ad 0)), (1, .int p0), (2, .int p1)] := hl
  refine lv_iload_n hx hb dX7_squares_0 rfl (lv_at hl 1 rfl) ?_
  refine cp_i (va_runS (As := [.int p0]) (rest := []) ⟨hx, hb, hml, hown, hts⟩ (spec_X7_isBy l p0) (va_cwS 1 hts gX7_squares_X7_isBy rfl rfl rfl (by decide +kernel) ⟨Nat.le_of_ble_eq_true rfl, Nat.le_of_ble_eq_true rfl⟩) cp_pre rfl rfl hl.1 rfl (lv_room (Nat.le_of_ble_eq_true rfl)) dX7_squares_1 ⟨Nat.zero_le _, Nat.zero_le _⟩) (fun r1 q_1 => ?_)
  have hV := hV r1 q_1
  refine lv_if_eq (tgt := 19) hx hb dX7_squares_4 (by decide) (fun c_4 => ?_) (fun c_4 => ?_)
  · have hV := hV.1 c_4
    refine lv_iconst (v := (-1 : Int32)) hx hb dX7_squares_19 (by decide) ?_
    exact W.iret (v := (-1 : Int32)) hx hb hr (fun t ht hW => ⟨⟨_, (g, a), rfl, hV, ar_heap ht hP⟩, hS.F ht⟩) hS.2.2 dX7_squares_20
  · have hV := hV.2 c_4
    refine lv_iload_n hx hb dX7_squares_7 rfl (lv_at hl 2 rfl) ?_
    refine lv_i2l (v := p1.toInt64) hx hb dX7_squares_8 rfl ?_
    refine lv_lconst (v := (0 : Int64)) hx hb dX7_squares_9 (by decide) ?_
    refine lv_ldc2 (v := (3 : Int64)) hx hb hown (hts (.constantLong RX7 94 (3)) (by decide +kernel)) dX7_squares_10 ?_
    refine cp_i (va_runS (As := [.long p1.toInt64, .long (0 : Int64), .long (3 : Int64)]) (rest := []) ⟨hx, hb, hml, hown, hts⟩ (spec_X7_in l p1.toInt64 (0 : Int64) (3 : Int64)) (va_cwS 3 hts gX7_squares_X7_in rfl rfl rfl (by decide +kernel) ⟨Nat.le_of_ble_eq_true rfl, Nat.le_of_ble_eq_true rfl⟩) cp_pre rfl rfl hl.1 rfl (lv_room (Nat.le_of_ble_eq_true rfl)) dX7_squares_13 ⟨Nat.zero_le _, Nat.zero_le _⟩) (fun r13 q_13 => ?_)
    have hV := hV r13 q_13
    refine lv_if_ne (tgt := 21) hx hb dX7_squares_16 (by decide) (fun c_16 => ?_) (fun c_16 => ?_)
    · have hV := hV.2 c_16
      refine lv_iconst (v := (0 : Int32)) hx hb dX7_squares_21 (by decide) ?_
      refine lv_istore_n (lv' := [(3, .int (0 : Int32)), (0, .ref (ad 0)), (1, .int p0), (2, .int p1)]) hx hb dX7_squares_22 rfl hl (by decide) rfl (fun ls hl => ?_)
      exact oJ23 _ _ _ hV _ _ hP hS _ (lv_sub hl [1, 2, 3, 0] rfl)
    · have hV := hV.1 c_16
      refine lv_iconst (v := (-1 : Int32)) hx hb dX7_squares_19 (by decide) ?_
      exact W.iret (v := (-1 : Int32)) hx hb hr (fun t ht hW => ⟨⟨_, (g, a), rfl, hV, ar_heap ht hP⟩, hS.F ht⟩) hS.2.2 dX7_squares_20
def post_X7_squares (g : Gs) (a : As) (p0 p1 r : Int32) (g' : Gs) (a' : As) : Prop := SquaresAns p0 p1 r ∧ KS g a g' a'
set_option maxRecDepth 4000 in
theorem spec_X7_squares (l : Launch) (D : va_G) (cy : Nat → ClassId) (ad : Nat → Nat) (sz : Nat) (g : Gs) (a : As) (p0 : Int32) (p1 : Int32) : Met l yX7_squares wsX7_squares ({ frames := 2, cells := 0, slots := 0, locals := 45 } : Room) (va_Pc [.ref (ad 0), .int p0, .int p1] (ArP D cy sz (maW ad cy g a))) (va_Qi (fun (r : Int32) (u : Gs × As) => (post_X7_squares g a p0 p1) r u.1 u.2) (fun u t => va_P D vwCl (maW ad cy u.1 u.2) t.heap) (va_A (maW ad cy g a) sz)) 0 0 (va_A (maW ad cy g a) sz) := by
  apply met_X7_squares
  intro J23 J43 J95 J137 h23 h43 h95 h137 r hr
  unfold post_X7_isBy at hr
  subst hr
  have l0 : (0 : Int64).toInt = 0 := rfl
  have l3 : (3 : Int64).toInt = 3 := rfl
  refine ⟨fun h => ⟨Or.inl ⟨Or.inl (zb_0 h), rfl⟩, KS.rf⟩, fun h r2 hr2 => ?_⟩
  have hdv : Dv p0 := zb_1 h
  obtain ⟨d1, d2⟩ := id hdv
  unfold post_X7_in at hr2
  rw [il_t, l0, l3] at hr2
  subst hr2
  refine ⟨fun h2 => ⟨Or.inl ⟨Or.inr ?_, rfl⟩, KS.rf⟩, fun h2 => ?_⟩
  · have := zb_0 h2
    omega
  have h2 := zb_1 h2
  obtain ⟨n, hn, rfl, hn2⟩ := of_i (x := p0) (by omega)
  have tnn : tn (nI n) = n := tn_nI hn
  rw [nI_l hn] at h43
  have i10 : ¬ (1 : Int32) = 0 := by decide
  -- the last loop, over a row of squares
  have last : ∀ f : Nat → Int32, (∀ x, x < n → f x = zb (SqP n x)) → J95 0 0 0 0 (-4) 0 g (va_up a 10 f) := by
    intro f hf
    let NoI : Nat → Int32 → Prop := fun k v => (∃ x, x < k ∧ (¬ SqP n x ∧ Nat.gcd n x = 1) ∧ (∀ y, y < x → ¬ (¬ SqP n y ∧ Nat.gcd n y = 1)) ∧ v = nI x) ∨ ((∀ x, x < k → ¬ (¬ SqP n x ∧ Nat.gcd n x = 1)) ∧ v = -4)
    have hB0 : SqB n 0 = false := cb_f (fun q => by have := sq_unit q; rw [Nat.gcd_zero_right] at this; omega)
    have key : ∀ (d k : Nat) (v : Int32), k + d = n → NoI k v → J95 (nI (fb_ct (SqB n) k)) (nI (rsR (SqB n) k)) (nI (rsM (SqB n) k)) (nI (rsB (SqB n) k)) v (nI k) g (va_up a 10 f) := by
      intro d
      induction d with
      | zero =>
        intro k v hk hv
        have : k = n := by omega
        subst this
        have hks : KS g a g (va_up a 10 f) := KS.up (by omega) f
        have fin : ∀ r, RunAns (SqB k) k p1 r ∧ (p1 = 3 → First (fun x => ¬ SqP k x ∧ Nat.gcd k x = 1) k r) → post_X7_squares g a (nI k) p1 r g (va_up a 10 f) := fun r q => ⟨Or.inr ⟨⟨hdv, h2⟩, by rw [tnn]; exact q⟩, hks⟩
        refine h95 _ _ _ _ _ _ _ _ (pk_le k k (fun _ => ⟨fun q => fin _ ?_, fun q => ⟨fun q1 => fin _ ?_, fun q1 => ⟨fun q2 => fin _ ?_, fun q2 => fin _ ?_⟩⟩⟩) (fun h => absurd h (by omega)))
        · exact ⟨⟨fun _ => rfl, fun z => absurd (z.symm.trans q) (by decide), fun z => absurd (z.symm.trans q) (by decide)⟩, fun z => absurd (z.symm.trans q) (by decide)⟩
        · exact ⟨⟨fun z => absurd z q, fun _ => rfl, fun z => absurd (z.symm.trans q1) (by decide)⟩, fun z => absurd (z.symm.trans q1) (by decide)⟩
        · exact ⟨⟨fun z => absurd z q, fun z => absurd z q1, fun _ => rfl⟩, fun z => absurd (z.symm.trans q2) (by decide)⟩
        · exact ⟨⟨fun z => absurd z q, fun z => absurd z q1, fun z => absurd z q2⟩, fun _ => hv⟩
      | succ d ih =>
        intro k v hk hv
        have hR := rsR_le (p := SqB n) k
        have hR1 := rsR_le0 hB0 k
        have hM := rsM_le (p := SqB n) k
        have tnk : (nI k).toNatClampNeg = k := tn_nI (by omega)
        have hin : vp_in (nI k) 50002 := pk_in k 50002 (by omega)
        have nx := fun v q => ih (k + 1) v (by omega) q
        -- the first that is none
        have none : ∀ (c s m b : Int32), (∀ v, NoI (k + 1) v → J95 c s m b v (nI k + 1) g (va_up a 10 f)) → ((0 : Int32) ≤ v → J95 c s m b v (nI k + 1) g (va_up a 10 f)) ∧ (¬ (0 : Int32) ≤ v → vp_in (nI k) 50002 ∧ ((f k = 0 → pre_X7_isUnit (nI n) (nI k) ∧ (∀ r177 : Int32, post_X7_isUnit (nI n) (nI k) r177 → ((r177 = 0 → J95 c s m b v (nI k + 1) g (va_up a 10 f)) ∧ (¬ r177 = 0 → J95 c s m b (nI k) (nI k + 1) g (va_up a 10 f))))) ∧ (¬ f k = 0 → J95 c s m b v (nI k + 1) g (va_up a 10 f)))) := by
          intro c s m b go
          have stay : ¬ (¬ SqP n k ∧ Nat.gcd n k = 1) → NoI (k + 1) v := fun q => by
            rcases hv with ⟨x, v1, v2, v3, v4⟩ | ⟨v1, v2⟩
            · exact Or.inl ⟨x, by omega, v2, v3, v4⟩
            · refine Or.inr ⟨fun x hx => ?_, v2⟩
              by_cases e : x = k
              · subst e; exact q
              · exact v1 x (by omega)
          refine ⟨fun q => go v ?_, fun q => ⟨hin, fun q2 => ⟨⟨by omega, by rw [nI_toInt (by omega)]; omega⟩, fun r3 hr3 => ?_⟩, fun q2 => go v (stay (fun z => z.1 ?_))⟩⟩
          · rcases hv with ⟨x, v1, v2, v3, v4⟩ | ⟨v1, v2⟩
            · exact Or.inl ⟨x, by omega, v2, v3, v4⟩
            · rw [v2] at q; exact absurd q (by decide)
          · unfold post_X7_isUnit at hr3
            rw [tnn, tn_nI (by omega)] at hr3
            subst hr3
            have hns : ¬ SqP n k := by rw [hf k (by omega)] at q2; exact zb_0 q2
            refine ⟨fun q3 => go v (stay (fun z => zb_0 q3 z.2)), fun q3 => go _ (Or.inl ⟨k, by omega, ⟨hns, zb_1 q3⟩, fun y hy => ?_, rfl⟩)⟩
            rcases hv with ⟨x, v1, v2, v3, v4⟩ | ⟨v1, v2⟩
            · rw [v4] at q; exact absurd (nI_pos' (by omega)) q
            · exact v1 y hy
          · rw [hf k (by omega)] at q2
            exact zb_1 q2
        have step : ∀ (c s : Nat), c = fb_ct (SqB n) (k + 1) → s = rsR (SqB n) (k + 1) → J137 (nI c) (nI (rsM (SqB n) k)) (nI (rsB (SqB n) k)) v (nI k) (nI s) g (va_up a 10 f) := by
          intro c s hc hs
          refine h137 _ _ _ _ _ _ _ _ (pk_le s (rsM (SqB n) k) (fun q => ?_) (fun q => ?_))
          · rw [up_0, tnk]
            refine none _ _ _ _ (fun v hv => ?_)
            have := nx v hv
            rw [rsM, rsB, ← hs, ← hc, if_neg (by omega), if_neg (by omega)] at this
            rw [nI_1]
            exact this
          · rw [up_0, tnk]
            refine none _ _ _ _ (fun v hv => ?_)
            have := nx v hv
            rw [rsM, rsB, ← hs, ← hc, if_pos (by omega), if_pos (by omega)] at this
            rw [nI_1 k, pk_sub (by omega), nI_1, show k - s + 1 = k + 1 - s by omega]
            exact this
        refine h95 _ _ _ _ _ _ _ _ (pk_le n k (fun h => absurd h (by omega)) (fun _ => ⟨hin, ?_⟩))
        rw [up_0, tnk, hf k (by omega)]
        by_cases q : SqP n k
        · rw [zb_t q]
          refine ⟨fun z => absurd z i10, fun _ => ⟨hin, fun z => absurd z i10, fun _ => ?_⟩⟩
          have q' : SqB n k = true := cb_t q
          rw [nI_1, nI_1]
          exact step _ _ (by rw [fb_ct_succ, if_pos q']) (by rw [rsR, if_pos q'])
        · rw [zb_f q]
          refine ⟨fun _ => ⟨hin, fun _ => ?_, fun z => absurd rfl z⟩, fun z => absurd rfl z⟩
          have q' : SqB n k = false := cb_f q
          rw [show nI (fb_ct (SqB n) k) + 0 = nI (fb_ct (SqB n) k + 0) from nI_add _ 0]
          exact step _ 0 (by rw [fb_ct_succ, q']; rfl) (by rw [rsR, q']; rfl)
    exact key n 0 (-4) (by omega) (Or.inr ⟨fun x hx => by omega, rfl⟩)
  -- marks
  have nar0 : vp_nar .boolean (0 : Int32) = 0 := rfl
  have nar1 : vp_nar .boolean (1 : Int32) = 1 := rfl
  rw [nar0] at h23
  rw [nar1] at h43
  have mid : ∀ (d k : Nat) (f : Nat → Int32), k + d = n → (∀ x, x < n → f x = zb (∃ y, y < k ∧ Nat.gcd n y = 1 ∧ y * y % n = x)) → J43 (nI k) g (va_up a 10 f) := by
    intro d
    induction d with
    | zero =>
      intro k f hk hf
      have : k = n := by omega
      subst this
      exact h43 _ _ _ (pk_le k k (fun _ => last f hf) (fun h => absurd h (by omega)))
    | succ d ih =>
      intro k f hk hf
      refine h43 _ _ _ (pk_le n k (fun h => absurd h (by omega)) (fun _ => ⟨⟨by omega, by rw [nI_toInt (by omega)]; omega⟩, fun r3 hr3 => ?_⟩))
      unfold post_X7_isUnit at hr3
      rw [tnn, tn_nI (by omega)] at hr3
      subst hr3
      have hkk : k * k < 2 ^ 62 := Nat.lt_of_le_of_lt (Nat.mul_le_mul (show k ≤ 50000 by omega) (show k ≤ 50000 by omega)) (by decide)
      have hml := Nat.mod_lt (k * k) (show 0 < n by omega)
      rw [nI_1, nI_l (by omega), lN_mul, pk_lRem (by omega) (by omega) (by omega), lN_i, up_up, up_0, show (nI (k * k % n)).toNatClampNeg = k * k % n from tn_nI (by omega)]
      refine ⟨fun q => ih (k + 1) f (by omega) (fun x hx => ?_), fun q => ⟨lN_nz (by omega) (by omega), pk_in (k * k % n) 50002 (by omega), ih (k + 1) _ (by omega) (fun x hx => ?_)⟩⟩
      · rw [hf x hx]
        refine zb_c ⟨fun ⟨y, y1, y2⟩ => ⟨y, by omega, y2⟩, fun ⟨y, y1, y2, y3⟩ => ⟨y, ?_, y2, y3⟩⟩
        have : y ≠ k := fun e => by subst e; exact zb_0 q y2
        omega
      · by_cases ex : x = k * k % n
        · rw [ex, pk_us]
          exact (zb_t ⟨k, by omega, zb_1 q, rfl⟩).symm
        · rw [pk_un ex, hf x hx]
          refine zb_c ⟨fun ⟨y, y1, y2⟩ => ⟨y, by omega, y2⟩, fun ⟨y, y1, y2, y3⟩ => ⟨y, ?_, y2, y3⟩⟩
          have : y ≠ k := fun e => by subst e; exact ex y3.symm
          omega
  -- the wiping
  have wipe : ∀ (d k : Nat) (f : Nat → Int32), k + d = n → (∀ x, x < k → f x = 0) → J23 (nI k) g (va_up a 10 f) := by
    intro d
    induction d with
    | zero =>
      intro k f hk hf
      refine h23 _ _ _ (pk_le n k (fun _ => mid n 0 f (by omega) (fun x hx => ?_)) (fun h => absurd h (by omega)))
      rw [hf x (by omega), zb_f (fun q => by obtain ⟨y, y1, -⟩ := q; omega)]
    | succ d ih =>
      intro k f hk hf
      refine h23 _ _ _ (pk_le n k (fun h => absurd h (by omega)) (fun _ => ⟨pk_in k 50002 (by omega), ?_⟩))
      rw [nI_1, up_0, up_up, show (nI k).toNatClampNeg = k from tn_nI (by omega)]
      refine ih (k + 1) _ (by omega) (fun y hy => ?_)
      by_cases e : y = k
      · rw [e, pk_us]
      · rw [pk_un e]; exact hf y (by omega)
  have st := wipe n 0 (a 10) (by omega) (fun y hy => by omega)
  rw [up_id] at st
  exact st
