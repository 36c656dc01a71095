/-! towers, the reference -/
theorem tw_nl {k i v : Nat} (h : i < k) (hk : k ≤ 6) (hv : v < 2 ^ 63) : (lN v >>> (((10 : Int32) * ((nI k - (1 : Int32)) - nI i)).toInt64 &&& 63)) &&& (1023 : Int64) = lN (twc k v i) := by
  rw [tw_sh h, sh_l (by omega) hv]
  exact fb_maskL _ 10
set_option maxHeartbeats 4000000 in
set_option maxRecDepth 100000 in
theorem met_X7_tower (l : Launch) (D : va_G) (cy : Nat → ClassId) (ad : Nat → Nat) (sz : Nat) (g : Gs) (a : As) (p0 : Int32) (p1 : Int32) (p2 : Int64) (post : Int32 → Gs → As → Prop)
  (hV : ∀ (J48 : Int32 → Gs → As → Prop) (J119 : Int64 → Int32 → Gs → As → Prop) (J163 : Int32 → Int64 → Int64 → Int64 → Int64 → Gs → As → Prop),
    (∀ (x5 : Int32) (g_ : Gs) (a_ : As), ((p1 ≤ x5 → J119 (1 : Int64) (p1 - (1 : Int32)) g_ a_) ∧ (¬ p1 ≤ x5 → ∀ r73 : Int32, post_X7_in ((p2 >>> (((10 : Int32) * ((p1 - (1 : Int32)) - x5)).toInt64 &&& 63)) &&& (1023 : Int64)) (1 : Int64) (1000 : Int64) r73 → ((r73 = 0 → post (-1 : Int32) g_ a_) ∧ (¬ r73 = 0 → ((x5 ≤ 0 → J48 (x5 + 1) g_ a_) ∧ (¬ x5 ≤ 0 → vp_in (x5 - (1 : Int32)) 6 ∧ (pre_X7_share ((a_ 12) (x5 - (1 : Int32)).toNatClampNeg) ∧ (∀ r101 : Int32, post_X7_share ((a_ 12) (x5 - (1 : Int32)).toNatClampNeg) r101 → vp_in x5 6 ∧ (J48 (x5 + 1) g_ (va_up a_ 12 (upd (a_ 12) x5.toNatClampNeg r101))))))))))) → J48 x5 g_ a_) →
    (∀ (x5 : Int64) (x7 : Int32) (g_ : Gs) (a_ : As), ((x7 < 0 → ¬ p0.toInt64 = 0 ∧ (post ((x5 - x5 / p0.toInt64 * p0.toInt64).toInt32) g_ a_)) ∧ (¬ x7 < 0 → vp_in x7 6 ∧ (pre_X7_lift ((p2 >>> (((10 : Int32) * ((p1 - (1 : Int32)) - x7)).toInt64 &&& 63)) &&& (1023 : Int64)) (((a_ 12) x7.toNatClampNeg).toInt64) ∧ (∀ r151 : Int64, post_X7_lift ((p2 >>> (((10 : Int32) * ((p1 - (1 : Int32)) - x7)).toInt64 &&& 63)) &&& (1023 : Int64)) (((a_ 12) x7.toNatClampNeg).toInt64) r151 → J163 x7 (((a_ 12) x7.toNatClampNeg).toInt64) r151 (1 : Int64) x5 g_ a_)))) → J119 x5 x7 g_ a_) →
    (∀ (x7 : Int32) (x8 : Int64) (x10 : Int64) (x12 : Int64) (x14 : Int64) (g_ : Gs) (a_ : As), ((x14 ≤ (0 : Int64) → J119 x12 (x7 + (-1 : Int32)) g_ a_) ∧ (¬ x14 ≤ (0 : Int64) → (((x14 - x14 / (2 : Int64) * (2 : Int64)) = (1 : Int64) → pre_X7_lift (x12 * x10) x8 ∧ (∀ r188 : Int64, post_X7_lift (x12 * x10) x8 r188 → pre_X7_lift (x10 * x10) x8 ∧ (∀ r205 : Int64, post_X7_lift (x10 * x10) x8 r205 → J163 x7 x8 r205 r188 (x14 / (2 : Int64)) g_ a_))) ∧ (¬ (x14 - x14 / (2 : Int64) * (2 : Int64)) = (1 : Int64) → pre_X7_lift (x10 * x10) x8 ∧ (∀ r205 : Int64, post_X7_lift (x10 * x10) x8 r205 → J163 x7 x8 r205 x12 (x14 / (2 : Int64)) g_ a_))))) → J163 x7 x8 x10 x12 x14 g_ a_) →
    ∀ r1 : Int32, post_X7_isBy p0 r1 → ((r1 = 0 → post (-1 : Int32) g a) ∧ (¬ r1 = 0 → ∀ r13 : Int32, post_X7_in p1.toInt64 (1 : Int64) (6 : Int64) r13 → ((r13 = 0 → post (-1 : Int32) g a) ∧ (¬ r13 = 0 → ((p2 < (0 : Int64) → post (-1 : Int32) g a) ∧ (¬ p2 < (0 : Int64) → (((p2 >>> (((10 : Int32) * p1).toInt64 &&& 63)) = (0 : Int64) → vp_in (0 : Int32) 6 ∧ (J48 (0 : Int32) g (va_up a 12 (upd (a 12) (0 : Int32).toNatClampNeg p0)))) ∧ (¬ (p2 >>> (((10 : Int32) * p1).toInt64 &&& 63)) = (0 : Int64) → post (-1 : Int32) g a))))))))) :
  Met l yX7_tower wsX7_tower ({ frames := 2, cells := 0, slots := 0, locals := 45 } : Room) (va_Pc [.ref (ad 0), .int p0, .int p1, .long p2] (ArP D cy sz (maW ad cy g a))) (va_Qi (fun (r : Int32) (u : Gs × As) => post r u.1 u.2) (fun u t => va_P D vwCl (maW ad cy u.1 u.2) t.heap) (va_A (maW ad cy g a) sz)) 0 0 (va_A (maW ad cy g a) sz) := by
  refine Met.ofW (cc := cX7_tower) (maxL := 16) (ret := (some .int)) (by decide) rfl ?_
  intro p e s m args below meth c s₁ B hml hv
  obtain ⟨rfl, hsz, hP, hK, hD0, hN⟩ := hv
  have hx := B.exec
  have hb := B.bytes
  have hr := B.returns
  have hts := atoms_spec (ws := wsX7_tower) B.pre
  have hown : s.vm.findClass RX7 = some m.cls := findClass_of_methodNamed B.named
  have hlocks := B.notSynchronized
  subst hsz
  have hD := hD0.self (sz := s.heap.size)
  have hP : va_P D vwCl (maW ad cy g a) s.heap := hP
  have hD : va_D (va_A (maW ad cy g a) s.heap.size) (maW ad cy g a) := hD
  have hS : va_S (va_A (maW ad cy g a) s.heap.size) s.heap s.heap [] := va_S.rf
  have hA : ∀ q : Nat, s.heap.size ≤ q → va_A (maW ad cy g a) s.heap.size q := fun q h => Or.inr h
  obtain ⟨J48, iJ48, oJ48⟩ : ∃ J : Int32 → Gs → As → Prop, (∀ (x5 : Int32) (g_ : Gs) (a_ : As), (∀ (H : Heap) (locs : List Loc), va_P D vwCl (maW ad cy g_ a_) H → va_S (va_A (maW ad cy g a) s.heap.size) s.heap H locs → ∀ ls : Array Slot, lv_has ls 16 [(0, .ref (ad 0)), (1, .int p0), (2, .int p1), (3, .long p2), (5, .int x5)] → W p l e (headSpec wsX7_tower ({ frames := 2, cells := 0, slots := 0, locals := 45 } : Room)).room s m [.ref (ad 0), .int p0, .int p1, .long p2].toArray below meth c H locs 0 0 (MQ below (va_Qi (fun (r : Int32) (u : Gs × As) => post r u.1 u.2) (fun u t => va_P D vwCl (maW ad cy u.1 u.2) t.heap) (va_A (maW ad cy g a) s.heap.size)) [.ref (ad 0), .int p0, .int p1, .long p2].toArray s 0 0 (va_A (maW ad cy g a) s.heap.size)) (F0 m 48 ls [])) → J x5 g_ a_) ∧ (∀ (x5 : Int32) (g_ : Gs) (a_ : As), J x5 g_ a_ → (∀ (H : Heap) (locs : List Loc), va_P D vwCl (maW ad cy g_ a_) H → va_S (va_A (maW ad cy g a) s.heap.size) s.heap H locs → ∀ ls : Array Slot, lv_has ls 16 [(0, .ref (ad 0)), (1, .int p0), (2, .int p1), (3, .long p2), (5, .int x5)] → W p l e (headSpec wsX7_tower ({ frames := 2, cells := 0, slots := 0, locals := 45 } : Room)).room s m [.ref (ad 0), .int p0, .int p1, .long p2].toArray below meth c H locs 0 0 (MQ below (va_Qi (fun (r : Int32) (u : Gs × As) => post r u.1 u.2) (fun u t => va_P D vwCl (maW ad cy u.1 u.2) t.heap) (va_A (maW ad cy g a) s.heap.size)) [.ref (ad 0), .int p0, .int p1, .long p2].toArray s 0 0 (va_A (maW ad cy g a) s.heap.size)) (F0 m 48 ls []))) := ⟨fun (x5 : Int32) (g_ : Gs) (a_ : As) => (∀ (H : Heap) (locs : List Loc), va_P D vwCl (maW ad cy g_ a_) H → va_S (va_A (maW ad cy g a) s.heap.size) s.heap H locs → ∀ ls : Array Slot, lv_has ls 16 [(0, .ref (ad 0)), (1, .int p0), (2, .int p1), (3, .long p2), (5, .int x5)] → W p l e (headSpec wsX7_tower ({ frames := 2, cells := 0, slots := 0, locals := 45 } : Room)).room s m [.ref (ad 0), .int p0, .int p1, .long p2].toArray below meth c H locs 0 0 (MQ below (va_Qi (fun (r : Int32) (u : Gs × As) => post r u.1 u.2) (fun u t => va_P D vwCl (maW ad cy u.1 u.2) t.heap) (va_A (maW ad cy g a) s.heap.size)) [.ref (ad 0), .int p0, .int p1, .long p2].toArray s 0 0 (va_A (maW ad cy g a) s.heap.size)) (F0 m 48 ls [])), fun _ _ _ h => h, fun _ _ _ h => h⟩
  obtain ⟨J119, iJ119, oJ119⟩ : ∃ J : Int64 → Int32 → Gs → As → Prop, (∀ (x5 : Int64) (x7 : Int32) (g_ : Gs) (a_ : As), (∀ (H : Heap) (locs : List Loc), va_P D vwCl (maW ad cy g_ a_) H → va_S (va_A (maW ad cy g a) s.heap.size) s.heap H locs → ∀ ls : Array Slot, lv_has ls 16 [(0, .ref (ad 0)), (1, .int p0), (2, .int p1), (3, .long p2), (5, .long x5), (7, .int x7)] → W p l e (headSpec wsX7_tower ({ frames := 2, cells := 0, slots := 0, locals := 45 } : Room)).room s m [.ref (ad 0), .int p0, .int p1, .long p2].toArray below meth c H locs 0 0 (MQ below (va_Qi (fun (r : Int32) (u : Gs × As) => post r u.1 u.2) (fun u t => va_P D vwCl (maW ad cy u.1 u.2) t.heap) (va_A (maW ad cy g a) s.heap.size)) [.ref (ad 0), .int p0, .int p1, .long p2].toArray s 0 0 (va_A (maW ad cy g a) s.heap.size)) (F0 m 119 ls [])) → J x5 x7 g_ a_) ∧ (∀ (x5 : Int64) (x7 : Int32) (g_ : Gs) (a_ : As), J x5 x7 g_ a_ → (∀ (H : Heap) (locs : List Loc), va_P D vwCl (maW ad cy g_ a_) H → va_S (va_A (maW ad cy g a) s.heap.size) s.heap H locs → ∀ ls : Array Slot, lv_has ls 16 [(0, .ref (ad 0)), (1, .int p0), (2, .int p1), (3, .long p2), (5, .long x5), (7, .int x7)] → W p l e (headSpec wsX7_tower ({ frames := 2, cells := 0, slots := 0, locals := 45 } : Room)).room s m [.ref (ad 0), .int p0, .int p1, .long p2].toArray below meth c H locs 0 0 (MQ below (va_Qi (fun (r : Int32) (u : Gs × As) => post r u.1 u.2) (fun u t => va_P D vwCl (maW ad cy u.1 u.2) t.heap) (va_A (maW ad cy g a) s.heap.size)) [.ref (ad 0), .int p0, .int p1, .long p2].toArray s 0 0 (va_A (maW ad cy g a) s.heap.size)) (F0 m 119 ls []))) := ⟨fun (x5 : Int64) (x7 : Int32) (g_ : Gs) (a_ : As) => (∀ (H : Heap) (locs : List Loc), va_P D vwCl (maW ad cy g_ a_) H → va_S (va_A (maW ad cy g a) s.heap.size) s.heap H locs → ∀ ls : Array Slot, lv_has ls 16 [(0, .ref (ad 0)), (1, .int p0), (2, .int p1), (3, .long p2), (5, .long x5), (7, .int x7)] → W p l e (headSpec wsX7_tower ({ frames := 2, cells := 0, slots := 0, locals := 45 } : Room)).room s m [.ref (ad 0), .int p0, .int p1, .long p2].toArray below meth c H locs 0 0 (MQ below (va_Qi (fun (r : Int32) (u : Gs × As) => post r u.1 u.2) (fun u t => va_P D vwCl (maW ad cy u.1 u.2) t.heap) (va_A (maW ad cy g a) s.heap.size)) [.ref (ad 0), .int p0, .int p1, .long p2].toArray s 0 0 (va_A (maW ad cy g a) s.heap.size)) (F0 m 119 ls [])), fun _ _ _ _ h => h, fun _ _ _ _ h => h⟩
  obtain ⟨J163, iJ163, oJ163⟩ : ∃ J : Int32 → Int64 → Int64 → Int64 → Int64 → Gs → As → Prop, (∀ (x7 : Int32) (x8 : Int64) (x10 : Int64) (x12 : Int64) (x14 : Int64) (g_ : Gs) (a_ : As), (∀ (H : Heap) (locs : List Loc), va_P D vwCl (maW ad cy g_ a_) H → va_S (va_A (maW ad cy g a) s.heap.size) s.heap H locs → ∀ ls : Array Slot, lv_has ls 16 [(0, .ref (ad 0)), (1, .int p0), (2, .int p1), (3, .long p2), (7, .int x7), (8, .long x8), (10, .long x10), (12, .long x12), (14, .long x14)] → W p l e (headSpec wsX7_tower ({ frames := 2, cells := 0, slots := 0, locals := 45 } : Room)).room s m [.ref (ad 0), .int p0, .int p1, .long p2].toArray below meth c H locs 0 0 (MQ below (va_Qi (fun (r : Int32) (u : Gs × As) => post r u.1 u.2) (fun u t => va_P D vwCl (maW ad cy u.1 u.2) t.heap) (va_A (maW ad cy g a) s.heap.size)) [.ref (ad 0), .int p0, .int p1, .long p2].toArray s 0 0 (va_A (maW ad cy g a) s.heap.size)) (F0 m 163 ls [])) → J x7 x8 x10 x12 x14 g_ a_) ∧ (∀ (x7 : Int32) (x8 : Int64) (x10 : Int64) (x12 : Int64) (x14 : Int64) (g_ : Gs) (a_ : As), J x7 x8 x10 x12 x14 g_ a_ → (∀ (H : Heap) (locs : List Loc), va_P D vwCl (maW ad cy g_ a_) H → va_S (va_A (maW ad cy g a) s.heap.size) s.heap H locs → ∀ ls : Array Slot, lv_has ls 16 [(0, .ref (ad 0)), (1, .int p0), (2, .int p1), (3, .long p2), (7, .int x7), (8, .long x8), (10, .long x10), (12, .long x12), (14, .long x14)] → W p l e (headSpec wsX7_tower ({ frames := 2, cells := 0, slots := 0, locals := 45 } : Room)).room s m [.ref (ad 0), .int p0, .int p1, .long p2].toArray below meth c H locs 0 0 (MQ below (va_Qi (fun (r : Int32) (u : Gs × As) => post r u.1 u.2) (fun u t => va_P D vwCl (maW ad cy u.1 u.2) t.heap) (va_A (maW ad cy g a) s.heap.size)) [.ref (ad 0), .int p0, .int p1, .long p2].toArray s 0 0 (va_A (maW ad cy g a) s.heap.size)) (F0 m 163 ls []))) := ⟨fun (x7 : Int32) (x8 : Int64) (x10 : Int64) (x12 : Int64) (x14 : Int64) (g_ : Gs) (a_ : As) => (∀ (H : Heap) (locs : List Loc), va_P D vwCl (maW ad cy g_ a_) H → va_S (va_A (maW ad cy g a) s.heap.size) s.heap H locs → ∀ ls : Array Slot, lv_has ls 16 [(0, .ref (ad 0)), (1, .int p0), (2, .int p1), (3, .long p2), (7, .int x7), (8, .long x8), (10, .long x10), (12, .long x12), (14, .long x14)] → W p l e (headSpec wsX7_tower ({ frames := 2, cells := 0, slots := 0, locals := 45 } : Room)).room s m [.ref (ad 0), .int p0, .int p1, .long p2].toArray below meth c H locs 0 0 (MQ below (va_Qi (fun (r : Int32) (u : Gs × As) => post r u.1 u.2) (fun u t => va_P D vwCl (maW ad cy u.1 u.2) t.heap) (va_A (maW ad cy g a) s.heap.size)) [.ref (ad 0), .int p0, .int p1, .long p2].toArray s 0 0 (va_A (maW ad cy g a) s.heap.size)) (F0 m 163 ls [])), fun _ _ _ _ _ _ _ h => h, fun _ _ _ _ _ _ _ h => h⟩
  have hV := hV J48 J119 J163
  replace hV := hV (by
    intro x5 g_ a_ hV
    refine iJ48 x5 g_ a_ ?_
    intro H locs hP hS ls hl
    refine lv_iload hx hb dX7_tower_48 (lv_at hl 4 rfl) ?_
    refine lv_iload_n hx hb dX7_tower_50 rfl (lv_at hl 2 rfl) ?_
    refine lv_icmp_ge (tgt := 111) hx hb dX7_tower_51 (by decide) (fun c_51 => ?_) (fun c_51 => ?_)
    · have hV := hV.1 c_51
      refine lv_lconst (v := (1 : Int64)) hx hb dX7_tower_111 (by decide) ?_
      refine lv_lstore (lv' := [(5, .long (1 : Int64)), (0, .ref (ad 0)), (1, .int p0), (2, .int p1), (3, .long p2)]) hx hb dX7_tower_112 hl (by decide) rfl (fun ls hl => ?_)
      refine lv_iload_n hx hb dX7_tower_114 rfl (lv_at hl 3 rfl) ?_
      refine lv_iconst (v := (1 : Int32)) hx hb dX7_tower_115 (by decide) ?_
      refine lv_isub hx hb dX7_tower_116 ?_
      refine lv_istore (lv' := [(7, .int (p1 - (1 : Int32))), (5, .long (1 : Int64)), (0, .ref (ad 0)), (1, .int p0), (2, .int p1), (3, .long p2)]) hx hb dX7_tower_117 hl (by decide) rfl (fun ls hl => ?_)
      exact oJ119 _ _ _ _ hV _ _ hP hS _ (lv_sub hl [2, 3, 4, 5, 1, 0] rfl)
    · have hV := hV.2 c_51
      refine lv_lload_n hx hb dX7_tower_54 rfl (lv_at hl 3 rfl) ?_
      refine lv_bipush (v := (10 : Int32)) hx hb dX7_tower_55 (by decide) ?_
      refine lv_iload_n hx hb dX7_tower_57 rfl (lv_at hl 2 rfl) ?_
      refine lv_iconst (v := (1 : Int32)) hx hb dX7_tower_58 (by decide) ?_
      refine lv_isub hx hb dX7_tower_59 ?_
      refine lv_iload hx hb dX7_tower_60 (lv_at hl 4 rfl) ?_
      refine lv_isub hx hb dX7_tower_62 ?_
      refine lv_imul hx hb dX7_tower_63 ?_
      refine lv_lshr (v := p2 >>> (((10 : Int32) * ((p1 - (1 : Int32)) - x5)).toInt64 &&& 63)) hx hb dX7_tower_64 rfl ?_
      refine lv_ldc2 (v := (1023 : Int64)) hx hb hown (hts (.constantLong RX7 199 (1023)) (by decide +kernel)) dX7_tower_65 ?_
      refine lv_land hx hb dX7_tower_68 ?_
      refine lv_lconst (v := (1 : Int64)) hx hb dX7_tower_69 (by decide) ?_
      refine lv_ldc2 (v := (1000 : Int64)) hx hb hown (hts (.constantLong RX7 201 (1000)) (by decide +kernel)) dX7_tower_70 ?_
      refine cp_i (va_runS (As := [.long ((p2 >>> (((10 : Int32) * ((p1 - (1 : Int32)) - x5)).toInt64 &&& 63)) &&& (1023 : Int64)), .long (1 : Int64), .long (1000 : Int64)]) (rest := []) ⟨hx, hb, hml, hown, hts⟩ (spec_X7_in l ((p2 >>> (((10 : Int32) * ((p1 - (1 : Int32)) - x5)).toInt64 &&& 63)) &&& (1023 : Int64)) (1 : Int64) (1000 : Int64)) (va_cwS 3 hts gX7_tower_X7_in rfl rfl rfl (by decide +kernel) ⟨Nat.le_of_ble_eq_true rfl, Nat.le_of_ble_eq_true rfl⟩) cp_pre rfl rfl hl.1 rfl (lv_room (Nat.le_of_ble_eq_true rfl)) dX7_tower_73 ⟨Nat.zero_le _, Nat.zero_le _⟩) (fun r73 q_73 => ?_)
      have hV := hV r73 q_73
      refine lv_if_ne (tgt := 81) hx hb dX7_tower_76 (by decide) (fun c_76 => ?_) (fun c_76 => ?_)
      · have hV := hV.2 c_76
        refine lv_iload hx hb dX7_tower_81 (lv_at hl 4 rfl) ?_
        refine lv_if_le (tgt := 105) hx hb dX7_tower_83 (by decide) (fun c_83 => ?_) (fun c_83 => ?_)
        · have hV := hV.1 c_83
          refine lv_iinc (v := x5 + 1) (lv' := [(5, .int (x5 + 1)), (0, .ref (ad 0)), (1, .int p0), (2, .int p1), (3, .long p2)]) hx hb dX7_tower_105 hl (k := 4) rfl rfl (by decide) rfl (fun ls hl => ?_)
          refine lv_goto (tgt := 48) hx hb dX7_tower_108 (by decide) ?_
          exact oJ48 _ _ _ hV _ _ hP hS _ (lv_sub hl [1, 2, 3, 4, 0] rfl)
        · have hV := hV.2 c_83
          refine lv_aload_n hx hb dX7_tower_86 rfl (lv_at hl 0 rfl) ?_
          refine va_get (D := D) (ci := 6) (v := .ref (ad 13)) (C := RX7) (T := TX7) (N := 18) hx hb hts (by decide +kernel) hown hK hP 0 rfl rfl 17 (by decide) (hts (.fieldLink RX7 53 "PowerRestsModel" "chain" "[I") (by decide +kernel)) (fun _ h9 => h9) rfl dX7_tower_87 ?_
          refine lv_iload hx hb dX7_tower_90 (lv_at hl 4 rfl) ?_
          refine lv_aload_n hx hb dX7_tower_92 rfl (lv_at hl 0 rfl) ?_
          refine va_get (D := D) (ci := 6) (v := .ref (ad 13)) (C := RX7) (T := TX7) (N := 18) hx hb hts (by decide +kernel) hown hK hP 0 rfl rfl 17 (by decide) (hts (.fieldLink RX7 53 "PowerRestsModel" "chain" "[I") (by decide +kernel)) (fun _ h9 => h9) rfl dX7_tower_93 ?_
          refine lv_iload hx hb dX7_tower_96 (lv_at hl 4 rfl) ?_
          refine lv_iconst (v := (1 : Int32)) hx hb dX7_tower_98 (by decide) ?_
          refine lv_isub hx hb dX7_tower_99 ?_
          obtain ⟨h_100, hV⟩ := hV
          refine va_iald (f := (a_ 12)) hx hb hK hP 13 0 rfl rfl h_100 dX7_tower_100 ?_
          obtain ⟨h_101, hV⟩ := hV
          refine cp_i (va_runS (As := [.int ((a_ 12) (x5 - (1 : Int32)).toNatClampNeg)]) (rest := [.int x5, .ref (ad 13)]) ⟨hx, hb, hml, hown, hts⟩ (spec_X7_share l ((a_ 12) (x5 - (1 : Int32)).toNatClampNeg) h_101) (va_cwS 1 hts gX7_tower_X7_share rfl rfl rfl (by decide +kernel) ⟨Nat.le_of_ble_eq_true rfl, Nat.le_of_ble_eq_true rfl⟩) cp_pre rfl rfl hl.1 rfl (lv_room (Nat.le_of_ble_eq_true rfl)) dX7_tower_101 ⟨Nat.zero_le _, Nat.zero_le _⟩) (fun r101 q_101 => ?_)
          have hV := hV r101 q_101
          obtain ⟨h_104, hV⟩ := hV
          refine va_iast (f := (a_ 12)) hx hb hK hP (maD hD) hS 13 0 rfl rfl h_104 dX7_tower_104 (fun H locs hP _ hS => ?_)
          have hP : va_P D vwCl (maW ad cy g_ (va_up a_ 12 (upd (a_ 12) x5.toNatClampNeg r101))) H := hP
          refine lv_iinc (v := x5 + 1) (lv' := [(5, .int (x5 + 1)), (0, .ref (ad 0)), (1, .int p0), (2, .int p1), (3, .long p2)]) hx hb dX7_tower_105 hl (k := 4) rfl rfl (by decide) rfl (fun ls hl => ?_)
          refine lv_goto (tgt := 48) hx hb dX7_tower_108 (by decide) ?_
          exact oJ48 _ _ _ hV _ _ hP hS _ (lv_sub hl [1, 2, 3, 4, 0] rfl)
      · have hV := hV.1 c_76
        refine lv_iconst (v := (-1 : Int32)) hx hb dX7_tower_79 (by decide) ?_
        exact W.iret (v := (-1 : Int32)) hx hb hr (fun t ht hW => ⟨⟨_, (g_, a_), rfl, hV, ar_heap ht hP⟩, hS.F ht⟩) hS.2.2 dX7_tower_80)
  replace hV := hV (by
    intro x5 x7 g_ a_ hV
    refine iJ119 x5 x7 g_ a_ ?_
    intro H locs hP hS ls hl
    refine lv_iload hx hb dX7_tower_119 (lv_at hl 5 rfl) ?_
    refine lv_if_lt (tgt := 231) hx hb dX7_tower_121 (by decide) (fun c_121 => ?_) (fun c_121 => ?_)
    · have hV := hV.1 c_121
      refine lv_lload hx hb dX7_tower_231 (lv_at hl 4 rfl) ?_
      refine lv_iload_n hx hb dX7_tower_233 rfl (lv_at hl 1 rfl) ?_
      refine lv_i2l (v := p0.toInt64) hx hb dX7_tower_234 rfl ?_
      obtain ⟨h_235, hV⟩ := hV
      refine lv_lrem hx hb dX7_tower_235 h_235 ?_
      refine lv_l2i (v := (x5 - x5 / p0.toInt64 * p0.toInt64).toInt32) hx hb dX7_tower_236 rfl ?_
      exact W.iret (v := (x5 - x5 / p0.toInt64 * p0.toInt64).toInt32) hx hb hr (fun t ht hW => ⟨⟨_, (g_, a_), rfl, hV, ar_heap ht hP⟩, hS.F ht⟩) hS.2.2 dX7_tower_237
    · have hV := hV.2 c_121
      refine lv_aload_n hx hb dX7_tower_124 rfl (lv_at hl 0 rfl) ?_
      refine va_get (D := D) (ci := 6) (v := .ref (ad 13)) (C := RX7) (T := TX7) (N := 18) hx hb hts (by decide +kernel) hown hK hP 0 rfl rfl 17 (by decide) (hts (.fieldLink RX7 53 "PowerRestsModel" "chain" "[I") (by decide +kernel)) (fun _ h9 => h9) rfl dX7_tower_125 ?_
      refine lv_iload hx hb dX7_tower_128 (lv_at hl 5 rfl) ?_
      obtain ⟨h_130, hV⟩ := hV
      refine va_iald (f := (a_ 12)) hx hb hK hP 13 0 rfl rfl h_130 dX7_tower_130 ?_
      refine lv_i2l (v := ((a_ 12) x7.toNatClampNeg).toInt64) hx hb dX7_tower_131 rfl ?_
      refine lv_lstore (lv' := [(8, .long (((a_ 12) x7.toNatClampNeg).toInt64)), (0, .ref (ad 0)), (1, .int p0), (2, .int p1), (3, .long p2), (5, .long x5), (7, .int x7)]) hx hb dX7_tower_132 hl (by decide) rfl (fun ls hl => ?_)
      refine lv_lload_n hx hb dX7_tower_134 rfl (lv_at hl 4 rfl) ?_
      refine lv_bipush (v := (10 : Int32)) hx hb dX7_tower_135 (by decide) ?_
      refine lv_iload_n hx hb dX7_tower_137 rfl (lv_at hl 3 rfl) ?_
      refine lv_iconst (v := (1 : Int32)) hx hb dX7_tower_138 (by decide) ?_
      refine lv_isub hx hb dX7_tower_139 ?_
      refine lv_iload hx hb dX7_tower_140 (lv_at hl 6 rfl) ?_
      refine lv_isub hx hb dX7_tower_142 ?_
      refine lv_imul hx hb dX7_tower_143 ?_
      refine lv_lshr (v := p2 >>> (((10 : Int32) * ((p1 - (1 : Int32)) - x7)).toInt64 &&& 63)) hx hb dX7_tower_144 rfl ?_
      refine lv_ldc2 (v := (1023 : Int64)) hx hb hown (hts (.constantLong RX7 199 (1023)) (by decide +kernel)) dX7_tower_145 ?_
      refine lv_land hx hb dX7_tower_148 ?_
      refine lv_lload hx hb dX7_tower_149 (lv_at hl 0 rfl) ?_
      obtain ⟨h_151, hV⟩ := hV
      refine cp_l (va_runS (As := [.long ((p2 >>> (((10 : Int32) * ((p1 - (1 : Int32)) - x7)).toInt64 &&& 63)) &&& (1023 : Int64)), .long (((a_ 12) x7.toNatClampNeg).toInt64)]) (rest := []) ⟨hx, hb, hml, hown, hts⟩ (spec_X7_lift l ((p2 >>> (((10 : Int32) * ((p1 - (1 : Int32)) - x7)).toInt64 &&& 63)) &&& (1023 : Int64)) (((a_ 12) x7.toNatClampNeg).toInt64) h_151) (va_cwS 2 hts gX7_tower_X7_lift rfl rfl rfl (by decide +kernel) ⟨Nat.le_of_ble_eq_true rfl, Nat.le_of_ble_eq_true rfl⟩) cp_pre rfl rfl hl.1 rfl (lv_room (Nat.le_of_ble_eq_true rfl)) dX7_tower_151 ⟨Nat.zero_le _, Nat.zero_le _⟩) (fun r151 q_151 => ?_)
      have hV := hV r151 q_151
      refine lv_lstore (lv' := [(10, .long r151), (8, .long (((a_ 12) x7.toNatClampNeg).toInt64)), (0, .ref (ad 0)), (1, .int p0), (2, .int p1), (3, .long p2), (5, .long x5), (7, .int x7)]) hx hb dX7_tower_154 hl (by decide) rfl (fun ls hl => ?_)
      refine lv_lconst (v := (1 : Int64)) hx hb dX7_tower_156 (by decide) ?_
      refine lv_lstore (lv' := [(12, .long (1 : Int64)), (10, .long r151), (8, .long (((a_ 12) x7.toNatClampNeg).toInt64)), (0, .ref (ad 0)), (1, .int p0), (2, .int p1), (3, .long p2), (5, .long x5), (7, .int x7)]) hx hb dX7_tower_157 hl (by decide) rfl (fun ls hl => ?_)
      refine lv_lload hx hb dX7_tower_159 (lv_at hl 7 rfl) ?_
      refine lv_lstore (lv' := [(14, .long x5), (12, .long (1 : Int64)), (10, .long r151), (8, .long (((a_ 12) x7.toNatClampNeg).toInt64)), (0, .ref (ad 0)), (1, .int p0), (2, .int p1), (3, .long p2), (5, .long x5), (7, .int x7)]) hx hb dX7_tower_161 hl (by decide) rfl (fun ls hl => ?_)
      exact oJ163 _ _ _ _ _ _ _ hV _ _ hP hS _ (lv_sub hl [4, 5, 6, 7, 9, 3, 2, 1, 0] rfl))
  replace hV := hV (by
    intro x7 x8 x10 x12 x14 g_ a_ hV
    refine iJ163 x7 x8 x10 x12 x14 g_ a_ ?_
    intro H locs hP hS ls hl
    refine lv_lload hx hb dX7_tower_163 (lv_at hl 8 rfl) ?_
    refine lv_lconst (v := (0 : Int64)) hx hb dX7_tower_165 (by decide) ?_
    refine lc_le (tgt := 221) hx hb dX7_tower_166 dX7_tower_167 (by decide) (fun c_166 => ?_) (fun c_166 => ?_)
    · have hV := hV.1 c_166
      refine lv_lload hx hb dX7_tower_221 (lv_at hl 7 rfl) ?_
      refine lv_lstore (lv' := [(5, .long x12), (0, .ref (ad 0)), (1, .int p0), (2, .int p1), (3, .long p2), (7, .int x7), (8, .long x8), (10, .long x10), (12, .long x12), (14, .long x14)]) hx hb dX7_tower_223 hl (by decide) rfl (fun ls hl => ?_)
      refine lv_iinc (v := x7 + (-1 : Int32)) (lv' := [(7, .int (x7 + (-1 : Int32))), (5, .long x12), (0, .ref (ad 0)), (1, .int p0), (2, .int p1), (3, .long p2), (8, .long x8), (10, .long x10), (12, .long x12), (14, .long x14)]) hx hb dX7_tower_225 hl (k := 5) rfl rfl (by decide) rfl (fun ls hl => ?_)
      refine lv_goto (tgt := 119) hx hb dX7_tower_228 (by decide) ?_
      exact oJ119 _ _ _ _ hV _ _ hP hS _ (lv_sub hl [2, 3, 4, 5, 1, 0] rfl)
    · have hV := hV.2 c_166
      refine lv_lload hx hb dX7_tower_170 (lv_at hl 8 rfl) ?_
      refine lv_ldc2 (v := (2 : Int64)) hx hb hown (hts (.constantLong RX7 56 (2)) (by decide +kernel)) dX7_tower_172 ?_
      refine lv_lrem hx hb dX7_tower_175 (by decide) ?_
      refine lv_lconst (v := (1 : Int64)) hx hb dX7_tower_176 (by decide) ?_
      refine lc_ne (tgt := 194) hx hb dX7_tower_177 dX7_tower_178 (by decide) (fun c_177 => ?_) (fun c_177 => ?_)
      · have hV := hV.2 c_177
        refine lv_lload hx hb dX7_tower_194 (lv_at hl 7 rfl) ?_
        refine lv_lstore (lv' := [(12, .long x12), (0, .ref (ad 0)), (1, .int p0), (2, .int p1), (3, .long p2), (7, .int x7), (8, .long x8), (10, .long x10), (14, .long x14)]) hx hb dX7_tower_196 hl (by decide) rfl (fun ls hl => ?_)
        refine lv_lload hx hb dX7_tower_198 (lv_at hl 7 rfl) ?_
        refine lv_lload hx hb dX7_tower_200 (lv_at hl 7 rfl) ?_
        refine lv_lmul hx hb dX7_tower_202 ?_
        refine lv_lload hx hb dX7_tower_203 (lv_at hl 6 rfl) ?_
        obtain ⟨h_205, hV⟩ := hV
        refine cp_l (va_runS (As := [.long (x10 * x10), .long x8]) (rest := []) ⟨hx, hb, hml, hown, hts⟩ (spec_X7_lift l (x10 * x10) x8 h_205) (va_cwS 2 hts gX7_tower_X7_lift rfl rfl rfl (by decide +kernel) ⟨Nat.le_of_ble_eq_true rfl, Nat.le_of_ble_eq_true rfl⟩) cp_pre rfl rfl hl.1 rfl (lv_room (Nat.le_of_ble_eq_true rfl)) dX7_tower_205 ⟨Nat.zero_le _, Nat.zero_le _⟩) (fun r205 q_205 => ?_)
        have hV := hV r205 q_205
        refine lv_lstore (lv' := [(10, .long r205), (12, .long x12), (0, .ref (ad 0)), (1, .int p0), (2, .int p1), (3, .long p2), (7, .int x7), (8, .long x8), (14, .long x14)]) hx hb dX7_tower_208 hl (by decide) rfl (fun ls hl => ?_)
        refine lv_lload hx hb dX7_tower_210 (lv_at hl 8 rfl) ?_
        refine lv_ldc2 (v := (2 : Int64)) hx hb hown (hts (.constantLong RX7 56 (2)) (by decide +kernel)) dX7_tower_212 ?_
        refine lv_ldiv hx hb dX7_tower_215 (by decide) ?_
        refine lv_lstore (lv' := [(14, .long (x14 / (2 : Int64))), (10, .long r205), (12, .long x12), (0, .ref (ad 0)), (1, .int p0), (2, .int p1), (3, .long p2), (7, .int x7), (8, .long x8)]) hx hb dX7_tower_216 hl (by decide) rfl (fun ls hl => ?_)
        refine lv_goto (tgt := 163) hx hb dX7_tower_218 (by decide) ?_
        exact oJ163 _ _ _ _ _ _ _ hV _ _ hP hS _ (lv_sub hl [3, 4, 5, 6, 7, 8, 1, 2, 0] rfl)
      · have hV := hV.1 c_177
        refine lv_lload hx hb dX7_tower_181 (lv_at hl 7 rfl) ?_
        refine lv_lload hx hb dX7_tower_183 (lv_at hl 6 rfl) ?_
        refine lv_lmul hx hb dX7_tower_185 ?_
        refine lv_lload hx hb dX7_tower_186 (lv_at hl 5 rfl) ?_
        obtain ⟨h_188, hV⟩ := hV
        refine cp_l (va_runS (As := [.long (x12 * x10), .long x8]) (rest := []) ⟨hx, hb, hml, hown, hts⟩ (spec_X7_lift l (x12 * x10) x8 h_188) (va_cwS 2 hts gX7_tower_X7_lift rfl rfl rfl (by decide +kernel) ⟨Nat.le_of_ble_eq_true rfl, Nat.le_of_ble_eq_true rfl⟩) cp_pre rfl rfl hl.1 rfl (lv_room (Nat.le_of_ble_eq_true rfl)) dX7_tower_188 ⟨Nat.zero_le _, Nat.zero_le _⟩) (fun r188 q_188 => ?_)
        have hV := hV r188 q_188
        refine lv_goto (tgt := 196) hx hb dX7_tower_191 (by decide) ?_
        refine lv_lstore (lv' := [(12, .long r188), (0, .ref (ad 0)), (1, .int p0), (2, .int p1), (3, .long p2), (7, .int x7), (8, .long x8), (10, .long x10), (14, .long x14)]) hx hb dX7_tower_196 hl (by decide) rfl (fun ls hl => ?_)
        refine lv_lload hx hb dX7_tower_198 (lv_at hl 7 rfl) ?_
        refine lv_lload hx hb dX7_tower_200 (lv_at hl 7 rfl) ?_
        refine lv_lmul hx hb dX7_tower_202 ?_
        refine lv_lload hx hb dX7_tower_203 (lv_at hl 6 rfl) ?_
        obtain ⟨h_205, hV⟩ := hV
        refine cp_l (va_runS (As := [.long (x10 * x10), .long x8]) (rest := []) ⟨hx, hb, hml, hown, hts⟩ (spec_X7_lift l (x10 * x10) x8 h_205) (va_cwS 2 hts gX7_tower_X7_lift rfl rfl rfl (by decide +kernel) ⟨Nat.le_of_ble_eq_true rfl, Nat.le_of_ble_eq_true rfl⟩) cp_pre rfl rfl hl.1 rfl (lv_room (Nat.le_of_ble_eq_true rfl)) dX7_tower_205 ⟨Nat.zero_le _, Nat.zero_le _⟩) (fun r205 q_205 => ?_)
        have hV := hV r205 q_205
        refine lv_lstore (lv' := [(10, .long r205), (12, .long r188), (0, .ref (ad 0)), (1, .int p0), (2, .int p1), (3, .long p2), (7, .int x7), (8, .long x8), (14, .long x14)]) hx hb dX7_tower_208 hl (by decide) rfl (fun ls hl => ?_)
        refine lv_lload hx hb dX7_tower_210 (lv_at hl 8 rfl) ?_
        refine lv_ldc2 (v := (2 : Int64)) hx hb hown (hts (.constantLong RX7 56 (2)) (by decide +kernel)) dX7_tower_212 ?_
        refine lv_ldiv hx hb dX7_tower_215 (by decide) ?_
        refine lv_lstore (lv' := [(14, .long (x14 / (2 : Int64))), (10, .long r205), (12, .long r188), (0, .ref (ad 0)), (1, .int p0), (2, .int p1), (3, .long p2), (7, .int x7), (8, .long x8)]) hx hb dX7_tower_216 hl (by decide) rfl (fun ls hl => ?_)
        refine lv_goto (tgt := 163) hx hb dX7_tower_218 (by decide) ?_
        exact oJ163 _ _ _ _ _ _ _ hV _ _ hP hS _ (lv_sub hl [3, 4, 5, 6, 7, 8, 1, 2, 0] rfl))
  have hl := lv_entry ([.ref (ad 0), .int p0, .int p1, .long p2]) (n := 16) (Nat.le_of_ble_eq_true rfl)
  rw [lg_entry_eq]
  generalize (lg_sl ([.ref (ad 0), .int p0, .int p1, .long p2]) ++ List.replicate (16 - (lg_sl ([.ref (ad 0), .int p0, .int p1, .long p2])).length) Slot.unset).toArray = ls at hl ⊢
  have hl : lv_has ls 16 [(0, .ref (ad 0)), (1, .int p0), (2, .int p1), (3, .long p2)] := hl
  refine lv_iload_n hx hb dX7_tower_0 rfl (lv_at hl 1 rfl) ?_
  refine cp_i (va_runS (As := [.int p0]) (rest := []) ⟨hx, hb, hml, hown, hts⟩ (spec_X7_isBy l p0) (va_cwS 1 hts gX7_tower_X7_isBy rfl rfl rfl (by decide +kernel) ⟨Nat.le_of_ble_eq_true rfl, Nat.le_of_ble_eq_true rfl⟩) cp_pre rfl rfl hl.1 rfl (lv_room (Nat.le_of_ble_eq_true rfl)) dX7_tower_1 ⟨Nat.zero_le _, Nat.zero_le _⟩) (fun r1 q_1 => ?_)
  have hV := hV r1 q_1
  refine lv_if_eq (tgt := 36) hx hb dX7_tower_4 (by decide) (fun c_4 => ?_) (fun c_4 => ?_)
  · have hV := hV.1 c_4
    refine lv_iconst (v := (-1 : Int32)) hx hb dX7_tower_36 (by decide) ?_
    exact W.iret (v := (-1 : Int32)) hx hb hr (fun t ht hW => ⟨⟨_, (g, a), rfl, hV, ar_heap ht hP⟩, hS.F ht⟩) hS.2.2 dX7_tower_37
  · have hV := hV.2 c_4
    refine lv_iload_n hx hb dX7_tower_7 rfl (lv_at hl 2 rfl) ?_
    refine lv_i2l (v := p1.toInt64) hx hb dX7_tower_8 rfl ?_
    refine lv_lconst (v := (1 : Int64)) hx hb dX7_tower_9 (by decide) ?_
    refine lv_ldc2 (v := (6 : Int64)) hx hb hown (hts (.constantLong RX7 197 (6)) (by decide +kernel)) dX7_tower_10 ?_
    refine cp_i (va_runS (As := [.long p1.toInt64, .long (1 : Int64), .long (6 : Int64)]) (rest := []) ⟨hx, hb, hml, hown, hts⟩ (spec_X7_in l p1.toInt64 (1 : Int64) (6 : Int64)) (va_cwS 3 hts gX7_tower_X7_in rfl rfl rfl (by decide +kernel) ⟨Nat.le_of_ble_eq_true rfl, Nat.le_of_ble_eq_true rfl⟩) cp_pre rfl rfl hl.1 rfl (lv_room (Nat.le_of_ble_eq_true rfl)) dX7_tower_13 ⟨Nat.zero_le _, Nat.zero_le _⟩) (fun r13 q_13 => ?_)
    have hV := hV r13 q_13
    refine lv_if_eq (tgt := 36) hx hb dX7_tower_16 (by decide) (fun c_16 => ?_) (fun c_16 => ?_)
    · have hV := hV.1 c_16
      refine lv_iconst (v := (-1 : Int32)) hx hb dX7_tower_36 (by decide) ?_
      exact W.iret (v := (-1 : Int32)) hx hb hr (fun t ht hW => ⟨⟨_, (g, a), rfl, hV, ar_heap ht hP⟩, hS.F ht⟩) hS.2.2 dX7_tower_37
    · have hV := hV.2 c_16
      refine lv_lload_n hx hb dX7_tower_19 rfl (lv_at hl 3 rfl) ?_
      refine lv_lconst (v := (0 : Int64)) hx hb dX7_tower_20 (by decide) ?_
      refine lc_lt (tgt := 36) hx hb dX7_tower_21 dX7_tower_22 (by decide) (fun c_21 => ?_) (fun c_21 => ?_)
      · have hV := hV.1 c_21
        refine lv_iconst (v := (-1 : Int32)) hx hb dX7_tower_36 (by decide) ?_
        exact W.iret (v := (-1 : Int32)) hx hb hr (fun t ht hW => ⟨⟨_, (g, a), rfl, hV, ar_heap ht hP⟩, hS.F ht⟩) hS.2.2 dX7_tower_37
      · have hV := hV.2 c_21
        refine lv_lload_n hx hb dX7_tower_25 rfl (lv_at hl 3 rfl) ?_
        refine lv_bipush (v := (10 : Int32)) hx hb dX7_tower_26 (by decide) ?_
        refine lv_iload_n hx hb dX7_tower_28 rfl (lv_at hl 2 rfl) ?_
        refine lv_imul hx hb dX7_tower_29 ?_
        refine lv_lshr (v := p2 >>> (((10 : Int32) * p1).toInt64 &&& 63)) hx hb dX7_tower_30 rfl ?_
        refine lv_lconst (v := (0 : Int64)) hx hb dX7_tower_31 (by decide) ?_
        refine lc_eq (tgt := 38) hx hb dX7_tower_32 dX7_tower_33 (by decide) (fun c_32 => ?_) (fun c_32 => ?_)
        · have hV := hV.1 c_32
          refine lv_aload_n hx hb dX7_tower_38 rfl (lv_at hl 0 rfl) ?_
          refine va_get (D := D) (ci := 6) (v := .ref (ad 13)) (C := RX7) (T := TX7) (N := 18) hx hb hts (by decide +kernel) hown hK hP 0 rfl rfl 17 (by decide) (hts (.fieldLink RX7 53 "PowerRestsModel" "chain" "[I") (by decide +kernel)) (fun _ h9 => h9) rfl dX7_tower_39 ?_
          refine lv_iconst (v := (0 : Int32)) hx hb dX7_tower_42 (by decide) ?_
          refine lv_iload_n hx hb dX7_tower_43 rfl (lv_at hl 1 rfl) ?_
          obtain ⟨h_44, hV⟩ := hV
          refine va_iast (f := (a 12)) hx hb hK hP (maD hD) hS 13 0 rfl rfl h_44 dX7_tower_44 (fun H locs hP _ hS => ?_)
          have hP : va_P D vwCl (maW ad cy g (va_up a 12 (upd (a 12) (0 : Int32).toNatClampNeg p0))) H := hP
          refine lv_iconst (v := (0 : Int32)) hx hb dX7_tower_45 (by decide) ?_
          refine lv_istore (lv' := [(5, .int (0 : Int32)), (0, .ref (ad 0)), (1, .int p0), (2, .int p1), (3, .long p2)]) hx hb dX7_tower_46 hl (by decide) rfl (fun ls hl => ?_)
          exact oJ48 _ _ _ hV _ _ hP hS _ (lv_sub hl [1, 2, 3, 4, 0] rfl)
        · have hV := hV.2 c_32
          refine lv_iconst (v := (-1 : Int32)) hx hb dX7_tower_36 (by decide) ?_
          exact W.iret (v := (-1 : Int32)) hx hb hr (fun t ht hW => ⟨⟨_, (g, a), rfl, hV, ar_heap ht hP⟩, hS.F ht⟩) hS.2.2 dX7_tower_37
def post_X7_tower (g : Gs) (a : As) (p0 p1 : Int32) (p2 : Int64) (r : Int32) (g' : Gs) (a' : As) : Prop := TowAns p0 p1 p2 r ∧ KS g a g' a'
set_option maxRecDepth 4000 in
theorem spec_X7_tower (l : Launch) (D : va_G) (cy : Nat → ClassId) (ad : Nat → Nat) (sz : Nat) (g : Gs) (a : As) (p0 : Int32) (p1 : Int32) (p2 : Int64) : Met l yX7_tower wsX7_tower ({ frames := 2, cells := 0, slots := 0, locals := 45 } : Room) (va_Pc [.ref (ad 0), .int p0, .int p1, .long p2] (ArP D cy sz (maW ad cy g a))) (va_Qi (fun (r : Int32) (u : Gs × As) => (post_X7_tower g a p0 p1 p2) r u.1 u.2) (fun u t => va_P D vwCl (maW ad cy u.1 u.2) t.heap) (va_A (maW ad cy g a) sz)) 0 0 (va_A (maW ad cy g a) sz) := by
  apply met_X7_tower
  intro J48 J119 J163 h48 h119 h163 r hr
  unfold post_X7_isBy at hr
  subst hr
  have l1 : (1 : Int64).toInt = 1 := rfl
  have l6 : (6 : Int64).toInt = 6 := rfl
  have l0 : (0 : Int64).toInt = 0 := rfl
  have lm : (1000 : Int64).toInt = 1000 := rfl
  have no : ∀ g' a', KS g a g' a' → ¬ TowB p0 p1 p2 → post_X7_tower g a p0 p1 p2 (-1) g' a' := fun g' a' hk h => ⟨Or.inl ⟨h, rfl⟩, hk⟩
  refine ⟨fun h => no _ _ KS.rf (fun q => zb_0 h q.1), fun h r13 hr13 => ?_⟩
  unfold post_X7_in at hr13
  rw [il_t, l1, l6] at hr13
  subst hr13
  refine ⟨fun h2 => no _ _ KS.rf (fun q => zb_0 h2 q.2.1), fun h2 => ⟨fun h3 => no _ _ KS.rf (fun q => ?_), fun h3 => ?_⟩⟩
  · rw [l_lt, l0] at h3; have := q.2.2.1.1; omega
  have hdv : Dv p0 := zb_1 h
  have h2 := zb_1 h2
  rw [l_lt, l0] at h3
  obtain ⟨d1, d2⟩ := id hdv
  obtain ⟨n, hn, rfl, hn2⟩ := of_i (x := p0) (by omega)
  obtain ⟨k, hk, rfl, hk2⟩ := of_i (x := p1) (by omega)
  obtain ⟨v, hv, rfl, hv2⟩ := of_l (x := p2) (by omega)
  have e10 : (10 : Int32) * nI k = nI (10 * k) := pk_mul 10 k
  rw [e10, sh_l (by omega) hv]
  have hdl : v / 2 ^ (10 * k) ≤ v := Nat.div_le_self _ _
  refine ql_eq (v / 2 ^ (10 * k)) 0 (fun q => ⟨vp_in_nI (n := 0) (by omega) (by omega), ?_⟩) (fun q => no _ _ KS.rf (fun z => ?_)) rfl rfl (by omega) (by decide)
  rotate_left
  · have z2 := z.2.2.1.2
    rw [tl_lN hv, tn_nI hk] at z2
    exact q (Nat.div_eq_of_lt z2)
  have hv1 : v < 2 ^ (10 * k) := by
    rcases Nat.div_eq_zero_iff.mp q with h | h
    · have := Nat.two_pow_pos (10 * k); omega
    · exact h
  obtain ⟨c, hcd⟩ : ∃ c, c = twc k v := ⟨_, rfl⟩
  have hcl : ∀ i, c i < 1024 := fun i => by rw [hcd]; exact twc_lt k v i
  -- the tower itself, from the last number on
  have tower : ∀ (f : Nat → Int32), (∀ j, j < k → f j = nI (szF n j)) → (∀ j, j < k → 1 ≤ c j ∧ c j ≤ 1000) → J119 (lN 1) (nI k - 1) g (va_up a 12 f) := by
    intro f hf hc
    have loop : ∀ (i m C : Nat) , i < k → m = szF n i → 1 ≤ C → (∀ s, 1 ≤ s → s < 2 * m → Like m s C → J119 (lN s) (nI i + (-1)) g (va_up a 12 f)) → ∀ (B left b s : Nat), left ≤ B → left < 2 ^ 62 → 1 ≤ b → b < 2 * m → 1 ≤ s → s < 2 * m → Like m (s * b ^ left) C → J163 (nI i) (lN m) (lN b) (lN s) (lN left) g (va_up a 12 f) := by
      intro i m C hi hm hC hnext
      have hmb := szF_b (n := n) (by omega) i
      rw [← hm] at hmb
      intro B
      induction B with
      | zero =>
        intro left b s hl _ hb1 hb2 hs1 hs2 hL
        have : left = 0 := by omega
        subst this
        rw [Nat.pow_zero, Nat.mul_one] at hL
        refine h163 _ _ _ _ _ _ _ (ql_le 0 0 (fun _ => hnext s hs1 hs2 hL) (fun h => absurd h (by omega)))
      | succ B ih =>
        intro left b s hl hl2 hb1 hb2 hs1 hs2 hL
        by_cases h0 : left = 0
        · exact ih left b s (by omega) hl2 hb1 hb2 hs1 hs2 hL
        have hbb : b * b ≤ 100000 * 100000 := Nat.mul_le_mul (by omega) (by omega)
        have hsb : s * b ≤ 100000 * 100000 := Nat.mul_le_mul (by omega) (by omega)
        have hbb1 : 1 ≤ b * b := Nat.mul_pos hb1 hb1
        have hsb1 : 1 ≤ s * b := Nat.mul_pos hs1 hb1
        have pre : ∀ x, x ≤ 100000 * 100000 → pre_X7_lift (lN x) (lN m) := fun x hx => ⟨by rw [pk_lT (by omega)]; omega, by rw [pk_lT (by omega)]; omega, by rw [pk_lT (by omega)]; omega, by rw [pk_lT (by omega)]; omega⟩
        have post : ∀ x r, x ≤ 100000 * 100000 → post_X7_lift (lN x) (lN m) r → r = lN (lift x m) := fun x r hx hr => by
          unfold post_X7_lift at hr
          rwa [tl_lN (by omega), tl_lN (by omega)] at hr
        refine h163 _ _ _ _ _ _ _ (ql_le left 0 (fun h => absurd h (by omega)) (fun _ => ?_))
        have eh : lN left / (2 : Int64) = lN (left / 2) := pk_lDiv (b := 2) (by omega) (by omega) (by omega)
        have er : lN left - lN left / (2 : Int64) * (2 : Int64) = lN (left % 2) := pk_lRem (b := 2) (by omega) (by omega) (by omega)
        rw [er, eh, lN_mul, lN_mul]
        have hp0 := Nat.pow_pos (n := left / 2) hb1
        refine ql_eq (left % 2) 1 (fun q => ⟨pre _ hsb, fun r1 hr1 => ⟨pre _ hbb, fun r2 hr2 => ?_⟩⟩) (fun q => ⟨pre _ hbb, fun r2 hr2 => ?_⟩) rfl rfl (by omega) (by omega)
        · rw [post _ r1 hsb hr1, post _ r2 hbb hr2]
          refine ih (left / 2) _ _ (by omega) (by omega) (lift_pos (by omega) hbb1) (lift_lt (by omega)) (lift_pos (by omega) hsb1) (lift_lt (by omega)) (Like.tr ?_ hL)
          have e : s * b ^ left = s * b * (b * b) ^ (left / 2) := by
            rw [sq_pow, Nat.mul_assoc, ← Nat.pow_succ']
            congr 2
            omega
          rw [e]
          exact (lift_like (by omega)).mul ((lift_like (by omega)).pow (lift_pos (by omega) hbb1) hbb1 _) (lift_pos (by omega) hsb1) hsb1 (Nat.pow_pos (lift_pos (by omega) hbb1)) (Nat.pow_pos hbb1)
        · rw [post _ r2 hbb hr2]
          refine ih (left / 2) _ _ (by omega) (by omega) (lift_pos (by omega) hbb1) (lift_lt (by omega)) hs1 hs2 (Like.tr ?_ hL)
          have e : s * b ^ left = s * (b * b) ^ (left / 2) := by
            rw [sq_pow]
            congr 2
            omega
          rw [e]
          exact Like.mul (Or.inl rfl) ((lift_like (by omega)).pow (lift_pos (by omega) hbb1) hbb1 _) hs1 hs1 (Nat.pow_pos (lift_pos (by omega) hbb1)) (Nat.pow_pos hbb1)
    have step : ∀ (i e T : Nat), i < k → 1 ≤ e → e < 2 ^ 32 → Sub (szF n (i + 1)) e T → (∀ s, 1 ≤ s → s < 2 ^ 32 → Sub (szF n i) s (c i ^ T) → J119 (lN s) (nI i + (-1)) g (va_up a 12 f)) → J119 (lN e) (nI i) g (va_up a 12 f) := by
      intro i e T hi he1 he2 hS hnext
      have hmb := szF_b (n := n) (by omega) i
      obtain ⟨hc1, hc2⟩ := hc i hi
      have hcl := hcl i
      refine h119 _ _ _ _ ⟨fun h => absurd h (nI_pos (by omega)), fun _ => ⟨vp_in_nI (by omega) (by omega), ?_⟩⟩
      rw [tw_nl hi (by omega) hv, ← hcd, up_0, show (nI i).toNatClampNeg = i from tn_nI (by omega), hf i hi, nI_l (by omega)]
      refine ⟨⟨by rw [pk_lT (by omega)]; omega, by rw [pk_lT (by omega)]; omega, by rw [pk_lT (by omega)]; omega, by rw [pk_lT (by omega)]; omega⟩, fun r hr => ?_⟩
      unfold post_X7_lift at hr
      rw [tl_lN (by omega), tl_lN (by omega)] at hr
      rw [hr]
      refine loop i (szF n i) (c i ^ e) hi rfl (Nat.pow_pos hc1) (fun s hs1 hs2 hL => hnext s hs1 (by omega) (sub_step hmb.1 (by omega) hc1 hS hL)) e e _ 1 (Nat.le_refl e) (by omega) (lift_pos hmb.1 hc1) (lift_lt hmb.1) (Nat.le_refl 1) (by omega) ?_
      rw [Nat.one_mul]
      exact (lift_like hmb.1).pow (lift_pos hmb.1 hc1) hc1 e
    have key : ∀ (i e T : Nat), i < k → 1 ≤ e → e < 2 ^ 32 → T = tw c (i + 1) (k - 1 - i) → Sub (szF n (i + 1)) e T → J119 (lN e) (nI i) g (va_up a 12 f) := by
      have tws : ∀ i T, i < k → T = tw c (i + 1) (k - 1 - i) → c i ^ T = tw c i (k - i) := fun i T hi h => by
        rw [h, show k - i = (k - 1 - i) + 1 by omega]; rfl
      intro i
      induction i with
      | zero =>
        intro e T hi he1 he2 hT hS
        refine step 0 e T hi he1 he2 hS (fun s hs1 hs2 hS2 => h119 _ _ _ _ ⟨fun _ => ?_, fun h => absurd (by decide) h⟩)
        rw [nI_l hn]
        refine ⟨lN_nz (by omega) (by omega), ?_⟩
        rw [pk_lRem (by omega) (by omega) (by omega), lN_i]
        refine ⟨Or.inr ⟨⟨hdv, ⟨by omega, by omega⟩, ⟨by omega, ?_⟩, fun j hj => ?_⟩, ?_⟩, KS.up (by decide) _⟩
        · rw [tl_lN hv, tn_nI hk]; exact hv1
        · rw [tn_nI hk] at hj ⊢; rw [tl_lN hv, ← hcd]; exact hc j hj
        · rw [tn_nI hk, tl_lN hv, tn_nI hn, ← hcd]
          have := hS2.1
          rw [tws 0 T hi hT] at this
          exact congrArg nI this
      | succ i ih =>
        intro e T hi he1 he2 hT hS
        refine step (i + 1) e T hi he1 he2 hS (fun s hs1 hs2 hS2 => ?_)
        rw [pk_m1]
        refine ih s (c (i + 1) ^ T) (by omega) hs1 hs2 ?_ hS2
        rw [tws (i + 1) T hi hT]
        congr 1
        omega
    rw [show nI k - (1 : Int32) = nI (k - 1) from pk_sub (b := 1) (by omega)]
    exact key (k - 1) 1 1 (by omega) (by omega) (by omega) (by rw [show k - 1 - (k - 1) = 0 by omega]; rfl) ⟨rfl, Or.inl rfl⟩
  have key : ∀ (d i : Nat) (f : Nat → Int32), i + d = k → f 0 = nI n → (∀ j, j < i → f j = nI (szF n j)) → (∀ j, j < i → 1 ≤ c j ∧ c j ≤ 1000) → J48 (nI i) g (va_up a 12 f) := by
    intro d
    induction d with
    | zero =>
      intro i f hi hf0 hf hc
      have : i = k := by omega
      subst this
      exact h48 _ _ _ (pk_le i i (fun _ => tower f hf hc) (fun h => absurd h (by omega)))
    | succ d ih =>
      intro i f hi hf0 hf hc
      refine h48 _ _ _ (pk_le k i (fun h => absurd h (by omega)) (fun _ r73 hr => ?_))
      rw [tw_nl (by omega) (by omega) hv, ← hcd] at hr
      have hcl := hcl i
      unfold post_X7_in at hr
      rw [l1, lm, pk_lT (by omega)] at hr
      subst hr
      refine ⟨fun q => no _ _ (KS.up (by decide) _) (fun z => ?_), fun q => ?_⟩
      · have := z.2.2.2 i (by rw [tn_nI hk]; omega)
        rw [tn_nI hk, tl_lN hv, ← hcd] at this
        exact zb_0 q ⟨by omega, by omega⟩
      · have hci := zb_1 q
        have hc' : ∀ j, j < i + 1 → 1 ≤ c j ∧ c j ≤ 1000 := fun j hj => by
          by_cases hji : j = i
          · rw [hji]; exact ⟨by omega, by omega⟩
          · exact hc j (by omega)
        rw [nI_1]
        refine pk_le i 0 (fun hi0 => ?_) (fun hi0 => ?_)
        · have : i = 0 := by omega
          subst this
          exact ih 1 f (by omega) hf0 (fun j hj => by rw [show j = 0 by omega]; exact hf0) hc'
        · rw [show nI i - (1 : Int32) = nI (i - 1) from pk_sub (b := 1) (by omega), show (nI (i - 1)).toNatClampNeg = i - 1 from tn_nI (by omega), show (nI i).toNatClampNeg = i from tn_nI (by omega), up_0, hf (i - 1) (by omega)]
          have hmb := szF_b (n := n) (by omega) (i - 1)
          refine ⟨vp_in_nI (by omega) (by omega), ⟨by rw [nI_toInt (by omega)]; omega, by rw [nI_toInt (by omega)]; omega⟩, fun r hr => ⟨vp_in_nI (by omega) (by omega), ?_⟩⟩
          unfold post_X7_share at hr
          rw [tn_nI (by omega)] at hr
          rw [hr, up_up]
          refine ih (i + 1) _ (by omega) (by rw [pk_un (by omega)]; exact hf0) (fun j hj => ?_) hc'
          by_cases hji : j = i
          · rw [hji, pk_us]
            conv => rhs; rw [show i = (i - 1) + 1 by omega]
            rfl
          · rw [pk_un hji]; exact hf j (by omega)
  exact key k 0 _ (by omega) pk_us (fun j hj => by omega) (fun j hj => by omega)
