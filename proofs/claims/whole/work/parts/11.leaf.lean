set_option maxHeartbeats 4000000 in
set_option maxRecDepth 100000 in
theorem met_X7_in (l : Launch) (p0 : Int64) (p1 : Int64) (p2 : Int64) (post : Int32 → Prop)
  (hV : ((p0 < p1 → post (0 : Int32)) ∧ (¬ p0 < p1 → ((p2 < p0 → post (0 : Int32)) ∧ (¬ p2 < p0 → post (1 : Int32)))))) :
  Met l yX7_in wsX7_in ({ frames := 0, cells := 0, slots := 0, locals := 0 } : Room) (va_Pc [.long p0, .long p1, .long p2] (fun _ => True)) (Qpi post) 0 0 noF := by
  refine Met.ofW (cc := cX7_in) (maxL := 6) (ret := (some .boolean)) (by decide) rfl ?_
  intro p e s m args below meth c s₁ B hml hv
  obtain ⟨rfl, -⟩ := hv
  have hx := B.exec
  have hb := B.bytes
  have hr := B.returns
  have hts := atoms_spec (ws := wsX7_in) B.pre
  have hown : s.vm.findClass RX7 = some m.cls := findClass_of_methodNamed B.named
  have hlocks := B.notSynchronized
  have hl := lv_entry ([.long p0, .long p1, .long p2]) (n := 6) (Nat.le_of_ble_eq_true rfl)
  rw [lg_entry_eq]
  generalize (lg_sl ([.long p0, .long p1, .long p2]) ++ List.replicate (6 - (lg_sl ([.long p0, .long p1, .long p2])).length) Slot.unset).toArray = ls at hl ⊢
  have hl : lv_has ls 6 [(0, .long p0), (2, .long p1), (4, .long p2)] := hl
  refine lv_lload_n hx hb dX7_in_0 rfl (lv_at hl 0 rfl) ?_
  refine lv_lload_n hx hb dX7_in_1 rfl (lv_at hl 1 rfl) ?_
  refine lc_lt (tgt := 17) hx hb dX7_in_2 dX7_in_3 (by decide) (fun c_2 => ?_) (fun c_2 => ?_)
  · have hV := hV.1 c_2
    refine lv_iconst (v := (0 : Int32)) hx hb dX7_in_17 (by decide) ?_
    exact W.zret (v := (0 : Int32)) hx hb hr rfl (fun t ht hW => ⟨_, rfl, hV, ht⟩) (fun _ h => by cases h) dX7_in_18
  · have hV := hV.2 c_2
    refine lv_lload_n hx hb dX7_in_6 rfl (lv_at hl 0 rfl) ?_
    refine lv_lload hx hb dX7_in_7 (lv_at hl 2 rfl) ?_
    refine lc_gt (tgt := 17) hx hb dX7_in_9 dX7_in_10 (by decide) (fun c_9 => ?_) (fun c_9 => ?_)
    · have hV := hV.1 c_9
      refine lv_iconst (v := (0 : Int32)) hx hb dX7_in_17 (by decide) ?_
      exact W.zret (v := (0 : Int32)) hx hb hr rfl (fun t ht hW => ⟨_, rfl, hV, ht⟩) (fun _ h => by cases h) dX7_in_18
    · have hV := hV.2 c_9
      refine lv_iconst (v := (1 : Int32)) hx hb dX7_in_13 (by decide) ?_
      refine lv_goto (tgt := 18) hx hb dX7_in_14 (by decide) ?_
      exact W.zret (v := (1 : Int32)) hx hb hr rfl (fun t ht hW => ⟨_, rfl, hV, ht⟩) (fun _ h => by cases h) dX7_in_18
def post_X7_in (p0 p1 p2 : Int64) (r : Int32) : Prop := r = zb (p1.toInt ≤ p0.toInt ∧ p0.toInt ≤ p2.toInt)
set_option maxRecDepth 4000 in
theorem spec_X7_in (l : Launch) (p0 : Int64) (p1 : Int64) (p2 : Int64) : Met l yX7_in wsX7_in ({ frames := 0, cells := 0, slots := 0, locals := 0 } : Room) (va_Pc [.long p0, .long p1, .long p2] (fun _ => True)) (Qpi (post_X7_in p0 p1 p2)) 0 0 noF := by
  apply met_X7_in
  unfold post_X7_in
  simp only [l_lt]
  refine ⟨fun h => (zb_f (by omega)).symm, fun h => ⟨fun h2 => (zb_f (by omega)).symm, fun h2 => (zb_t (by omega)).symm⟩⟩
set_option maxHeartbeats 4000000 in
set_option maxRecDepth 100000 in
theorem met_X7_isBy (l : Launch) (p0 : Int32) (post : Int32 → Prop)
  (hV : ∀ r8 : Int32, post_X7_in p0.toInt64 (2 : Int64) (50000 : Int64) r8 → (r8 = 0 ∨ r8 = 1) ∧ post r8) :
  Met l yX7_isBy wsX7_isBy ({ frames := 1, cells := 0, slots := 0, locals := 25 } : Room) (va_Pc [.int p0] (fun _ => True)) (Qpi post) 0 0 noF := by
  refine Met.ofW (cc := cX7_isBy) (maxL := 1) (ret := (some .boolean)) (by decide) rfl ?_
  intro p e s m args below meth c s₁ B hml hv
  obtain ⟨rfl, -⟩ := hv
  have hx := B.exec
  have hb := B.bytes
  have hr := B.returns
  have hts := atoms_spec (ws := wsX7_isBy) B.pre
  have hown : s.vm.findClass RX7 = some m.cls := findClass_of_methodNamed B.named
  have hlocks := B.notSynchronized
  have hl := lv_entry ([.int p0]) (n := 1) (Nat.le_of_ble_eq_true rfl)
  rw [lg_entry_eq]
  generalize (lg_sl ([.int p0]) ++ List.replicate (1 - (lg_sl ([.int p0])).length) Slot.unset).toArray = ls at hl ⊢
  have hl : lv_has ls 1 [(0, .int p0)] := hl
  refine lv_iload_n hx hb dX7_isBy_0 rfl (lv_at hl 0 rfl) ?_
  refine lv_i2l (v := p0.toInt64) hx hb dX7_isBy_1 rfl ?_
  refine lv_ldc2 (v := (2 : Int64)) hx hb hown (hts (.constantLong RX7 56 (2)) (by decide +kernel)) dX7_isBy_2 ?_
  refine lv_ldc2 (v := (50000 : Int64)) hx hb hown (hts (.constantLong RX7 58 (50000)) (by decide +kernel)) dX7_isBy_5 ?_
  refine cp_i (va_runS (As := [.long p0.toInt64, .long (2 : Int64), .long (50000 : Int64)]) (rest := []) ⟨hx, hb, hml, hown, hts⟩ (spec_X7_in l p0.toInt64 (2 : Int64) (50000 : Int64)) (va_cwS 3 hts gX7_isBy_X7_in rfl rfl rfl (by decide +kernel) ⟨Nat.le_of_ble_eq_true rfl, Nat.le_of_ble_eq_true rfl⟩) cp_pre rfl rfl hl.1 rfl (lv_room (Nat.le_of_ble_eq_true rfl)) dX7_isBy_8 ⟨Nat.zero_le _, Nat.zero_le _⟩) (fun r8 q_8 => ?_)
  have hV := hV r8 q_8
  obtain ⟨h_11, hV⟩ := hV
  exact W.zret (v := r8) hx hb hr (zr_nar h_11) (fun t ht hW => ⟨_, rfl, hV, ht⟩) (fun _ h => by cases h) dX7_isBy_11
def post_X7_isBy (p0 r : Int32) : Prop := r = zb (2 ≤ p0.toInt ∧ p0.toInt ≤ 50000)
set_option maxRecDepth 4000 in
theorem spec_X7_isBy (l : Launch) (p0 : Int32) : Met l yX7_isBy wsX7_isBy ({ frames := 1, cells := 0, slots := 0, locals := 25 } : Room) (va_Pc [.int p0] (fun _ => True)) (Qpi (post_X7_isBy p0)) 0 0 noF := by
  apply met_X7_isBy
  intro r h
  unfold post_X7_in at h
  rw [il_t] at h
  exact ⟨h ▸ zb_01 _, h⟩
set_option maxHeartbeats 4000000 in
set_option maxRecDepth 100000 in
theorem met_X6_isDivisor (l : Launch) (p0 : Int32) (post : Int32 → Prop)
  (hV : ((p0 < (2 : Int32) → post (0 : Int32)) ∧ (¬ p0 < (2 : Int32) → (((50000 : Int32) < p0 → post (0 : Int32)) ∧ (¬ (50000 : Int32) < p0 → post (1 : Int32)))))) :
  Met l yX6_isDivisor wsX6_isDivisor ({ frames := 0, cells := 0, slots := 0, locals := 0 } : Room) (va_Pc [.int p0] (fun _ => True)) (Qpi post) 0 0 noF := by
  refine Met.ofW (cc := cX6_isDivisor) (maxL := 1) (ret := (some .boolean)) (by decide) rfl ?_
  intro p e s m args below meth c s₁ B hml hv
  obtain ⟨rfl, -⟩ := hv
  have hx := B.exec
  have hb := B.bytes
  have hr := B.returns
  have hts := atoms_spec (ws := wsX6_isDivisor) B.pre
  have hown : s.vm.findClass RX6 = some m.cls := findClass_of_methodNamed B.named
  have hlocks := B.notSynchronized
  have hl := lv_entry ([.int p0]) (n := 1) (Nat.le_of_ble_eq_true rfl)
  rw [lg_entry_eq]
  generalize (lg_sl ([.int p0]) ++ List.replicate (1 - (lg_sl ([.int p0])).length) Slot.unset).toArray = ls at hl ⊢
  have hl : lv_has ls 1 [(0, .int p0)] := hl
  refine lv_iload_n hx hb dX6_isDivisor_0 rfl (lv_at hl 0 rfl) ?_
  refine lv_iconst (v := (2 : Int32)) hx hb dX6_isDivisor_1 (by decide) ?_
  refine lv_icmp_lt (tgt := 15) hx hb dX6_isDivisor_2 (by decide) (fun c_2 => ?_) (fun c_2 => ?_)
  · have hV := hV.1 c_2
    refine lv_iconst (v := (0 : Int32)) hx hb dX6_isDivisor_15 (by decide) ?_
    exact W.zret (v := (0 : Int32)) hx hb hr rfl (fun t ht hW => ⟨_, rfl, hV, ht⟩) (fun _ h => by cases h) dX6_isDivisor_16
  · have hV := hV.2 c_2
    refine lv_iload_n hx hb dX6_isDivisor_5 rfl (lv_at hl 0 rfl) ?_
    refine lv_ldc (v := (50000 : Int32)) hx hb hown (hts (.constant RX6 77 (50000)) (by decide +kernel)) dX6_isDivisor_6 ?_
    refine lv_icmp_gt (tgt := 15) hx hb dX6_isDivisor_8 (by decide) (fun c_8 => ?_) (fun c_8 => ?_)
    · have hV := hV.1 c_8
      refine lv_iconst (v := (0 : Int32)) hx hb dX6_isDivisor_15 (by decide) ?_
      exact W.zret (v := (0 : Int32)) hx hb hr rfl (fun t ht hW => ⟨_, rfl, hV, ht⟩) (fun _ h => by cases h) dX6_isDivisor_16
    · have hV := hV.2 c_8
      refine lv_iconst (v := (1 : Int32)) hx hb dX6_isDivisor_11 (by decide) ?_
      refine lv_goto (tgt := 16) hx hb dX6_isDivisor_12 (by decide) ?_
      exact W.zret (v := (1 : Int32)) hx hb hr rfl (fun t ht hW => ⟨_, rfl, hV, ht⟩) (fun _ h => by cases h) dX6_isDivisor_16
def post_X6_isDivisor (p0 r : Int32) : Prop := r = zb (2 ≤ p0.toInt ∧ p0.toInt ≤ 50000)
set_option maxRecDepth 4000 in
theorem spec_X6_isDivisor (l : Launch) (p0 : Int32) : Met l yX6_isDivisor wsX6_isDivisor ({ frames := 0, cells := 0, slots := 0, locals := 0 } : Room) (va_Pc [.int p0] (fun _ => True)) (Qpi (post_X6_isDivisor p0)) 0 0 noF := by
  apply met_X6_isDivisor
  unfold post_X6_isDivisor
  simp only [i_lt]
  have e1 : (2 : Int32).toInt = 2 := rfl
  have e2 : (50000 : Int32).toInt = 50000 := rfl
  rw [e1, e2]
  refine ⟨fun h => (zb_f (by omega)).symm, fun h => ⟨fun h2 => (zb_f (by omega)).symm, fun h2 => (zb_t (by omega)).symm⟩⟩
set_option maxHeartbeats 4000000 in
set_option maxRecDepth 100000 in
theorem met_X6_isRest (l : Launch) (p0 : Int32) (p1 : Int32) (post : Int32 → Prop)
  (hV : ((p0 < 0 → post (0 : Int32)) ∧ (¬ p0 < 0 → ((p1 ≤ p0 → post (0 : Int32)) ∧ (¬ p1 ≤ p0 → post (1 : Int32)))))) :
  Met l yX6_isRest wsX6_isRest ({ frames := 0, cells := 0, slots := 0, locals := 0 } : Room) (va_Pc [.int p0, .int p1] (fun _ => True)) (Qpi post) 0 0 noF := by
  refine Met.ofW (cc := cX6_isRest) (maxL := 2) (ret := (some .boolean)) (by decide) rfl ?_
  intro p e s m args below meth c s₁ B hml hv
  obtain ⟨rfl, -⟩ := hv
  have hx := B.exec
  have hb := B.bytes
  have hr := B.returns
  have hts := atoms_spec (ws := wsX6_isRest) B.pre
  have hown : s.vm.findClass RX6 = some m.cls := findClass_of_methodNamed B.named
  have hlocks := B.notSynchronized
  have hl := lv_entry ([.int p0, .int p1]) (n := 2) (Nat.le_of_ble_eq_true rfl)
  rw [lg_entry_eq]
  generalize (lg_sl ([.int p0, .int p1]) ++ List.replicate (2 - (lg_sl ([.int p0, .int p1])).length) Slot.unset).toArray = ls at hl ⊢
  have hl : lv_has ls 2 [(0, .int p0), (1, .int p1)] := hl
  refine lv_iload_n hx hb dX6_isRest_0 rfl (lv_at hl 0 rfl) ?_
  refine lv_if_lt (tgt := 13) hx hb dX6_isRest_1 (by decide) (fun c_1 => ?_) (fun c_1 => ?_)
  · have hV := hV.1 c_1
    refine lv_iconst (v := (0 : Int32)) hx hb dX6_isRest_13 (by decide) ?_
    exact W.zret (v := (0 : Int32)) hx hb hr rfl (fun t ht hW => ⟨_, rfl, hV, ht⟩) (fun _ h => by cases h) dX6_isRest_14
  · have hV := hV.2 c_1
    refine lv_iload_n hx hb dX6_isRest_4 rfl (lv_at hl 0 rfl) ?_
    refine lv_iload_n hx hb dX6_isRest_5 rfl (lv_at hl 1 rfl) ?_
    refine lv_icmp_ge (tgt := 13) hx hb dX6_isRest_6 (by decide) (fun c_6 => ?_) (fun c_6 => ?_)
    · have hV := hV.1 c_6
      refine lv_iconst (v := (0 : Int32)) hx hb dX6_isRest_13 (by decide) ?_
      exact W.zret (v := (0 : Int32)) hx hb hr rfl (fun t ht hW => ⟨_, rfl, hV, ht⟩) (fun _ h => by cases h) dX6_isRest_14
    · have hV := hV.2 c_6
      refine lv_iconst (v := (1 : Int32)) hx hb dX6_isRest_9 (by decide) ?_
      refine lv_goto (tgt := 14) hx hb dX6_isRest_10 (by decide) ?_
      exact W.zret (v := (1 : Int32)) hx hb hr rfl (fun t ht hW => ⟨_, rfl, hV, ht⟩) (fun _ h => by cases h) dX6_isRest_14
def post_X6_isRest (p0 p1 r : Int32) : Prop := r = zb (0 ≤ p0.toInt ∧ p0.toInt < p1.toInt)
set_option maxRecDepth 4000 in
theorem spec_X6_isRest (l : Launch) (p0 : Int32) (p1 : Int32) : Met l yX6_isRest wsX6_isRest ({ frames := 0, cells := 0, slots := 0, locals := 0 } : Room) (va_Pc [.int p0, .int p1] (fun _ => True)) (Qpi (post_X6_isRest p0 p1)) 0 0 noF := by
  apply met_X6_isRest
  unfold post_X6_isRest
  simp only [i_lt, i_le]
  rw [Int32.toInt_zero]
  refine ⟨fun h => (zb_f (by omega)).symm, fun h => ⟨fun h2 => (zb_f (by omega)).symm, fun h2 => (zb_t (by omega)).symm⟩⟩
def pre_X7_isRest (p0 p1 : Int32) : Prop := 1 ≤ p0.toInt
set_option maxHeartbeats 4000000 in
set_option maxRecDepth 100000 in
theorem met_X7_isRest (l : Launch) (p0 : Int32) (p1 : Int32) (post : Int32 → Prop)
  (hV : ∀ r7 : Int32, post_X7_in p1.toInt64 (0 : Int64) ((p0 - (1 : Int32)).toInt64) r7 → (r7 = 0 ∨ r7 = 1) ∧ post r7) :
  Met l yX7_isRest wsX7_isRest ({ frames := 1, cells := 0, slots := 0, locals := 25 } : Room) (va_Pc [.int p0, .int p1] (fun _ => True)) (Qpi post) 0 0 noF := by
  refine Met.ofW (cc := cX7_isRest) (maxL := 2) (ret := (some .boolean)) (by decide) rfl ?_
  intro p e s m args below meth c s₁ B hml hv
  obtain ⟨rfl, -⟩ := hv
  have hx := B.exec
  have hb := B.bytes
  have hr := B.returns
  have hts := atoms_spec (ws := wsX7_isRest) B.pre
  have hown : s.vm.findClass RX7 = some m.cls := findClass_of_methodNamed B.named
  have hlocks := B.notSynchronized
  have hl := lv_entry ([.int p0, .int p1]) (n := 2) (Nat.le_of_ble_eq_true rfl)
  rw [lg_entry_eq]
  generalize (lg_sl ([.int p0, .int p1]) ++ List.replicate (2 - (lg_sl ([.int p0, .int p1])).length) Slot.unset).toArray = ls at hl ⊢
  have hl : lv_has ls 2 [(0, .int p0), (1, .int p1)] := hl
  refine lv_iload_n hx hb dX7_isRest_0 rfl (lv_at hl 1 rfl) ?_
  refine lv_i2l (v := p1.toInt64) hx hb dX7_isRest_1 rfl ?_
  refine lv_lconst (v := (0 : Int64)) hx hb dX7_isRest_2 (by decide) ?_
  refine lv_iload_n hx hb dX7_isRest_3 rfl (lv_at hl 0 rfl) ?_
  refine lv_iconst (v := (1 : Int32)) hx hb dX7_isRest_4 (by decide) ?_
  refine lv_isub hx hb dX7_isRest_5 ?_
  refine lv_i2l (v := (p0 - (1 : Int32)).toInt64) hx hb dX7_isRest_6 rfl ?_
  refine cp_i (va_runS (As := [.long p1.toInt64, .long (0 : Int64), .long ((p0 - (1 : Int32)).toInt64)]) (rest := []) ⟨hx, hb, hml, hown, hts⟩ (spec_X7_in l p1.toInt64 (0 : Int64) ((p0 - (1 : Int32)).toInt64)) (va_cwS 3 hts gX7_isRest_X7_in rfl rfl rfl (by decide +kernel) ⟨Nat.le_of_ble_eq_true rfl, Nat.le_of_ble_eq_true rfl⟩) cp_pre rfl rfl hl.1 rfl (lv_room (Nat.le_of_ble_eq_true rfl)) dX7_isRest_7 ⟨Nat.zero_le _, Nat.zero_le _⟩) (fun r7 q_7 => ?_)
  have hV := hV r7 q_7
  obtain ⟨h_10, hV⟩ := hV
  exact W.zret (v := r7) hx hb hr (zr_nar h_10) (fun t ht hW => ⟨_, rfl, hV, ht⟩) (fun _ h => by cases h) dX7_isRest_10
def post_X7_isRest (p0 p1 r : Int32) : Prop := r = zb (0 ≤ p1.toInt ∧ p1.toInt < p0.toInt)
set_option maxRecDepth 4000 in
theorem spec_X7_isRest (l : Launch) (p0 : Int32) (p1 : Int32) (hpre : pre_X7_isRest p0 p1) : Met l yX7_isRest wsX7_isRest ({ frames := 1, cells := 0, slots := 0, locals := 25 } : Room) (va_Pc [.int p0, .int p1] (fun _ => True)) (Qpi (post_X7_isRest p0 p1)) 0 0 noF := by
  apply met_X7_isRest
  intro r h
  unfold post_X7_in at h
  obtain ⟨n, hn, rfl, hn2⟩ := of_i (x := p0) (by unfold pre_X7_isRest at hpre; omega)
  have hn1 : 1 ≤ n := by unfold pre_X7_isRest at hpre; omega
  have e : nI n - 1 = nI (n - 1) := pk_sub (a := n) (b := 1) hn1
  rw [e, il_t, il_t, nI_toInt (by omega)] at h
  unfold post_X7_isRest
  rw [hn2]
  have e0 : (0 : Int64).toInt = 0 := rfl
  rw [e0] at h
  refine ⟨h ▸ zb_01 _, h.trans (zb_c ⟨fun q => ⟨q.1, by omega⟩, fun q => ⟨q.1, by omega⟩⟩)⟩
def pre_X7_common (p0 p1 : Int32) : Prop := 0 ≤ p0.toInt ∧ 0 ≤ p1.toInt
set_option maxHeartbeats 4000000 in
set_option maxRecDepth 100000 in
theorem met_X7_common (l : Launch) (p0 : Int32) (p1 : Int32) (post : Int32 → Prop)
  (hV : ∀ (J4 : Int32 → Int32 → Prop),
    (∀ (x2 : Int32) (x3 : Int32), ((x3 = 0 → post x2) ∧ (¬ x3 = 0 → J4 x3 (x2 - x2 / x3 * x3))) → J4 x2 x3) →
    J4 p0 p1) :
  Met l yX7_common wsX7_common ({ frames := 0, cells := 0, slots := 0, locals := 0 } : Room) (va_Pc [.int p0, .int p1] (fun _ => True)) (Qpi post) 0 0 noF := by
  refine Met.ofW (cc := cX7_common) (maxL := 5) (ret := (some .int)) (by decide) rfl ?_
  intro p e s m args below meth c s₁ B hml hv
  obtain ⟨rfl, -⟩ := hv
  have hx := B.exec
  have hb := B.bytes
  have hr := B.returns
  have hts := atoms_spec (ws := wsX7_common) B.pre
  have hown : s.vm.findClass RX7 = some m.cls := findClass_of_methodNamed B.named
  have hlocks := B.notSynchronized
  obtain ⟨J4, iJ4, oJ4⟩ : ∃ J : Int32 → Int32 → Prop, (∀ (x2 : Int32) (x3 : Int32), (∀ ls : Array Slot, lv_has ls 5 [(2, .int x2), (3, .int x3)] → W p l e (headSpec wsX7_common ({ frames := 0, cells := 0, slots := 0, locals := 0 } : Room)).room s m [.int p0, .int p1].toArray below meth c s.heap [] 0 0 (MQ below (Qpi post) [.int p0, .int p1].toArray s 0 0 noF) (F0 m 4 ls [])) → J x2 x3) ∧ (∀ (x2 : Int32) (x3 : Int32), J x2 x3 → (∀ ls : Array Slot, lv_has ls 5 [(2, .int x2), (3, .int x3)] → W p l e (headSpec wsX7_common ({ frames := 0, cells := 0, slots := 0, locals := 0 } : Room)).room s m [.int p0, .int p1].toArray below meth c s.heap [] 0 0 (MQ below (Qpi post) [.int p0, .int p1].toArray s 0 0 noF) (F0 m 4 ls []))) := ⟨fun (x2 : Int32) (x3 : Int32) => (∀ ls : Array Slot, lv_has ls 5 [(2, .int x2), (3, .int x3)] → W p l e (headSpec wsX7_common ({ frames := 0, cells := 0, slots := 0, locals := 0 } : Room)).room s m [.int p0, .int p1].toArray below meth c s.heap [] 0 0 (MQ below (Qpi post) [.int p0, .int p1].toArray s 0 0 noF) (F0 m 4 ls [])), fun _ _ h => h, fun _ _ h => h⟩
  have hV := hV J4
  replace hV := hV (by
    intro x2 x3 hV
    refine iJ4 x2 x3 ?_
    intro ls hl
    refine lv_iload_n hx hb dX7_common_4 rfl (lv_at hl 1 rfl) ?_
    refine lv_if_eq (tgt := 21) hx hb dX7_common_5 (by decide) (fun c_5 => ?_) (fun c_5 => ?_)
    · have hV := hV.1 c_5
      refine lv_iload_n hx hb dX7_common_21 rfl (lv_at hl 0 rfl) ?_
      exact W.iret (v := x2) hx hb hr (fun t ht hW => ⟨_, rfl, hV, ht⟩) (fun _ h => by cases h) dX7_common_22
    · have hV := hV.2 c_5
      refine lv_iload_n hx hb dX7_common_8 rfl (lv_at hl 0 rfl) ?_
      refine lv_iload_n hx hb dX7_common_9 rfl (lv_at hl 1 rfl) ?_
      refine lv_irem hx hb dX7_common_10 c_5 ?_
      refine lv_istore (lv' := [(4, .int (x2 - x2 / x3 * x3)), (2, .int x2), (3, .int x3)]) hx hb dX7_common_11 hl (by decide) rfl (fun ls hl => ?_)
      refine lv_iload_n hx hb dX7_common_13 rfl (lv_at hl 2 rfl) ?_
      refine lv_istore_n (lv' := [(2, .int x3), (4, .int (x2 - x2 / x3 * x3)), (3, .int x3)]) hx hb dX7_common_14 rfl hl (by decide) rfl (fun ls hl => ?_)
      refine lv_iload hx hb dX7_common_15 (lv_at hl 1 rfl) ?_
      refine lv_istore_n (lv' := [(3, .int (x2 - x2 / x3 * x3)), (2, .int x3), (4, .int (x2 - x2 / x3 * x3))]) hx hb dX7_common_17 rfl hl (by decide) rfl (fun ls hl => ?_)
      refine lv_goto (tgt := 4) hx hb dX7_common_18 (by decide) ?_
      exact oJ4 _ _ hV _ (lv_sub hl [1, 0] rfl))
  have hl := lv_entry ([.int p0, .int p1]) (n := 5) (Nat.le_of_ble_eq_true rfl)
  rw [lg_entry_eq]
  generalize (lg_sl ([.int p0, .int p1]) ++ List.replicate (5 - (lg_sl ([.int p0, .int p1])).length) Slot.unset).toArray = ls at hl ⊢
  have hl : lv_has ls 5 [(0, .int p0), (1, .int p1)] := hl
  refine lv_iload_n hx hb dX7_common_0 rfl (lv_at hl 0 rfl) ?_
  refine lv_istore_n (lv' := [(2, .int p0), (0, .int p0), (1, .int p1)]) hx hb dX7_common_1 rfl hl (by decide) rfl (fun ls hl => ?_)
  refine lv_iload_n hx hb dX7_common_2 rfl (lv_at hl 2 rfl) ?_
  refine lv_istore_n (lv' := [(3, .int p1), (2, .int p0), (0, .int p0), (1, .int p1)]) hx hb dX7_common_3 rfl hl (by decide) rfl (fun ls hl => ?_)
  exact oJ4 _ _ hV _ (lv_sub hl [1, 0] rfl)
def post_X7_common (p0 p1 r : Int32) : Prop := r = nI (Nat.gcd (tn p0) (tn p1))
set_option maxRecDepth 4000 in
theorem spec_X7_common (l : Launch) (p0 : Int32) (p1 : Int32) (hpre : pre_X7_common p0 p1) : Met l yX7_common wsX7_common ({ frames := 0, cells := 0, slots := 0, locals := 0 } : Room) (va_Pc [.int p0, .int p1] (fun _ => True)) (Qpi (post_X7_common p0 p1)) 0 0 noF := by
  apply met_X7_common
  intro J hJ
  obtain ⟨a, ha, rfl, -⟩ := of_i hpre.1
  obtain ⟨b, hb, rfl, -⟩ := of_i hpre.2
  have key : ∀ (n a' b' : Nat), b' ≤ n → a' < 2 ^ 31 → b' < 2 ^ 31 → Nat.gcd a' b' = Nat.gcd a b → J (nI a') (nI b') := by
    intro n
    induction n with
    | zero =>
      intro a' b' h1 h2 h3 h4
      have : b' = 0 := by omega
      subst this
      refine hJ _ _ ⟨fun _ => ?_, fun h => absurd nI_0 h⟩
      unfold post_X7_common
      rw [tn_nI ha, tn_nI hb, ← h4, Nat.gcd_zero_right]
    | succ n ih =>
      intro a' b' h1 h2 h3 h4
      refine hJ _ _ (pk_eq b' 0 (fun h => ?_) (fun h => ?_))
      · unfold post_X7_common
        rw [tn_nI ha, tn_nI hb, ← h4, h, Nat.gcd_zero_right]
      · rw [pk_rem h2 (by omega) h3]
        have hlt := Nat.mod_lt a' (show 0 < b' by omega)
        exact ih b' (a' % b') (by omega) h3 (by omega) (by rw [← h4, Nat.gcd_comm a' b', Nat.gcd_rec b' a', Nat.gcd_comm])
  exact key b a b (Nat.le_refl b) ha hb rfl
def pre_X4_commonDivisor (p0 p1 : Int32) : Prop := 0 ≤ p0.toInt ∧ 0 ≤ p1.toInt
set_option maxHeartbeats 4000000 in
set_option maxRecDepth 100000 in
theorem met_X4_commonDivisor (l : Launch) (p0 : Int32) (p1 : Int32) (post : Int32 → Prop)
  (hV : ∀ (J7 : Int32 → Int32 → Int32 → Prop),
    (∀ (x2 : Int32) (x3 : Int32) (x4 : Int32), (((64 : Int32) ≤ x4 → post x2) ∧ (¬ (64 : Int32) ≤ x4 → ((x3 = 0 → post x2) ∧ (¬ x3 = 0 → J7 x3 (x2 - x2 / x3 * x3) (x4 + 1))))) → J7 x2 x3 x4) →
    J7 p0 p1 (0 : Int32)) :
  Met l yX4_commonDivisor wsX4_commonDivisor ({ frames := 0, cells := 0, slots := 0, locals := 0 } : Room) (va_Pc [.int p0, .int p1] (fun _ => True)) (Qpi post) 0 0 noF := by
  refine Met.ofW (cc := cX4_commonDivisor) (maxL := 6) (ret := (some .int)) (by decide) rfl ?_
  intro p e s m args below meth c s₁ B hml hv
  obtain ⟨rfl, -⟩ := hv
  have hx := B.exec
  have hb := B.bytes
  have hr := B.returns
  have hts := atoms_spec (ws := wsX4_commonDivisor) B.pre
  have hown : s.vm.findClass RX4 = some m.cls := findClass_of_methodNamed B.named
  have hlocks := B.notSynchronized
  obtain ⟨J7, iJ7, oJ7⟩ : ∃ J : Int32 → Int32 → Int32 → Prop, (∀ (x2 : Int32) (x3 : Int32) (x4 : Int32), (∀ ls : Array Slot, lv_has ls 6 [(2, .int x2), (3, .int x3), (4, .int x4)] → W p l e (headSpec wsX4_commonDivisor ({ frames := 0, cells := 0, slots := 0, locals := 0 } : Room)).room s m [.int p0, .int p1].toArray below meth c s.heap [] 0 0 (MQ below (Qpi post) [.int p0, .int p1].toArray s 0 0 noF) (F0 m 7 ls [])) → J x2 x3 x4) ∧ (∀ (x2 : Int32) (x3 : Int32) (x4 : Int32), J x2 x3 x4 → (∀ ls : Array Slot, lv_has ls 6 [(2, .int x2), (3, .int x3), (4, .int x4)] → W p l e (headSpec wsX4_commonDivisor ({ frames := 0, cells := 0, slots := 0, locals := 0 } : Room)).room s m [.int p0, .int p1].toArray below meth c s.heap [] 0 0 (MQ below (Qpi post) [.int p0, .int p1].toArray s 0 0 noF) (F0 m 7 ls []))) := ⟨fun (x2 : Int32) (x3 : Int32) (x4 : Int32) => (∀ ls : Array Slot, lv_has ls 6 [(2, .int x2), (3, .int x3), (4, .int x4)] → W p l e (headSpec wsX4_commonDivisor ({ frames := 0, cells := 0, slots := 0, locals := 0 } : Room)).room s m [.int p0, .int p1].toArray below meth c s.heap [] 0 0 (MQ below (Qpi post) [.int p0, .int p1].toArray s 0 0 noF) (F0 m 7 ls [])), fun _ _ _ h => h, fun _ _ _ h => h⟩
  have hV := hV J7
  replace hV := hV (by
    intro x2 x3 x4 hV
    refine iJ7 x2 x3 x4 ?_
    intro ls hl
    refine lv_iload hx hb dX4_commonDivisor_7 (lv_at hl 2 rfl) ?_
    refine lv_bipush (v := (64 : Int32)) hx hb dX4_commonDivisor_9 (by decide) ?_
    refine lv_icmp_ge (tgt := 34) hx hb dX4_commonDivisor_11 (by decide) (fun c_11 => ?_) (fun c_11 => ?_)
    · have hV := hV.1 c_11
      refine lv_iload_n hx hb dX4_commonDivisor_34 rfl (lv_at hl 0 rfl) ?_
      exact W.iret (v := x2) hx hb hr (fun t ht hW => ⟨_, rfl, hV, ht⟩) (fun _ h => by cases h) dX4_commonDivisor_35
    · have hV := hV.2 c_11
      refine lv_iload_n hx hb dX4_commonDivisor_14 rfl (lv_at hl 1 rfl) ?_
      refine lv_if_eq (tgt := 34) hx hb dX4_commonDivisor_15 (by decide) (fun c_15 => ?_) (fun c_15 => ?_)
      · have hV := hV.1 c_15
        refine lv_iload_n hx hb dX4_commonDivisor_34 rfl (lv_at hl 0 rfl) ?_
        exact W.iret (v := x2) hx hb hr (fun t ht hW => ⟨_, rfl, hV, ht⟩) (fun _ h => by cases h) dX4_commonDivisor_35
      · have hV := hV.2 c_15
        refine lv_iload_n hx hb dX4_commonDivisor_18 rfl (lv_at hl 0 rfl) ?_
        refine lv_iload_n hx hb dX4_commonDivisor_19 rfl (lv_at hl 1 rfl) ?_
        refine lv_irem hx hb dX4_commonDivisor_20 c_15 ?_
        refine lv_istore (lv' := [(5, .int (x2 - x2 / x3 * x3)), (2, .int x2), (3, .int x3), (4, .int x4)]) hx hb dX4_commonDivisor_21 hl (by decide) rfl (fun ls hl => ?_)
        refine lv_iload_n hx hb dX4_commonDivisor_23 rfl (lv_at hl 2 rfl) ?_
        refine lv_istore_n (lv' := [(2, .int x3), (5, .int (x2 - x2 / x3 * x3)), (3, .int x3), (4, .int x4)]) hx hb dX4_commonDivisor_24 rfl hl (by decide) rfl (fun ls hl => ?_)
        refine lv_iload hx hb dX4_commonDivisor_25 (lv_at hl 1 rfl) ?_
        refine lv_istore_n (lv' := [(3, .int (x2 - x2 / x3 * x3)), (2, .int x3), (5, .int (x2 - x2 / x3 * x3)), (4, .int x4)]) hx hb dX4_commonDivisor_27 rfl hl (by decide) rfl (fun ls hl => ?_)
        refine lv_iinc (v := x4 + 1) (lv' := [(4, .int (x4 + 1)), (3, .int (x2 - x2 / x3 * x3)), (2, .int x3), (5, .int (x2 - x2 / x3 * x3))]) hx hb dX4_commonDivisor_28 hl (k := 3) rfl rfl (by decide) rfl (fun ls hl => ?_)
        refine lv_goto (tgt := 7) hx hb dX4_commonDivisor_31 (by decide) ?_
        exact oJ7 _ _ _ hV _ (lv_sub hl [2, 1, 0] rfl))
  have hl := lv_entry ([.int p0, .int p1]) (n := 6) (Nat.le_of_ble_eq_true rfl)
  rw [lg_entry_eq]
  generalize (lg_sl ([.int p0, .int p1]) ++ List.replicate (6 - (lg_sl ([.int p0, .int p1])).length) Slot.unset).toArray = ls at hl ⊢
  have hl : lv_has ls 6 [(0, .int p0), (1, .int p1)] := hl
  refine lv_iload_n hx hb dX4_commonDivisor_0 rfl (lv_at hl 0 rfl) ?_
  refine lv_istore_n (lv' := [(2, .int p0), (0, .int p0), (1, .int p1)]) hx hb dX4_commonDivisor_1 rfl hl (by decide) rfl (fun ls hl => ?_)
  refine lv_iload_n hx hb dX4_commonDivisor_2 rfl (lv_at hl 2 rfl) ?_
  refine lv_istore_n (lv' := [(3, .int p1), (2, .int p0), (0, .int p0), (1, .int p1)]) hx hb dX4_commonDivisor_3 rfl hl (by decide) rfl (fun ls hl => ?_)
  refine lv_iconst (v := (0 : Int32)) hx hb dX4_commonDivisor_4 (by decide) ?_
  refine lv_istore (lv' := [(4, .int (0 : Int32)), (3, .int p1), (2, .int p0), (0, .int p0), (1, .int p1)]) hx hb dX4_commonDivisor_5 hl (by decide) rfl (fun ls hl => ?_)
  exact oJ7 _ _ _ hV _ (lv_sub hl [2, 1, 0] rfl)
def post_X4_commonDivisor (p0 p1 r : Int32) : Prop := r = nI (Nat.gcd (tn p0) (tn p1))
theorem eu_half {a b : Nat} (hb : 0 < b) (h : b < a) : a % b * 2 ≤ a := by
  have h1 := Nat.mod_lt a hb
  have h2 := Nat.div_add_mod a b
  have h3 : 1 ≤ a / b := (Nat.le_div_iff_mul_le hb).mpr (by omega)
  have h4 : b * 1 ≤ b * (a / b) := Nat.mul_le_mul_left b h3
  omega
set_option maxRecDepth 4000 in
theorem spec_X4_commonDivisor (l : Launch) (p0 : Int32) (p1 : Int32) (hpre : pre_X4_commonDivisor p0 p1) : Met l yX4_commonDivisor wsX4_commonDivisor ({ frames := 0, cells := 0, slots := 0, locals := 0 } : Room) (va_Pc [.int p0, .int p1] (fun _ => True)) (Qpi (post_X4_commonDivisor p0 p1)) 0 0 noF := by
  apply met_X4_commonDivisor
  intro J hJ
  obtain ⟨a, ha, rfl, -⟩ := of_i hpre.1
  obtain ⟨b, hb, rfl, -⟩ := of_i hpre.2
  -- b' * 2^(k/2) < 2^31; behind the first step a' * 2^((k-1)/2) < 2^31 too
  have key : ∀ (n k a' b' : Nat), 64 - k ≤ n → k ≤ 64 → a' < 2 ^ 31 → b' < 2 ^ 31 → b' * 2 ^ (k / 2) < 2 ^ 31 → (1 ≤ k → a' * 2 ^ ((k - 1) / 2) < 2 ^ 31 ∧ b' < a') → Nat.gcd a' b' = Nat.gcd a b → J (nI a') (nI b') (nI k) := by
    intro n
    induction n with
    | zero =>
      intro k a' b' h1 h2 h3 h4 h5 h6 h7
      have hk : k = 64 := by omega
      subst hk
      have hb0 : b' = 0 := by
        have : 2 ^ 31 ≤ 2 ^ (64 / 2) := by decide
        apply Classical.byContradiction
        intro hne
        have : 1 * 2 ^ (64 / 2) ≤ b' * 2 ^ (64 / 2) := Nat.mul_le_mul_right _ (by omega)
        omega
      subst hb0
      refine hJ _ _ _ ⟨fun _ => ?_, fun h => absurd (show (64 : Int32) ≤ nI 64 by decide) h⟩
      unfold post_X4_commonDivisor
      rw [tn_nI ha, tn_nI hb, ← h7, Nat.gcd_zero_right]
    | succ n ih =>
      intro k a' b' h1 h2 h3 h4 h5 h6 h7
      have fin : b' = 0 → post_X4_commonDivisor (nI a) (nI b) (nI a') := fun h => by
        unfold post_X4_commonDivisor
        rw [tn_nI ha, tn_nI hb, ← h7, h, Nat.gcd_zero_right]
      refine hJ _ _ _ (pk_le 64 k (fun h => fin ?_) (fun h => pk_eq b' 0 fin (fun h0 => ?_)))
      · have hk : k = 64 := by omega
        subst hk
        apply Classical.byContradiction
        intro hne
        have : 2 ^ 31 ≤ 2 ^ (64 / 2) := by decide
        have : 1 * 2 ^ (64 / 2) ≤ b' * 2 ^ (64 / 2) := Nat.mul_le_mul_right _ (by omega)
        omega
      · rw [pk_rem h3 (by omega) h4, nI_1]
        have hlt := Nat.mod_lt a' (show 0 < b' by omega)
        refine ih (k + 1) b' (a' % b') (by omega) (by omega) h4 (by omega) ?_ (fun _ => ⟨by rw [Nat.add_sub_cancel]; exact h5, hlt⟩) (by rw [← h7, Nat.gcd_comm a' b', Nat.gcd_rec b' a', Nat.gcd_comm])
        rcases Nat.mod_two_eq_zero_or_one k with hj | hj
        · have e1 : (k + 1) / 2 = k / 2 := by omega
          rw [e1]
          exact Nat.lt_of_le_of_lt (Nat.mul_le_mul_right _ (Nat.le_of_lt hlt)) h5
        · have e1 : (k + 1) / 2 = (k - 1) / 2 + 1 := by omega
          obtain ⟨h8, h9⟩ := h6 (by omega)
          rw [e1, Nat.pow_succ, Nat.mul_comm (2 ^ ((k - 1) / 2)) 2, ← Nat.mul_assoc]
          exact Nat.lt_of_le_of_lt (Nat.mul_le_mul_right _ (eu_half (by omega) h9)) h8
  exact key 64 0 a b (by omega) (by omega) ha hb (by simpa using hb) (fun h => by omega) rfl
def pre_X7_isUnit (p0 p1 : Int32) : Prop := 0 ≤ p0.toInt ∧ 0 ≤ p1.toInt
set_option maxHeartbeats 4000000 in
set_option maxRecDepth 100000 in
theorem met_X7_isUnit (l : Launch) (p0 : Int32) (p1 : Int32) (post : Int32 → Prop)
  (hV : pre_X7_common p0 p1 ∧ (∀ r2 : Int32, post_X7_common p0 p1 r2 → ((r2 = (1 : Int32) → post (1 : Int32)) ∧ (¬ r2 = (1 : Int32) → post (0 : Int32))))) :
  Met l yX7_isUnit wsX7_isUnit ({ frames := 1, cells := 0, slots := 0, locals := 24 } : Room) (va_Pc [.int p0, .int p1] (fun _ => True)) (Qpi post) 0 0 noF := by
  refine Met.ofW (cc := cX7_isUnit) (maxL := 2) (ret := (some .boolean)) (by decide) rfl ?_
  intro p e s m args below meth c s₁ B hml hv
  obtain ⟨rfl, -⟩ := hv
  have hx := B.exec
  have hb := B.bytes
  have hr := B.returns
  have hts := atoms_spec (ws := wsX7_isUnit) B.pre
  have hown : s.vm.findClass RX7 = some m.cls := findClass_of_methodNamed B.named
  have hlocks := B.notSynchronized
  have hl := lv_entry ([.int p0, .int p1]) (n := 2) (Nat.le_of_ble_eq_true rfl)
  rw [lg_entry_eq]
  generalize (lg_sl ([.int p0, .int p1]) ++ List.replicate (2 - (lg_sl ([.int p0, .int p1])).length) Slot.unset).toArray = ls at hl ⊢
  have hl : lv_has ls 2 [(0, .int p0), (1, .int p1)] := hl
  refine lv_iload_n hx hb dX7_isUnit_0 rfl (lv_at hl 0 rfl) ?_
  refine lv_iload_n hx hb dX7_isUnit_1 rfl (lv_at hl 1 rfl) ?_
  obtain ⟨h_2, hV⟩ := hV
  refine cp_i (va_runS (As := [.int p0, .int p1]) (rest := []) ⟨hx, hb, hml, hown, hts⟩ (spec_X7_common l p0 p1 h_2) (va_cwS 2 hts gX7_isUnit_X7_common rfl rfl rfl (by decide +kernel) ⟨Nat.le_of_ble_eq_true rfl, Nat.le_of_ble_eq_true rfl⟩) cp_pre rfl rfl hl.1 rfl (lv_room (Nat.le_of_ble_eq_true rfl)) dX7_isUnit_2 ⟨Nat.zero_le _, Nat.zero_le _⟩) (fun r2 q_2 => ?_)
  have hV := hV r2 q_2
  refine lv_iconst (v := (1 : Int32)) hx hb dX7_isUnit_5 (by decide) ?_
  refine lv_icmp_ne (tgt := 13) hx hb dX7_isUnit_6 (by decide) (fun c_6 => ?_) (fun c_6 => ?_)
  · have hV := hV.2 c_6
    refine lv_iconst (v := (0 : Int32)) hx hb dX7_isUnit_13 (by decide) ?_
    exact W.zret (v := (0 : Int32)) hx hb hr rfl (fun t ht hW => ⟨_, rfl, hV, ht⟩) (fun _ h => by cases h) dX7_isUnit_14
  · have hV := hV.1 c_6
    refine lv_iconst (v := (1 : Int32)) hx hb dX7_isUnit_9 (by decide) ?_
    refine lv_goto (tgt := 14) hx hb dX7_isUnit_10 (by decide) ?_
    exact W.zret (v := (1 : Int32)) hx hb hr rfl (fun t ht hW => ⟨_, rfl, hV, ht⟩) (fun _ h => by cases h) dX7_isUnit_14
def post_X7_isUnit (p0 p1 r : Int32) : Prop := r = zb (Nat.Coprime (tn p0) (tn p1))
set_option maxRecDepth 4000 in
theorem spec_X7_isUnit (l : Launch) (p0 : Int32) (p1 : Int32) (hpre : pre_X7_isUnit p0 p1) : Met l yX7_isUnit wsX7_isUnit ({ frames := 1, cells := 0, slots := 0, locals := 24 } : Room) (va_Pc [.int p0, .int p1] (fun _ => True)) (Qpi (post_X7_isUnit p0 p1)) 0 0 noF := by
  apply met_X7_isUnit
  refine ⟨hpre, fun r h => ?_⟩
  unfold post_X7_common at h
  unfold post_X7_isUnit
  obtain ⟨a, ha, rfl, -⟩ := of_i hpre.1
  obtain ⟨b, hb, rfl, -⟩ := of_i hpre.2
  rw [tn_nI ha, tn_nI hb] at h ⊢
  have hg : Nat.gcd a b < 2 ^ 31 := by
    rcases Nat.eq_zero_or_pos a with h0 | h0
    · rw [h0, Nat.gcd_zero_left]; exact hb
    · exact Nat.lt_of_le_of_lt (Nat.gcd_le_left b h0) ha
  refine pk_eq (Nat.gcd a b) 1 (fun h1 => (zb_t h1).symm) (fun h1 => (zb_f h1).symm) h
