def pre_X4_twosOf (p0 : Int32) : Prop := 1 ≤ p0.toInt
set_option maxHeartbeats 4000000 in
set_option maxRecDepth 100000 in
theorem met_X4_twosOf (l : Launch) (p0 : Int32) (post : Int32 → Prop)
  (hV : ∀ (J4 : Int32 → Int32 → Prop),
    (∀ (x1 : Int32) (x2 : Int32), (((31 : Int32) ≤ x2 → post (31 : Int32)) ∧ (¬ (31 : Int32) ≤ x2 → (((x1 - x1 / (2 : Int32) * (2 : Int32)) = 0 → J4 (x1 / (2 : Int32)) (x2 + 1)) ∧ (¬ (x1 - x1 / (2 : Int32) * (2 : Int32)) = 0 → post x2)))) → J4 x1 x2) →
    J4 p0 (0 : Int32)) :
  Met l yX4_twosOf wsX4_twosOf ({ frames := 0, cells := 0, slots := 0, locals := 0 } : Room) (va_Pc [.int p0] (fun _ => True)) (Qpi post) 0 0 noF := by
  refine Met.ofW (cc := cX4_twosOf) (maxL := 3) (ret := (some .int)) (by decide) rfl ?_
  intro p e s m args below meth c s₁ B hml hv
  obtain ⟨rfl, -⟩ := hv
  have hx := B.exec
  have hb := B.bytes
  have hr := B.returns
  have hts := atoms_spec (ws := wsX4_twosOf) B.pre
  have hown : s.vm.findClass RX4 = some m.cls := findClass_of_methodNamed B.named
  have hlocks := B.notSynchronized
  obtain ⟨J4, iJ4, oJ4⟩ : ∃ J : Int32 → Int32 → Prop, (∀ (x1 : Int32) (x2 : Int32), (∀ ls : Array Slot, lv_has ls 3 [(1, .int x1), (2, .int x2)] → W p l e (headSpec wsX4_twosOf ({ frames := 0, cells := 0, slots := 0, locals := 0 } : Room)).room s m [.int p0].toArray below meth c s.heap [] 0 0 (MQ below (Qpi post) [.int p0].toArray s 0 0 noF) (F0 m 4 ls [])) → J x1 x2) ∧ (∀ (x1 : Int32) (x2 : Int32), J x1 x2 → (∀ ls : Array Slot, lv_has ls 3 [(1, .int x1), (2, .int x2)] → W p l e (headSpec wsX4_twosOf ({ frames := 0, cells := 0, slots := 0, locals := 0 } : Room)).room s m [.int p0].toArray below meth c s.heap [] 0 0 (MQ below (Qpi post) [.int p0].toArray s 0 0 noF) (F0 m 4 ls []))) := ⟨fun (x1 : Int32) (x2 : Int32) => (∀ ls : Array Slot, lv_has ls 3 [(1, .int x1), (2, .int x2)] → W p l e (headSpec wsX4_twosOf ({ frames := 0, cells := 0, slots := 0, locals := 0 } : Room)).room s m [.int p0].toArray below meth c s.heap [] 0 0 (MQ below (Qpi post) [.int p0].toArray s 0 0 noF) (F0 m 4 ls [])), fun _ _ h => h, fun _ _ h => h⟩
  have hV := hV J4
  replace hV := hV (by
    intro x1 x2 hV
    refine iJ4 x1 x2 ?_
    intro ls hl
    refine lv_iload_n hx hb dX4_twosOf_4 rfl (lv_at hl 1 rfl) ?_
    refine lv_bipush (v := (31 : Int32)) hx hb dX4_twosOf_5 (by decide) ?_
    refine lv_icmp_ge (tgt := 28) hx hb dX4_twosOf_7 (by decide) (fun c_7 => ?_) (fun c_7 => ?_)
    · have hV := hV.1 c_7
      refine lv_bipush (v := (31 : Int32)) hx hb dX4_twosOf_28 (by decide) ?_
      exact W.iret (v := (31 : Int32)) hx hb hr (fun t ht hW => ⟨_, rfl, hV, ht⟩) (fun _ h => by cases h) dX4_twosOf_30
    · have hV := hV.2 c_7
      refine lv_iload_n hx hb dX4_twosOf_10 rfl (lv_at hl 0 rfl) ?_
      refine lv_iconst (v := (2 : Int32)) hx hb dX4_twosOf_11 (by decide) ?_
      refine lv_irem hx hb dX4_twosOf_12 (by decide) ?_
      refine lv_if_eq (tgt := 18) hx hb dX4_twosOf_13 (by decide) (fun c_13 => ?_) (fun c_13 => ?_)
      · have hV := hV.1 c_13
        refine lv_iload_n hx hb dX4_twosOf_18 rfl (lv_at hl 0 rfl) ?_
        refine lv_iconst (v := (2 : Int32)) hx hb dX4_twosOf_19 (by decide) ?_
        refine lv_idiv hx hb dX4_twosOf_20 (by decide) ?_
        refine lv_istore_n (lv' := [(1, .int (x1 / (2 : Int32))), (2, .int x2)]) hx hb dX4_twosOf_21 rfl hl (by decide) rfl (fun ls hl => ?_)
        refine lv_iinc (v := x2 + 1) (lv' := [(2, .int (x2 + 1)), (1, .int (x1 / (2 : Int32)))]) hx hb dX4_twosOf_22 hl (k := 1) rfl rfl (by decide) rfl (fun ls hl => ?_)
        refine lv_goto (tgt := 4) hx hb dX4_twosOf_25 (by decide) ?_
        exact oJ4 _ _ hV _ (lv_sub hl [1, 0] rfl)
      · have hV := hV.2 c_13
        refine lv_iload_n hx hb dX4_twosOf_16 rfl (lv_at hl 1 rfl) ?_
        exact W.iret (v := x2) hx hb hr (fun t ht hW => ⟨_, rfl, hV, ht⟩) (fun _ h => by cases h) dX4_twosOf_17)
  have hl := lv_entry ([.int p0]) (n := 3) (Nat.le_of_ble_eq_true rfl)
  rw [lg_entry_eq]
  generalize (lg_sl ([.int p0]) ++ List.replicate (3 - (lg_sl ([.int p0])).length) Slot.unset).toArray = ls at hl ⊢
  have hl : lv_has ls 3 [(0, .int p0)] := hl
  refine lv_iload_n hx hb dX4_twosOf_0 rfl (lv_at hl 0 rfl) ?_
  refine lv_istore_n (lv' := [(1, .int p0), (0, .int p0)]) hx hb dX4_twosOf_1 rfl hl (by decide) rfl (fun ls hl => ?_)
  refine lv_iconst (v := (0 : Int32)) hx hb dX4_twosOf_2 (by decide) ?_
  refine lv_istore_n (lv' := [(2, .int (0 : Int32)), (1, .int p0), (0, .int p0)]) hx hb dX4_twosOf_3 rfl hl (by decide) rfl (fun ls hl => ?_)
  exact oJ4 _ _ hV _ (lv_sub hl [1, 0] rfl)
/-- n is m, odd, times 2 to the t -/
def Two (n t m : Nat) : Prop := n = 2 ^ t * m ∧ m % 2 = 1
theorem two_one {n t m t' m' : Nat} (h : Two n t m) (h' : Two n t' m') : t = t' ∧ m = m' := by
  have key : ∀ {t m t' m' : Nat}, 2 ^ t * m = 2 ^ t' * m' → m % 2 = 1 → t ≤ t' → t = t' ∧ m = m' := by
    intro t m t' m' e ho hl
    obtain ⟨d, rfl⟩ : ∃ d, t' = t + d := ⟨t' - t, by omega⟩
    rw [Nat.pow_add, Nat.mul_assoc] at e
    have e2 := Nat.eq_of_mul_eq_mul_left (Nat.two_pow_pos t) e
    cases d with
    | zero => exact ⟨rfl, by rw [e2, Nat.pow_zero, Nat.one_mul]⟩
    | succ d =>
      exfalso
      rw [Nat.pow_succ, Nat.mul_comm (2 ^ d) 2, Nat.mul_assoc] at e2
      omega
  rcases Nat.le_total t t' with hl | hl
  · exact key (h.1.symm.trans h'.1) h.2 hl
  · have := key (h'.1.symm.trans h.1) h'.2 hl
    exact ⟨this.1.symm, this.2.symm⟩
def post_X4_twosOf (p0 r : Int32) : Prop := ∃ t m, Two (tn p0) t m ∧ t < 31 ∧ r = nI t
set_option maxRecDepth 4000 in
theorem spec_X4_twosOf (l : Launch) (p0 : Int32) (hpre : pre_X4_twosOf p0) : Met l yX4_twosOf wsX4_twosOf ({ frames := 0, cells := 0, slots := 0, locals := 0 } : Room) (va_Pc [.int p0] (fun _ => True)) (Qpi (post_X4_twosOf p0)) 0 0 noF := by
  apply met_X4_twosOf
  intro J hJ
  obtain ⟨n, hn, rfl, hn2⟩ := of_i (x := p0) (by unfold pre_X4_twosOf at hpre; omega)
  have hn1 : 1 ≤ n := by unfold pre_X4_twosOf at hpre; omega
  have key : ∀ (d k m : Nat), k + d = 31 → 1 ≤ m → n = 2 ^ k * m → J (nI m) (nI k) := by
    intro d
    induction d with
    | zero =>
      intro k m hk hm he
      have : k = 31 := by omega
      subst this
      have : 2 ^ 31 * 1 ≤ 2 ^ 31 * m := Nat.mul_le_mul_left _ hm
      omega
    | succ d ih =>
      intro k m hk hm he
      have hml : m < 2 ^ 31 := by
        have : 1 * m ≤ 2 ^ k * m := Nat.mul_le_mul_right m (Nat.two_pow_pos k)
        omega
      refine hJ _ _ (pk_le 31 k (fun h => absurd h (by omega)) (fun _ => ?_))
      have e2 : nI m - nI m / (2 : Int32) * (2 : Int32) = nI (m % 2) := pk_rem (d := 2) hml (by decide) (by decide)
      have e3 : nI m / (2 : Int32) = nI (m / 2) := pk_div (d := 2) hml (by decide) (by decide)
      rw [e2, e3, nI_1]
      refine pk_eq (m % 2) 0 (fun h0 => ?_) (fun h0 => ⟨k, m, ⟨by rw [tn_nI hn]; exact he, by omega⟩, by omega, rfl⟩)
      refine ih (k + 1) (m / 2) (by omega) (by omega) ?_
      rw [he, Nat.pow_succ, Nat.mul_assoc]
      congr 1
      omega
  exact key 31 0 n rfl hn1 (by rw [Nat.pow_zero, Nat.one_mul])
def pre_X4_oddPart (p0 : Int32) : Prop := 1 ≤ p0.toInt
set_option maxHeartbeats 4000000 in
set_option maxRecDepth 100000 in
theorem met_X4_oddPart (l : Launch) (p0 : Int32) (post : Int32 → Prop)
  (hV : pre_X4_twosOf p0 ∧ (∀ r2 : Int32, post_X4_twosOf p0 r2 → post (p0 >>> (r2 &&& 31)))) :
  Met l yX4_oddPart wsX4_oddPart ({ frames := 1, cells := 0, slots := 0, locals := 22 } : Room) (va_Pc [.int p0] (fun _ => True)) (Qpi post) 0 0 noF := by
  refine Met.ofW (cc := cX4_oddPart) (maxL := 1) (ret := (some .int)) (by decide) rfl ?_
  intro p e s m args below meth c s₁ B hml hv
  obtain ⟨rfl, -⟩ := hv
  have hx := B.exec
  have hb := B.bytes
  have hr := B.returns
  have hts := atoms_spec (ws := wsX4_oddPart) B.pre
  have hown : s.vm.findClass RX4 = some m.cls := findClass_of_methodNamed B.named
  have hlocks := B.notSynchronized
  have hl := lv_entry ([.int p0]) (n := 1) (Nat.le_of_ble_eq_true rfl)
  rw [lg_entry_eq]
  generalize (lg_sl ([.int p0]) ++ List.replicate (1 - (lg_sl ([.int p0])).length) Slot.unset).toArray = ls at hl ⊢
  have hl : lv_has ls 1 [(0, .int p0)] := hl
  refine lv_iload_n hx hb dX4_oddPart_0 rfl (lv_at hl 0 rfl) ?_
  refine lv_iload_n hx hb dX4_oddPart_1 rfl (lv_at hl 0 rfl) ?_
  obtain ⟨h_2, hV⟩ := hV
  refine cp_i (va_runS (As := [.int p0]) (rest := [.int p0]) ⟨hx, hb, hml, hown, hts⟩ (spec_X4_twosOf l p0 h_2) (va_cwS 1 hts gX4_oddPart_X4_twosOf rfl rfl rfl (by decide +kernel) ⟨Nat.le_of_ble_eq_true rfl, Nat.le_of_ble_eq_true rfl⟩) cp_pre rfl rfl hl.1 rfl (lv_room (Nat.le_of_ble_eq_true rfl)) dX4_oddPart_2 ⟨Nat.zero_le _, Nat.zero_le _⟩) (fun r2 q_2 => ?_)
  have hV := hV r2 q_2
  refine lv_ishr hx hb dX4_oddPart_5 ?_
  exact W.iret (v := p0 >>> (r2 &&& 31)) hx hb hr (fun t ht hW => ⟨_, rfl, hV, ht⟩) (fun _ h => by cases h) dX4_oddPart_6
def post_X4_oddPart (p0 r : Int32) : Prop := ∃ t m, Two (tn p0) t m ∧ t < 31 ∧ r = nI m
set_option maxRecDepth 4000 in
theorem spec_X4_oddPart (l : Launch) (p0 : Int32) (hpre : pre_X4_oddPart p0) : Met l yX4_oddPart wsX4_oddPart ({ frames := 1, cells := 0, slots := 0, locals := 22 } : Room) (va_Pc [.int p0] (fun _ => True)) (Qpi (post_X4_oddPart p0)) 0 0 noF := by
  apply met_X4_oddPart
  refine ⟨hpre, fun r hr => ?_⟩
  obtain ⟨t, m, h1, h2, rfl⟩ := hr
  obtain ⟨n, hn, rfl, hn2⟩ := of_i (x := p0) (by unfold pre_X4_oddPart at hpre; omega)
  refine ⟨t, m, h1, h2, ?_⟩
  rw [pk_shrN hn (nI t &&& 31) t (s_l t (by omega))]
  rw [tn_nI hn] at h1
  rw [h1.1, Nat.mul_div_cancel_left m (Nat.two_pow_pos t)]
/-- n looks strongly prime to a -/
def Strong (n a : Nat) : Prop := ∃ s d, Two (n - 1) s d ∧ (a ^ d % n = 1 ∨ ∃ r, r < s ∧ a ^ (2 ^ r * d) % n = n - 1)
def pre_X4_looksStrongly (p0 p1 : Int32) : Prop := 3 ≤ p0.toInt ∧ 0 ≤ p1.toInt
set_option maxHeartbeats 4000000 in
set_option maxRecDepth 100000 in
theorem met_X4_looksStrongly (l : Launch) (p0 : Int32) (p1 : Int32) (post : Int32 → Prop)
  (hV : ∀ (J33 : Int32 → Int64 → Int32 → Prop),
    (∀ (x2 : Int32) (x3 : Int64) (x5 : Int32), ((x2 ≤ x5 → post (0 : Int32)) ∧ (¬ x2 ≤ x5 → ((p0 ≤ 0 → post (0 : Int32)) ∧ (¬ p0 ≤ 0 → ((x3 = ((p0 - (1 : Int32)).toInt64) → post (1 : Int32)) ∧ (¬ x3 = ((p0 - (1 : Int32)).toInt64) → ¬ p0.toInt64 = 0 ∧ (J33 x2 ((x3 * x3) - (x3 * x3) / p0.toInt64 * p0.toInt64) (x5 + 1)))))))) → J33 x2 x3 x5) →
    pre_X4_twosOf (p0 - (1 : Int32)) ∧ (∀ r3 : Int32, post_X4_twosOf (p0 - (1 : Int32)) r3 → pre_X4_oddPart (p0 - (1 : Int32)) ∧ (∀ r12 : Int32, post_X4_oddPart (p0 - (1 : Int32)) r12 → pre_X4_raise p1.toInt64 r12.toInt64 p0 ∧ (∀ r17 : Int32, post_X4_raise p1.toInt64 r12.toInt64 p0 r17 → ((r17.toInt64 = (1 : Int64) → post (1 : Int32)) ∧ (¬ r17.toInt64 = (1 : Int64) → J33 r3 r17.toInt64 (0 : Int32))))))) :
  Met l yX4_looksStrongly wsX4_looksStrongly ({ frames := 2, cells := 0, slots := 0, locals := 42 } : Room) (va_Pc [.int p0, .int p1] (fun _ => True)) (Qpi post) 0 0 noF := by
  refine Met.ofW (cc := cX4_looksStrongly) (maxL := 6) (ret := (some .boolean)) (by decide) rfl ?_
  intro p e s m args below meth c s₁ B hml hv
  obtain ⟨rfl, -⟩ := hv
  have hx := B.exec
  have hb := B.bytes
  have hr := B.returns
  have hts := atoms_spec (ws := wsX4_looksStrongly) B.pre
  have hown : s.vm.findClass RX4 = some m.cls := findClass_of_methodNamed B.named
  have hlocks := B.notSynchronized
  obtain ⟨J33, iJ33, oJ33⟩ : ∃ J : Int32 → Int64 → Int32 → Prop, (∀ (x2 : Int32) (x3 : Int64) (x5 : Int32), (∀ ls : Array Slot, lv_has ls 6 [(0, .int p0), (2, .int x2), (3, .long x3), (5, .int x5)] → W p l e (headSpec wsX4_looksStrongly ({ frames := 2, cells := 0, slots := 0, locals := 42 } : Room)).room s m [.int p0, .int p1].toArray below meth c s.heap [] 0 0 (MQ below (Qpi post) [.int p0, .int p1].toArray s 0 0 noF) (F0 m 33 ls [])) → J x2 x3 x5) ∧ (∀ (x2 : Int32) (x3 : Int64) (x5 : Int32), J x2 x3 x5 → (∀ ls : Array Slot, lv_has ls 6 [(0, .int p0), (2, .int x2), (3, .long x3), (5, .int x5)] → W p l e (headSpec wsX4_looksStrongly ({ frames := 2, cells := 0, slots := 0, locals := 42 } : Room)).room s m [.int p0, .int p1].toArray below meth c s.heap [] 0 0 (MQ below (Qpi post) [.int p0, .int p1].toArray s 0 0 noF) (F0 m 33 ls []))) := ⟨fun (x2 : Int32) (x3 : Int64) (x5 : Int32) => (∀ ls : Array Slot, lv_has ls 6 [(0, .int p0), (2, .int x2), (3, .long x3), (5, .int x5)] → W p l e (headSpec wsX4_looksStrongly ({ frames := 2, cells := 0, slots := 0, locals := 42 } : Room)).room s m [.int p0, .int p1].toArray below meth c s.heap [] 0 0 (MQ below (Qpi post) [.int p0, .int p1].toArray s 0 0 noF) (F0 m 33 ls [])), fun _ _ _ h => h, fun _ _ _ h => h⟩
  have hV := hV J33
  replace hV := hV (by
    intro x2 x3 x5 hV
    refine iJ33 x2 x3 x5 ?_
    intro ls hl
    refine lv_iload hx hb dX4_looksStrongly_33 (lv_at hl 3 rfl) ?_
    refine lv_iload_n hx hb dX4_looksStrongly_35 rfl (lv_at hl 1 rfl) ?_
    refine lv_icmp_ge (tgt := 67) hx hb dX4_looksStrongly_36 (by decide) (fun c_36 => ?_) (fun c_36 => ?_)
    · have hV := hV.1 c_36
      refine lv_iconst (v := (0 : Int32)) hx hb dX4_looksStrongly_67 (by decide) ?_
      exact W.zret (v := (0 : Int32)) hx hb hr rfl (fun t ht hW => ⟨_, rfl, hV, ht⟩) (fun _ h => by cases h) dX4_looksStrongly_68
    · have hV := hV.2 c_36
      refine lv_iload_n hx hb dX4_looksStrongly_39 rfl (lv_at hl 0 rfl) ?_
      refine lv_if_le (tgt := 67) hx hb dX4_looksStrongly_40 (by decide) (fun c_40 => ?_) (fun c_40 => ?_)
      · have hV := hV.1 c_40
        refine lv_iconst (v := (0 : Int32)) hx hb dX4_looksStrongly_67 (by decide) ?_
        exact W.zret (v := (0 : Int32)) hx hb hr rfl (fun t ht hW => ⟨_, rfl, hV, ht⟩) (fun _ h => by cases h) dX4_looksStrongly_68
      · have hV := hV.2 c_40
        refine lv_lload_n hx hb dX4_looksStrongly_43 rfl (lv_at hl 2 rfl) ?_
        refine lv_iload_n hx hb dX4_looksStrongly_44 rfl (lv_at hl 0 rfl) ?_
        refine lv_iconst (v := (1 : Int32)) hx hb dX4_looksStrongly_45 (by decide) ?_
        refine lv_isub hx hb dX4_looksStrongly_46 ?_
        refine lv_i2l (v := (p0 - (1 : Int32)).toInt64) hx hb dX4_looksStrongly_47 rfl ?_
        refine lc_ne (tgt := 54) hx hb dX4_looksStrongly_48 dX4_looksStrongly_49 (by decide) (fun c_48 => ?_) (fun c_48 => ?_)
        · have hV := hV.2 c_48
          refine lv_lload_n hx hb dX4_looksStrongly_54 rfl (lv_at hl 2 rfl) ?_
          refine lv_lload_n hx hb dX4_looksStrongly_55 rfl (lv_at hl 2 rfl) ?_
          refine lv_lmul hx hb dX4_looksStrongly_56 ?_
          refine lv_iload_n hx hb dX4_looksStrongly_57 rfl (lv_at hl 0 rfl) ?_
          refine lv_i2l (v := p0.toInt64) hx hb dX4_looksStrongly_58 rfl ?_
          obtain ⟨h_59, hV⟩ := hV
          refine lv_lrem hx hb dX4_looksStrongly_59 h_59 ?_
          refine lv_lstore_n (lv' := [(3, .long ((x3 * x3) - (x3 * x3) / p0.toInt64 * p0.toInt64)), (0, .int p0), (2, .int x2), (5, .int x5)]) hx hb dX4_looksStrongly_60 rfl hl (by decide) rfl (fun ls hl => ?_)
          refine lv_iinc (v := x5 + 1) (lv' := [(5, .int (x5 + 1)), (3, .long ((x3 * x3) - (x3 * x3) / p0.toInt64 * p0.toInt64)), (0, .int p0), (2, .int x2)]) hx hb dX4_looksStrongly_61 hl (k := 3) rfl rfl (by decide) rfl (fun ls hl => ?_)
          refine lv_goto (tgt := 33) hx hb dX4_looksStrongly_64 (by decide) ?_
          exact oJ33 _ _ _ hV _ (lv_sub hl [2, 3, 1, 0] rfl)
        · have hV := hV.1 c_48
          refine lv_iconst (v := (1 : Int32)) hx hb dX4_looksStrongly_52 (by decide) ?_
          exact W.zret (v := (1 : Int32)) hx hb hr rfl (fun t ht hW => ⟨_, rfl, hV, ht⟩) (fun _ h => by cases h) dX4_looksStrongly_53)
  have hl := lv_entry ([.int p0, .int p1]) (n := 6) (Nat.le_of_ble_eq_true rfl)
  rw [lg_entry_eq]
  generalize (lg_sl ([.int p0, .int p1]) ++ List.replicate (6 - (lg_sl ([.int p0, .int p1])).length) Slot.unset).toArray = ls at hl ⊢
  have hl : lv_has ls 6 [(0, .int p0), (1, .int p1)] := hl
  refine lv_iload_n hx hb dX4_looksStrongly_0 rfl (lv_at hl 0 rfl) ?_
  refine lv_iconst (v := (1 : Int32)) hx hb dX4_looksStrongly_1 (by decide) ?_
  refine lv_isub hx hb dX4_looksStrongly_2 ?_
  obtain ⟨h_3, hV⟩ := hV
  refine cp_i (va_runS (As := [.int (p0 - (1 : Int32))]) (rest := []) ⟨hx, hb, hml, hown, hts⟩ (spec_X4_twosOf l (p0 - (1 : Int32)) h_3) (va_cwS 1 hts gX4_looksStrongly_X4_twosOf rfl rfl rfl (by decide +kernel) ⟨Nat.le_of_ble_eq_true rfl, Nat.le_of_ble_eq_true rfl⟩) cp_pre rfl rfl hl.1 rfl (lv_room (Nat.le_of_ble_eq_true rfl)) dX4_looksStrongly_3 ⟨Nat.zero_le _, Nat.zero_le _⟩) (fun r3 q_3 => ?_)
  have hV := hV r3 q_3
  refine lv_istore_n (lv' := [(2, .int r3), (0, .int p0), (1, .int p1)]) hx hb dX4_looksStrongly_6 rfl hl (by decide) rfl (fun ls hl => ?_)
  refine lv_iload_n hx hb dX4_looksStrongly_7 rfl (lv_at hl 2 rfl) ?_
  refine lv_i2l (v := p1.toInt64) hx hb dX4_looksStrongly_8 rfl ?_
  refine lv_iload_n hx hb dX4_looksStrongly_9 rfl (lv_at hl 1 rfl) ?_
  refine lv_iconst (v := (1 : Int32)) hx hb dX4_looksStrongly_10 (by decide) ?_
  refine lv_isub hx hb dX4_looksStrongly_11 ?_
  obtain ⟨h_12, hV⟩ := hV
  refine cp_i (va_runS (As := [.int (p0 - (1 : Int32))]) (rest := [.long p1.toInt64]) ⟨hx, hb, hml, hown, hts⟩ (spec_X4_oddPart l (p0 - (1 : Int32)) h_12) (va_cwS 1 hts gX4_looksStrongly_X4_oddPart rfl rfl rfl (by decide +kernel) ⟨Nat.le_of_ble_eq_true rfl, Nat.le_of_ble_eq_true rfl⟩) cp_pre rfl rfl hl.1 rfl (lv_room (Nat.le_of_ble_eq_true rfl)) dX4_looksStrongly_12 ⟨Nat.zero_le _, Nat.zero_le _⟩) (fun r12 q_12 => ?_)
  have hV := hV r12 q_12
  refine lv_i2l (v := r12.toInt64) hx hb dX4_looksStrongly_15 rfl ?_
  refine lv_iload_n hx hb dX4_looksStrongly_16 rfl (lv_at hl 1 rfl) ?_
  obtain ⟨h_17, hV⟩ := hV
  refine cp_i (va_runS (As := [.long p1.toInt64, .long r12.toInt64, .int p0]) (rest := []) ⟨hx, hb, hml, hown, hts⟩ (spec_X4_raise l p1.toInt64 r12.toInt64 p0 h_17) (va_cwS 3 hts gX4_looksStrongly_X4_raise rfl rfl rfl (by decide +kernel) ⟨Nat.le_of_ble_eq_true rfl, Nat.le_of_ble_eq_true rfl⟩) cp_pre rfl rfl hl.1 rfl (lv_room (Nat.le_of_ble_eq_true rfl)) dX4_looksStrongly_17 ⟨Nat.zero_le _, Nat.zero_le _⟩) (fun r17 q_17 => ?_)
  have hV := hV r17 q_17
  refine lv_i2l (v := r17.toInt64) hx hb dX4_looksStrongly_20 rfl ?_
  refine lv_lstore_n (lv' := [(3, .long r17.toInt64), (2, .int r3), (0, .int p0), (1, .int p1)]) hx hb dX4_looksStrongly_21 rfl hl (by decide) rfl (fun ls hl => ?_)
  refine lv_lload_n hx hb dX4_looksStrongly_22 rfl (lv_at hl 0 rfl) ?_
  refine lv_lconst (v := (1 : Int64)) hx hb dX4_looksStrongly_23 (by decide) ?_
  refine lc_ne (tgt := 30) hx hb dX4_looksStrongly_24 dX4_looksStrongly_25 (by decide) (fun c_24 => ?_) (fun c_24 => ?_)
  · have hV := hV.2 c_24
    refine lv_iconst (v := (0 : Int32)) hx hb dX4_looksStrongly_30 (by decide) ?_
    refine lv_istore (lv' := [(5, .int (0 : Int32)), (3, .long r17.toInt64), (2, .int r3), (0, .int p0), (1, .int p1)]) hx hb dX4_looksStrongly_31 hl (by decide) rfl (fun ls hl => ?_)
    exact oJ33 _ _ _ hV _ (lv_sub hl [3, 2, 1, 0] rfl)
  · have hV := hV.1 c_24
    refine lv_iconst (v := (1 : Int32)) hx hb dX4_looksStrongly_28 (by decide) ?_
    exact W.zret (v := (1 : Int32)) hx hb hr rfl (fun t ht hW => ⟨_, rfl, hV, ht⟩) (fun _ h => by cases h) dX4_looksStrongly_29
def post_X4_looksStrongly (p0 p1 r : Int32) : Prop := r = zb (Strong (tn p0) (tn p1))
theorem sq_step {a n d k : Nat} : (a ^ (2 ^ k * d) % n) * (a ^ (2 ^ k * d) % n) % n = a ^ (2 ^ (k + 1) * d) % n := by
  rw [← Nat.mul_mod, ← Nat.pow_add]
  congr 2
  rw [Nat.pow_succ, Nat.mul_comm (2 ^ k) 2, Nat.mul_assoc]
  omega
set_option maxRecDepth 4000 in
theorem spec_X4_looksStrongly (l : Launch) (p0 : Int32) (p1 : Int32) (hpre : pre_X4_looksStrongly p0 p1) : Met l yX4_looksStrongly wsX4_looksStrongly ({ frames := 2, cells := 0, slots := 0, locals := 42 } : Room) (va_Pc [.int p0, .int p1] (fun _ => True)) (Qpi (post_X4_looksStrongly p0 p1)) 0 0 noF := by
  apply met_X4_looksStrongly
  intro J hJ
  obtain ⟨n, hn, rfl, hn2⟩ := of_i (x := p0) (by have := hpre.1; omega)
  obtain ⟨a, ha, rfl, ha2⟩ := of_i hpre.2
  have hn3 : 3 ≤ n := by have := hpre.1; omega
  have e1 : nI n - (1 : Int32) = nI (n - 1) := pk_sub (b := 1) (by omega)
  rw [e1] at hJ ⊢
  have t1 : (nI (n - 1)).toInt = ((n - 1 : Nat) : Int) := nI_toInt (by omega)
  refine ⟨show 1 ≤ (nI (n - 1)).toInt by omega, fun r hr => ⟨show 1 ≤ (nI (n - 1)).toInt by omega, fun r2 hr2 => ?_⟩⟩
  obtain ⟨s, d, hsd, hs31, rfl⟩ := hr
  obtain ⟨s', d', hsd', -, rfl⟩ := hr2
  rw [tn_nI (by omega)] at hsd hsd'
  obtain ⟨rfl, rfl⟩ := two_one hsd hsd'
  have hdl : d < 2 ^ 31 := by
    have : 1 * d ≤ 2 ^ s * d := Nat.mul_le_mul_right d (Nat.two_pow_pos s)
    have := hsd.1
    omega
  rw [nI_l hdl, nI_l ha, nI_l (by omega), nI_l hn] at *
  refine ⟨⟨by rw [pk_lT (by omega)]; omega, by rw [pk_lT (by omega)]; omega, by rw [pk_lT (by omega)]; omega, by rw [hn2]; omega⟩, fun r3 hr3 => ?_⟩
  unfold post_X4_raise at hr3
  rw [tl_lN (by omega), tl_lN (by omega), tn_nI hn] at hr3
  subst hr3
  have hlt : ∀ k, a ^ k % n < n := fun k => Nat.mod_lt _ (by omega)
  have hl1 := hlt d
  have hn63 : n - 1 < 2 ^ 63 := by omega
  have hl63 : ∀ k, a ^ k % n < 2 ^ 63 := fun k => by have := hlt k; omega
  rw [nI_l (by omega)]
  have hz : ¬ lN n = 0 := lN_nz (by omega) (by omega)
  have yes : (a ^ d % n = 1 ∨ ∃ r, r < s ∧ a ^ (2 ^ r * d) % n = n - 1) → post_X4_looksStrongly (nI n) (nI a) 1 := fun h => by
    refine (zb_t ?_).symm
    rw [tn_nI hn, tn_nI ha]
    exact ⟨s, d, hsd, h⟩
  have no : ¬ (a ^ d % n = 1 ∨ ∃ r, r < s ∧ a ^ (2 ^ r * d) % n = n - 1) → post_X4_looksStrongly (nI n) (nI a) 0 := fun h => by
    refine (zb_f ?_).symm
    rw [tn_nI hn, tn_nI ha]
    rintro ⟨s', d', h1, h2⟩
    obtain ⟨rfl, rfl⟩ := two_one hsd h1
    exact h h2
  refine ql_eq (a ^ d % n) 1 (fun h => yes (Or.inl h)) (fun hne => ?_)
  have key : ∀ (j k : Nat), k + j = s → (∀ r, r < k → ¬ a ^ (2 ^ r * d) % n = n - 1) → J (nI s) (lN (a ^ (2 ^ k * d) % n)) (nI k) := by
    intro j
    induction j with
    | zero =>
      intro k hk hi
      have : k = s := by omega
      subst this
      refine hJ _ _ _ (pk_le k k (fun _ => no ?_) (fun h => absurd h (by omega)))
      rintro (h | ⟨r, h1, h2⟩)
      · exact hne h
      · exact hi r h1 h2
    | succ j ih =>
      intro k hk hi
      have hl2 := hlt (2 ^ k * d)
      refine hJ _ _ _ (pk_le s k (fun h => absurd h (by omega)) (fun _ => pk_le n 0 (fun h => absurd h (by omega)) (fun _ => ?_)))
      have hks : k < s := by omega
      refine ql_eq (a ^ (2 ^ k * d) % n) (n - 1) (fun h => yes (Or.inr ⟨k, hks, h⟩)) (fun h => ⟨hz, ?_⟩) rfl rfl (hl63 _) hn63
      have hb := mul_lt62 hn hl2 hl2
      rw [lN_mul, pk_lRem (by omega) (by omega) (by omega), sq_step, nI_1]
      refine ih (k + 1) (by omega) (fun r hr => ?_)
      by_cases hrk : r = k
      · subst hrk; exact h
      · exact hi r (by omega)
  have := key s 0 (by omega) (fun r h => by omega)
  rwa [Nat.pow_zero, Nat.one_mul] at this
def pre_X7_isStrong (p0 p1 : Int32) : Prop := 3 ≤ p0.toInt ∧ 0 ≤ p1.toInt
set_option maxHeartbeats 4000000 in
set_option maxRecDepth 100000 in
theorem met_X7_isStrong (l : Launch) (p0 : Int32) (p1 : Int32) (post : Int32 → Prop)
  (hV : ∀ (J6 : Int32 → Int32 → Prop) (J49 : Int32 → Int64 → Int32 → Int32 → Prop),
    (∀ (x2 : Int32) (x3 : Int32), (((x2 - x2 / (2 : Int32) * (2 : Int32)) = 0 → J6 (x2 / (2 : Int32)) (x3 + 1)) ∧ (¬ (x2 - x2 / (2 : Int32) * (2 : Int32)) = 0 → pre_X7_powerOf p0 p1 x2.toInt64 ∧ (∀ r26 : Int32, post_X7_powerOf p0 p1 x2.toInt64 r26 → ((r26.toInt64 = (1 : Int64) → J49 x3 r26.toInt64 (1 : Int32) (0 : Int32)) ∧ (¬ r26.toInt64 = (1 : Int64) → J49 x3 r26.toInt64 (0 : Int32) (0 : Int32)))))) → J6 x2 x3) →
    (∀ (x3 : Int32) (x4 : Int64) (x6 : Int32) (x7 : Int32), ((x3 ≤ x7 → (x6 = 0 ∨ x6 = 1) ∧ post x6) ∧ (¬ x3 ≤ x7 → ((x6 = 0 → ((x4 = ((p0 - (1 : Int32)).toInt64) → ¬ p0.toInt64 = 0 ∧ (J49 x3 ((x4 * x4) - (x4 * x4) / p0.toInt64 * p0.toInt64) (1 : Int32) (x7 + 1))) ∧ (¬ x4 = ((p0 - (1 : Int32)).toInt64) → ¬ p0.toInt64 = 0 ∧ (J49 x3 ((x4 * x4) - (x4 * x4) / p0.toInt64 * p0.toInt64) (0 : Int32) (x7 + 1))))) ∧ (¬ x6 = 0 → ¬ p0.toInt64 = 0 ∧ (J49 x3 ((x4 * x4) - (x4 * x4) / p0.toInt64 * p0.toInt64) (1 : Int32) (x7 + 1)))))) → J49 x3 x4 x6 x7) →
    J6 (p0 - (1 : Int32)) (0 : Int32)) :
  Met l yX7_isStrong wsX7_isStrong ({ frames := 1, cells := 0, slots := 0, locals := 29 } : Room) (va_Pc [.int p0, .int p1] (fun _ => True)) (Qpi post) 0 0 noF := by
  refine Met.ofW (cc := cX7_isStrong) (maxL := 8) (ret := (some .boolean)) (by decide) rfl ?_
  intro p e s m args below meth c s₁ B hml hv
  obtain ⟨rfl, -⟩ := hv
  have hx := B.exec
  have hb := B.bytes
  have hr := B.returns
  have hts := atoms_spec (ws := wsX7_isStrong) B.pre
  have hown : s.vm.findClass RX7 = some m.cls := findClass_of_methodNamed B.named
  have hlocks := B.notSynchronized
  obtain ⟨J6, iJ6, oJ6⟩ : ∃ J : Int32 → Int32 → Prop, (∀ (x2 : Int32) (x3 : Int32), (∀ ls : Array Slot, lv_has ls 8 [(0, .int p0), (1, .int p1), (2, .int x2), (3, .int x3)] → W p l e (headSpec wsX7_isStrong ({ frames := 1, cells := 0, slots := 0, locals := 29 } : Room)).room s m [.int p0, .int p1].toArray below meth c s.heap [] 0 0 (MQ below (Qpi post) [.int p0, .int p1].toArray s 0 0 noF) (F0 m 6 ls [])) → J x2 x3) ∧ (∀ (x2 : Int32) (x3 : Int32), J x2 x3 → (∀ ls : Array Slot, lv_has ls 8 [(0, .int p0), (1, .int p1), (2, .int x2), (3, .int x3)] → W p l e (headSpec wsX7_isStrong ({ frames := 1, cells := 0, slots := 0, locals := 29 } : Room)).room s m [.int p0, .int p1].toArray below meth c s.heap [] 0 0 (MQ below (Qpi post) [.int p0, .int p1].toArray s 0 0 noF) (F0 m 6 ls []))) := ⟨fun (x2 : Int32) (x3 : Int32) => (∀ ls : Array Slot, lv_has ls 8 [(0, .int p0), (1, .int p1), (2, .int x2), (3, .int x3)] → W p l e (headSpec wsX7_isStrong ({ frames := 1, cells := 0, slots := 0, locals := 29 } : Room)).room s m [.int p0, .int p1].toArray below meth c s.heap [] 0 0 (MQ below (Qpi post) [.int p0, .int p1].toArray s 0 0 noF) (F0 m 6 ls [])), fun _ _ h => h, fun _ _ h => h⟩
  obtain ⟨J49, iJ49, oJ49⟩ : ∃ J : Int32 → Int64 → Int32 → Int32 → Prop, (∀ (x3 : Int32) (x4 : Int64) (x6 : Int32) (x7 : Int32), (∀ ls : Array Slot, lv_has ls 8 [(0, .int p0), (3, .int x3), (4, .long x4), (6, .int x6), (7, .int x7)] → W p l e (headSpec wsX7_isStrong ({ frames := 1, cells := 0, slots := 0, locals := 29 } : Room)).room s m [.int p0, .int p1].toArray below meth c s.heap [] 0 0 (MQ below (Qpi post) [.int p0, .int p1].toArray s 0 0 noF) (F0 m 49 ls [])) → J x3 x4 x6 x7) ∧ (∀ (x3 : Int32) (x4 : Int64) (x6 : Int32) (x7 : Int32), J x3 x4 x6 x7 → (∀ ls : Array Slot, lv_has ls 8 [(0, .int p0), (3, .int x3), (4, .long x4), (6, .int x6), (7, .int x7)] → W p l e (headSpec wsX7_isStrong ({ frames := 1, cells := 0, slots := 0, locals := 29 } : Room)).room s m [.int p0, .int p1].toArray below meth c s.heap [] 0 0 (MQ below (Qpi post) [.int p0, .int p1].toArray s 0 0 noF) (F0 m 49 ls []))) := ⟨fun (x3 : Int32) (x4 : Int64) (x6 : Int32) (x7 : Int32) => (∀ ls : Array Slot, lv_has ls 8 [(0, .int p0), (3, .int x3), (4, .long x4), (6, .int x6), (7, .int x7)] → W p l e (headSpec wsX7_isStrong ({ frames := 1, cells := 0, slots := 0, locals := 29 } : Room)).room s m [.int p0, .int p1].toArray below meth c s.heap [] 0 0 (MQ below (Qpi post) [.int p0, .int p1].toArray s 0 0 noF) (F0 m 49 ls [])), fun _ _ _ _ h => h, fun _ _ _ _ h => h⟩
  have hV := hV J6 J49
  replace hV := hV (by
    intro x2 x3 hV
    refine iJ6 x2 x3 ?_
    intro ls hl
    refine lv_iload_n hx hb dX7_isStrong_6 rfl (lv_at hl 2 rfl) ?_
    refine lv_iconst (v := (2 : Int32)) hx hb dX7_isStrong_7 (by decide) ?_
    refine lv_irem hx hb dX7_isStrong_8 (by decide) ?_
    refine lv_if_ne (tgt := 22) hx hb dX7_isStrong_9 (by decide) (fun c_9 => ?_) (fun c_9 => ?_)
    · have hV := hV.2 c_9
      refine lv_iload_n hx hb dX7_isStrong_22 rfl (lv_at hl 0 rfl) ?_
      refine lv_iload_n hx hb dX7_isStrong_23 rfl (lv_at hl 1 rfl) ?_
      refine lv_iload_n hx hb dX7_isStrong_24 rfl (lv_at hl 2 rfl) ?_
      refine lv_i2l (v := x2.toInt64) hx hb dX7_isStrong_25 rfl ?_
      obtain ⟨h_26, hV⟩ := hV
      refine cp_i (va_runS (As := [.int p0, .int p1, .long x2.toInt64]) (rest := []) ⟨hx, hb, hml, hown, hts⟩ (spec_X7_powerOf l p0 p1 x2.toInt64 h_26) (va_cwS 3 hts gX7_isStrong_X7_powerOf rfl rfl rfl (by decide +kernel) ⟨Nat.le_of_ble_eq_true rfl, Nat.le_of_ble_eq_true rfl⟩) cp_pre rfl rfl hl.1 rfl (lv_room (Nat.le_of_ble_eq_true rfl)) dX7_isStrong_26 ⟨Nat.zero_le _, Nat.zero_le _⟩) (fun r26 q_26 => ?_)
      have hV := hV r26 q_26
      refine lv_i2l (v := r26.toInt64) hx hb dX7_isStrong_29 rfl ?_
      refine lv_lstore (lv' := [(4, .long r26.toInt64), (0, .int p0), (1, .int p1), (2, .int x2), (3, .int x3)]) hx hb dX7_isStrong_30 hl (by decide) rfl (fun ls hl => ?_)
      refine lv_lload hx hb dX7_isStrong_32 (lv_at hl 0 rfl) ?_
      refine lv_lconst (v := (1 : Int64)) hx hb dX7_isStrong_34 (by decide) ?_
      refine lc_ne (tgt := 43) hx hb dX7_isStrong_35 dX7_isStrong_36 (by decide) (fun c_35 => ?_) (fun c_35 => ?_)
      · have hV := hV.2 c_35
        refine lv_iconst (v := (0 : Int32)) hx hb dX7_isStrong_43 (by decide) ?_
        refine lv_istore (lv' := [(6, .int (0 : Int32)), (4, .long r26.toInt64), (0, .int p0), (1, .int p1), (2, .int x2), (3, .int x3)]) hx hb dX7_isStrong_44 hl (by decide) rfl (fun ls hl => ?_)
        refine lv_iconst (v := (0 : Int32)) hx hb dX7_isStrong_46 (by decide) ?_
        refine lv_istore (lv' := [(7, .int (0 : Int32)), (6, .int (0 : Int32)), (4, .long r26.toInt64), (0, .int p0), (1, .int p1), (2, .int x2), (3, .int x3)]) hx hb dX7_isStrong_47 hl (by decide) rfl (fun ls hl => ?_)
        exact oJ49 _ _ _ _ hV _ (lv_sub hl [3, 6, 2, 1, 0] rfl)
      · have hV := hV.1 c_35
        refine lv_iconst (v := (1 : Int32)) hx hb dX7_isStrong_39 (by decide) ?_
        refine lv_goto (tgt := 44) hx hb dX7_isStrong_40 (by decide) ?_
        refine lv_istore (lv' := [(6, .int (1 : Int32)), (4, .long r26.toInt64), (0, .int p0), (1, .int p1), (2, .int x2), (3, .int x3)]) hx hb dX7_isStrong_44 hl (by decide) rfl (fun ls hl => ?_)
        refine lv_iconst (v := (0 : Int32)) hx hb dX7_isStrong_46 (by decide) ?_
        refine lv_istore (lv' := [(7, .int (0 : Int32)), (6, .int (1 : Int32)), (4, .long r26.toInt64), (0, .int p0), (1, .int p1), (2, .int x2), (3, .int x3)]) hx hb dX7_isStrong_47 hl (by decide) rfl (fun ls hl => ?_)
        exact oJ49 _ _ _ _ hV _ (lv_sub hl [3, 6, 2, 1, 0] rfl)
    · have hV := hV.1 c_9
      refine lv_iload_n hx hb dX7_isStrong_12 rfl (lv_at hl 2 rfl) ?_
      refine lv_iconst (v := (2 : Int32)) hx hb dX7_isStrong_13 (by decide) ?_
      refine lv_idiv hx hb dX7_isStrong_14 (by decide) ?_
      refine lv_istore_n (lv' := [(2, .int (x2 / (2 : Int32))), (0, .int p0), (1, .int p1), (3, .int x3)]) hx hb dX7_isStrong_15 rfl hl (by decide) rfl (fun ls hl => ?_)
      refine lv_iinc (v := x3 + 1) (lv' := [(3, .int (x3 + 1)), (2, .int (x2 / (2 : Int32))), (0, .int p0), (1, .int p1)]) hx hb dX7_isStrong_16 hl (k := 3) rfl rfl (by decide) rfl (fun ls hl => ?_)
      refine lv_goto (tgt := 6) hx hb dX7_isStrong_19 (by decide) ?_
      exact oJ6 _ _ hV _ (lv_sub hl [2, 3, 1, 0] rfl))
  replace hV := hV (by
    intro x3 x4 x6 x7 hV
    refine iJ49 x3 x4 x6 x7 ?_
    intro ls hl
    refine lv_iload hx hb dX7_isStrong_49 (lv_at hl 4 rfl) ?_
    refine lv_iload_n hx hb dX7_isStrong_51 rfl (lv_at hl 1 rfl) ?_
    refine lv_icmp_ge (tgt := 93) hx hb dX7_isStrong_52 (by decide) (fun c_52 => ?_) (fun c_52 => ?_)
    · have hV := hV.1 c_52
      refine lv_iload hx hb dX7_isStrong_93 (lv_at hl 3 rfl) ?_
      obtain ⟨h_95, hV⟩ := hV
      exact W.zret (v := x6) hx hb hr (zr_nar h_95) (fun t ht hW => ⟨_, rfl, hV, ht⟩) (fun _ h => by cases h) dX7_isStrong_95
    · have hV := hV.2 c_52
      refine lv_iload hx hb dX7_isStrong_55 (lv_at hl 3 rfl) ?_
      refine lv_if_ne (tgt := 70) hx hb dX7_isStrong_57 (by decide) (fun c_57 => ?_) (fun c_57 => ?_)
      · have hV := hV.2 c_57
        refine lv_iconst (v := (1 : Int32)) hx hb dX7_isStrong_70 (by decide) ?_
        refine lv_goto (tgt := 75) hx hb dX7_isStrong_71 (by decide) ?_
        refine lv_istore (lv' := [(6, .int (1 : Int32)), (0, .int p0), (3, .int x3), (4, .long x4), (7, .int x7)]) hx hb dX7_isStrong_75 hl (by decide) rfl (fun ls hl => ?_)
        refine lv_lload hx hb dX7_isStrong_77 (lv_at hl 3 rfl) ?_
        refine lv_lload hx hb dX7_isStrong_79 (lv_at hl 3 rfl) ?_
        refine lv_lmul hx hb dX7_isStrong_81 ?_
        refine lv_iload_n hx hb dX7_isStrong_82 rfl (lv_at hl 1 rfl) ?_
        refine lv_i2l (v := p0.toInt64) hx hb dX7_isStrong_83 rfl ?_
        obtain ⟨h_84, hV⟩ := hV
        refine lv_lrem hx hb dX7_isStrong_84 h_84 ?_
        refine lv_lstore (lv' := [(4, .long ((x4 * x4) - (x4 * x4) / p0.toInt64 * p0.toInt64)), (6, .int (1 : Int32)), (0, .int p0), (3, .int x3), (7, .int x7)]) hx hb dX7_isStrong_85 hl (by decide) rfl (fun ls hl => ?_)
        refine lv_iinc (v := x7 + 1) (lv' := [(7, .int (x7 + 1)), (4, .long ((x4 * x4) - (x4 * x4) / p0.toInt64 * p0.toInt64)), (6, .int (1 : Int32)), (0, .int p0), (3, .int x3)]) hx hb dX7_isStrong_87 hl (k := 4) rfl rfl (by decide) rfl (fun ls hl => ?_)
        refine lv_goto (tgt := 49) hx hb dX7_isStrong_90 (by decide) ?_
        exact oJ49 _ _ _ _ hV _ (lv_sub hl [3, 4, 1, 2, 0] rfl)
      · have hV := hV.1 c_57
        refine lv_lload hx hb dX7_isStrong_60 (lv_at hl 2 rfl) ?_
        refine lv_iload_n hx hb dX7_isStrong_62 rfl (lv_at hl 0 rfl) ?_
        refine lv_iconst (v := (1 : Int32)) hx hb dX7_isStrong_63 (by decide) ?_
        refine lv_isub hx hb dX7_isStrong_64 ?_
        refine lv_i2l (v := (p0 - (1 : Int32)).toInt64) hx hb dX7_isStrong_65 rfl ?_
        refine lc_ne (tgt := 74) hx hb dX7_isStrong_66 dX7_isStrong_67 (by decide) (fun c_66 => ?_) (fun c_66 => ?_)
        · have hV := hV.2 c_66
          refine lv_iconst (v := (0 : Int32)) hx hb dX7_isStrong_74 (by decide) ?_
          refine lv_istore (lv' := [(6, .int (0 : Int32)), (0, .int p0), (3, .int x3), (4, .long x4), (7, .int x7)]) hx hb dX7_isStrong_75 hl (by decide) rfl (fun ls hl => ?_)
          refine lv_lload hx hb dX7_isStrong_77 (lv_at hl 3 rfl) ?_
          refine lv_lload hx hb dX7_isStrong_79 (lv_at hl 3 rfl) ?_
          refine lv_lmul hx hb dX7_isStrong_81 ?_
          refine lv_iload_n hx hb dX7_isStrong_82 rfl (lv_at hl 1 rfl) ?_
          refine lv_i2l (v := p0.toInt64) hx hb dX7_isStrong_83 rfl ?_
          obtain ⟨h_84, hV⟩ := hV
          refine lv_lrem hx hb dX7_isStrong_84 h_84 ?_
          refine lv_lstore (lv' := [(4, .long ((x4 * x4) - (x4 * x4) / p0.toInt64 * p0.toInt64)), (6, .int (0 : Int32)), (0, .int p0), (3, .int x3), (7, .int x7)]) hx hb dX7_isStrong_85 hl (by decide) rfl (fun ls hl => ?_)
          refine lv_iinc (v := x7 + 1) (lv' := [(7, .int (x7 + 1)), (4, .long ((x4 * x4) - (x4 * x4) / p0.toInt64 * p0.toInt64)), (6, .int (0 : Int32)), (0, .int p0), (3, .int x3)]) hx hb dX7_isStrong_87 hl (k := 4) rfl rfl (by decide) rfl (fun ls hl => ?_)
          refine lv_goto (tgt := 49) hx hb dX7_isStrong_90 (by decide) ?_
          exact oJ49 _ _ _ _ hV _ (lv_sub hl [3, 4, 1, 2, 0] rfl)
        · have hV := hV.1 c_66
          refine lv_iconst (v := (1 : Int32)) hx hb dX7_isStrong_70 (by decide) ?_
          refine lv_goto (tgt := 75) hx hb dX7_isStrong_71 (by decide) ?_
          refine lv_istore (lv' := [(6, .int (1 : Int32)), (0, .int p0), (3, .int x3), (4, .long x4), (7, .int x7)]) hx hb dX7_isStrong_75 hl (by decide) rfl (fun ls hl => ?_)
          refine lv_lload hx hb dX7_isStrong_77 (lv_at hl 3 rfl) ?_
          refine lv_lload hx hb dX7_isStrong_79 (lv_at hl 3 rfl) ?_
          refine lv_lmul hx hb dX7_isStrong_81 ?_
          refine lv_iload_n hx hb dX7_isStrong_82 rfl (lv_at hl 1 rfl) ?_
          refine lv_i2l (v := p0.toInt64) hx hb dX7_isStrong_83 rfl ?_
          obtain ⟨h_84, hV⟩ := hV
          refine lv_lrem hx hb dX7_isStrong_84 h_84 ?_
          refine lv_lstore (lv' := [(4, .long ((x4 * x4) - (x4 * x4) / p0.toInt64 * p0.toInt64)), (6, .int (1 : Int32)), (0, .int p0), (3, .int x3), (7, .int x7)]) hx hb dX7_isStrong_85 hl (by decide) rfl (fun ls hl => ?_)
          refine lv_iinc (v := x7 + 1) (lv' := [(7, .int (x7 + 1)), (4, .long ((x4 * x4) - (x4 * x4) / p0.toInt64 * p0.toInt64)), (6, .int (1 : Int32)), (0, .int p0), (3, .int x3)]) hx hb dX7_isStrong_87 hl (k := 4) rfl rfl (by decide) rfl (fun ls hl => ?_)
          refine lv_goto (tgt := 49) hx hb dX7_isStrong_90 (by decide) ?_
          exact oJ49 _ _ _ _ hV _ (lv_sub hl [3, 4, 1, 2, 0] rfl))
  have hl := lv_entry ([.int p0, .int p1]) (n := 8) (Nat.le_of_ble_eq_true rfl)
  rw [lg_entry_eq]
  generalize (lg_sl ([.int p0, .int p1]) ++ List.replicate (8 - (lg_sl ([.int p0, .int p1])).length) Slot.unset).toArray = ls at hl ⊢
  have hl : lv_has ls 8 [(0, .int p0), (1, .int p1)] := hl
  refine lv_iload_n hx hb dX7_isStrong_0 rfl (lv_at hl 0 rfl) ?_
  refine lv_iconst (v := (1 : Int32)) hx hb dX7_isStrong_1 (by decide) ?_
  refine lv_isub hx hb dX7_isStrong_2 ?_
  refine lv_istore_n (lv' := [(2, .int (p0 - (1 : Int32))), (0, .int p0), (1, .int p1)]) hx hb dX7_isStrong_3 rfl hl (by decide) rfl (fun ls hl => ?_)
  refine lv_iconst (v := (0 : Int32)) hx hb dX7_isStrong_4 (by decide) ?_
  refine lv_istore_n (lv' := [(3, .int (0 : Int32)), (2, .int (p0 - (1 : Int32))), (0, .int p0), (1, .int p1)]) hx hb dX7_isStrong_5 rfl hl (by decide) rfl (fun ls hl => ?_)
  exact oJ6 _ _ hV _ (lv_sub hl [2, 3, 1, 0] rfl)
def post_X7_isStrong (p0 p1 r : Int32) : Prop := r = zb (Strong (tn p0) (tn p1))
set_option maxRecDepth 4000 in
theorem spec_X7_isStrong (l : Launch) (p0 : Int32) (p1 : Int32) (hpre : pre_X7_isStrong p0 p1) : Met l yX7_isStrong wsX7_isStrong ({ frames := 1, cells := 0, slots := 0, locals := 29 } : Room) (va_Pc [.int p0, .int p1] (fun _ => True)) (Qpi (post_X7_isStrong p0 p1)) 0 0 noF := by
  apply met_X7_isStrong
  intro J6 J49 h6 h49
  obtain ⟨n, hn, rfl, hn2⟩ := of_i (x := p0) (by have := hpre.1; omega)
  obtain ⟨a, ha, rfl, ha2⟩ := of_i hpre.2
  have hn3 : 3 ≤ n := by have := hpre.1; omega
  have e1 : nI n - (1 : Int32) = nI (n - 1) := pk_sub (b := 1) (by omega)
  rw [e1] at h49 ⊢
  have hz : ¬ lN n = 0 := lN_nz (by omega) (by omega)
  rw [nI_l (by omega), nI_l hn] at h49
  have key : ∀ (q k m : Nat), m ≤ q → 1 ≤ m → n - 1 = 2 ^ k * m → k < 31 → J6 (nI m) (nI k) := by
    intro q
    induction q with
    | zero => intro k m h1 h2; omega
    | succ q ih =>
      intro k m hmq hm he hk31
      have hml : m < 2 ^ 31 := by
        have : 1 * m ≤ 2 ^ k * m := Nat.mul_le_mul_right m (Nat.two_pow_pos k)
        omega
      have e2 : nI m - nI m / (2 : Int32) * (2 : Int32) = nI (m % 2) := pk_rem (d := 2) hml (by decide) (by decide)
      have e3 : nI m / (2 : Int32) = nI (m / 2) := pk_div (d := 2) hml (by decide) (by decide)
      refine h6 _ _ ?_
      rw [e2, e3, nI_1]
      refine pk_eq (m % 2) 0 (fun h0 => ?_) (fun h0 => ?_)
      · have he2 : n - 1 = 2 ^ (k + 1) * (m / 2) := by
          rw [he, Nat.pow_succ, Nat.mul_assoc]
          congr 1
          omega
        refine ih (k + 1) (m / 2) (by omega) (by omega) he2 ?_
        apply Classical.byContradiction
        intro hc
        have : k = 30 := by omega
        subst this
        have : 2 ^ (30 + 1) * 1 ≤ 2 ^ (30 + 1) * (m / 2) := Nat.mul_le_mul_left _ (by omega)
        have : (2 : Nat) ^ (30 + 1) = 2 ^ 31 := rfl
        omega
      · have hsd : Two (n - 1) k m := ⟨he, by omega⟩
        refine ⟨⟨by omega, hpre.2, by rw [il_t, nI_toInt hml]; omega⟩, fun r hr => ?_⟩
        unfold post_X7_powerOf at hr
        rw [nI_l hml, tn_nI ha, tn_nI hn, tl_lN (by omega)] at hr
        subst hr
        have hlt : ∀ j, a ^ j % n < n := fun j => Nat.mod_lt _ (by omega)
        have hl1 := hlt m
        rw [nI_l (by omega)]
        have fin : ∀ (c : Prop), (c ↔ (a ^ m % n = 1 ∨ ∃ r, r < k ∧ a ^ (2 ^ r * m) % n = n - 1)) → (zb c = 0 ∨ zb c = 1) ∧ post_X7_isStrong (nI n) (nI a) (zb c) := by
          intro c hc
          refine ⟨zb_01 c, zb_c ?_⟩
          rw [tn_nI hn, tn_nI ha, hc]
          constructor
          · exact fun h => ⟨k, m, hsd, h⟩
          · rintro ⟨s', d', h1, h2⟩
            obtain ⟨rfl, rfl⟩ := two_one hsd h1
            exact h2
        have loop : ∀ (j i : Nat), i + j = k → J49 (nI k) (lN (a ^ (2 ^ i * m) % n)) (zb (a ^ m % n = 1 ∨ ∃ r, r < i ∧ a ^ (2 ^ r * m) % n = n - 1)) (nI i) := by
          intro j
          induction j with
          | zero =>
            intro i hi
            have : i = k := by omega
            subst this
            exact h49 _ _ _ _ (pk_le i i (fun _ => fin _ Iff.rfl) (fun h => absurd h (by omega)))
          | succ j ihj =>
            intro i hi
            have hl2 := hlt (2 ^ i * m)
            have hb := mul_lt62 hn hl2 hl2
            have nxt := ihj (i + 1) (by omega)
            refine h49 _ _ _ _ (pk_le k i (fun h => absurd h (by omega)) (fun _ => ⟨fun h0 => ?_, fun h0 => ?_⟩))
            · have hn0 := zb_0 h0
              rw [lN_mul, pk_lRem (by omega) (by omega) (by omega), sq_step, nI_1]
              refine ql_eq (a ^ (2 ^ i * m) % n) (n - 1) (fun h => ⟨hz, ?_⟩) (fun h => ⟨hz, ?_⟩)
              · rw [zb_t (Or.inr ⟨i, by omega, h⟩)] at nxt
                exact nxt
              · rw [zb_f (c := (a ^ m % n = 1 ∨ ∃ r, r < i + 1 ∧ a ^ (2 ^ r * m) % n = n - 1))] at nxt
                · exact nxt
                · rintro (h1 | ⟨r, h1, h2⟩)
                  · exact hn0 (Or.inl h1)
                  · by_cases hri : r = i
                    · subst hri; exact h h2
                    · exact hn0 (Or.inr ⟨r, by omega, h2⟩)
            · have hy := zb_1 h0
              refine ⟨hz, ?_⟩
              rw [lN_mul, pk_lRem (by omega) (by omega) (by omega), sq_step, nI_1]
              rw [zb_t (c := (a ^ m % n = 1 ∨ ∃ r, r < i + 1 ∧ a ^ (2 ^ r * m) % n = n - 1))] at nxt
              · exact nxt
              · rcases hy with h1 | ⟨r, h1, h2⟩
                · exact Or.inl h1
                · exact Or.inr ⟨r, by omega, h2⟩
        have st := loop k 0 (by omega)
        rw [Nat.pow_zero, Nat.one_mul] at st
        refine ql_eq (a ^ m % n) 1 (fun h => ?_) (fun h => ?_)
        · rw [zb_t (Or.inl h)] at st
          exact st
        · rw [zb_f] at st
          · exact st
          · rintro (h1 | ⟨r, h1, -⟩)
            · exact h h1
            · omega
  exact key (n - 1) 0 (n - 1) (by omega) (by omega) (by rw [Nat.pow_zero, Nat.one_mul]) (by omega)
def pre_X7_looksSo (p0 p1 : Int32) : Prop := 3 ≤ p0.toInt ∧ 0 ≤ p1.toInt
set_option maxHeartbeats 4000000 in
set_option maxRecDepth 100000 in
theorem met_X7_looksSo (l : Launch) (p0 : Int32) (p1 : Int32) (post : Int32 → Prop)
  (hV : pre_X7_powerOf p0 p1 ((p0 - (1 : Int32)).toInt64) ∧ (∀ r6 : Int32, post_X7_powerOf p0 p1 ((p0 - (1 : Int32)).toInt64) r6 → ((r6 = (1 : Int32) → post (1 : Int32)) ∧ (¬ r6 = (1 : Int32) → post (0 : Int32))))) :
  Met l yX7_looksSo wsX7_looksSo ({ frames := 1, cells := 0, slots := 0, locals := 29 } : Room) (va_Pc [.int p0, .int p1] (fun _ => True)) (Qpi post) 0 0 noF := by
  refine Met.ofW (cc := cX7_looksSo) (maxL := 2) (ret := (some .boolean)) (by decide) rfl ?_
  intro p e s m args below meth c s₁ B hml hv
  obtain ⟨rfl, -⟩ := hv
  have hx := B.exec
  have hb := B.bytes
  have hr := B.returns
  have hts := atoms_spec (ws := wsX7_looksSo) B.pre
  have hown : s.vm.findClass RX7 = some m.cls := findClass_of_methodNamed B.named
  have hlocks := B.notSynchronized
  have hl := lv_entry ([.int p0, .int p1]) (n := 2) (Nat.le_of_ble_eq_true rfl)
  rw [lg_entry_eq]
  generalize (lg_sl ([.int p0, .int p1]) ++ List.replicate (2 - (lg_sl ([.int p0, .int p1])).length) Slot.unset).toArray = ls at hl ⊢
  have hl : lv_has ls 2 [(0, .int p0), (1, .int p1)] := hl
  refine lv_iload_n hx hb dX7_looksSo_0 rfl (lv_at hl 0 rfl) ?_
  refine lv_iload_n hx hb dX7_looksSo_1 rfl (lv_at hl 1 rfl) ?_
  refine lv_iload_n hx hb dX7_looksSo_2 rfl (lv_at hl 0 rfl) ?_
  refine lv_iconst (v := (1 : Int32)) hx hb dX7_looksSo_3 (by decide) ?_
  refine lv_isub hx hb dX7_looksSo_4 ?_
  refine lv_i2l (v := (p0 - (1 : Int32)).toInt64) hx hb dX7_looksSo_5 rfl ?_
  obtain ⟨h_6, hV⟩ := hV
  refine cp_i (va_runS (As := [.int p0, .int p1, .long ((p0 - (1 : Int32)).toInt64)]) (rest := []) ⟨hx, hb, hml, hown, hts⟩ (spec_X7_powerOf l p0 p1 ((p0 - (1 : Int32)).toInt64) h_6) (va_cwS 3 hts gX7_looksSo_X7_powerOf rfl rfl rfl (by decide +kernel) ⟨Nat.le_of_ble_eq_true rfl, Nat.le_of_ble_eq_true rfl⟩) cp_pre rfl rfl hl.1 rfl (lv_room (Nat.le_of_ble_eq_true rfl)) dX7_looksSo_6 ⟨Nat.zero_le _, Nat.zero_le _⟩) (fun r6 q_6 => ?_)
  have hV := hV r6 q_6
  refine lv_iconst (v := (1 : Int32)) hx hb dX7_looksSo_9 (by decide) ?_
  refine lv_icmp_ne (tgt := 17) hx hb dX7_looksSo_10 (by decide) (fun c_10 => ?_) (fun c_10 => ?_)
  · have hV := hV.2 c_10
    refine lv_iconst (v := (0 : Int32)) hx hb dX7_looksSo_17 (by decide) ?_
    exact W.zret (v := (0 : Int32)) hx hb hr rfl (fun t ht hW => ⟨_, rfl, hV, ht⟩) (fun _ h => by cases h) dX7_looksSo_18
  · have hV := hV.1 c_10
    refine lv_iconst (v := (1 : Int32)) hx hb dX7_looksSo_13 (by decide) ?_
    refine lv_goto (tgt := 18) hx hb dX7_looksSo_14 (by decide) ?_
    exact W.zret (v := (1 : Int32)) hx hb hr rfl (fun t ht hW => ⟨_, rfl, hV, ht⟩) (fun _ h => by cases h) dX7_looksSo_18
def post_X7_looksSo (p0 p1 r : Int32) : Prop := r = zb (tn p1 ^ (tn p0 - 1) % tn p0 = 1)
set_option maxRecDepth 4000 in
theorem spec_X7_looksSo (l : Launch) (p0 : Int32) (p1 : Int32) (hpre : pre_X7_looksSo p0 p1) : Met l yX7_looksSo wsX7_looksSo ({ frames := 1, cells := 0, slots := 0, locals := 29 } : Room) (va_Pc [.int p0, .int p1] (fun _ => True)) (Qpi (post_X7_looksSo p0 p1)) 0 0 noF := by
  apply met_X7_looksSo
  obtain ⟨n, hn, rfl, hn2⟩ := of_i (x := p0) (by have := hpre.1; omega)
  obtain ⟨a, ha, rfl, ha2⟩ := of_i hpre.2
  have hn3 : 3 ≤ n := by have := hpre.1; omega
  have e1 : nI n - (1 : Int32) = nI (n - 1) := pk_sub (b := 1) (by omega)
  rw [e1]
  refine ⟨⟨by omega, hpre.2, by rw [il_t, nI_toInt (by omega)]; omega⟩, fun r hr => ?_⟩
  unfold post_X7_powerOf at hr
  unfold post_X7_looksSo
  rw [nI_l (by omega), tn_nI ha, tn_nI hn, tl_lN (by omega)] at hr
  rw [tn_nI ha, tn_nI hn]
  have hl := Nat.mod_lt (a ^ (n - 1)) (show 0 < n by omega)
  exact pk_eq (a ^ (n - 1) % n) 1 (fun h => (zb_t h).symm) (fun h => (zb_f h).symm) hr
set_option maxHeartbeats 4000000 in
set_option maxRecDepth 100000 in
theorem met_X6_isOddOne (l : Launch) (p0 : Int32) (post : Int32 → Prop)
  (hV : ((p0 < (3 : Int32) → post (0 : Int32)) ∧ (¬ p0 < (3 : Int32) → (((50001 : Int32) < p0 → post (0 : Int32)) ∧ (¬ (50001 : Int32) < p0 → (((p0 - p0 / (2 : Int32) * (2 : Int32)) = (1 : Int32) → post (1 : Int32)) ∧ (¬ (p0 - p0 / (2 : Int32) * (2 : Int32)) = (1 : Int32) → post (0 : Int32)))))))) :
  Met l yX6_isOddOne wsX6_isOddOne ({ frames := 0, cells := 0, slots := 0, locals := 0 } : Room) (va_Pc [.int p0] (fun _ => True)) (Qpi post) 0 0 noF := by
  refine Met.ofW (cc := cX6_isOddOne) (maxL := 1) (ret := (some .boolean)) (by decide) rfl ?_
  intro p e s m args below meth c s₁ B hml hv
  obtain ⟨rfl, -⟩ := hv
  have hx := B.exec
  have hb := B.bytes
  have hr := B.returns
  have hts := atoms_spec (ws := wsX6_isOddOne) B.pre
  have hown : s.vm.findClass RX6 = some m.cls := findClass_of_methodNamed B.named
  have hlocks := B.notSynchronized
  have hl := lv_entry ([.int p0]) (n := 1) (Nat.le_of_ble_eq_true rfl)
  rw [lg_entry_eq]
  generalize (lg_sl ([.int p0]) ++ List.replicate (1 - (lg_sl ([.int p0])).length) Slot.unset).toArray = ls at hl ⊢
  have hl : lv_has ls 1 [(0, .int p0)] := hl
  refine lv_iload_n hx hb dX6_isOddOne_0 rfl (lv_at hl 0 rfl) ?_
  refine lv_iconst (v := (3 : Int32)) hx hb dX6_isOddOne_1 (by decide) ?_
  refine lv_icmp_lt (tgt := 22) hx hb dX6_isOddOne_2 (by decide) (fun c_2 => ?_) (fun c_2 => ?_)
  · have hV := hV.1 c_2
    refine lv_iconst (v := (0 : Int32)) hx hb dX6_isOddOne_22 (by decide) ?_
    exact W.zret (v := (0 : Int32)) hx hb hr rfl (fun t ht hW => ⟨_, rfl, hV, ht⟩) (fun _ h => by cases h) dX6_isOddOne_23
  · have hV := hV.2 c_2
    refine lv_iload_n hx hb dX6_isOddOne_5 rfl (lv_at hl 0 rfl) ?_
    refine lv_ldc (v := (50001 : Int32)) hx hb hown (hts (.constant RX6 208 (50001)) (by decide +kernel)) dX6_isOddOne_6 ?_
    refine lv_icmp_gt (tgt := 22) hx hb dX6_isOddOne_8 (by decide) (fun c_8 => ?_) (fun c_8 => ?_)
    · have hV := hV.1 c_8
      refine lv_iconst (v := (0 : Int32)) hx hb dX6_isOddOne_22 (by decide) ?_
      exact W.zret (v := (0 : Int32)) hx hb hr rfl (fun t ht hW => ⟨_, rfl, hV, ht⟩) (fun _ h => by cases h) dX6_isOddOne_23
    · have hV := hV.2 c_8
      refine lv_iload_n hx hb dX6_isOddOne_11 rfl (lv_at hl 0 rfl) ?_
      refine lv_iconst (v := (2 : Int32)) hx hb dX6_isOddOne_12 (by decide) ?_
      refine lv_irem hx hb dX6_isOddOne_13 (by decide) ?_
      refine lv_iconst (v := (1 : Int32)) hx hb dX6_isOddOne_14 (by decide) ?_
      refine lv_icmp_ne (tgt := 22) hx hb dX6_isOddOne_15 (by decide) (fun c_15 => ?_) (fun c_15 => ?_)
      · have hV := hV.2 c_15
        refine lv_iconst (v := (0 : Int32)) hx hb dX6_isOddOne_22 (by decide) ?_
        exact W.zret (v := (0 : Int32)) hx hb hr rfl (fun t ht hW => ⟨_, rfl, hV, ht⟩) (fun _ h => by cases h) dX6_isOddOne_23
      · have hV := hV.1 c_15
        refine lv_iconst (v := (1 : Int32)) hx hb dX6_isOddOne_18 (by decide) ?_
        refine lv_goto (tgt := 23) hx hb dX6_isOddOne_19 (by decide) ?_
        exact W.zret (v := (1 : Int32)) hx hb hr rfl (fun t ht hW => ⟨_, rfl, hV, ht⟩) (fun _ h => by cases h) dX6_isOddOne_23
def post_X6_isOddOne (p0 r : Int32) : Prop := r = zb (3 ≤ p0.toInt ∧ p0.toInt ≤ 50001 ∧ p0.toInt % 2 = 1)
set_option maxRecDepth 4000 in
theorem spec_X6_isOddOne (l : Launch) (p0 : Int32) : Met l yX6_isOddOne wsX6_isOddOne ({ frames := 0, cells := 0, slots := 0, locals := 0 } : Room) (va_Pc [.int p0] (fun _ => True)) (Qpi (post_X6_isOddOne p0)) 0 0 noF := by
  apply met_X6_isOddOne
  unfold post_X6_isOddOne
  refine ⟨fun h => (zb_f ?_).symm, fun h => ⟨fun h2 => (zb_f ?_).symm, fun h2 => ?_⟩⟩
  · have := i_lt.mp h
    have e : (3 : Int32).toInt = 3 := rfl
    omega
  · have := i_lt.mp h2
    have e : (50001 : Int32).toInt = 50001 := rfl
    omega
  · rw [i_lt] at h h2
    have e : (3 : Int32).toInt = 3 := rfl
    have e2 : (50001 : Int32).toInt = 50001 := rfl
    obtain ⟨n, hn, rfl, hn2⟩ := of_i (x := p0) (by omega)
    have e3 : nI n - nI n / (2 : Int32) * (2 : Int32) = nI (n % 2) := pk_rem (d := 2) hn (by decide) (by decide)
    rw [e3]
    exact pk_eq (n % 2) 1 (fun h => (zb_t (by omega)).symm) (fun h => (zb_f (by omega)).symm)
set_option maxHeartbeats 4000000 in
set_option maxRecDepth 100000 in
theorem met_X7_isOdd (l : Launch) (p0 : Int32) (post : Int32 → Prop)
  (hV : ∀ r8 : Int32, post_X7_in p0.toInt64 (3 : Int64) (50001 : Int64) r8 → ((r8 = 0 → post (0 : Int32)) ∧ (¬ r8 = 0 → (((p0 - p0 / (2 : Int32) * (2 : Int32)) = (1 : Int32) → post (1 : Int32)) ∧ (¬ (p0 - p0 / (2 : Int32) * (2 : Int32)) = (1 : Int32) → post (0 : Int32)))))) :
  Met l yX7_isOdd wsX7_isOdd ({ frames := 1, cells := 0, slots := 0, locals := 25 } : Room) (va_Pc [.int p0] (fun _ => True)) (Qpi post) 0 0 noF := by
  refine Met.ofW (cc := cX7_isOdd) (maxL := 1) (ret := (some .boolean)) (by decide) rfl ?_
  intro p e s m args below meth c s₁ B hml hv
  obtain ⟨rfl, -⟩ := hv
  have hx := B.exec
  have hb := B.bytes
  have hr := B.returns
  have hts := atoms_spec (ws := wsX7_isOdd) B.pre
  have hown : s.vm.findClass RX7 = some m.cls := findClass_of_methodNamed B.named
  have hlocks := B.notSynchronized
  have hl := lv_entry ([.int p0]) (n := 1) (Nat.le_of_ble_eq_true rfl)
  rw [lg_entry_eq]
  generalize (lg_sl ([.int p0]) ++ List.replicate (1 - (lg_sl ([.int p0])).length) Slot.unset).toArray = ls at hl ⊢
  have hl : lv_has ls 1 [(0, .int p0)] := hl
  refine lv_iload_n hx hb dX7_isOdd_0 rfl (lv_at hl 0 rfl) ?_
  refine lv_i2l (v := p0.toInt64) hx hb dX7_isOdd_1 rfl ?_
  refine lv_ldc2 (v := (3 : Int64)) hx hb hown (hts (.constantLong RX7 94 (3)) (by decide +kernel)) dX7_isOdd_2 ?_
  refine lv_ldc2 (v := (50001 : Int64)) hx hb hown (hts (.constantLong RX7 163 (50001)) (by decide +kernel)) dX7_isOdd_5 ?_
  refine cp_i (va_runS (As := [.long p0.toInt64, .long (3 : Int64), .long (50001 : Int64)]) (rest := []) ⟨hx, hb, hml, hown, hts⟩ (spec_X7_in l p0.toInt64 (3 : Int64) (50001 : Int64)) (va_cwS 3 hts gX7_isOdd_X7_in rfl rfl rfl (by decide +kernel) ⟨Nat.le_of_ble_eq_true rfl, Nat.le_of_ble_eq_true rfl⟩) cp_pre rfl rfl hl.1 rfl (lv_room (Nat.le_of_ble_eq_true rfl)) dX7_isOdd_8 ⟨Nat.zero_le _, Nat.zero_le _⟩) (fun r8 q_8 => ?_)
  have hV := hV r8 q_8
  refine lv_if_eq (tgt := 25) hx hb dX7_isOdd_11 (by decide) (fun c_11 => ?_) (fun c_11 => ?_)
  · have hV := hV.1 c_11
    refine lv_iconst (v := (0 : Int32)) hx hb dX7_isOdd_25 (by decide) ?_
    exact W.zret (v := (0 : Int32)) hx hb hr rfl (fun t ht hW => ⟨_, rfl, hV, ht⟩) (fun _ h => by cases h) dX7_isOdd_26
  · have hV := hV.2 c_11
    refine lv_iload_n hx hb dX7_isOdd_14 rfl (lv_at hl 0 rfl) ?_
    refine lv_iconst (v := (2 : Int32)) hx hb dX7_isOdd_15 (by decide) ?_
    refine lv_irem hx hb dX7_isOdd_16 (by decide) ?_
    refine lv_iconst (v := (1 : Int32)) hx hb dX7_isOdd_17 (by decide) ?_
    refine lv_icmp_ne (tgt := 25) hx hb dX7_isOdd_18 (by decide) (fun c_18 => ?_) (fun c_18 => ?_)
    · have hV := hV.2 c_18
      refine lv_iconst (v := (0 : Int32)) hx hb dX7_isOdd_25 (by decide) ?_
      exact W.zret (v := (0 : Int32)) hx hb hr rfl (fun t ht hW => ⟨_, rfl, hV, ht⟩) (fun _ h => by cases h) dX7_isOdd_26
    · have hV := hV.1 c_18
      refine lv_iconst (v := (1 : Int32)) hx hb dX7_isOdd_21 (by decide) ?_
      refine lv_goto (tgt := 26) hx hb dX7_isOdd_22 (by decide) ?_
      exact W.zret (v := (1 : Int32)) hx hb hr rfl (fun t ht hW => ⟨_, rfl, hV, ht⟩) (fun _ h => by cases h) dX7_isOdd_26
def post_X7_isOdd (p0 r : Int32) : Prop := r = zb (3 ≤ p0.toInt ∧ p0.toInt ≤ 50001 ∧ p0.toInt % 2 = 1)
set_option maxRecDepth 4000 in
theorem spec_X7_isOdd (l : Launch) (p0 : Int32) : Met l yX7_isOdd wsX7_isOdd ({ frames := 1, cells := 0, slots := 0, locals := 25 } : Room) (va_Pc [.int p0] (fun _ => True)) (Qpi (post_X7_isOdd p0)) 0 0 noF := by
  apply met_X7_isOdd
  intro r hr
  unfold post_X7_in at hr
  unfold post_X7_isOdd
  rw [il_t] at hr
  have e : (3 : Int64).toInt = 3 := rfl
  have e2 : (50001 : Int64).toInt = 50001 := rfl
  rw [e, e2] at hr
  subst hr
  refine ⟨fun h => (zb_f ?_).symm, fun h => ?_⟩
  · have := zb_0 h
    omega
  · have := zb_1 h
    obtain ⟨n, hn, rfl, hn2⟩ := of_i (x := p0) (by omega)
    have e3 : nI n - nI n / (2 : Int32) * (2 : Int32) = nI (n % 2) := pk_rem (d := 2) hn (by decide) (by decide)
    rw [e3]
    exact pk_eq (n % 2) 1 (fun h => (zb_t (by omega)).symm) (fun h => (zb_f (by omega)).symm)
set_option maxHeartbeats 4000000 in
set_option maxRecDepth 100000 in
theorem met_X6_isBase (l : Launch) (p0 : Int32) (post : Int32 → Prop)
  (hV : ((p0 < (2 : Int32) → post (0 : Int32)) ∧ (¬ p0 < (2 : Int32) → (((36 : Int32) < p0 → post (0 : Int32)) ∧ (¬ (36 : Int32) < p0 → post (1 : Int32)))))) :
  Met l yX6_isBase wsX6_isBase ({ frames := 0, cells := 0, slots := 0, locals := 0 } : Room) (va_Pc [.int p0] (fun _ => True)) (Qpi post) 0 0 noF := by
  refine Met.ofW (cc := cX6_isBase) (maxL := 1) (ret := (some .boolean)) (by decide) rfl ?_
  intro p e s m args below meth c s₁ B hml hv
  obtain ⟨rfl, -⟩ := hv
  have hx := B.exec
  have hb := B.bytes
  have hr := B.returns
  have hts := atoms_spec (ws := wsX6_isBase) B.pre
  have hown : s.vm.findClass RX6 = some m.cls := findClass_of_methodNamed B.named
  have hlocks := B.notSynchronized
  have hl := lv_entry ([.int p0]) (n := 1) (Nat.le_of_ble_eq_true rfl)
  rw [lg_entry_eq]
  generalize (lg_sl ([.int p0]) ++ List.replicate (1 - (lg_sl ([.int p0])).length) Slot.unset).toArray = ls at hl ⊢
  have hl : lv_has ls 1 [(0, .int p0)] := hl
  refine lv_iload_n hx hb dX6_isBase_0 rfl (lv_at hl 0 rfl) ?_
  refine lv_iconst (v := (2 : Int32)) hx hb dX6_isBase_1 (by decide) ?_
  refine lv_icmp_lt (tgt := 15) hx hb dX6_isBase_2 (by decide) (fun c_2 => ?_) (fun c_2 => ?_)
  · have hV := hV.1 c_2
    refine lv_iconst (v := (0 : Int32)) hx hb dX6_isBase_15 (by decide) ?_
    exact W.zret (v := (0 : Int32)) hx hb hr rfl (fun t ht hW => ⟨_, rfl, hV, ht⟩) (fun _ h => by cases h) dX6_isBase_16
  · have hV := hV.2 c_2
    refine lv_iload_n hx hb dX6_isBase_5 rfl (lv_at hl 0 rfl) ?_
    refine lv_bipush (v := (36 : Int32)) hx hb dX6_isBase_6 (by decide) ?_
    refine lv_icmp_gt (tgt := 15) hx hb dX6_isBase_8 (by decide) (fun c_8 => ?_) (fun c_8 => ?_)
    · have hV := hV.1 c_8
      refine lv_iconst (v := (0 : Int32)) hx hb dX6_isBase_15 (by decide) ?_
      exact W.zret (v := (0 : Int32)) hx hb hr rfl (fun t ht hW => ⟨_, rfl, hV, ht⟩) (fun _ h => by cases h) dX6_isBase_16
    · have hV := hV.2 c_8
      refine lv_iconst (v := (1 : Int32)) hx hb dX6_isBase_11 (by decide) ?_
      refine lv_goto (tgt := 16) hx hb dX6_isBase_12 (by decide) ?_
      exact W.zret (v := (1 : Int32)) hx hb hr rfl (fun t ht hW => ⟨_, rfl, hV, ht⟩) (fun _ h => by cases h) dX6_isBase_16
def post_X6_isBase (p0 r : Int32) : Prop := r = zb (2 ≤ p0.toInt ∧ p0.toInt ≤ 36)
set_option maxRecDepth 4000 in
theorem spec_X6_isBase (l : Launch) (p0 : Int32) : Met l yX6_isBase wsX6_isBase ({ frames := 0, cells := 0, slots := 0, locals := 0 } : Room) (va_Pc [.int p0] (fun _ => True)) (Qpi (post_X6_isBase p0)) 0 0 noF := by
  apply met_X6_isBase
  unfold post_X6_isBase
  simp only [i_lt]
  have e1 : (2 : Int32).toInt = 2 := rfl
  have e2 : (36 : Int32).toInt = 36 := rfl
  rw [e1, e2]
  refine ⟨fun h => (zb_f (by omega)).symm, fun h => ⟨fun h2 => (zb_f (by omega)).symm, fun h2 => (zb_t (by omega)).symm⟩⟩
set_option maxHeartbeats 4000000 in
set_option maxRecDepth 100000 in
theorem met_X7_isBase (l : Launch) (p0 : Int32) (post : Int32 → Prop)
  (hV : ∀ r8 : Int32, post_X7_in p0.toInt64 (2 : Int64) (36 : Int64) r8 → (r8 = 0 ∨ r8 = 1) ∧ post r8) :
  Met l yX7_isBase wsX7_isBase ({ frames := 1, cells := 0, slots := 0, locals := 25 } : Room) (va_Pc [.int p0] (fun _ => True)) (Qpi post) 0 0 noF := by
  refine Met.ofW (cc := cX7_isBase) (maxL := 1) (ret := (some .boolean)) (by decide) rfl ?_
  intro p e s m args below meth c s₁ B hml hv
  obtain ⟨rfl, -⟩ := hv
  have hx := B.exec
  have hb := B.bytes
  have hr := B.returns
  have hts := atoms_spec (ws := wsX7_isBase) B.pre
  have hown : s.vm.findClass RX7 = some m.cls := findClass_of_methodNamed B.named
  have hlocks := B.notSynchronized
  have hl := lv_entry ([.int p0]) (n := 1) (Nat.le_of_ble_eq_true rfl)
  rw [lg_entry_eq]
  generalize (lg_sl ([.int p0]) ++ List.replicate (1 - (lg_sl ([.int p0])).length) Slot.unset).toArray = ls at hl ⊢
  have hl : lv_has ls 1 [(0, .int p0)] := hl
  refine lv_iload_n hx hb dX7_isBase_0 rfl (lv_at hl 0 rfl) ?_
  refine lv_i2l (v := p0.toInt64) hx hb dX7_isBase_1 rfl ?_
  refine lv_ldc2 (v := (2 : Int64)) hx hb hown (hts (.constantLong RX7 56 (2)) (by decide +kernel)) dX7_isBase_2 ?_
  refine lv_ldc2 (v := (36 : Int64)) hx hb hown (hts (.constantLong RX7 184 (36)) (by decide +kernel)) dX7_isBase_5 ?_
  refine cp_i (va_runS (As := [.long p0.toInt64, .long (2 : Int64), .long (36 : Int64)]) (rest := []) ⟨hx, hb, hml, hown, hts⟩ (spec_X7_in l p0.toInt64 (2 : Int64) (36 : Int64)) (va_cwS 3 hts gX7_isBase_X7_in rfl rfl rfl (by decide +kernel) ⟨Nat.le_of_ble_eq_true rfl, Nat.le_of_ble_eq_true rfl⟩) cp_pre rfl rfl hl.1 rfl (lv_room (Nat.le_of_ble_eq_true rfl)) dX7_isBase_8 ⟨Nat.zero_le _, Nat.zero_le _⟩) (fun r8 q_8 => ?_)
  have hV := hV r8 q_8
  obtain ⟨h_11, hV⟩ := hV
  exact W.zret (v := r8) hx hb hr (zr_nar h_11) (fun t ht hW => ⟨_, rfl, hV, ht⟩) (fun _ h => by cases h) dX7_isBase_11
def post_X7_isBase (p0 r : Int32) : Prop := r = zb (2 ≤ p0.toInt ∧ p0.toInt ≤ 36)
set_option maxRecDepth 4000 in
theorem spec_X7_isBase (l : Launch) (p0 : Int32) : Met l yX7_isBase wsX7_isBase ({ frames := 1, cells := 0, slots := 0, locals := 25 } : Room) (va_Pc [.int p0] (fun _ => True)) (Qpi (post_X7_isBase p0)) 0 0 noF := by
  apply met_X7_isBase
  intro r h
  unfold post_X7_in at h
  rw [il_t] at h
  exact ⟨h ▸ zb_01 _, h⟩
