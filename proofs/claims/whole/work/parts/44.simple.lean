/-- the loop that counts and tells the i-th -/
theorem ith_loop {J : Int32 → Int32 → Prop} {post : Int32 → Prop} {p : Nat → Bool} {N lo : Nat} {i : Int32} (hN : N < 2 ^ 31) (hlo : lo ≤ N) (hi : -1 ≤ i.toInt) (h0 : fb_ct p lo = 0) (hpost : ∀ r, Ith p N i r → post r)
    (hend : ∀ f, f ≤ N → (i = -1 → post (nI f)) → (¬ i = -1 → post (-4)) → J (nI f) (nI N))
    (hstep : ∀ f k, f ≤ k → lo ≤ k → k < N → (p k = false → J (nI f) (nI (k + 1))) → (p k = true → nI f = i → post (nI k)) → (p k = true → ¬ nI f = i → J (nI (f + 1)) (nI (k + 1))) → J (nI f) (nI k)) : J (nI 0) (nI lo) := by
  have key : ∀ (d k f : Nat), k + d = N → lo ≤ k → f = fb_ct p k → (0 ≤ i.toInt → (f : Int) ≤ i.toInt) → J (nI f) (nI k) := by
    intro d
    induction d with
    | zero =>
      intro k f hk hlk hf hfi
      have hkN : k = N := by omega
      subst hkN
      have hle := fb_ct_le p k
      refine hend f (by omega) (fun e => hpost _ (Or.inl ⟨e, by rw [hf]⟩)) (fun e => hpost _ (Or.inr (Or.inr ⟨?_, ?_, rfl⟩)))
      · have : i.toInt ≠ -1 := fun q => e (i_m1.mp q)
        omega
      · have : i.toInt ≠ -1 := fun q => e (i_m1.mp q)
        rw [← hf]
        exact hfi (by omega)
    | succ d ih =>
      intro k f hk hlk hf hfi
      have hle := fb_ct_le p k
      have hfk : f ≤ k := by omega
      have hft : (nI f).toInt = (f : Int) := nI_toInt (by omega)
      refine hstep f k hfk hlk (by omega) (fun hp => ?_) (fun hp e => hpost _ (Or.inr (Or.inl ⟨?_, k, by omega, hp, ?_, rfl⟩))) (fun hp e => ?_)
      · exact ih (k + 1) f (by omega) (by omega) (by rw [fb_ct_succ, hp, ← hf]; rfl) hfi
      · rw [← e, hft]; omega
      · rw [← e, hft, hf]
      · refine ih (k + 1) (f + 1) (by omega) (by omega) (by rw [fb_ct_succ, if_pos hp, ← hf]) (fun h => ?_)
        have h1 := hfi h
        have h2 : (f : Int) ≠ i.toInt := fun q => e (i_eq.mpr (by rw [hft]; exact q))
        omega
  exact key (N - lo) lo 0 (by omega) (Nat.le_refl lo) h0.symm (fun h => h)
theorem not_bool {x : Bool} (h : ¬ x = true) : x = false := by
  cases x
  · rfl
  · exact absurd rfl h
set_option maxHeartbeats 4000000 in
set_option maxRecDepth 100000 in
theorem met_X7_units (l : Launch) (D : va_G) (cy : Nat → ClassId) (ad : Nat → Nat) (sz : Nat) (g : Gs) (a : As) (p0 : Int32) (p1 : Int32) (post : Int32 → Prop)
  (hV : ∀ (J19 : Int32 → Int32 → Prop),
    (∀ (x3 : Int32) (x4 : Int32), ((p0 ≤ x4 → ((0 ≤ p1 → post (-4 : Int32)) ∧ (¬ 0 ≤ p1 → post x3))) ∧ (¬ p0 ≤ x4 → pre_X7_isUnit p0 x4 ∧ (∀ r28 : Int32, post_X7_isUnit p0 x4 r28 → ((r28 = 0 → J19 x3 (x4 + 1)) ∧ (¬ r28 = 0 → ((x3 = p1 → post x4) ∧ (¬ x3 = p1 → J19 (x3 + 1) (x4 + 1)))))))) → J19 x3 x4) →
    ∀ r1 : Int32, post_X7_isBy p0 r1 → ((r1 = 0 → post (-1 : Int32)) ∧ (¬ r1 = 0 → (((-1 : Int32) ≤ p1 → J19 (0 : Int32) (0 : Int32)) ∧ (¬ (-1 : Int32) ≤ p1 → post (-1 : Int32)))))) :
  Met l yX7_units wsX7_units ({ frames := 2, cells := 0, slots := 0, locals := 45 } : Room) (va_Pc [.ref (ad 0), .int p0, .int p1] (ArP D cy sz (maW ad cy g a))) (Qpi post) 0 0 noF := by
  refine Met.ofW (cc := cX7_units) (maxL := 5) (ret := (some .int)) (by decide) rfl ?_
  intro p e s m args below meth c s₁ B hml hv
  obtain ⟨rfl, hsz, hP, hK, hD0, hN⟩ := hv
  have hx := B.exec
  have hb := B.bytes
  have hr := B.returns
  have hts := atoms_spec (ws := wsX7_units) B.pre
  have hown : s.vm.findClass RX7 = some m.cls := findClass_of_methodNamed B.named
  have hlocks := B.notSynchronized
  subst hsz
  have hP : va_P D vwCl (maW ad cy g a) s.heap := hP
  have hD : va_D (fun _ => True) (maW ad cy g a) := hD0
  obtain ⟨J19, iJ19, oJ19⟩ : ∃ J : Int32 → Int32 → Prop, (∀ (x3 : Int32) (x4 : Int32), (∀ ls : Array Slot, lv_has ls 5 [(1, .int p0), (2, .int p1), (3, .int x3), (4, .int x4)] → W p l e (headSpec wsX7_units ({ frames := 2, cells := 0, slots := 0, locals := 45 } : Room)).room s m [.ref (ad 0), .int p0, .int p1].toArray below meth c s.heap [] 0 0 (MQ below (Qpi post) [.ref (ad 0), .int p0, .int p1].toArray s 0 0 noF) (F0 m 19 ls [])) → J x3 x4) ∧ (∀ (x3 : Int32) (x4 : Int32), J x3 x4 → (∀ ls : Array Slot, lv_has ls 5 [(1, .int p0), (2, .int p1), (3, .int x3), (4, .int x4)] → W p l e (headSpec wsX7_units ({ frames := 2, cells := 0, slots := 0, locals := 45 } : Room)).room s m [.ref (ad 0), .int p0, .int p1].toArray below meth c s.heap [] 0 0 (MQ below (Qpi post) [.ref (ad 0), .int p0, .int p1].toArray s 0 0 noF) (F0 m 19 ls []))) := ⟨fun (x3 : Int32) (x4 : Int32) => (∀ ls : Array Slot, lv_has ls 5 [(1, .int p0), (2, .int p1), (3, .int x3), (4, .int x4)] → W p l e (headSpec wsX7_units ({ frames := 2, cells := 0, slots := 0, locals := 45 } : Room)).room s m [.ref (ad 0), .int p0, .int p1].toArray below meth c s.heap [] 0 0 (MQ below (Qpi post) [.ref (ad 0), .int p0, .int p1].toArray s 0 0 noF) (F0 m 19 ls [])), fun _ _ h => h, fun _ _ h => h⟩
  have hV := hV J19
  replace hV := hV (by
    intro x3 x4 hV
    refine iJ19 x3 x4 ?_
    intro ls hl
    refine lv_iload hx hb dX7_units_19 (lv_at hl 3 rfl) ?_
    refine lv_iload_n hx hb dX7_units_21 rfl (lv_at hl 0 rfl) ?_
    refine lv_icmp_ge (tgt := 51) hx hb dX7_units_22 (by decide) (fun c_22 => ?_) (fun c_22 => ?_)
    · have hV := hV.1 c_22
      refine lv_iload_n hx hb dX7_units_51 rfl (lv_at hl 1 rfl) ?_
      refine lv_if_ge (tgt := 59) hx hb dX7_units_52 (by decide) (fun c_52 => ?_) (fun c_52 => ?_)
      · have hV := hV.1 c_52
        refine lv_bipush (v := (-4 : Int32)) hx hb dX7_units_59 (by decide) ?_
        exact W.iret (v := (-4 : Int32)) hx hb hr (fun t ht hW => ⟨_, rfl, hV, ht⟩) (fun _ h => by cases h) dX7_units_61
      · have hV := hV.2 c_52
        refine lv_iload_n hx hb dX7_units_55 rfl (lv_at hl 2 rfl) ?_
        refine lv_goto (tgt := 61) hx hb dX7_units_56 (by decide) ?_
        exact W.iret (v := x3) hx hb hr (fun t ht hW => ⟨_, rfl, hV, ht⟩) (fun _ h => by cases h) dX7_units_61
    · have hV := hV.2 c_22
      refine lv_iload_n hx hb dX7_units_25 rfl (lv_at hl 0 rfl) ?_
      refine lv_iload hx hb dX7_units_26 (lv_at hl 3 rfl) ?_
      obtain ⟨h_28, hV⟩ := hV
      refine cp_i (va_runS (As := [.int p0, .int x4]) (rest := []) ⟨hx, hb, hml, hown, hts⟩ (spec_X7_isUnit l p0 x4 h_28) (va_cwS 2 hts gX7_units_X7_isUnit rfl rfl rfl (by decide +kernel) ⟨Nat.le_of_ble_eq_true rfl, Nat.le_of_ble_eq_true rfl⟩) cp_pre rfl rfl hl.1 rfl (lv_room (Nat.le_of_ble_eq_true rfl)) dX7_units_28 ⟨Nat.zero_le _, Nat.zero_le _⟩) (fun r28 q_28 => ?_)
      have hV := hV r28 q_28
      refine lv_if_eq (tgt := 45) hx hb dX7_units_31 (by decide) (fun c_31 => ?_) (fun c_31 => ?_)
      · have hV := hV.1 c_31
        refine lv_iinc (v := x4 + 1) (lv' := [(4, .int (x4 + 1)), (1, .int p0), (2, .int p1), (3, .int x3)]) hx hb dX7_units_45 hl (k := 3) rfl rfl (by decide) rfl (fun ls hl => ?_)
        refine lv_goto (tgt := 19) hx hb dX7_units_48 (by decide) ?_
        exact oJ19 _ _ hV _ (lv_sub hl [1, 2, 3, 0] rfl)
      · have hV := hV.2 c_31
        refine lv_iload_n hx hb dX7_units_34 rfl (lv_at hl 2 rfl) ?_
        refine lv_iload_n hx hb dX7_units_35 rfl (lv_at hl 1 rfl) ?_
        refine lv_icmp_ne (tgt := 42) hx hb dX7_units_36 (by decide) (fun c_36 => ?_) (fun c_36 => ?_)
        · have hV := hV.2 c_36
          refine lv_iinc (v := x3 + 1) (lv' := [(3, .int (x3 + 1)), (1, .int p0), (2, .int p1), (4, .int x4)]) hx hb dX7_units_42 hl (k := 2) rfl rfl (by decide) rfl (fun ls hl => ?_)
          refine lv_iinc (v := x4 + 1) (lv' := [(4, .int (x4 + 1)), (3, .int (x3 + 1)), (1, .int p0), (2, .int p1)]) hx hb dX7_units_45 hl (k := 3) rfl rfl (by decide) rfl (fun ls hl => ?_)
          refine lv_goto (tgt := 19) hx hb dX7_units_48 (by decide) ?_
          exact oJ19 _ _ hV _ (lv_sub hl [2, 3, 1, 0] rfl)
        · have hV := hV.1 c_36
          refine lv_iload hx hb dX7_units_39 (lv_at hl 3 rfl) ?_
          exact W.iret (v := x4) hx hb hr (fun t ht hW => ⟨_, rfl, hV, ht⟩) (fun _ h => by cases h) dX7_units_41)
  have hl := lv_entry ([.ref (ad 0), .int p0, .int p1]) (n := 5) (Nat.le_of_ble_eq_true rfl)
  rw [lg_entry_eq]
  generalize (lg_sl ([.ref (ad 0), .int p0, .int p1]) ++ List.replicate (5 - (lg_sl ([.ref (ad 0), .int p0, .int p1])).length) Slot.unset).toArray = ls at hl ⊢
  have hl : lv_has ls 5 [(0, .ref (ad 0)), (1, .int p0), (2, .int p1)] := hl
  refine lv_iload_n hx hb dX7_units_0 rfl (lv_at hl 1 rfl) ?_
  refine cp_i (va_runS (As := [.int p0]) (rest := []) ⟨hx, hb, hml, hown, hts⟩ (spec_X7_isBy l p0) (va_cwS 1 hts gX7_units_X7_isBy rfl rfl rfl (by decide +kernel) ⟨Nat.le_of_ble_eq_true rfl, Nat.le_of_ble_eq_true rfl⟩) cp_pre rfl rfl hl.1 rfl (lv_room (Nat.le_of_ble_eq_true rfl)) dX7_units_1 ⟨Nat.zero_le _, Nat.zero_le _⟩) (fun r1 q_1 => ?_)
  have hV := hV r1 q_1
  refine lv_if_eq (tgt := 12) hx hb dX7_units_4 (by decide) (fun c_4 => ?_) (fun c_4 => ?_)
  · have hV := hV.1 c_4
    refine lv_iconst (v := (-1 : Int32)) hx hb dX7_units_12 (by decide) ?_
    exact W.iret (v := (-1 : Int32)) hx hb hr (fun t ht hW => ⟨_, rfl, hV, ht⟩) (fun _ h => by cases h) dX7_units_13
  · have hV := hV.2 c_4
    refine lv_iload_n hx hb dX7_units_7 rfl (lv_at hl 2 rfl) ?_
    refine lv_iconst (v := (-1 : Int32)) hx hb dX7_units_8 (by decide) ?_
    refine lv_icmp_ge (tgt := 14) hx hb dX7_units_9 (by decide) (fun c_9 => ?_) (fun c_9 => ?_)
    · have hV := hV.1 c_9
      refine lv_iconst (v := (0 : Int32)) hx hb dX7_units_14 (by decide) ?_
      refine lv_istore_n (lv' := [(3, .int (0 : Int32)), (0, .ref (ad 0)), (1, .int p0), (2, .int p1)]) hx hb dX7_units_15 rfl hl (by decide) rfl (fun ls hl => ?_)
      refine lv_iconst (v := (0 : Int32)) hx hb dX7_units_16 (by decide) ?_
      refine lv_istore (lv' := [(4, .int (0 : Int32)), (3, .int (0 : Int32)), (0, .ref (ad 0)), (1, .int p0), (2, .int p1)]) hx hb dX7_units_17 hl (by decide) rfl (fun ls hl => ?_)
      exact oJ19 _ _ hV _ (lv_sub hl [3, 4, 1, 0] rfl)
    · have hV := hV.2 c_9
      refine lv_iconst (v := (-1 : Int32)) hx hb dX7_units_12 (by decide) ?_
      exact W.iret (v := (-1 : Int32)) hx hb hr (fun t ht hW => ⟨_, rfl, hV, ht⟩) (fun _ h => by cases h) dX7_units_13
def post_X7_units (g : Gs) (a : As) (p0 p1 r : Int32) : Prop := UnitsAns p0 p1 r
set_option maxRecDepth 4000 in
theorem spec_X7_units (l : Launch) (D : va_G) (cy : Nat → ClassId) (ad : Nat → Nat) (sz : Nat) (g : Gs) (a : As) (p0 : Int32) (p1 : Int32) : Met l yX7_units wsX7_units ({ frames := 2, cells := 0, slots := 0, locals := 45 } : Room) (va_Pc [.ref (ad 0), .int p0, .int p1] (ArP D cy sz (maW ad cy g a))) (Qpi (post_X7_units g a p0 p1)) 0 0 noF := by
  apply met_X7_units
  intro J hJ r hr
  unfold post_X7_isBy at hr
  subst hr
  have hm1 : (-1 : Int32).toInt = -1 := rfl
  refine ⟨fun h => Or.inl ⟨Or.inl (zb_0 h), rfl⟩, fun h => ⟨fun h2 => ?_, fun h2 => Or.inl ⟨Or.inr (by rw [i_le, hm1] at h2; omega), rfl⟩⟩⟩
  have hdv : Dv p0 := zb_1 h
  have hi1 : -1 ≤ p1.toInt := by rw [i_le] at h2; exact h2
  obtain ⟨n, hn, rfl, hn2⟩ := of_i (x := p0) (by have := hdv.1; omega)
  have tnn : tn (nI n) = n := tn_nI hn
  refine ith_loop (J := J) (post := post_X7_units g a (nI n) p1) (p := UB n) (N := n) (lo := 0) (i := p1) hn (Nat.zero_le n) hi1 rfl (fun r hr => Or.inr ⟨⟨hdv, hi1⟩, by rw [tnn]; exact hr⟩) (fun f hf e1 e2 => ?_) (fun f k hf _ hk c1 c2 c3 => ?_)
  · refine hJ _ _ (pk_le n n (fun _ => ⟨fun h3 => e2 (fun q => ?_), fun h3 => e1 ?_⟩) (fun h => absurd h (by omega)))
    · rw [i_le, Int32.toInt_zero] at h3; rw [q, hm1] at h3; omega
    · rw [i_le, Int32.toInt_zero] at h3; exact i_m1.mp (by omega)
  · refine hJ _ _ (pk_le n k (fun h => absurd h (by omega)) (fun _ => ⟨⟨by omega, by rw [nI_toInt (by omega)]; omega⟩, fun r hr => ?_⟩))
    unfold post_X7_isUnit at hr
    rw [tnn, tn_nI (by omega)] at hr
    subst hr
    rw [nI_1, nI_1]
    refine ⟨fun h3 => c1 (decide_eq_false (zb_0 h3)), fun h3 => ⟨c2 (decide_eq_true (zb_1 h3)), c3 (decide_eq_true (zb_1 h3))⟩⟩
set_option maxHeartbeats 4000000 in
set_option maxRecDepth 100000 in
theorem met_X7_order (l : Launch) (D : va_G) (cy : Nat → ClassId) (ad : Nat → Nat) (sz : Nat) (g : Gs) (a : As) (p0 : Int32) (p1 : Int32) (post : Int32 → Prop)
  (hV : ∀ r1 : Int32, post_X7_isBy p0 r1 → ((r1 = 0 → post (-1 : Int32)) ∧ (¬ r1 = 0 → pre_X7_isRest p0 p1 ∧ (∀ r9 : Int32, post_X7_isRest p0 p1 r9 → ((r9 = 0 → post (-1 : Int32)) ∧ (¬ r9 = 0 → pre_X7_isUnit p0 p1 ∧ (∀ r19 : Int32, post_X7_isUnit p0 p1 r19 → ((r19 = 0 → post (-2 : Int32)) ∧ (¬ r19 = 0 → pre_X7_orderOf p0 p1 ∧ (∀ r27 : Int32, post_X7_orderOf p0 p1 r27 → post r27)))))))))) :
  Met l yX7_order wsX7_order ({ frames := 2, cells := 0, slots := 0, locals := 46 } : Room) (va_Pc [.ref (ad 0), .int p0, .int p1] (ArP D cy sz (maW ad cy g a))) (Qpi post) 0 0 noF := by
  refine Met.ofW (cc := cX7_order) (maxL := 3) (ret := (some .int)) (by decide) rfl ?_
  intro p e s m args below meth c s₁ B hml hv
  obtain ⟨rfl, hsz, hP, hK, hD0, hN⟩ := hv
  have hx := B.exec
  have hb := B.bytes
  have hr := B.returns
  have hts := atoms_spec (ws := wsX7_order) B.pre
  have hown : s.vm.findClass RX7 = some m.cls := findClass_of_methodNamed B.named
  have hlocks := B.notSynchronized
  subst hsz
  have hP : va_P D vwCl (maW ad cy g a) s.heap := hP
  have hD : va_D (fun _ => True) (maW ad cy g a) := hD0
  have hl := lv_entry ([.ref (ad 0), .int p0, .int p1]) (n := 3) (Nat.le_of_ble_eq_true rfl)
  rw [lg_entry_eq]
  generalize (lg_sl ([.ref (ad 0), .int p0, .int p1]) ++ List.replicate (3 - (lg_sl ([.ref (ad 0), .int p0, .int p1])).length) Slot.unset).toArray = ls at hl ⊢
  have hl : lv_has ls 3 [(0, .ref (ad 0)), (1, .int p0), (2, .int p1)] := hl
  refine lv_iload_n hx hb dX7_order_0 rfl (lv_at hl 1 rfl) ?_
  refine cp_i (va_runS (As := [.int p0]) (rest := []) ⟨hx, hb, hml, hown, hts⟩ (spec_X7_isBy l p0) (va_cwS 1 hts gX7_order_X7_isBy rfl rfl rfl (by decide +kernel) ⟨Nat.le_of_ble_eq_true rfl, Nat.le_of_ble_eq_true rfl⟩) cp_pre rfl rfl hl.1 rfl (lv_room (Nat.le_of_ble_eq_true rfl)) dX7_order_1 ⟨Nat.zero_le _, Nat.zero_le _⟩) (fun r1 q_1 => ?_)
  have hV := hV r1 q_1
  refine lv_if_eq (tgt := 15) hx hb dX7_order_4 (by decide) (fun c_4 => ?_) (fun c_4 => ?_)
  · have hV := hV.1 c_4
    refine lv_iconst (v := (-1 : Int32)) hx hb dX7_order_15 (by decide) ?_
    exact W.iret (v := (-1 : Int32)) hx hb hr (fun t ht hW => ⟨_, rfl, hV, ht⟩) (fun _ h => by cases h) dX7_order_16
  · have hV := hV.2 c_4
    refine lv_iload_n hx hb dX7_order_7 rfl (lv_at hl 1 rfl) ?_
    refine lv_iload_n hx hb dX7_order_8 rfl (lv_at hl 2 rfl) ?_
    obtain ⟨h_9, hV⟩ := hV
    refine cp_i (va_runS (As := [.int p0, .int p1]) (rest := []) ⟨hx, hb, hml, hown, hts⟩ (spec_X7_isRest l p0 p1 h_9) (va_cwS 2 hts gX7_order_X7_isRest rfl rfl rfl (by decide +kernel) ⟨Nat.le_of_ble_eq_true rfl, Nat.le_of_ble_eq_true rfl⟩) cp_pre rfl rfl hl.1 rfl (lv_room (Nat.le_of_ble_eq_true rfl)) dX7_order_9 ⟨Nat.zero_le _, Nat.zero_le _⟩) (fun r9 q_9 => ?_)
    have hV := hV r9 q_9
    refine lv_if_ne (tgt := 17) hx hb dX7_order_12 (by decide) (fun c_12 => ?_) (fun c_12 => ?_)
    · have hV := hV.2 c_12
      refine lv_iload_n hx hb dX7_order_17 rfl (lv_at hl 1 rfl) ?_
      refine lv_iload_n hx hb dX7_order_18 rfl (lv_at hl 2 rfl) ?_
      obtain ⟨h_19, hV⟩ := hV
      refine cp_i (va_runS (As := [.int p0, .int p1]) (rest := []) ⟨hx, hb, hml, hown, hts⟩ (spec_X7_isUnit l p0 p1 h_19) (va_cwS 2 hts gX7_order_X7_isUnit rfl rfl rfl (by decide +kernel) ⟨Nat.le_of_ble_eq_true rfl, Nat.le_of_ble_eq_true rfl⟩) cp_pre rfl rfl hl.1 rfl (lv_room (Nat.le_of_ble_eq_true rfl)) dX7_order_19 ⟨Nat.zero_le _, Nat.zero_le _⟩) (fun r19 q_19 => ?_)
      have hV := hV r19 q_19
      refine lv_if_eq (tgt := 33) hx hb dX7_order_22 (by decide) (fun c_22 => ?_) (fun c_22 => ?_)
      · have hV := hV.1 c_22
        refine lv_bipush (v := (-2 : Int32)) hx hb dX7_order_33 (by decide) ?_
        exact W.iret (v := (-2 : Int32)) hx hb hr (fun t ht hW => ⟨_, rfl, hV, ht⟩) (fun _ h => by cases h) dX7_order_35
      · have hV := hV.2 c_22
        refine lv_iload_n hx hb dX7_order_25 rfl (lv_at hl 1 rfl) ?_
        refine lv_iload_n hx hb dX7_order_26 rfl (lv_at hl 2 rfl) ?_
        obtain ⟨h_27, hV⟩ := hV
        refine cp_i (va_runS (As := [.int p0, .int p1]) (rest := []) ⟨hx, hb, hml, hown, hts⟩ (spec_X7_orderOf l p0 p1 h_27) (va_cwS 2 hts gX7_order_X7_orderOf rfl rfl rfl (by decide +kernel) ⟨Nat.le_of_ble_eq_true rfl, Nat.le_of_ble_eq_true rfl⟩) cp_pre rfl rfl hl.1 rfl (lv_room (Nat.le_of_ble_eq_true rfl)) dX7_order_27 ⟨Nat.zero_le _, Nat.zero_le _⟩) (fun r27 q_27 => ?_)
        have hV := hV r27 q_27
        refine lv_goto (tgt := 35) hx hb dX7_order_30 (by decide) ?_
        exact W.iret (v := r27) hx hb hr (fun t ht hW => ⟨_, rfl, hV, ht⟩) (fun _ h => by cases h) dX7_order_35
    · have hV := hV.1 c_12
      refine lv_iconst (v := (-1 : Int32)) hx hb dX7_order_15 (by decide) ?_
      exact W.iret (v := (-1 : Int32)) hx hb hr (fun t ht hW => ⟨_, rfl, hV, ht⟩) (fun _ h => by cases h) dX7_order_16
def post_X7_order (g : Gs) (a : As) (p0 p1 r : Int32) : Prop := OrderAns p0 p1 r
set_option maxRecDepth 4000 in
theorem spec_X7_order (l : Launch) (D : va_G) (cy : Nat → ClassId) (ad : Nat → Nat) (sz : Nat) (g : Gs) (a : As) (p0 : Int32) (p1 : Int32) : Met l yX7_order wsX7_order ({ frames := 2, cells := 0, slots := 0, locals := 46 } : Room) (va_Pc [.ref (ad 0), .int p0, .int p1] (ArP D cy sz (maW ad cy g a))) (Qpi (post_X7_order g a p0 p1)) 0 0 noF := by
  apply met_X7_order
  intro r hr
  unfold post_X7_isBy at hr
  subst hr
  refine ⟨fun h => Or.inl ⟨Or.inl (zb_0 h), rfl⟩, fun h => ?_⟩
  have hdv : Dv p0 := zb_1 h
  obtain ⟨d1, d2⟩ := id hdv
  refine ⟨show 1 ≤ p0.toInt by omega, fun r2 hr2 => ?_⟩
  unfold post_X7_isRest at hr2
  subst hr2
  refine ⟨fun h2 => Or.inl ⟨Or.inr (zb_0 h2), rfl⟩, fun h2 => ?_⟩
  have hrs : Rs p1 p0 := zb_1 h2
  obtain ⟨s1, s2⟩ := id hrs
  refine ⟨⟨by omega, s1⟩, fun r3 hr3 => ?_⟩
  unfold post_X7_isUnit at hr3
  subst hr3
  refine ⟨fun h3 => Or.inr ⟨⟨hdv, hrs⟩, Or.inl ⟨zb_0 h3, rfl⟩⟩, fun h3 => ⟨⟨d1, s1, s2, zb_1 h3⟩, fun r4 hr4 => ?_⟩⟩
  obtain ⟨e, ho, -, rfl⟩ := hr4
  exact Or.inr ⟨⟨hdv, hrs⟩, Or.inr ⟨zb_1 h3, e, ho, rfl⟩⟩
theorem OrderAns.one {n a r r' : Int32} (h : OrderAns n a r) (h' : OrderAns n a r') : r = r' := by
  rcases h with ⟨h1, h2⟩ | ⟨h1, h2⟩ <;> rcases h' with ⟨k1, k2⟩ | ⟨k1, k2⟩
  · rw [h2, k2]
  · rcases h1 with q | q
    · exact absurd k1.1 q
    · exact absurd k1.2 q
  · rcases k1 with q | q
    · exact absurd h1.1 q
    · exact absurd h1.2 q
  · rcases h2 with ⟨a1, a2⟩ | ⟨a1, e, a2, a3⟩ <;> rcases k2 with ⟨b1, b2⟩ | ⟨b1, f, b2, b3⟩
    · rw [a2, b2]
    · exact absurd b1 a1
    · exact absurd a1 b1
    · rw [a3, b3, ord_one a2 b2]
theorem UnitsAns.one {n i r r' : Int32} (h : UnitsAns n i r) (h' : UnitsAns n i r') : r = r' := by
  rcases h with ⟨h1, h2⟩ | ⟨h1, h2⟩ <;> rcases h' with ⟨k1, k2⟩ | ⟨k1, k2⟩
  · rw [h2, k2]
  · rcases h1 with q | q
    · exact absurd k1.1 q
    · have := k1.2; omega
  · rcases k1 with q | q
    · exact absurd h1.1 q
    · have := h1.2; omega
  · exact h2.one k2
/-- POWER -/
def PowerAns (n a : Int32) (e : Int64) (r : Int32) : Prop := ((¬ Dv n ∨ ¬ Rs a n ∨ e.toInt < 0 ∨ 1000000000000 < e.toInt) ∧ r = -1) ∨ ((Dv n ∧ Rs a n ∧ 0 ≤ e.toInt ∧ e.toInt ≤ 1000000000000) ∧ r = nI (tn a ^ tl e % tn n))
set_option maxHeartbeats 4000000 in
set_option maxRecDepth 100000 in
theorem met_X7_power (l : Launch) (D : va_G) (cy : Nat → ClassId) (ad : Nat → Nat) (sz : Nat) (g : Gs) (a : As) (p0 : Int32) (p1 : Int32) (p2 : Int64) (post : Int32 → Prop)
  (hV : ∀ r1 : Int32, post_X7_isBy p0 r1 → ((r1 = 0 → post (-1 : Int32)) ∧ (¬ r1 = 0 → pre_X7_isRest p0 p1 ∧ (∀ r9 : Int32, post_X7_isRest p0 p1 r9 → ((r9 = 0 → post (-1 : Int32)) ∧ (¬ r9 = 0 → ∀ r20 : Int32, post_X7_in p2 (0 : Int64) (1000000000000 : Int64) r20 → ((r20 = 0 → post (-1 : Int32)) ∧ (¬ r20 = 0 → pre_X7_powerOf p0 p1 p2 ∧ (∀ r29 : Int32, post_X7_powerOf p0 p1 p2 r29 → post r29))))))))) :
  Met l yX7_power wsX7_power ({ frames := 2, cells := 0, slots := 0, locals := 46 } : Room) (va_Pc [.ref (ad 0), .int p0, .int p1, .long p2] (ArP D cy sz (maW ad cy g a))) (Qpi post) 0 0 noF := by
  refine Met.ofW (cc := cX7_power) (maxL := 5) (ret := (some .int)) (by decide) rfl ?_
  intro p e s m args below meth c s₁ B hml hv
  obtain ⟨rfl, hsz, hP, hK, hD0, hN⟩ := hv
  have hx := B.exec
  have hb := B.bytes
  have hr := B.returns
  have hts := atoms_spec (ws := wsX7_power) B.pre
  have hown : s.vm.findClass RX7 = some m.cls := findClass_of_methodNamed B.named
  have hlocks := B.notSynchronized
  subst hsz
  have hP : va_P D vwCl (maW ad cy g a) s.heap := hP
  have hD : va_D (fun _ => True) (maW ad cy g a) := hD0
  have hl := lv_entry ([.ref (ad 0), .int p0, .int p1, .long p2]) (n := 5) (Nat.le_of_ble_eq_true rfl)
  rw [lg_entry_eq]
  generalize (lg_sl ([.ref (ad 0), .int p0, .int p1, .long p2]) ++ List.replicate (5 - (lg_sl ([.ref (ad 0), .int p0, .int p1, .long p2])).length) Slot.unset).toArray = ls at hl ⊢
  have hl : lv_has ls 5 [(0, .ref (ad 0)), (1, .int p0), (2, .int p1), (3, .long p2)] := hl
  refine lv_iload_n hx hb dX7_power_0 rfl (lv_at hl 1 rfl) ?_
  refine cp_i (va_runS (As := [.int p0]) (rest := []) ⟨hx, hb, hml, hown, hts⟩ (spec_X7_isBy l p0) (va_cwS 1 hts gX7_power_X7_isBy rfl rfl rfl (by decide +kernel) ⟨Nat.le_of_ble_eq_true rfl, Nat.le_of_ble_eq_true rfl⟩) cp_pre rfl rfl hl.1 rfl (lv_room (Nat.le_of_ble_eq_true rfl)) dX7_power_1 ⟨Nat.zero_le _, Nat.zero_le _⟩) (fun r1 q_1 => ?_)
  have hV := hV r1 q_1
  refine lv_if_eq (tgt := 35) hx hb dX7_power_4 (by decide) (fun c_4 => ?_) (fun c_4 => ?_)
  · have hV := hV.1 c_4
    refine lv_iconst (v := (-1 : Int32)) hx hb dX7_power_35 (by decide) ?_
    exact W.iret (v := (-1 : Int32)) hx hb hr (fun t ht hW => ⟨_, rfl, hV, ht⟩) (fun _ h => by cases h) dX7_power_36
  · have hV := hV.2 c_4
    refine lv_iload_n hx hb dX7_power_7 rfl (lv_at hl 1 rfl) ?_
    refine lv_iload_n hx hb dX7_power_8 rfl (lv_at hl 2 rfl) ?_
    obtain ⟨h_9, hV⟩ := hV
    refine cp_i (va_runS (As := [.int p0, .int p1]) (rest := []) ⟨hx, hb, hml, hown, hts⟩ (spec_X7_isRest l p0 p1 h_9) (va_cwS 2 hts gX7_power_X7_isRest rfl rfl rfl (by decide +kernel) ⟨Nat.le_of_ble_eq_true rfl, Nat.le_of_ble_eq_true rfl⟩) cp_pre rfl rfl hl.1 rfl (lv_room (Nat.le_of_ble_eq_true rfl)) dX7_power_9 ⟨Nat.zero_le _, Nat.zero_le _⟩) (fun r9 q_9 => ?_)
    have hV := hV r9 q_9
    refine lv_if_eq (tgt := 35) hx hb dX7_power_12 (by decide) (fun c_12 => ?_) (fun c_12 => ?_)
    · have hV := hV.1 c_12
      refine lv_iconst (v := (-1 : Int32)) hx hb dX7_power_35 (by decide) ?_
      exact W.iret (v := (-1 : Int32)) hx hb hr (fun t ht hW => ⟨_, rfl, hV, ht⟩) (fun _ h => by cases h) dX7_power_36
    · have hV := hV.2 c_12
      refine lv_lload_n hx hb dX7_power_15 rfl (lv_at hl 3 rfl) ?_
      refine lv_lconst (v := (0 : Int64)) hx hb dX7_power_16 (by decide) ?_
      refine lv_ldc2 (v := (1000000000000 : Int64)) hx hb hown (hts (.constantLong RX7 86 (1000000000000)) (by decide +kernel)) dX7_power_17 ?_
      refine cp_i (va_runS (As := [.long p2, .long (0 : Int64), .long (1000000000000 : Int64)]) (rest := []) ⟨hx, hb, hml, hown, hts⟩ (spec_X7_in l p2 (0 : Int64) (1000000000000 : Int64)) (va_cwS 3 hts gX7_power_X7_in rfl rfl rfl (by decide +kernel) ⟨Nat.le_of_ble_eq_true rfl, Nat.le_of_ble_eq_true rfl⟩) cp_pre rfl rfl hl.1 rfl (lv_room (Nat.le_of_ble_eq_true rfl)) dX7_power_20 ⟨Nat.zero_le _, Nat.zero_le _⟩) (fun r20 q_20 => ?_)
      have hV := hV r20 q_20
      refine lv_if_eq (tgt := 35) hx hb dX7_power_23 (by decide) (fun c_23 => ?_) (fun c_23 => ?_)
      · have hV := hV.1 c_23
        refine lv_iconst (v := (-1 : Int32)) hx hb dX7_power_35 (by decide) ?_
        exact W.iret (v := (-1 : Int32)) hx hb hr (fun t ht hW => ⟨_, rfl, hV, ht⟩) (fun _ h => by cases h) dX7_power_36
      · have hV := hV.2 c_23
        refine lv_iload_n hx hb dX7_power_26 rfl (lv_at hl 1 rfl) ?_
        refine lv_iload_n hx hb dX7_power_27 rfl (lv_at hl 2 rfl) ?_
        refine lv_lload_n hx hb dX7_power_28 rfl (lv_at hl 3 rfl) ?_
        obtain ⟨h_29, hV⟩ := hV
        refine cp_i (va_runS (As := [.int p0, .int p1, .long p2]) (rest := []) ⟨hx, hb, hml, hown, hts⟩ (spec_X7_powerOf l p0 p1 p2 h_29) (va_cwS 3 hts gX7_power_X7_powerOf rfl rfl rfl (by decide +kernel) ⟨Nat.le_of_ble_eq_true rfl, Nat.le_of_ble_eq_true rfl⟩) cp_pre rfl rfl hl.1 rfl (lv_room (Nat.le_of_ble_eq_true rfl)) dX7_power_29 ⟨Nat.zero_le _, Nat.zero_le _⟩) (fun r29 q_29 => ?_)
        have hV := hV r29 q_29
        refine lv_goto (tgt := 36) hx hb dX7_power_32 (by decide) ?_
        exact W.iret (v := r29) hx hb hr (fun t ht hW => ⟨_, rfl, hV, ht⟩) (fun _ h => by cases h) dX7_power_36
def post_X7_power (g : Gs) (a : As) (p0 p1 : Int32) (p2 : Int64) (r : Int32) : Prop := PowerAns p0 p1 p2 r
set_option maxRecDepth 4000 in
theorem spec_X7_power (l : Launch) (D : va_G) (cy : Nat → ClassId) (ad : Nat → Nat) (sz : Nat) (g : Gs) (a : As) (p0 : Int32) (p1 : Int32) (p2 : Int64) : Met l yX7_power wsX7_power ({ frames := 2, cells := 0, slots := 0, locals := 46 } : Room) (va_Pc [.ref (ad 0), .int p0, .int p1, .long p2] (ArP D cy sz (maW ad cy g a))) (Qpi (post_X7_power g a p0 p1 p2)) 0 0 noF := by
  apply met_X7_power
  intro r hr
  unfold post_X7_isBy at hr
  subst hr
  refine ⟨fun h => Or.inl ⟨Or.inl (zb_0 h), rfl⟩, fun h => ?_⟩
  have hdv : Dv p0 := zb_1 h
  obtain ⟨d1, d2⟩ := id hdv
  refine ⟨show 1 ≤ p0.toInt by omega, fun r2 hr2 => ?_⟩
  unfold post_X7_isRest at hr2
  subst hr2
  refine ⟨fun h2 => Or.inl ⟨Or.inr (Or.inl (zb_0 h2)), rfl⟩, fun h2 r3 hr3 => ?_⟩
  have hrs : Rs p1 p0 := zb_1 h2
  unfold post_X7_in at hr3
  have e0 : (0 : Int64).toInt = 0 := rfl
  have e1 : (1000000000000 : Int64).toInt = 1000000000000 := rfl
  rw [e0, e1] at hr3
  subst hr3
  refine ⟨fun h3 => Or.inl ⟨Or.inr (Or.inr ?_), rfl⟩, fun h3 => ⟨⟨by omega, hrs.1, (zb_1 h3).1⟩, fun r4 hr4 => Or.inr ⟨⟨hdv, hrs, (zb_1 h3).1, (zb_1 h3).2⟩, hr4⟩⟩⟩
  have := zb_0 h3
  omega
set_option maxHeartbeats 4000000 in
set_option maxRecDepth 100000 in
theorem met_X6_power (l : Launch) (D : va_G) (cy : Nat → ClassId) (ad : Nat → Nat) (sz : Nat) (g : Gs) (a : As) (w : Ws) (p0 : Int32) (p1 : Int32) (p2 : Int64) (post : Int32 → Prop)
  (hV : ∀ r1 : Int32, post_X6_isDivisor p0 r1 → ((r1 = 0 → post (-1 : Int32)) ∧ (¬ r1 = 0 → ∀ r9 : Int32, post_X6_isRest p1 p0 r9 → ((r9 = 0 → post (-1 : Int32)) ∧ (¬ r9 = 0 → ((p2 < (0 : Int64) → post (-1 : Int32)) ∧ (¬ p2 < (0 : Int64) → ((p2 ≤ (1000000000000 : Int64) → pre_X4_raise p1.toInt64 p2 p0 ∧ (∀ r35 : Int32, post_X4_raise p1.toInt64 p2 p0 r35 → post r35)) ∧ (¬ p2 ≤ (1000000000000 : Int64) → post (-1 : Int32)))))))))) :
  Met l yX6_power wsX6_power ({ frames := 1, cells := 0, slots := 0, locals := 31 } : Room) (va_Pc [.ref (ad 0), .int p0, .int p1, .long p2] (ArP D cy sz (caW ad cy g a w))) (Qpi post) 0 0 noF := by
  refine Met.ofW (cc := cX6_power) (maxL := 5) (ret := (some .int)) (by decide) rfl ?_
  intro p e s m args below meth c s₁ B hml hv
  obtain ⟨rfl, hsz, hP, hK, hD0, hN⟩ := hv
  have hx := B.exec
  have hb := B.bytes
  have hr := B.returns
  have hts := atoms_spec (ws := wsX6_power) B.pre
  have hown : s.vm.findClass RX6 = some m.cls := findClass_of_methodNamed B.named
  have hlocks := B.notSynchronized
  subst hsz
  have hP : va_P D vwCl (caW ad cy g a w) s.heap := hP
  have hD : va_D (fun _ => True) (caW ad cy g a w) := hD0
  have hl := lv_entry ([.ref (ad 0), .int p0, .int p1, .long p2]) (n := 5) (Nat.le_of_ble_eq_true rfl)
  rw [lg_entry_eq]
  generalize (lg_sl ([.ref (ad 0), .int p0, .int p1, .long p2]) ++ List.replicate (5 - (lg_sl ([.ref (ad 0), .int p0, .int p1, .long p2])).length) Slot.unset).toArray = ls at hl ⊢
  have hl : lv_has ls 5 [(0, .ref (ad 0)), (1, .int p0), (2, .int p1), (3, .long p2)] := hl
  refine lv_iload_n hx hb dX6_power_0 rfl (lv_at hl 1 rfl) ?_
  refine cp_i (va_runS (As := [.int p0]) (rest := []) ⟨hx, hb, hml, hown, hts⟩ (spec_X6_isDivisor l p0) (va_cwS 1 hts gX6_power_X6_isDivisor rfl rfl rfl (by decide +kernel) ⟨Nat.le_of_ble_eq_true rfl, Nat.le_of_ble_eq_true rfl⟩) cp_pre rfl rfl hl.1 rfl (lv_room (Nat.le_of_ble_eq_true rfl)) dX6_power_1 ⟨Nat.zero_le _, Nat.zero_le _⟩) (fun r1 q_1 => ?_)
  have hV := hV r1 q_1
  refine lv_if_eq (tgt := 29) hx hb dX6_power_4 (by decide) (fun c_4 => ?_) (fun c_4 => ?_)
  · have hV := hV.1 c_4
    refine lv_iconst (v := (-1 : Int32)) hx hb dX6_power_29 (by decide) ?_
    exact W.iret (v := (-1 : Int32)) hx hb hr (fun t ht hW => ⟨_, rfl, hV, ht⟩) (fun _ h => by cases h) dX6_power_30
  · have hV := hV.2 c_4
    refine lv_iload_n hx hb dX6_power_7 rfl (lv_at hl 2 rfl) ?_
    refine lv_iload_n hx hb dX6_power_8 rfl (lv_at hl 1 rfl) ?_
    refine cp_i (va_runS (As := [.int p1, .int p0]) (rest := []) ⟨hx, hb, hml, hown, hts⟩ (spec_X6_isRest l p1 p0) (va_cwS 2 hts gX6_power_X6_isRest rfl rfl rfl (by decide +kernel) ⟨Nat.le_of_ble_eq_true rfl, Nat.le_of_ble_eq_true rfl⟩) cp_pre rfl rfl hl.1 rfl (lv_room (Nat.le_of_ble_eq_true rfl)) dX6_power_9 ⟨Nat.zero_le _, Nat.zero_le _⟩) (fun r9 q_9 => ?_)
    have hV := hV r9 q_9
    refine lv_if_eq (tgt := 29) hx hb dX6_power_12 (by decide) (fun c_12 => ?_) (fun c_12 => ?_)
    · have hV := hV.1 c_12
      refine lv_iconst (v := (-1 : Int32)) hx hb dX6_power_29 (by decide) ?_
      exact W.iret (v := (-1 : Int32)) hx hb hr (fun t ht hW => ⟨_, rfl, hV, ht⟩) (fun _ h => by cases h) dX6_power_30
    · have hV := hV.2 c_12
      refine lv_lload_n hx hb dX6_power_15 rfl (lv_at hl 3 rfl) ?_
      refine lv_lconst (v := (0 : Int64)) hx hb dX6_power_16 (by decide) ?_
      refine lc_lt (tgt := 29) hx hb dX6_power_17 dX6_power_18 (by decide) (fun c_17 => ?_) (fun c_17 => ?_)
      · have hV := hV.1 c_17
        refine lv_iconst (v := (-1 : Int32)) hx hb dX6_power_29 (by decide) ?_
        exact W.iret (v := (-1 : Int32)) hx hb hr (fun t ht hW => ⟨_, rfl, hV, ht⟩) (fun _ h => by cases h) dX6_power_30
      · have hV := hV.2 c_17
        refine lv_lload_n hx hb dX6_power_21 rfl (lv_at hl 3 rfl) ?_
        refine lv_ldc2 (v := (1000000000000 : Int64)) hx hb hown (hts (.constantLong RX6 92 (1000000000000)) (by decide +kernel)) dX6_power_22 ?_
        refine lc_le (tgt := 31) hx hb dX6_power_25 dX6_power_26 (by decide) (fun c_25 => ?_) (fun c_25 => ?_)
        · have hV := hV.1 c_25
          refine lv_iload_n hx hb dX6_power_31 rfl (lv_at hl 2 rfl) ?_
          refine lv_i2l (v := p1.toInt64) hx hb dX6_power_32 rfl ?_
          refine lv_lload_n hx hb dX6_power_33 rfl (lv_at hl 3 rfl) ?_
          refine lv_iload_n hx hb dX6_power_34 rfl (lv_at hl 1 rfl) ?_
          obtain ⟨h_35, hV⟩ := hV
          refine cp_i (va_runS (As := [.long p1.toInt64, .long p2, .int p0]) (rest := []) ⟨hx, hb, hml, hown, hts⟩ (spec_X4_raise l p1.toInt64 p2 p0 h_35) (va_cwS 3 hts gX6_power_X4_raise rfl rfl rfl (by decide +kernel) ⟨Nat.le_of_ble_eq_true rfl, Nat.le_of_ble_eq_true rfl⟩) cp_pre rfl rfl hl.1 rfl (lv_room (Nat.le_of_ble_eq_true rfl)) dX6_power_35 ⟨Nat.zero_le _, Nat.zero_le _⟩) (fun r35 q_35 => ?_)
          have hV := hV r35 q_35
          exact W.iret (v := r35) hx hb hr (fun t ht hW => ⟨_, rfl, hV, ht⟩) (fun _ h => by cases h) dX6_power_38
        · have hV := hV.2 c_25
          refine lv_iconst (v := (-1 : Int32)) hx hb dX6_power_29 (by decide) ?_
          exact W.iret (v := (-1 : Int32)) hx hb hr (fun t ht hW => ⟨_, rfl, hV, ht⟩) (fun _ h => by cases h) dX6_power_30
def post_X6_power (g : Gs) (a : As) (w : Ws) (p0 p1 : Int32) (p2 : Int64) (r : Int32) : Prop := PowerAns p0 p1 p2 r
theorem tl_i {x : Int32} (h : 0 ≤ x.toInt) : tl x.toInt64 = tn x := by
  show x.toInt64.toInt.toNat = x.toInt.toNat
  rw [il_t]
set_option maxRecDepth 4000 in
theorem spec_X6_power (l : Launch) (D : va_G) (cy : Nat → ClassId) (ad : Nat → Nat) (sz : Nat) (g : Gs) (a : As) (w : Ws) (p0 : Int32) (p1 : Int32) (p2 : Int64) : Met l yX6_power wsX6_power ({ frames := 1, cells := 0, slots := 0, locals := 31 } : Room) (va_Pc [.ref (ad 0), .int p0, .int p1, .long p2] (ArP D cy sz (caW ad cy g a w))) (Qpi (post_X6_power g a w p0 p1 p2)) 0 0 noF := by
  apply met_X6_power
  intro r hr
  unfold post_X6_isDivisor at hr
  subst hr
  refine ⟨fun h => Or.inl ⟨Or.inl (zb_0 h), rfl⟩, fun h r2 hr2 => ?_⟩
  have hdv : Dv p0 := zb_1 h
  obtain ⟨d1, d2⟩ := id hdv
  unfold post_X6_isRest at hr2
  subst hr2
  have e0 : (0 : Int64).toInt = 0 := rfl
  have e1 : (1000000000000 : Int64).toInt = 1000000000000 := rfl
  refine ⟨fun h2 => Or.inl ⟨Or.inr (Or.inl (zb_0 h2)), rfl⟩, fun h2 => ⟨fun h3 => Or.inl ⟨Or.inr (Or.inr (Or.inl (by rw [l_lt, e0] at h3; exact h3))), rfl⟩, fun h3 => ⟨fun h4 => ?_, fun h4 => Or.inl ⟨Or.inr (Or.inr (Or.inr (by rw [l_le, e1] at h4; omega))), rfl⟩⟩⟩⟩
  have hrs : Rs p1 p0 := zb_1 h2
  obtain ⟨s1, s2⟩ := id hrs
  rw [l_lt, e0] at h3
  rw [l_le, e1] at h4
  refine ⟨⟨by rw [il_t]; exact s1, by omega, by omega, by omega⟩, fun r4 hr4 => Or.inr ⟨⟨hdv, hrs, by omega, h4⟩, ?_⟩⟩
  unfold post_X4_raise at hr4
  rw [tl_i s1] at hr4
  exact hr4
/-- LOG -/
def LogR (n a b r : Int32) : Prop := ((¬ Dv n ∨ ¬ Rs a n ∨ ¬ Rs b n) ∧ r = -1) ∨ ((Dv n ∧ Rs a n ∧ Rs b n) ∧ LogAns (tn n) (tn a) (tn b) r)
theorem LogAns.one {n a b : Nat} {r r' : Int32} (h : LogAns n a b r) (h' : LogAns n a b r') : r = r' := by
  rcases h with ⟨e, h1, h2, h3⟩ | ⟨h1, h2⟩ <;> rcases h' with ⟨f, k1, k2, k3⟩ | ⟨k1, k2⟩
  · have : e = f := by
      rcases Nat.lt_trichotomy e f with q | q | q
      · exact absurd h2.1 (k2.2 e q)
      · exact q
      · exact absurd k2.1 (h2.2 f q)
    rw [h3, k3, this]
  · exact absurd h2.1 (k1 e h1)
  · exact absurd k2.1 (h1 f k1)
  · rw [h2, k2]
theorem LogR.one {n a b r r' : Int32} (h : LogR n a b r) (h' : LogR n a b r') : r = r' := by
  rcases h with ⟨h1, h2⟩ | ⟨h1, h2⟩ <;> rcases h' with ⟨k1, k2⟩ | ⟨k1, k2⟩
  · rw [h2, k2]
  · rcases h1 with q | q | q
    · exact absurd k1.1 q
    · exact absurd k1.2.1 q
    · exact absurd k1.2.2 q
  · rcases k1 with q | q | q
    · exact absurd h1.1 q
    · exact absurd h1.2.1 q
    · exact absurd h1.2.2 q
  · exact h2.one k2
set_option maxHeartbeats 4000000 in
set_option maxRecDepth 100000 in
theorem met_X6_log (l : Launch) (D : va_G) (cy : Nat → ClassId) (ad : Nat → Nat) (sz : Nat) (g : Gs) (a : As) (w : Ws) (p0 : Int32) (p1 : Int32) (p2 : Int32) (post : Int32 → Prop)
  (hV : ∀ r1 : Int32, post_X6_isDivisor p0 r1 → ((r1 = 0 → post (-1 : Int32)) ∧ (¬ r1 = 0 → ∀ r9 : Int32, post_X6_isRest p1 p0 r9 → ((r9 = 0 → post (-1 : Int32)) ∧ (¬ r9 = 0 → ∀ r17 : Int32, post_X6_isRest p2 p0 r17 → ((r17 = 0 → post (-1 : Int32)) ∧ (¬ r17 = 0 → pre_X6_leastLog p0 p1 p2 ∧ (∀ r28 : Int32, post_X6_leastLog p0 p1 p2 r28 → post r28)))))))) :
  Met l yX6_log wsX6_log ({ frames := 2, cells := 0, slots := 0, locals := 47 } : Room) (va_Pc [.ref (ad 0), .int p0, .int p1, .int p2] (ArP D cy sz (caW ad cy g a w))) (Qpi post) 0 0 noF := by
  refine Met.ofW (cc := cX6_log) (maxL := 4) (ret := (some .int)) (by decide) rfl ?_
  intro p e s m args below meth c s₁ B hml hv
  obtain ⟨rfl, hsz, hP, hK, hD0, hN⟩ := hv
  have hx := B.exec
  have hb := B.bytes
  have hr := B.returns
  have hts := atoms_spec (ws := wsX6_log) B.pre
  have hown : s.vm.findClass RX6 = some m.cls := findClass_of_methodNamed B.named
  have hlocks := B.notSynchronized
  subst hsz
  have hP : va_P D vwCl (caW ad cy g a w) s.heap := hP
  have hD : va_D (fun _ => True) (caW ad cy g a w) := hD0
  have hl := lv_entry ([.ref (ad 0), .int p0, .int p1, .int p2]) (n := 4) (Nat.le_of_ble_eq_true rfl)
  rw [lg_entry_eq]
  generalize (lg_sl ([.ref (ad 0), .int p0, .int p1, .int p2]) ++ List.replicate (4 - (lg_sl ([.ref (ad 0), .int p0, .int p1, .int p2])).length) Slot.unset).toArray = ls at hl ⊢
  have hl : lv_has ls 4 [(0, .ref (ad 0)), (1, .int p0), (2, .int p1), (3, .int p2)] := hl
  refine lv_iload_n hx hb dX6_log_0 rfl (lv_at hl 1 rfl) ?_
  refine cp_i (va_runS (As := [.int p0]) (rest := []) ⟨hx, hb, hml, hown, hts⟩ (spec_X6_isDivisor l p0) (va_cwS 1 hts gX6_log_X6_isDivisor rfl rfl rfl (by decide +kernel) ⟨Nat.le_of_ble_eq_true rfl, Nat.le_of_ble_eq_true rfl⟩) cp_pre rfl rfl hl.1 rfl (lv_room (Nat.le_of_ble_eq_true rfl)) dX6_log_1 ⟨Nat.zero_le _, Nat.zero_le _⟩) (fun r1 q_1 => ?_)
  have hV := hV r1 q_1
  refine lv_if_eq (tgt := 23) hx hb dX6_log_4 (by decide) (fun c_4 => ?_) (fun c_4 => ?_)
  · have hV := hV.1 c_4
    refine lv_iconst (v := (-1 : Int32)) hx hb dX6_log_23 (by decide) ?_
    exact W.iret (v := (-1 : Int32)) hx hb hr (fun t ht hW => ⟨_, rfl, hV, ht⟩) (fun _ h => by cases h) dX6_log_24
  · have hV := hV.2 c_4
    refine lv_iload_n hx hb dX6_log_7 rfl (lv_at hl 2 rfl) ?_
    refine lv_iload_n hx hb dX6_log_8 rfl (lv_at hl 1 rfl) ?_
    refine cp_i (va_runS (As := [.int p1, .int p0]) (rest := []) ⟨hx, hb, hml, hown, hts⟩ (spec_X6_isRest l p1 p0) (va_cwS 2 hts gX6_log_X6_isRest rfl rfl rfl (by decide +kernel) ⟨Nat.le_of_ble_eq_true rfl, Nat.le_of_ble_eq_true rfl⟩) cp_pre rfl rfl hl.1 rfl (lv_room (Nat.le_of_ble_eq_true rfl)) dX6_log_9 ⟨Nat.zero_le _, Nat.zero_le _⟩) (fun r9 q_9 => ?_)
    have hV := hV r9 q_9
    refine lv_if_eq (tgt := 23) hx hb dX6_log_12 (by decide) (fun c_12 => ?_) (fun c_12 => ?_)
    · have hV := hV.1 c_12
      refine lv_iconst (v := (-1 : Int32)) hx hb dX6_log_23 (by decide) ?_
      exact W.iret (v := (-1 : Int32)) hx hb hr (fun t ht hW => ⟨_, rfl, hV, ht⟩) (fun _ h => by cases h) dX6_log_24
    · have hV := hV.2 c_12
      refine lv_iload_n hx hb dX6_log_15 rfl (lv_at hl 3 rfl) ?_
      refine lv_iload_n hx hb dX6_log_16 rfl (lv_at hl 1 rfl) ?_
      refine cp_i (va_runS (As := [.int p2, .int p0]) (rest := []) ⟨hx, hb, hml, hown, hts⟩ (spec_X6_isRest l p2 p0) (va_cwS 2 hts gX6_log_X6_isRest rfl rfl rfl (by decide +kernel) ⟨Nat.le_of_ble_eq_true rfl, Nat.le_of_ble_eq_true rfl⟩) cp_pre rfl rfl hl.1 rfl (lv_room (Nat.le_of_ble_eq_true rfl)) dX6_log_17 ⟨Nat.zero_le _, Nat.zero_le _⟩) (fun r17 q_17 => ?_)
      have hV := hV r17 q_17
      refine lv_if_ne (tgt := 25) hx hb dX6_log_20 (by decide) (fun c_20 => ?_) (fun c_20 => ?_)
      · have hV := hV.2 c_20
        refine lv_iload_n hx hb dX6_log_25 rfl (lv_at hl 1 rfl) ?_
        refine lv_iload_n hx hb dX6_log_26 rfl (lv_at hl 2 rfl) ?_
        refine lv_iload_n hx hb dX6_log_27 rfl (lv_at hl 3 rfl) ?_
        obtain ⟨h_28, hV⟩ := hV
        refine cp_i (va_runS (As := [.int p0, .int p1, .int p2]) (rest := []) ⟨hx, hb, hml, hown, hts⟩ (spec_X6_leastLog l p0 p1 p2 h_28) (va_cwS 3 hts gX6_log_X6_leastLog rfl rfl rfl (by decide +kernel) ⟨Nat.le_of_ble_eq_true rfl, Nat.le_of_ble_eq_true rfl⟩) cp_pre rfl rfl hl.1 rfl (lv_room (Nat.le_of_ble_eq_true rfl)) dX6_log_28 ⟨Nat.zero_le _, Nat.zero_le _⟩) (fun r28 q_28 => ?_)
        have hV := hV r28 q_28
        exact W.iret (v := r28) hx hb hr (fun t ht hW => ⟨_, rfl, hV, ht⟩) (fun _ h => by cases h) dX6_log_31
      · have hV := hV.1 c_20
        refine lv_iconst (v := (-1 : Int32)) hx hb dX6_log_23 (by decide) ?_
        exact W.iret (v := (-1 : Int32)) hx hb hr (fun t ht hW => ⟨_, rfl, hV, ht⟩) (fun _ h => by cases h) dX6_log_24
def post_X6_log (g : Gs) (a : As) (w : Ws) (p0 p1 p2 r : Int32) : Prop := LogR p0 p1 p2 r
set_option maxRecDepth 4000 in
theorem spec_X6_log (l : Launch) (D : va_G) (cy : Nat → ClassId) (ad : Nat → Nat) (sz : Nat) (g : Gs) (a : As) (w : Ws) (p0 : Int32) (p1 : Int32) (p2 : Int32) : Met l yX6_log wsX6_log ({ frames := 2, cells := 0, slots := 0, locals := 47 } : Room) (va_Pc [.ref (ad 0), .int p0, .int p1, .int p2] (ArP D cy sz (caW ad cy g a w))) (Qpi (post_X6_log g a w p0 p1 p2)) 0 0 noF := by
  apply met_X6_log
  intro r hr
  unfold post_X6_isDivisor at hr
  subst hr
  refine ⟨fun h => Or.inl ⟨Or.inl (zb_0 h), rfl⟩, fun h r2 hr2 => ?_⟩
  have hdv : Dv p0 := zb_1 h
  unfold post_X6_isRest at hr2
  subst hr2
  refine ⟨fun h2 => Or.inl ⟨Or.inr (Or.inl (zb_0 h2)), rfl⟩, fun h2 r3 hr3 => ?_⟩
  unfold post_X6_isRest at hr3
  subst hr3
  refine ⟨fun h3 => Or.inl ⟨Or.inr (Or.inr (zb_0 h3)), rfl⟩, fun h3 => ⟨⟨hdv.1, (zb_1 h2).1, (zb_1 h2).2, (zb_1 h3).1, (zb_1 h3).2⟩, fun r4 hr4 => Or.inr ⟨⟨hdv, zb_1 h2, zb_1 h3⟩, hr4⟩⟩⟩
theorem log_more {n a b : Nat} (hn : 0 < n) (h : ∀ e, e < n → ¬ a ^ e % n = b) : ¬ a ^ n % n = b := by
  obtain ⟨i, j, h1, h2, h3⟩ := fb_twice (m := n) (n := n + 1) (f := fun i => a ^ i % n) (fun i _ => Nat.mod_lt _ hn) (Nat.lt_succ_self n)
  have h3 : a ^ i % n = a ^ j % n := h3
  intro hb
  refine h (i + (n - j)) (by omega) ?_
  rw [← hb]
  have e1 : a ^ n = a ^ j * a ^ (n - j) := by rw [← Nat.pow_add]; congr 1; omega
  rw [e1, Nat.pow_add]
  exact md_mul h3 rfl
set_option maxHeartbeats 4000000 in
set_option maxRecDepth 100000 in
theorem met_X7_log (l : Launch) (D : va_G) (cy : Nat → ClassId) (ad : Nat → Nat) (sz : Nat) (g : Gs) (a : As) (p0 : Int32) (p1 : Int32) (p2 : Int32) (post : Int32 → Prop)
  (hV : ∀ (J31 : Int64 → Int32 → Prop),
    (∀ (x4 : Int64) (x6 : Int32), ((p0 < x6 → post (-4 : Int32)) ∧ (¬ p0 < x6 → ((x4 = p2.toInt64 → post x6) ∧ (¬ x4 = p2.toInt64 → ¬ p0.toInt64 = 0 ∧ (J31 ((x4 * p1.toInt64) - (x4 * p1.toInt64) / p0.toInt64 * p0.toInt64) (x6 + 1)))))) → J31 x4 x6) →
    ∀ r1 : Int32, post_X7_isBy p0 r1 → ((r1 = 0 → post (-1 : Int32)) ∧ (¬ r1 = 0 → pre_X7_isRest p0 p1 ∧ (∀ r9 : Int32, post_X7_isRest p0 p1 r9 → ((r9 = 0 → post (-1 : Int32)) ∧ (¬ r9 = 0 → pre_X7_isRest p0 p2 ∧ (∀ r17 : Int32, post_X7_isRest p0 p2 r17 → ((r17 = 0 → post (-1 : Int32)) ∧ (¬ r17 = 0 → J31 (1 : Int64) (0 : Int32)))))))))) :
  Met l yX7_log wsX7_log ({ frames := 2, cells := 0, slots := 0, locals := 46 } : Room) (va_Pc [.ref (ad 0), .int p0, .int p1, .int p2] (ArP D cy sz (maW ad cy g a))) (Qpi post) 0 0 noF := by
  refine Met.ofW (cc := cX7_log) (maxL := 7) (ret := (some .int)) (by decide) rfl ?_
  intro p e s m args below meth c s₁ B hml hv
  obtain ⟨rfl, hsz, hP, hK, hD0, hN⟩ := hv
  have hx := B.exec
  have hb := B.bytes
  have hr := B.returns
  have hts := atoms_spec (ws := wsX7_log) B.pre
  have hown : s.vm.findClass RX7 = some m.cls := findClass_of_methodNamed B.named
  have hlocks := B.notSynchronized
  subst hsz
  have hP : va_P D vwCl (maW ad cy g a) s.heap := hP
  have hD : va_D (fun _ => True) (maW ad cy g a) := hD0
  obtain ⟨J31, iJ31, oJ31⟩ : ∃ J : Int64 → Int32 → Prop, (∀ (x4 : Int64) (x6 : Int32), (∀ ls : Array Slot, lv_has ls 7 [(1, .int p0), (2, .int p1), (3, .int p2), (4, .long x4), (6, .int x6)] → W p l e (headSpec wsX7_log ({ frames := 2, cells := 0, slots := 0, locals := 46 } : Room)).room s m [.ref (ad 0), .int p0, .int p1, .int p2].toArray below meth c s.heap [] 0 0 (MQ below (Qpi post) [.ref (ad 0), .int p0, .int p1, .int p2].toArray s 0 0 noF) (F0 m 31 ls [])) → J x4 x6) ∧ (∀ (x4 : Int64) (x6 : Int32), J x4 x6 → (∀ ls : Array Slot, lv_has ls 7 [(1, .int p0), (2, .int p1), (3, .int p2), (4, .long x4), (6, .int x6)] → W p l e (headSpec wsX7_log ({ frames := 2, cells := 0, slots := 0, locals := 46 } : Room)).room s m [.ref (ad 0), .int p0, .int p1, .int p2].toArray below meth c s.heap [] 0 0 (MQ below (Qpi post) [.ref (ad 0), .int p0, .int p1, .int p2].toArray s 0 0 noF) (F0 m 31 ls []))) := ⟨fun (x4 : Int64) (x6 : Int32) => (∀ ls : Array Slot, lv_has ls 7 [(1, .int p0), (2, .int p1), (3, .int p2), (4, .long x4), (6, .int x6)] → W p l e (headSpec wsX7_log ({ frames := 2, cells := 0, slots := 0, locals := 46 } : Room)).room s m [.ref (ad 0), .int p0, .int p1, .int p2].toArray below meth c s.heap [] 0 0 (MQ below (Qpi post) [.ref (ad 0), .int p0, .int p1, .int p2].toArray s 0 0 noF) (F0 m 31 ls [])), fun _ _ h => h, fun _ _ h => h⟩
  have hV := hV J31
  replace hV := hV (by
    intro x4 x6 hV
    refine iJ31 x4 x6 ?_
    intro ls hl
    refine lv_iload hx hb dX7_log_31 (lv_at hl 4 rfl) ?_
    refine lv_iload_n hx hb dX7_log_33 rfl (lv_at hl 0 rfl) ?_
    refine lv_icmp_gt (tgt := 64) hx hb dX7_log_34 (by decide) (fun c_34 => ?_) (fun c_34 => ?_)
    · have hV := hV.1 c_34
      refine lv_bipush (v := (-4 : Int32)) hx hb dX7_log_64 (by decide) ?_
      exact W.iret (v := (-4 : Int32)) hx hb hr (fun t ht hW => ⟨_, rfl, hV, ht⟩) (fun _ h => by cases h) dX7_log_66
    · have hV := hV.2 c_34
      refine lv_lload hx hb dX7_log_37 (lv_at hl 3 rfl) ?_
      refine lv_iload_n hx hb dX7_log_39 rfl (lv_at hl 2 rfl) ?_
      refine lv_i2l (v := p2.toInt64) hx hb dX7_log_40 rfl ?_
      refine lc_ne (tgt := 48) hx hb dX7_log_41 dX7_log_42 (by decide) (fun c_41 => ?_) (fun c_41 => ?_)
      · have hV := hV.2 c_41
        refine lv_lload hx hb dX7_log_48 (lv_at hl 3 rfl) ?_
        refine lv_iload_n hx hb dX7_log_50 rfl (lv_at hl 1 rfl) ?_
        refine lv_i2l (v := p1.toInt64) hx hb dX7_log_51 rfl ?_
        refine lv_lmul hx hb dX7_log_52 ?_
        refine lv_iload_n hx hb dX7_log_53 rfl (lv_at hl 0 rfl) ?_
        refine lv_i2l (v := p0.toInt64) hx hb dX7_log_54 rfl ?_
        obtain ⟨h_55, hV⟩ := hV
        refine lv_lrem hx hb dX7_log_55 h_55 ?_
        refine lv_lstore (lv' := [(4, .long ((x4 * p1.toInt64) - (x4 * p1.toInt64) / p0.toInt64 * p0.toInt64)), (1, .int p0), (2, .int p1), (3, .int p2), (6, .int x6)]) hx hb dX7_log_56 hl (by decide) rfl (fun ls hl => ?_)
        refine lv_iinc (v := x6 + 1) (lv' := [(6, .int (x6 + 1)), (4, .long ((x4 * p1.toInt64) - (x4 * p1.toInt64) / p0.toInt64 * p0.toInt64)), (1, .int p0), (2, .int p1), (3, .int p2)]) hx hb dX7_log_58 hl (k := 4) rfl rfl (by decide) rfl (fun ls hl => ?_)
        refine lv_goto (tgt := 31) hx hb dX7_log_61 (by decide) ?_
        exact oJ31 _ _ hV _ (lv_sub hl [2, 3, 4, 1, 0] rfl)
      · have hV := hV.1 c_41
        refine lv_iload hx hb dX7_log_45 (lv_at hl 4 rfl) ?_
        exact W.iret (v := x6) hx hb hr (fun t ht hW => ⟨_, rfl, hV, ht⟩) (fun _ h => by cases h) dX7_log_47)
  have hl := lv_entry ([.ref (ad 0), .int p0, .int p1, .int p2]) (n := 7) (Nat.le_of_ble_eq_true rfl)
  rw [lg_entry_eq]
  generalize (lg_sl ([.ref (ad 0), .int p0, .int p1, .int p2]) ++ List.replicate (7 - (lg_sl ([.ref (ad 0), .int p0, .int p1, .int p2])).length) Slot.unset).toArray = ls at hl ⊢
  have hl : lv_has ls 7 [(0, .ref (ad 0)), (1, .int p0), (2, .int p1), (3, .int p2)] := hl
  refine lv_iload_n hx hb dX7_log_0 rfl (lv_at hl 1 rfl) ?_
  refine cp_i (va_runS (As := [.int p0]) (rest := []) ⟨hx, hb, hml, hown, hts⟩ (spec_X7_isBy l p0) (va_cwS 1 hts gX7_log_X7_isBy rfl rfl rfl (by decide +kernel) ⟨Nat.le_of_ble_eq_true rfl, Nat.le_of_ble_eq_true rfl⟩) cp_pre rfl rfl hl.1 rfl (lv_room (Nat.le_of_ble_eq_true rfl)) dX7_log_1 ⟨Nat.zero_le _, Nat.zero_le _⟩) (fun r1 q_1 => ?_)
  have hV := hV r1 q_1
  refine lv_if_eq (tgt := 23) hx hb dX7_log_4 (by decide) (fun c_4 => ?_) (fun c_4 => ?_)
  · have hV := hV.1 c_4
    refine lv_iconst (v := (-1 : Int32)) hx hb dX7_log_23 (by decide) ?_
    exact W.iret (v := (-1 : Int32)) hx hb hr (fun t ht hW => ⟨_, rfl, hV, ht⟩) (fun _ h => by cases h) dX7_log_24
  · have hV := hV.2 c_4
    refine lv_iload_n hx hb dX7_log_7 rfl (lv_at hl 1 rfl) ?_
    refine lv_iload_n hx hb dX7_log_8 rfl (lv_at hl 2 rfl) ?_
    obtain ⟨h_9, hV⟩ := hV
    refine cp_i (va_runS (As := [.int p0, .int p1]) (rest := []) ⟨hx, hb, hml, hown, hts⟩ (spec_X7_isRest l p0 p1 h_9) (va_cwS 2 hts gX7_log_X7_isRest rfl rfl rfl (by decide +kernel) ⟨Nat.le_of_ble_eq_true rfl, Nat.le_of_ble_eq_true rfl⟩) cp_pre rfl rfl hl.1 rfl (lv_room (Nat.le_of_ble_eq_true rfl)) dX7_log_9 ⟨Nat.zero_le _, Nat.zero_le _⟩) (fun r9 q_9 => ?_)
    have hV := hV r9 q_9
    refine lv_if_eq (tgt := 23) hx hb dX7_log_12 (by decide) (fun c_12 => ?_) (fun c_12 => ?_)
    · have hV := hV.1 c_12
      refine lv_iconst (v := (-1 : Int32)) hx hb dX7_log_23 (by decide) ?_
      exact W.iret (v := (-1 : Int32)) hx hb hr (fun t ht hW => ⟨_, rfl, hV, ht⟩) (fun _ h => by cases h) dX7_log_24
    · have hV := hV.2 c_12
      refine lv_iload_n hx hb dX7_log_15 rfl (lv_at hl 1 rfl) ?_
      refine lv_iload_n hx hb dX7_log_16 rfl (lv_at hl 3 rfl) ?_
      obtain ⟨h_17, hV⟩ := hV
      refine cp_i (va_runS (As := [.int p0, .int p2]) (rest := []) ⟨hx, hb, hml, hown, hts⟩ (spec_X7_isRest l p0 p2 h_17) (va_cwS 2 hts gX7_log_X7_isRest rfl rfl rfl (by decide +kernel) ⟨Nat.le_of_ble_eq_true rfl, Nat.le_of_ble_eq_true rfl⟩) cp_pre rfl rfl hl.1 rfl (lv_room (Nat.le_of_ble_eq_true rfl)) dX7_log_17 ⟨Nat.zero_le _, Nat.zero_le _⟩) (fun r17 q_17 => ?_)
      have hV := hV r17 q_17
      refine lv_if_ne (tgt := 25) hx hb dX7_log_20 (by decide) (fun c_20 => ?_) (fun c_20 => ?_)
      · have hV := hV.2 c_20
        refine lv_lconst (v := (1 : Int64)) hx hb dX7_log_25 (by decide) ?_
        refine lv_lstore (lv' := [(4, .long (1 : Int64)), (0, .ref (ad 0)), (1, .int p0), (2, .int p1), (3, .int p2)]) hx hb dX7_log_26 hl (by decide) rfl (fun ls hl => ?_)
        refine lv_iconst (v := (0 : Int32)) hx hb dX7_log_28 (by decide) ?_
        refine lv_istore (lv' := [(6, .int (0 : Int32)), (4, .long (1 : Int64)), (0, .ref (ad 0)), (1, .int p0), (2, .int p1), (3, .int p2)]) hx hb dX7_log_29 hl (by decide) rfl (fun ls hl => ?_)
        exact oJ31 _ _ hV _ (lv_sub hl [3, 4, 5, 1, 0] rfl)
      · have hV := hV.1 c_20
        refine lv_iconst (v := (-1 : Int32)) hx hb dX7_log_23 (by decide) ?_
        exact W.iret (v := (-1 : Int32)) hx hb hr (fun t ht hW => ⟨_, rfl, hV, ht⟩) (fun _ h => by cases h) dX7_log_24
def post_X7_log (g : Gs) (a : As) (p0 p1 p2 r : Int32) : Prop := LogR p0 p1 p2 r
set_option maxRecDepth 4000 in
theorem spec_X7_log (l : Launch) (D : va_G) (cy : Nat → ClassId) (ad : Nat → Nat) (sz : Nat) (g : Gs) (a : As) (p0 : Int32) (p1 : Int32) (p2 : Int32) : Met l yX7_log wsX7_log ({ frames := 2, cells := 0, slots := 0, locals := 46 } : Room) (va_Pc [.ref (ad 0), .int p0, .int p1, .int p2] (ArP D cy sz (maW ad cy g a))) (Qpi (post_X7_log g a p0 p1 p2)) 0 0 noF := by
  apply met_X7_log
  intro J hJ r hr
  unfold post_X7_isBy at hr
  subst hr
  refine ⟨fun h => Or.inl ⟨Or.inl (zb_0 h), rfl⟩, fun h => ?_⟩
  have hdv : Dv p0 := zb_1 h
  obtain ⟨d1, d2⟩ := id hdv
  refine ⟨show 1 ≤ p0.toInt by omega, fun r2 hr2 => ?_⟩
  unfold post_X7_isRest at hr2
  subst hr2
  refine ⟨fun h2 => Or.inl ⟨Or.inr (Or.inl (zb_0 h2)), rfl⟩, fun h2 => ⟨show 1 ≤ p0.toInt by omega, fun r3 hr3 => ?_⟩⟩
  unfold post_X7_isRest at hr3
  subst hr3
  refine ⟨fun h3 => Or.inl ⟨Or.inr (Or.inr (zb_0 h3)), rfl⟩, fun h3 => ?_⟩
  have hra : Rs p1 p0 := zb_1 h2
  have hrb : Rs p2 p0 := zb_1 h3
  obtain ⟨s1, s2⟩ := id hra
  obtain ⟨u1, u2⟩ := id hrb
  obtain ⟨n, hn, rfl, hn2⟩ := of_i (x := p0) (by omega)
  obtain ⟨x, hx, rfl, hx2⟩ := of_i s1
  obtain ⟨y, hy, rfl, hy2⟩ := of_i u1
  have hz : ¬ lN n = 0 := lN_nz (by omega) (by omega)
  rw [nI_l hn, nI_l hx, nI_l hy] at hJ
  have good : ∀ r, LogAns n x y r → post_X7_log g a (nI n) (nI x) (nI y) r := fun r h => Or.inr ⟨⟨hdv, hra, hrb⟩, by rw [tn_nI hn, tn_nI hx, tn_nI hy]; exact h⟩
  have key : ∀ d k : Nat, k + d = n + 1 → (∀ j, j < k → ¬ x ^ j % n = y) → J (lN (x ^ k % n)) (nI k) := by
    intro d
    induction d with
    | zero =>
      intro k hk hi
      exact hJ _ _ (pk_lt n k (fun _ => good _ (Or.inr ⟨fun e he => hi e (by omega), rfl⟩)) (fun h => absurd h (by omega)))
    | succ d ih =>
      intro k hk hi
      have hlt := Nat.mod_lt (x ^ k) (show 0 < n by omega)
      refine hJ _ _ (pk_lt n k (fun h => absurd h (by omega)) (fun _ => ql_eq (x ^ k % n) y (fun h => ?_) (fun h => ⟨hz, ?_⟩)))
      · by_cases hkn : k < n
        · exact good _ (Or.inl ⟨k, hkn, ⟨h, hi⟩, rfl⟩)
        · have : k = n := by omega
          subst this
          exact absurd h (log_more (by omega) hi)
      · have hm := mul_lt62 hn hlt (show x < n by omega)
        rw [lN_mul, pk_lRem (by omega) (by omega) (by omega), nI_1]
        have e1 : x ^ k % n * x % n = x ^ (k + 1) % n := by rw [Nat.mod_mul_mod, ← Nat.pow_succ]
        rw [e1]
        refine ih (k + 1) (by omega) (fun j hj => ?_)
        by_cases hjk : j = k
        · subst hjk; exact h
        · exact hi j (by omega)
  have := key (n + 1) 0 (by omega) (fun j h => by omega)
  rwa [Nat.pow_zero, Nat.mod_eq_of_lt (by omega)] at this
