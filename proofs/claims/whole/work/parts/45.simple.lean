/-- ROOTS -/
def RtB (n a e x : Nat) : Bool := decide (x ^ e % n = a)
def RootsAns (n a e i r : Int32) : Prop := ((¬ Dv n ∨ ¬ Rs a n ∨ e.toInt < 1 ∨ 100 < e.toInt ∨ i.toInt < -1) ∧ r = -1) ∨ ((Dv n ∧ Rs a n ∧ 1 ≤ e.toInt ∧ e.toInt ≤ 100 ∧ -1 ≤ i.toInt) ∧ Ith (RtB (tn n) (tn a) (tn e)) (tn n) i r)
set_option maxHeartbeats 4000000 in
set_option maxRecDepth 100000 in
theorem met_X6_roots (l : Launch) (D : va_G) (cy : Nat → ClassId) (ad : Nat → Nat) (sz : Nat) (g : Gs) (a : As) (w : Ws) (p0 : Int32) (p1 : Int32) (p2 : Int32) (p3 : Int32) (post : Int32 → Prop)
  (hV : ∀ (J40 : Int32 → Int32 → Prop),
    (∀ (x5 : Int32) (x6 : Int32), ((p0 ≤ x6 → ((p3 = (-1 : Int32) → post x5) ∧ (¬ p3 = (-1 : Int32) → post (-4 : Int32)))) ∧ (¬ p0 ≤ x6 → pre_X4_raise x6.toInt64 p2.toInt64 p0 ∧ (∀ r52 : Int32, post_X4_raise x6.toInt64 p2.toInt64 p0 r52 → ((r52 = p1 → ((x5 = p3 → post x6) ∧ (¬ x5 = p3 → J40 (x5 + 1) (x6 + 1)))) ∧ (¬ r52 = p1 → J40 x5 (x6 + 1)))))) → J40 x5 x6) →
    ∀ r1 : Int32, post_X6_isDivisor p0 r1 → ((r1 = 0 → post (-1 : Int32)) ∧ (¬ r1 = 0 → ∀ r9 : Int32, post_X6_isRest p1 p0 r9 → ((r9 = 0 → post (-1 : Int32)) ∧ (¬ r9 = 0 → ((p2 < (1 : Int32) → post (-1 : Int32)) ∧ (¬ p2 < (1 : Int32) → (((100 : Int32) < p2 → post (-1 : Int32)) ∧ (¬ (100 : Int32) < p2 → (((-1 : Int32) ≤ p3 → J40 (0 : Int32) (0 : Int32)) ∧ (¬ (-1 : Int32) ≤ p3 → post (-1 : Int32)))))))))))) :
  Met l yX6_roots wsX6_roots ({ frames := 1, cells := 0, slots := 0, locals := 31 } : Room) (va_Pc [.ref (ad 0), .int p0, .int p1, .int p2, .int p3] (ArP D cy sz (caW ad cy g a w))) (Qpi post) 0 0 noF := by
  refine Met.ofW (cc := cX6_roots) (maxL := 7) (ret := (some .int)) (by decide) rfl ?_
  intro p e s m args below meth c s₁ B hml hv
  obtain ⟨rfl, hsz, hP, hK, hD0, hN⟩ := hv
  have hx := B.exec
  have hb := B.bytes
  have hr := B.returns
  have hts := atoms_spec (ws := wsX6_roots) B.pre
  have hown : s.vm.findClass RX6 = some m.cls := findClass_of_methodNamed B.named
  have hlocks := B.notSynchronized
  subst hsz
  have hP : va_P D vwCl (caW ad cy g a w) s.heap := hP
  have hD : va_D (fun _ => True) (caW ad cy g a w) := hD0
  obtain ⟨J40, iJ40, oJ40⟩ : ∃ J : Int32 → Int32 → Prop, (∀ (x5 : Int32) (x6 : Int32), (∀ ls : Array Slot, lv_has ls 7 [(1, .int p0), (2, .int p1), (3, .int p2), (4, .int p3), (5, .int x5), (6, .int x6)] → W p l e (headSpec wsX6_roots ({ frames := 1, cells := 0, slots := 0, locals := 31 } : Room)).room s m [.ref (ad 0), .int p0, .int p1, .int p2, .int p3].toArray below meth c s.heap [] 0 0 (MQ below (Qpi post) [.ref (ad 0), .int p0, .int p1, .int p2, .int p3].toArray s 0 0 noF) (F0 m 40 ls [])) → J x5 x6) ∧ (∀ (x5 : Int32) (x6 : Int32), J x5 x6 → (∀ ls : Array Slot, lv_has ls 7 [(1, .int p0), (2, .int p1), (3, .int p2), (4, .int p3), (5, .int x5), (6, .int x6)] → W p l e (headSpec wsX6_roots ({ frames := 1, cells := 0, slots := 0, locals := 31 } : Room)).room s m [.ref (ad 0), .int p0, .int p1, .int p2, .int p3].toArray below meth c s.heap [] 0 0 (MQ below (Qpi post) [.ref (ad 0), .int p0, .int p1, .int p2, .int p3].toArray s 0 0 noF) (F0 m 40 ls []))) := ⟨fun (x5 : Int32) (x6 : Int32) => (∀ ls : Array Slot, lv_has ls 7 [(1, .int p0), (2, .int p1), (3, .int p2), (4, .int p3), (5, .int x5), (6, .int x6)] → W p l e (headSpec wsX6_roots ({ frames := 1, cells := 0, slots := 0, locals := 31 } : Room)).room s m [.ref (ad 0), .int p0, .int p1, .int p2, .int p3].toArray below meth c s.heap [] 0 0 (MQ below (Qpi post) [.ref (ad 0), .int p0, .int p1, .int p2, .int p3].toArray s 0 0 noF) (F0 m 40 ls [])), fun _ _ h => h, fun _ _ h => h⟩
  have hV := hV J40
  replace hV := hV (by
    intro x5 x6 hV
    refine iJ40 x5 x6 ?_
    intro ls hl
    refine lv_iload hx hb dX6_roots_40 (lv_at hl 5 rfl) ?_
    refine lv_iload_n hx hb dX6_roots_42 rfl (lv_at hl 0 rfl) ?_
    refine lv_icmp_ge (tgt := 78) hx hb dX6_roots_43 (by decide) (fun c_43 => ?_) (fun c_43 => ?_)
    · have hV := hV.1 c_43
      refine lv_iload hx hb dX6_roots_78 (lv_at hl 3 rfl) ?_
      refine lv_iconst (v := (-1 : Int32)) hx hb dX6_roots_80 (by decide) ?_
      refine lv_icmp_ne (tgt := 89) hx hb dX6_roots_81 (by decide) (fun c_81 => ?_) (fun c_81 => ?_)
      · have hV := hV.2 c_81
        refine lv_bipush (v := (-4 : Int32)) hx hb dX6_roots_89 (by decide) ?_
        exact W.iret (v := (-4 : Int32)) hx hb hr (fun t ht hW => ⟨_, rfl, hV, ht⟩) (fun _ h => by cases h) dX6_roots_91
      · have hV := hV.1 c_81
        refine lv_iload hx hb dX6_roots_84 (lv_at hl 4 rfl) ?_
        refine lv_goto (tgt := 91) hx hb dX6_roots_86 (by decide) ?_
        exact W.iret (v := x5) hx hb hr (fun t ht hW => ⟨_, rfl, hV, ht⟩) (fun _ h => by cases h) dX6_roots_91
    · have hV := hV.2 c_43
      refine lv_iload hx hb dX6_roots_46 (lv_at hl 5 rfl) ?_
      refine lv_i2l (v := x6.toInt64) hx hb dX6_roots_48 rfl ?_
      refine lv_iload_n hx hb dX6_roots_49 rfl (lv_at hl 2 rfl) ?_
      refine lv_i2l (v := p2.toInt64) hx hb dX6_roots_50 rfl ?_
      refine lv_iload_n hx hb dX6_roots_51 rfl (lv_at hl 0 rfl) ?_
      obtain ⟨h_52, hV⟩ := hV
      refine cp_i (va_runS (As := [.long x6.toInt64, .long p2.toInt64, .int p0]) (rest := []) ⟨hx, hb, hml, hown, hts⟩ (spec_X4_raise l x6.toInt64 p2.toInt64 p0 h_52) (va_cwS 3 hts gX6_roots_X4_raise rfl rfl rfl (by decide +kernel) ⟨Nat.le_of_ble_eq_true rfl, Nat.le_of_ble_eq_true rfl⟩) cp_pre rfl rfl hl.1 rfl (lv_room (Nat.le_of_ble_eq_true rfl)) dX6_roots_52 ⟨Nat.zero_le _, Nat.zero_le _⟩) (fun r52 q_52 => ?_)
      have hV := hV r52 q_52
      refine lv_iload_n hx hb dX6_roots_55 rfl (lv_at hl 1 rfl) ?_
      refine lv_icmp_ne (tgt := 72) hx hb dX6_roots_56 (by decide) (fun c_56 => ?_) (fun c_56 => ?_)
      · have hV := hV.2 c_56
        refine lv_iinc (v := x6 + 1) (lv' := [(6, .int (x6 + 1)), (1, .int p0), (2, .int p1), (3, .int p2), (4, .int p3), (5, .int x5)]) hx hb dX6_roots_72 hl (k := 5) rfl rfl (by decide) rfl (fun ls hl => ?_)
        refine lv_goto (tgt := 40) hx hb dX6_roots_75 (by decide) ?_
        exact oJ40 _ _ hV _ (lv_sub hl [1, 2, 3, 4, 5, 0] rfl)
      · have hV := hV.1 c_56
        refine lv_iload hx hb dX6_roots_59 (lv_at hl 4 rfl) ?_
        refine lv_iload hx hb dX6_roots_61 (lv_at hl 3 rfl) ?_
        refine lv_icmp_ne (tgt := 69) hx hb dX6_roots_63 (by decide) (fun c_63 => ?_) (fun c_63 => ?_)
        · have hV := hV.2 c_63
          refine lv_iinc (v := x5 + 1) (lv' := [(5, .int (x5 + 1)), (1, .int p0), (2, .int p1), (3, .int p2), (4, .int p3), (6, .int x6)]) hx hb dX6_roots_69 hl (k := 4) rfl rfl (by decide) rfl (fun ls hl => ?_)
          refine lv_iinc (v := x6 + 1) (lv' := [(6, .int (x6 + 1)), (5, .int (x5 + 1)), (1, .int p0), (2, .int p1), (3, .int p2), (4, .int p3)]) hx hb dX6_roots_72 hl (k := 5) rfl rfl (by decide) rfl (fun ls hl => ?_)
          refine lv_goto (tgt := 40) hx hb dX6_roots_75 (by decide) ?_
          exact oJ40 _ _ hV _ (lv_sub hl [2, 3, 4, 5, 1, 0] rfl)
        · have hV := hV.1 c_63
          refine lv_iload hx hb dX6_roots_66 (lv_at hl 5 rfl) ?_
          exact W.iret (v := x6) hx hb hr (fun t ht hW => ⟨_, rfl, hV, ht⟩) (fun _ h => by cases h) dX6_roots_68)
  have hl := lv_entry ([.ref (ad 0), .int p0, .int p1, .int p2, .int p3]) (n := 7) (Nat.le_of_ble_eq_true rfl)
  rw [lg_entry_eq]
  generalize (lg_sl ([.ref (ad 0), .int p0, .int p1, .int p2, .int p3]) ++ List.replicate (7 - (lg_sl ([.ref (ad 0), .int p0, .int p1, .int p2, .int p3])).length) Slot.unset).toArray = ls at hl ⊢
  have hl : lv_has ls 7 [(0, .ref (ad 0)), (1, .int p0), (2, .int p1), (3, .int p2), (4, .int p3)] := hl
  refine lv_iload_n hx hb dX6_roots_0 rfl (lv_at hl 1 rfl) ?_
  refine cp_i (va_runS (As := [.int p0]) (rest := []) ⟨hx, hb, hml, hown, hts⟩ (spec_X6_isDivisor l p0) (va_cwS 1 hts gX6_roots_X6_isDivisor rfl rfl rfl (by decide +kernel) ⟨Nat.le_of_ble_eq_true rfl, Nat.le_of_ble_eq_true rfl⟩) cp_pre rfl rfl hl.1 rfl (lv_room (Nat.le_of_ble_eq_true rfl)) dX6_roots_1 ⟨Nat.zero_le _, Nat.zero_le _⟩) (fun r1 q_1 => ?_)
  have hV := hV r1 q_1
  refine lv_if_eq (tgt := 32) hx hb dX6_roots_4 (by decide) (fun c_4 => ?_) (fun c_4 => ?_)
  · have hV := hV.1 c_4
    refine lv_iconst (v := (-1 : Int32)) hx hb dX6_roots_32 (by decide) ?_
    exact W.iret (v := (-1 : Int32)) hx hb hr (fun t ht hW => ⟨_, rfl, hV, ht⟩) (fun _ h => by cases h) dX6_roots_33
  · have hV := hV.2 c_4
    refine lv_iload_n hx hb dX6_roots_7 rfl (lv_at hl 2 rfl) ?_
    refine lv_iload_n hx hb dX6_roots_8 rfl (lv_at hl 1 rfl) ?_
    refine cp_i (va_runS (As := [.int p1, .int p0]) (rest := []) ⟨hx, hb, hml, hown, hts⟩ (spec_X6_isRest l p1 p0) (va_cwS 2 hts gX6_roots_X6_isRest rfl rfl rfl (by decide +kernel) ⟨Nat.le_of_ble_eq_true rfl, Nat.le_of_ble_eq_true rfl⟩) cp_pre rfl rfl hl.1 rfl (lv_room (Nat.le_of_ble_eq_true rfl)) dX6_roots_9 ⟨Nat.zero_le _, Nat.zero_le _⟩) (fun r9 q_9 => ?_)
    have hV := hV r9 q_9
    refine lv_if_eq (tgt := 32) hx hb dX6_roots_12 (by decide) (fun c_12 => ?_) (fun c_12 => ?_)
    · have hV := hV.1 c_12
      refine lv_iconst (v := (-1 : Int32)) hx hb dX6_roots_32 (by decide) ?_
      exact W.iret (v := (-1 : Int32)) hx hb hr (fun t ht hW => ⟨_, rfl, hV, ht⟩) (fun _ h => by cases h) dX6_roots_33
    · have hV := hV.2 c_12
      refine lv_iload_n hx hb dX6_roots_15 rfl (lv_at hl 3 rfl) ?_
      refine lv_iconst (v := (1 : Int32)) hx hb dX6_roots_16 (by decide) ?_
      refine lv_icmp_lt (tgt := 32) hx hb dX6_roots_17 (by decide) (fun c_17 => ?_) (fun c_17 => ?_)
      · have hV := hV.1 c_17
        refine lv_iconst (v := (-1 : Int32)) hx hb dX6_roots_32 (by decide) ?_
        exact W.iret (v := (-1 : Int32)) hx hb hr (fun t ht hW => ⟨_, rfl, hV, ht⟩) (fun _ h => by cases h) dX6_roots_33
      · have hV := hV.2 c_17
        refine lv_iload_n hx hb dX6_roots_20 rfl (lv_at hl 3 rfl) ?_
        refine lv_bipush (v := (100 : Int32)) hx hb dX6_roots_21 (by decide) ?_
        refine lv_icmp_gt (tgt := 32) hx hb dX6_roots_23 (by decide) (fun c_23 => ?_) (fun c_23 => ?_)
        · have hV := hV.1 c_23
          refine lv_iconst (v := (-1 : Int32)) hx hb dX6_roots_32 (by decide) ?_
          exact W.iret (v := (-1 : Int32)) hx hb hr (fun t ht hW => ⟨_, rfl, hV, ht⟩) (fun _ h => by cases h) dX6_roots_33
        · have hV := hV.2 c_23
          refine lv_iload hx hb dX6_roots_26 (lv_at hl 4 rfl) ?_
          refine lv_iconst (v := (-1 : Int32)) hx hb dX6_roots_28 (by decide) ?_
          refine lv_icmp_ge (tgt := 34) hx hb dX6_roots_29 (by decide) (fun c_29 => ?_) (fun c_29 => ?_)
          · have hV := hV.1 c_29
            refine lv_iconst (v := (0 : Int32)) hx hb dX6_roots_34 (by decide) ?_
            refine lv_istore (lv' := [(5, .int (0 : Int32)), (0, .ref (ad 0)), (1, .int p0), (2, .int p1), (3, .int p2), (4, .int p3)]) hx hb dX6_roots_35 hl (by decide) rfl (fun ls hl => ?_)
            refine lv_iconst (v := (0 : Int32)) hx hb dX6_roots_37 (by decide) ?_
            refine lv_istore (lv' := [(6, .int (0 : Int32)), (5, .int (0 : Int32)), (0, .ref (ad 0)), (1, .int p0), (2, .int p1), (3, .int p2), (4, .int p3)]) hx hb dX6_roots_38 hl (by decide) rfl (fun ls hl => ?_)
            exact oJ40 _ _ hV _ (lv_sub hl [3, 4, 5, 6, 1, 0] rfl)
          · have hV := hV.2 c_29
            refine lv_iconst (v := (-1 : Int32)) hx hb dX6_roots_32 (by decide) ?_
            exact W.iret (v := (-1 : Int32)) hx hb hr (fun t ht hW => ⟨_, rfl, hV, ht⟩) (fun _ h => by cases h) dX6_roots_33
def post_X6_roots (g : Gs) (a : As) (w : Ws) (p0 p1 p2 p3 r : Int32) : Prop := RootsAns p0 p1 p2 p3 r
set_option maxRecDepth 4000 in
theorem spec_X6_roots (l : Launch) (D : va_G) (cy : Nat → ClassId) (ad : Nat → Nat) (sz : Nat) (g : Gs) (a : As) (w : Ws) (p0 : Int32) (p1 : Int32) (p2 : Int32) (p3 : Int32) : Met l yX6_roots wsX6_roots ({ frames := 1, cells := 0, slots := 0, locals := 31 } : Room) (va_Pc [.ref (ad 0), .int p0, .int p1, .int p2, .int p3] (ArP D cy sz (caW ad cy g a w))) (Qpi (post_X6_roots g a w p0 p1 p2 p3)) 0 0 noF := by
  apply met_X6_roots
  intro J hJ r hr
  unfold post_X6_isDivisor at hr
  subst hr
  have hm1 : (-1 : Int32).toInt = -1 := rfl
  have e1 : (1 : Int32).toInt = 1 := rfl
  have e2 : (100 : Int32).toInt = 100 := rfl
  refine ⟨fun h => Or.inl ⟨Or.inl (zb_0 h), rfl⟩, fun h r2 hr2 => ?_⟩
  unfold post_X6_isRest at hr2
  subst hr2
  refine ⟨fun h2 => Or.inl ⟨Or.inr (Or.inl (zb_0 h2)), rfl⟩, fun h2 => ⟨fun h3 => Or.inl ⟨Or.inr (Or.inr (Or.inl (by rw [i_lt, e1] at h3; exact h3))), rfl⟩, fun h3 => ⟨fun h4 => Or.inl ⟨Or.inr (Or.inr (Or.inr (Or.inl (by rw [i_lt, e2] at h4; exact h4)))), rfl⟩, fun h4 => ⟨fun h5 => ?_, fun h5 => Or.inl ⟨Or.inr (Or.inr (Or.inr (Or.inr (by rw [i_le, hm1] at h5; omega)))), rfl⟩⟩⟩⟩⟩
  have hdv : Dv p0 := zb_1 h
  have hrs : Rs p1 p0 := zb_1 h2
  obtain ⟨d1, d2⟩ := id hdv
  obtain ⟨s1, s2⟩ := id hrs
  rw [i_lt, e1] at h3
  rw [i_lt, e2] at h4
  rw [i_le, hm1] at h5
  obtain ⟨n, hn, rfl, hn2⟩ := of_i (x := p0) (by omega)
  obtain ⟨b, hb, rfl, hb2⟩ := of_i s1
  obtain ⟨e, he, rfl, he2⟩ := of_i (x := p2) (by omega)
  have tnn : tn (nI n) = n := tn_nI hn
  refine ith_loop (J := J) (post := post_X6_roots g a w (nI n) (nI b) (nI e) p3) (p := RtB n b e) (N := n) (lo := 0) (i := p3) hn (Nat.zero_le n) h5 rfl (fun r hr => Or.inr ⟨⟨hdv, hrs, by omega, by omega, h5⟩, by rw [tnn, tn_nI hb, tn_nI he]; exact hr⟩) (fun f hf c1 c2 => hJ _ _ (pk_le n n (fun _ => ⟨c1, c2⟩) (fun h => absurd h (by omega)))) (fun f k hf _ hk c1 c2 c3 => ?_)
  have hml := Nat.mod_lt (k ^ e) (show 0 < n by omega)
  refine hJ _ _ (pk_le n k (fun h => absurd h (by omega)) (fun _ => ?_))
  rw [nI_l (by omega), nI_l he]
  refine ⟨⟨by rw [pk_lT (by omega)]; omega, by rw [pk_lT (by omega)]; omega, by rw [pk_lT (by omega)]; omega, by omega⟩, fun r hr => ?_⟩
  unfold post_X4_raise at hr
  rw [tl_lN (by omega), tl_lN (by omega), tnn] at hr
  subst hr
  rw [nI_1, nI_1]
  exact pk_eq (k ^ e % n) b (fun h6 => ⟨c2 (decide_eq_true h6), c3 (decide_eq_true h6)⟩) (fun h6 => c1 (decide_eq_false h6))
set_option maxHeartbeats 4000000 in
set_option maxRecDepth 100000 in
theorem met_X7_roots (l : Launch) (D : va_G) (cy : Nat → ClassId) (ad : Nat → Nat) (sz : Nat) (g : Gs) (a : As) (p0 : Int32) (p1 : Int32) (p2 : Int32) (p3 : Int32) (post : Int32 → Prop)
  (hV : ∀ (J41 : Int32 → Int32 → Prop),
    (∀ (x5 : Int32) (x6 : Int32), ((p0 ≤ x6 → ((0 ≤ p3 → post (-4 : Int32)) ∧ (¬ 0 ≤ p3 → post x5))) ∧ (¬ p0 ≤ x6 → pre_X7_powerOf p0 x6 p2.toInt64 ∧ (∀ r52 : Int32, post_X7_powerOf p0 x6 p2.toInt64 r52 → ((r52 = p1 → ((x5 = p3 → post x6) ∧ (¬ x5 = p3 → J41 (x5 + 1) (x6 + 1)))) ∧ (¬ r52 = p1 → J41 x5 (x6 + 1)))))) → J41 x5 x6) →
    ∀ r1 : Int32, post_X7_isBy p0 r1 → ((r1 = 0 → post (-1 : Int32)) ∧ (¬ r1 = 0 → pre_X7_isRest p0 p1 ∧ (∀ r9 : Int32, post_X7_isRest p0 p1 r9 → ((r9 = 0 → post (-1 : Int32)) ∧ (¬ r9 = 0 → ∀ r21 : Int32, post_X7_in p2.toInt64 (1 : Int64) (100 : Int64) r21 → ((r21 = 0 → post (-1 : Int32)) ∧ (¬ r21 = 0 → (((-1 : Int32) ≤ p3 → J41 (0 : Int32) (0 : Int32)) ∧ (¬ (-1 : Int32) ≤ p3 → post (-1 : Int32))))))))))) :
  Met l yX7_roots wsX7_roots ({ frames := 2, cells := 0, slots := 0, locals := 46 } : Room) (va_Pc [.ref (ad 0), .int p0, .int p1, .int p2, .int p3] (ArP D cy sz (maW ad cy g a))) (Qpi post) 0 0 noF := by
  refine Met.ofW (cc := cX7_roots) (maxL := 7) (ret := (some .int)) (by decide) rfl ?_
  intro p e s m args below meth c s₁ B hml hv
  obtain ⟨rfl, hsz, hP, hK, hD0, hN⟩ := hv
  have hx := B.exec
  have hb := B.bytes
  have hr := B.returns
  have hts := atoms_spec (ws := wsX7_roots) B.pre
  have hown : s.vm.findClass RX7 = some m.cls := findClass_of_methodNamed B.named
  have hlocks := B.notSynchronized
  subst hsz
  have hP : va_P D vwCl (maW ad cy g a) s.heap := hP
  have hD : va_D (fun _ => True) (maW ad cy g a) := hD0
  obtain ⟨J41, iJ41, oJ41⟩ : ∃ J : Int32 → Int32 → Prop, (∀ (x5 : Int32) (x6 : Int32), (∀ ls : Array Slot, lv_has ls 7 [(1, .int p0), (2, .int p1), (3, .int p2), (4, .int p3), (5, .int x5), (6, .int x6)] → W p l e (headSpec wsX7_roots ({ frames := 2, cells := 0, slots := 0, locals := 46 } : Room)).room s m [.ref (ad 0), .int p0, .int p1, .int p2, .int p3].toArray below meth c s.heap [] 0 0 (MQ below (Qpi post) [.ref (ad 0), .int p0, .int p1, .int p2, .int p3].toArray s 0 0 noF) (F0 m 41 ls [])) → J x5 x6) ∧ (∀ (x5 : Int32) (x6 : Int32), J x5 x6 → (∀ ls : Array Slot, lv_has ls 7 [(1, .int p0), (2, .int p1), (3, .int p2), (4, .int p3), (5, .int x5), (6, .int x6)] → W p l e (headSpec wsX7_roots ({ frames := 2, cells := 0, slots := 0, locals := 46 } : Room)).room s m [.ref (ad 0), .int p0, .int p1, .int p2, .int p3].toArray below meth c s.heap [] 0 0 (MQ below (Qpi post) [.ref (ad 0), .int p0, .int p1, .int p2, .int p3].toArray s 0 0 noF) (F0 m 41 ls []))) := ⟨fun (x5 : Int32) (x6 : Int32) => (∀ ls : Array Slot, lv_has ls 7 [(1, .int p0), (2, .int p1), (3, .int p2), (4, .int p3), (5, .int x5), (6, .int x6)] → W p l e (headSpec wsX7_roots ({ frames := 2, cells := 0, slots := 0, locals := 46 } : Room)).room s m [.ref (ad 0), .int p0, .int p1, .int p2, .int p3].toArray below meth c s.heap [] 0 0 (MQ below (Qpi post) [.ref (ad 0), .int p0, .int p1, .int p2, .int p3].toArray s 0 0 noF) (F0 m 41 ls [])), fun _ _ h => h, fun _ _ h => h⟩
  have hV := hV J41
  replace hV := hV (by
    intro x5 x6 hV
    refine iJ41 x5 x6 ?_
    intro ls hl
    refine lv_iload hx hb dX7_roots_41 (lv_at hl 5 rfl) ?_
    refine lv_iload_n hx hb dX7_roots_43 rfl (lv_at hl 0 rfl) ?_
    refine lv_icmp_ge (tgt := 78) hx hb dX7_roots_44 (by decide) (fun c_44 => ?_) (fun c_44 => ?_)
    · have hV := hV.1 c_44
      refine lv_iload hx hb dX7_roots_78 (lv_at hl 3 rfl) ?_
      refine lv_if_ge (tgt := 88) hx hb dX7_roots_80 (by decide) (fun c_80 => ?_) (fun c_80 => ?_)
      · have hV := hV.1 c_80
        refine lv_bipush (v := (-4 : Int32)) hx hb dX7_roots_88 (by decide) ?_
        exact W.iret (v := (-4 : Int32)) hx hb hr (fun t ht hW => ⟨_, rfl, hV, ht⟩) (fun _ h => by cases h) dX7_roots_90
      · have hV := hV.2 c_80
        refine lv_iload hx hb dX7_roots_83 (lv_at hl 4 rfl) ?_
        refine lv_goto (tgt := 90) hx hb dX7_roots_85 (by decide) ?_
        exact W.iret (v := x5) hx hb hr (fun t ht hW => ⟨_, rfl, hV, ht⟩) (fun _ h => by cases h) dX7_roots_90
    · have hV := hV.2 c_44
      refine lv_iload_n hx hb dX7_roots_47 rfl (lv_at hl 0 rfl) ?_
      refine lv_iload hx hb dX7_roots_48 (lv_at hl 5 rfl) ?_
      refine lv_iload_n hx hb dX7_roots_50 rfl (lv_at hl 2 rfl) ?_
      refine lv_i2l (v := p2.toInt64) hx hb dX7_roots_51 rfl ?_
      obtain ⟨h_52, hV⟩ := hV
      refine cp_i (va_runS (As := [.int p0, .int x6, .long p2.toInt64]) (rest := []) ⟨hx, hb, hml, hown, hts⟩ (spec_X7_powerOf l p0 x6 p2.toInt64 h_52) (va_cwS 3 hts gX7_roots_X7_powerOf rfl rfl rfl (by decide +kernel) ⟨Nat.le_of_ble_eq_true rfl, Nat.le_of_ble_eq_true rfl⟩) cp_pre rfl rfl hl.1 rfl (lv_room (Nat.le_of_ble_eq_true rfl)) dX7_roots_52 ⟨Nat.zero_le _, Nat.zero_le _⟩) (fun r52 q_52 => ?_)
      have hV := hV r52 q_52
      refine lv_iload_n hx hb dX7_roots_55 rfl (lv_at hl 1 rfl) ?_
      refine lv_icmp_ne (tgt := 72) hx hb dX7_roots_56 (by decide) (fun c_56 => ?_) (fun c_56 => ?_)
      · have hV := hV.2 c_56
        refine lv_iinc (v := x6 + 1) (lv' := [(6, .int (x6 + 1)), (1, .int p0), (2, .int p1), (3, .int p2), (4, .int p3), (5, .int x5)]) hx hb dX7_roots_72 hl (k := 5) rfl rfl (by decide) rfl (fun ls hl => ?_)
        refine lv_goto (tgt := 41) hx hb dX7_roots_75 (by decide) ?_
        exact oJ41 _ _ hV _ (lv_sub hl [1, 2, 3, 4, 5, 0] rfl)
      · have hV := hV.1 c_56
        refine lv_iload hx hb dX7_roots_59 (lv_at hl 4 rfl) ?_
        refine lv_iload hx hb dX7_roots_61 (lv_at hl 3 rfl) ?_
        refine lv_icmp_ne (tgt := 69) hx hb dX7_roots_63 (by decide) (fun c_63 => ?_) (fun c_63 => ?_)
        · have hV := hV.2 c_63
          refine lv_iinc (v := x5 + 1) (lv' := [(5, .int (x5 + 1)), (1, .int p0), (2, .int p1), (3, .int p2), (4, .int p3), (6, .int x6)]) hx hb dX7_roots_69 hl (k := 4) rfl rfl (by decide) rfl (fun ls hl => ?_)
          refine lv_iinc (v := x6 + 1) (lv' := [(6, .int (x6 + 1)), (5, .int (x5 + 1)), (1, .int p0), (2, .int p1), (3, .int p2), (4, .int p3)]) hx hb dX7_roots_72 hl (k := 5) rfl rfl (by decide) rfl (fun ls hl => ?_)
          refine lv_goto (tgt := 41) hx hb dX7_roots_75 (by decide) ?_
          exact oJ41 _ _ hV _ (lv_sub hl [2, 3, 4, 5, 1, 0] rfl)
        · have hV := hV.1 c_63
          refine lv_iload hx hb dX7_roots_66 (lv_at hl 5 rfl) ?_
          exact W.iret (v := x6) hx hb hr (fun t ht hW => ⟨_, rfl, hV, ht⟩) (fun _ h => by cases h) dX7_roots_68)
  have hl := lv_entry ([.ref (ad 0), .int p0, .int p1, .int p2, .int p3]) (n := 7) (Nat.le_of_ble_eq_true rfl)
  rw [lg_entry_eq]
  generalize (lg_sl ([.ref (ad 0), .int p0, .int p1, .int p2, .int p3]) ++ List.replicate (7 - (lg_sl ([.ref (ad 0), .int p0, .int p1, .int p2, .int p3])).length) Slot.unset).toArray = ls at hl ⊢
  have hl : lv_has ls 7 [(0, .ref (ad 0)), (1, .int p0), (2, .int p1), (3, .int p2), (4, .int p3)] := hl
  refine lv_iload_n hx hb dX7_roots_0 rfl (lv_at hl 1 rfl) ?_
  refine cp_i (va_runS (As := [.int p0]) (rest := []) ⟨hx, hb, hml, hown, hts⟩ (spec_X7_isBy l p0) (va_cwS 1 hts gX7_roots_X7_isBy rfl rfl rfl (by decide +kernel) ⟨Nat.le_of_ble_eq_true rfl, Nat.le_of_ble_eq_true rfl⟩) cp_pre rfl rfl hl.1 rfl (lv_room (Nat.le_of_ble_eq_true rfl)) dX7_roots_1 ⟨Nat.zero_le _, Nat.zero_le _⟩) (fun r1 q_1 => ?_)
  have hV := hV r1 q_1
  refine lv_if_eq (tgt := 33) hx hb dX7_roots_4 (by decide) (fun c_4 => ?_) (fun c_4 => ?_)
  · have hV := hV.1 c_4
    refine lv_iconst (v := (-1 : Int32)) hx hb dX7_roots_33 (by decide) ?_
    exact W.iret (v := (-1 : Int32)) hx hb hr (fun t ht hW => ⟨_, rfl, hV, ht⟩) (fun _ h => by cases h) dX7_roots_34
  · have hV := hV.2 c_4
    refine lv_iload_n hx hb dX7_roots_7 rfl (lv_at hl 1 rfl) ?_
    refine lv_iload_n hx hb dX7_roots_8 rfl (lv_at hl 2 rfl) ?_
    obtain ⟨h_9, hV⟩ := hV
    refine cp_i (va_runS (As := [.int p0, .int p1]) (rest := []) ⟨hx, hb, hml, hown, hts⟩ (spec_X7_isRest l p0 p1 h_9) (va_cwS 2 hts gX7_roots_X7_isRest rfl rfl rfl (by decide +kernel) ⟨Nat.le_of_ble_eq_true rfl, Nat.le_of_ble_eq_true rfl⟩) cp_pre rfl rfl hl.1 rfl (lv_room (Nat.le_of_ble_eq_true rfl)) dX7_roots_9 ⟨Nat.zero_le _, Nat.zero_le _⟩) (fun r9 q_9 => ?_)
    have hV := hV r9 q_9
    refine lv_if_eq (tgt := 33) hx hb dX7_roots_12 (by decide) (fun c_12 => ?_) (fun c_12 => ?_)
    · have hV := hV.1 c_12
      refine lv_iconst (v := (-1 : Int32)) hx hb dX7_roots_33 (by decide) ?_
      exact W.iret (v := (-1 : Int32)) hx hb hr (fun t ht hW => ⟨_, rfl, hV, ht⟩) (fun _ h => by cases h) dX7_roots_34
    · have hV := hV.2 c_12
      refine lv_iload_n hx hb dX7_roots_15 rfl (lv_at hl 3 rfl) ?_
      refine lv_i2l (v := p2.toInt64) hx hb dX7_roots_16 rfl ?_
      refine lv_lconst (v := (1 : Int64)) hx hb dX7_roots_17 (by decide) ?_
      refine lv_ldc2 (v := (100 : Int64)) hx hb hown (hts (.constantLong RX7 92 (100)) (by decide +kernel)) dX7_roots_18 ?_
      refine cp_i (va_runS (As := [.long p2.toInt64, .long (1 : Int64), .long (100 : Int64)]) (rest := []) ⟨hx, hb, hml, hown, hts⟩ (spec_X7_in l p2.toInt64 (1 : Int64) (100 : Int64)) (va_cwS 3 hts gX7_roots_X7_in rfl rfl rfl (by decide +kernel) ⟨Nat.le_of_ble_eq_true rfl, Nat.le_of_ble_eq_true rfl⟩) cp_pre rfl rfl hl.1 rfl (lv_room (Nat.le_of_ble_eq_true rfl)) dX7_roots_21 ⟨Nat.zero_le _, Nat.zero_le _⟩) (fun r21 q_21 => ?_)
      have hV := hV r21 q_21
      refine lv_if_eq (tgt := 33) hx hb dX7_roots_24 (by decide) (fun c_24 => ?_) (fun c_24 => ?_)
      · have hV := hV.1 c_24
        refine lv_iconst (v := (-1 : Int32)) hx hb dX7_roots_33 (by decide) ?_
        exact W.iret (v := (-1 : Int32)) hx hb hr (fun t ht hW => ⟨_, rfl, hV, ht⟩) (fun _ h => by cases h) dX7_roots_34
      · have hV := hV.2 c_24
        refine lv_iload hx hb dX7_roots_27 (lv_at hl 4 rfl) ?_
        refine lv_iconst (v := (-1 : Int32)) hx hb dX7_roots_29 (by decide) ?_
        refine lv_icmp_ge (tgt := 35) hx hb dX7_roots_30 (by decide) (fun c_30 => ?_) (fun c_30 => ?_)
        · have hV := hV.1 c_30
          refine lv_iconst (v := (0 : Int32)) hx hb dX7_roots_35 (by decide) ?_
          refine lv_istore (lv' := [(5, .int (0 : Int32)), (0, .ref (ad 0)), (1, .int p0), (2, .int p1), (3, .int p2), (4, .int p3)]) hx hb dX7_roots_36 hl (by decide) rfl (fun ls hl => ?_)
          refine lv_iconst (v := (0 : Int32)) hx hb dX7_roots_38 (by decide) ?_
          refine lv_istore (lv' := [(6, .int (0 : Int32)), (5, .int (0 : Int32)), (0, .ref (ad 0)), (1, .int p0), (2, .int p1), (3, .int p2), (4, .int p3)]) hx hb dX7_roots_39 hl (by decide) rfl (fun ls hl => ?_)
          exact oJ41 _ _ hV _ (lv_sub hl [3, 4, 5, 6, 1, 0] rfl)
        · have hV := hV.2 c_30
          refine lv_iconst (v := (-1 : Int32)) hx hb dX7_roots_33 (by decide) ?_
          exact W.iret (v := (-1 : Int32)) hx hb hr (fun t ht hW => ⟨_, rfl, hV, ht⟩) (fun _ h => by cases h) dX7_roots_34
def post_X7_roots (g : Gs) (a : As) (p0 p1 p2 p3 r : Int32) : Prop := RootsAns p0 p1 p2 p3 r
set_option maxRecDepth 4000 in
theorem spec_X7_roots (l : Launch) (D : va_G) (cy : Nat → ClassId) (ad : Nat → Nat) (sz : Nat) (g : Gs) (a : As) (p0 : Int32) (p1 : Int32) (p2 : Int32) (p3 : Int32) : Met l yX7_roots wsX7_roots ({ frames := 2, cells := 0, slots := 0, locals := 46 } : Room) (va_Pc [.ref (ad 0), .int p0, .int p1, .int p2, .int p3] (ArP D cy sz (maW ad cy g a))) (Qpi (post_X7_roots g a p0 p1 p2 p3)) 0 0 noF := by
  apply met_X7_roots
  intro J hJ r hr
  unfold post_X7_isBy at hr
  subst hr
  have hm1 : (-1 : Int32).toInt = -1 := rfl
  refine ⟨fun h => Or.inl ⟨Or.inl (zb_0 h), rfl⟩, fun h => ?_⟩
  have hdv : Dv p0 := zb_1 h
  obtain ⟨d1, d2⟩ := id hdv
  refine ⟨show 1 ≤ p0.toInt by omega, fun r2 hr2 => ?_⟩
  unfold post_X7_isRest at hr2
  subst hr2
  refine ⟨fun h2 => Or.inl ⟨Or.inr (Or.inl (zb_0 h2)), rfl⟩, fun h2 r3 hr3 => ?_⟩
  have hrs : Rs p1 p0 := zb_1 h2
  obtain ⟨s1, s2⟩ := id hrs
  unfold post_X7_in at hr3
  have e1 : (1 : Int64).toInt = 1 := rfl
  have e2 : (100 : Int64).toInt = 100 := rfl
  rw [il_t, e1, e2] at hr3
  subst hr3
  refine ⟨fun h3 => Or.inl ⟨Or.inr (Or.inr ?_), rfl⟩, fun h3 => ⟨fun h5 => ?_, fun h5 => Or.inl ⟨Or.inr (Or.inr (Or.inr (Or.inr (by rw [i_le, hm1] at h5; omega)))), rfl⟩⟩⟩
  · have := zb_0 h3
    rcases (show p2.toInt < 1 ∨ 100 < p2.toInt by omega) with q | q
    · exact Or.inl q
    · exact Or.inr (Or.inl q)
  · have h3 := zb_1 h3
    rw [i_le, hm1] at h5
    obtain ⟨n, hn, rfl, hn2⟩ := of_i (x := p0) (by omega)
    obtain ⟨b, hb, rfl, hb2⟩ := of_i s1
    obtain ⟨e, he, rfl, he2⟩ := of_i (x := p2) (by omega)
    have tnn : tn (nI n) = n := tn_nI hn
    refine ith_loop (J := J) (post := post_X7_roots g a (nI n) (nI b) (nI e) p3) (p := RtB n b e) (N := n) (lo := 0) (i := p3) hn (Nat.zero_le n) h5 rfl (fun r hr => Or.inr ⟨⟨hdv, hrs, by omega, by omega, h5⟩, by rw [tnn, tn_nI hb, tn_nI he]; exact hr⟩) (fun f hf c1 c2 => ?_) (fun f k hf _ hk c1 c2 c3 => ?_)
    · refine hJ _ _ (pk_le n n (fun _ => ⟨fun h6 => c2 (fun q => ?_), fun h6 => c1 ?_⟩) (fun h => absurd h (by omega)))
      · rw [i_le, Int32.toInt_zero, q, hm1] at h6; omega
      · rw [i_le, Int32.toInt_zero] at h6; exact i_m1.mp (by omega)
    · have hml := Nat.mod_lt (k ^ e) (show 0 < n by omega)
      refine hJ _ _ (pk_le n k (fun h => absurd h (by omega)) (fun _ => ?_))
      rw [nI_l he]
      refine ⟨⟨by omega, by rw [nI_toInt (by omega)]; omega, by rw [pk_lT (by omega)]; omega⟩, fun r hr => ?_⟩
      unfold post_X7_powerOf at hr
      rw [tl_lN (by omega), tn_nI (show k < 2 ^ 31 by omega), tnn] at hr
      subst hr
      rw [nI_1, nI_1]
      exact pk_eq (k ^ e % n) b (fun h6 => ⟨c2 (decide_eq_true h6), c3 (decide_eq_true h6)⟩) (fun h6 => c1 (decide_eq_false h6))
/-- the i-th figure -/
def FigAns (b n i r : Int32) : Prop := ((¬ (2 ≤ b.toInt ∧ b.toInt ≤ 36) ∨ ¬ Dv n ∨ i.toInt < 0 ∨ 1000000 < i.toInt) ∧ r = -1) ∨ (((2 ≤ b.toInt ∧ b.toInt ≤ 36) ∧ Dv n ∧ 0 ≤ i.toInt ∧ i.toInt ≤ 1000000) ∧ r = nI (tn b * (tn b ^ tn i % tn n) / tn n))
theorem fig_r {b n i : Int32} (hb : 2 ≤ b.toInt ∧ b.toInt ≤ 36) (hn : Dv n) (v : Nat) (hv : v < tn n) : ¬ n = 0 ∧ b * nI v / n = nI (tn b * v / tn n) := by
  obtain ⟨d1, d2⟩ := hn
  obtain ⟨m, hm, rfl, hm2⟩ := of_i (x := n) (by omega)
  obtain ⟨c, hc, rfl, hc2⟩ := of_i (x := b) (by omega)
  rw [tn_nI hm, tn_nI hc] at *
  have h1 : c * v ≤ 36 * 50000 := Nat.mul_le_mul (by omega) (by omega)
  rw [pk_mul, pk_div (by omega) (by omega) hm]
  exact ⟨nI_nz (by omega) hm, rfl⟩
set_option maxHeartbeats 4000000 in
set_option maxRecDepth 100000 in
theorem met_X6_figure (l : Launch) (D : va_G) (cy : Nat → ClassId) (ad : Nat → Nat) (sz : Nat) (g : Gs) (a : As) (w : Ws) (p0 : Int32) (p1 : Int32) (p2 : Int32) (post : Int32 → Prop)
  (hV : ∀ r1 : Int32, post_X6_isBase p0 r1 → ((r1 = 0 → post (-1 : Int32)) ∧ (¬ r1 = 0 → ∀ r8 : Int32, post_X6_isDivisor p1 r8 → ((r8 = 0 → post (-1 : Int32)) ∧ (¬ r8 = 0 → ((p2 < 0 → post (-1 : Int32)) ∧ (¬ p2 < 0 → ((p2 ≤ (1000000 : Int32) → pre_X4_raise p0.toInt64 p2.toInt64 p1 ∧ (∀ r32 : Int32, post_X4_raise p0.toInt64 p2.toInt64 p1 r32 → ¬ p1 = 0 ∧ (post ((p0 * r32) / p1)))) ∧ (¬ p2 ≤ (1000000 : Int32) → post (-1 : Int32)))))))))) :
  Met l yX6_figure wsX6_figure ({ frames := 1, cells := 0, slots := 0, locals := 31 } : Room) (va_Pc [.ref (ad 0), .int p0, .int p1, .int p2] (ArP D cy sz (caW ad cy g a w))) (Qpi post) 0 0 noF := by
  refine Met.ofW (cc := cX6_figure) (maxL := 4) (ret := (some .int)) (by decide) rfl ?_
  intro p e s m args below meth c s₁ B hml hv
  obtain ⟨rfl, hsz, hP, hK, hD0, hN⟩ := hv
  have hx := B.exec
  have hb := B.bytes
  have hr := B.returns
  have hts := atoms_spec (ws := wsX6_figure) B.pre
  have hown : s.vm.findClass RX6 = some m.cls := findClass_of_methodNamed B.named
  have hlocks := B.notSynchronized
  subst hsz
  have hP : va_P D vwCl (caW ad cy g a w) s.heap := hP
  have hD : va_D (fun _ => True) (caW ad cy g a w) := hD0
  have hl := lv_entry ([.ref (ad 0), .int p0, .int p1, .int p2]) (n := 4) (Nat.le_of_ble_eq_true rfl)
  rw [lg_entry_eq]
  generalize (lg_sl ([.ref (ad 0), .int p0, .int p1, .int p2]) ++ List.replicate (4 - (lg_sl ([.ref (ad 0), .int p0, .int p1, .int p2])).length) Slot.unset).toArray = ls at hl ⊢
  have hl : lv_has ls 4 [(0, .ref (ad 0)), (1, .int p0), (2, .int p1), (3, .int p2)] := hl
  refine lv_iload_n hx hb dX6_figure_0 rfl (lv_at hl 1 rfl) ?_
  refine cp_i (va_runS (As := [.int p0]) (rest := []) ⟨hx, hb, hml, hown, hts⟩ (spec_X6_isBase l p0) (va_cwS 1 hts gX6_figure_X6_isBase rfl rfl rfl (by decide +kernel) ⟨Nat.le_of_ble_eq_true rfl, Nat.le_of_ble_eq_true rfl⟩) cp_pre rfl rfl hl.1 rfl (lv_room (Nat.le_of_ble_eq_true rfl)) dX6_figure_1 ⟨Nat.zero_le _, Nat.zero_le _⟩) (fun r1 q_1 => ?_)
  have hV := hV r1 q_1
  refine lv_if_eq (tgt := 24) hx hb dX6_figure_4 (by decide) (fun c_4 => ?_) (fun c_4 => ?_)
  · have hV := hV.1 c_4
    refine lv_iconst (v := (-1 : Int32)) hx hb dX6_figure_24 (by decide) ?_
    exact W.iret (v := (-1 : Int32)) hx hb hr (fun t ht hW => ⟨_, rfl, hV, ht⟩) (fun _ h => by cases h) dX6_figure_25
  · have hV := hV.2 c_4
    refine lv_iload_n hx hb dX6_figure_7 rfl (lv_at hl 2 rfl) ?_
    refine cp_i (va_runS (As := [.int p1]) (rest := []) ⟨hx, hb, hml, hown, hts⟩ (spec_X6_isDivisor l p1) (va_cwS 1 hts gX6_figure_X6_isDivisor rfl rfl rfl (by decide +kernel) ⟨Nat.le_of_ble_eq_true rfl, Nat.le_of_ble_eq_true rfl⟩) cp_pre rfl rfl hl.1 rfl (lv_room (Nat.le_of_ble_eq_true rfl)) dX6_figure_8 ⟨Nat.zero_le _, Nat.zero_le _⟩) (fun r8 q_8 => ?_)
    have hV := hV r8 q_8
    refine lv_if_eq (tgt := 24) hx hb dX6_figure_11 (by decide) (fun c_11 => ?_) (fun c_11 => ?_)
    · have hV := hV.1 c_11
      refine lv_iconst (v := (-1 : Int32)) hx hb dX6_figure_24 (by decide) ?_
      exact W.iret (v := (-1 : Int32)) hx hb hr (fun t ht hW => ⟨_, rfl, hV, ht⟩) (fun _ h => by cases h) dX6_figure_25
    · have hV := hV.2 c_11
      refine lv_iload_n hx hb dX6_figure_14 rfl (lv_at hl 3 rfl) ?_
      refine lv_if_lt (tgt := 24) hx hb dX6_figure_15 (by decide) (fun c_15 => ?_) (fun c_15 => ?_)
      · have hV := hV.1 c_15
        refine lv_iconst (v := (-1 : Int32)) hx hb dX6_figure_24 (by decide) ?_
        exact W.iret (v := (-1 : Int32)) hx hb hr (fun t ht hW => ⟨_, rfl, hV, ht⟩) (fun _ h => by cases h) dX6_figure_25
      · have hV := hV.2 c_15
        refine lv_iload_n hx hb dX6_figure_18 rfl (lv_at hl 3 rfl) ?_
        refine lv_ldc (v := (1000000 : Int32)) hx hb hown (hts (.constant RX6 113 (1000000)) (by decide +kernel)) dX6_figure_19 ?_
        refine lv_icmp_le (tgt := 26) hx hb dX6_figure_21 (by decide) (fun c_21 => ?_) (fun c_21 => ?_)
        · have hV := hV.1 c_21
          refine lv_iload_n hx hb dX6_figure_26 rfl (lv_at hl 1 rfl) ?_
          refine lv_iload_n hx hb dX6_figure_27 rfl (lv_at hl 1 rfl) ?_
          refine lv_i2l (v := p0.toInt64) hx hb dX6_figure_28 rfl ?_
          refine lv_iload_n hx hb dX6_figure_29 rfl (lv_at hl 3 rfl) ?_
          refine lv_i2l (v := p2.toInt64) hx hb dX6_figure_30 rfl ?_
          refine lv_iload_n hx hb dX6_figure_31 rfl (lv_at hl 2 rfl) ?_
          obtain ⟨h_32, hV⟩ := hV
          refine cp_i (va_runS (As := [.long p0.toInt64, .long p2.toInt64, .int p1]) (rest := [.int p0]) ⟨hx, hb, hml, hown, hts⟩ (spec_X4_raise l p0.toInt64 p2.toInt64 p1 h_32) (va_cwS 3 hts gX6_figure_X4_raise rfl rfl rfl (by decide +kernel) ⟨Nat.le_of_ble_eq_true rfl, Nat.le_of_ble_eq_true rfl⟩) cp_pre rfl rfl hl.1 rfl (lv_room (Nat.le_of_ble_eq_true rfl)) dX6_figure_32 ⟨Nat.zero_le _, Nat.zero_le _⟩) (fun r32 q_32 => ?_)
          have hV := hV r32 q_32
          refine lv_imul hx hb dX6_figure_35 ?_
          refine lv_iload_n hx hb dX6_figure_36 rfl (lv_at hl 2 rfl) ?_
          obtain ⟨h_37, hV⟩ := hV
          refine lv_idiv hx hb dX6_figure_37 h_37 ?_
          exact W.iret (v := (p0 * r32) / p1) hx hb hr (fun t ht hW => ⟨_, rfl, hV, ht⟩) (fun _ h => by cases h) dX6_figure_38
        · have hV := hV.2 c_21
          refine lv_iconst (v := (-1 : Int32)) hx hb dX6_figure_24 (by decide) ?_
          exact W.iret (v := (-1 : Int32)) hx hb hr (fun t ht hW => ⟨_, rfl, hV, ht⟩) (fun _ h => by cases h) dX6_figure_25
def post_X6_figure (g : Gs) (a : As) (w : Ws) (p0 p1 p2 r : Int32) : Prop := FigAns p0 p1 p2 r
set_option maxRecDepth 4000 in
theorem spec_X6_figure (l : Launch) (D : va_G) (cy : Nat → ClassId) (ad : Nat → Nat) (sz : Nat) (g : Gs) (a : As) (w : Ws) (p0 : Int32) (p1 : Int32) (p2 : Int32) : Met l yX6_figure wsX6_figure ({ frames := 1, cells := 0, slots := 0, locals := 31 } : Room) (va_Pc [.ref (ad 0), .int p0, .int p1, .int p2] (ArP D cy sz (caW ad cy g a w))) (Qpi (post_X6_figure g a w p0 p1 p2)) 0 0 noF := by
  apply met_X6_figure
  intro r hr
  unfold post_X6_isBase at hr
  subst hr
  have e0 : (0 : Int32).toInt = 0 := rfl
  have e1 : (1000000 : Int32).toInt = 1000000 := rfl
  refine ⟨fun h => Or.inl ⟨Or.inl (zb_0 h), rfl⟩, fun h r2 hr2 => ?_⟩
  unfold post_X6_isDivisor at hr2
  subst hr2
  refine ⟨fun h2 => Or.inl ⟨Or.inr (Or.inl (zb_0 h2)), rfl⟩, fun h2 => ⟨fun h3 => Or.inl ⟨Or.inr (Or.inr (Or.inl (by rw [i_lt, e0] at h3; exact h3))), rfl⟩, fun h3 => ⟨fun h4 => ?_, fun h4 => Or.inl ⟨Or.inr (Or.inr (Or.inr (by rw [i_le, e1] at h4; omega))), rfl⟩⟩⟩⟩
  have hb := zb_1 h
  have hdv : Dv p1 := zb_1 h2
  obtain ⟨d1, d2⟩ := id hdv
  rw [i_lt, e0] at h3
  rw [i_le, e1] at h4
  refine ⟨⟨by rw [il_t]; omega, by rw [il_t]; omega, by rw [il_t]; omega, by omega⟩, fun r3 hr3 => ?_⟩
  unfold post_X4_raise at hr3
  rw [tl_i (by omega), tl_i (by omega)] at hr3
  have hn1 : 0 < tn p1 := by show 0 < p1.toInt.toNat; omega
  obtain ⟨q1, q2⟩ := fig_r (i := p2) hb hdv _ (Nat.mod_lt (tn p0 ^ tn p2) hn1)
  exact ⟨q1, Or.inr ⟨⟨hb, hdv, by omega, h4⟩, by rw [hr3]; exact q2⟩⟩
set_option maxHeartbeats 4000000 in
set_option maxRecDepth 100000 in
theorem met_X7_figure (l : Launch) (D : va_G) (cy : Nat → ClassId) (ad : Nat → Nat) (sz : Nat) (g : Gs) (a : As) (p0 : Int32) (p1 : Int32) (p2 : Int32) (post : Int32 → Prop)
  (hV : ∀ r1 : Int32, post_X7_isBase p0 r1 → ((r1 = 0 → post (-1 : Int32)) ∧ (¬ r1 = 0 → ∀ r8 : Int32, post_X7_isBy p1 r8 → ((r8 = 0 → post (-1 : Int32)) ∧ (¬ r8 = 0 → ∀ r20 : Int32, post_X7_in p2.toInt64 (0 : Int64) (1000000 : Int64) r20 → ((r20 = 0 → post (-1 : Int32)) ∧ (¬ r20 = 0 → pre_X7_powerOf p1 p0 p2.toInt64 ∧ (∀ r33 : Int32, post_X7_powerOf p1 p0 p2.toInt64 r33 → ¬ p1 = 0 ∧ (post ((p0 * r33) / p1)))))))))) :
  Met l yX7_figure wsX7_figure ({ frames := 2, cells := 0, slots := 0, locals := 45 } : Room) (va_Pc [.ref (ad 0), .int p0, .int p1, .int p2] (ArP D cy sz (maW ad cy g a))) (Qpi post) 0 0 noF := by
  refine Met.ofW (cc := cX7_figure) (maxL := 4) (ret := (some .int)) (by decide) rfl ?_
  intro p e s m args below meth c s₁ B hml hv
  obtain ⟨rfl, hsz, hP, hK, hD0, hN⟩ := hv
  have hx := B.exec
  have hb := B.bytes
  have hr := B.returns
  have hts := atoms_spec (ws := wsX7_figure) B.pre
  have hown : s.vm.findClass RX7 = some m.cls := findClass_of_methodNamed B.named
  have hlocks := B.notSynchronized
  subst hsz
  have hP : va_P D vwCl (maW ad cy g a) s.heap := hP
  have hD : va_D (fun _ => True) (maW ad cy g a) := hD0
  have hl := lv_entry ([.ref (ad 0), .int p0, .int p1, .int p2]) (n := 4) (Nat.le_of_ble_eq_true rfl)
  rw [lg_entry_eq]
  generalize (lg_sl ([.ref (ad 0), .int p0, .int p1, .int p2]) ++ List.replicate (4 - (lg_sl ([.ref (ad 0), .int p0, .int p1, .int p2])).length) Slot.unset).toArray = ls at hl ⊢
  have hl : lv_has ls 4 [(0, .ref (ad 0)), (1, .int p0), (2, .int p1), (3, .int p2)] := hl
  refine lv_iload_n hx hb dX7_figure_0 rfl (lv_at hl 1 rfl) ?_
  refine cp_i (va_runS (As := [.int p0]) (rest := []) ⟨hx, hb, hml, hown, hts⟩ (spec_X7_isBase l p0) (va_cwS 1 hts gX7_figure_X7_isBase rfl rfl rfl (by decide +kernel) ⟨Nat.le_of_ble_eq_true rfl, Nat.le_of_ble_eq_true rfl⟩) cp_pre rfl rfl hl.1 rfl (lv_room (Nat.le_of_ble_eq_true rfl)) dX7_figure_1 ⟨Nat.zero_le _, Nat.zero_le _⟩) (fun r1 q_1 => ?_)
  have hV := hV r1 q_1
  refine lv_if_eq (tgt := 26) hx hb dX7_figure_4 (by decide) (fun c_4 => ?_) (fun c_4 => ?_)
  · have hV := hV.1 c_4
    refine lv_iconst (v := (-1 : Int32)) hx hb dX7_figure_26 (by decide) ?_
    exact W.iret (v := (-1 : Int32)) hx hb hr (fun t ht hW => ⟨_, rfl, hV, ht⟩) (fun _ h => by cases h) dX7_figure_27
  · have hV := hV.2 c_4
    refine lv_iload_n hx hb dX7_figure_7 rfl (lv_at hl 2 rfl) ?_
    refine cp_i (va_runS (As := [.int p1]) (rest := []) ⟨hx, hb, hml, hown, hts⟩ (spec_X7_isBy l p1) (va_cwS 1 hts gX7_figure_X7_isBy rfl rfl rfl (by decide +kernel) ⟨Nat.le_of_ble_eq_true rfl, Nat.le_of_ble_eq_true rfl⟩) cp_pre rfl rfl hl.1 rfl (lv_room (Nat.le_of_ble_eq_true rfl)) dX7_figure_8 ⟨Nat.zero_le _, Nat.zero_le _⟩) (fun r8 q_8 => ?_)
    have hV := hV r8 q_8
    refine lv_if_eq (tgt := 26) hx hb dX7_figure_11 (by decide) (fun c_11 => ?_) (fun c_11 => ?_)
    · have hV := hV.1 c_11
      refine lv_iconst (v := (-1 : Int32)) hx hb dX7_figure_26 (by decide) ?_
      exact W.iret (v := (-1 : Int32)) hx hb hr (fun t ht hW => ⟨_, rfl, hV, ht⟩) (fun _ h => by cases h) dX7_figure_27
    · have hV := hV.2 c_11
      refine lv_iload_n hx hb dX7_figure_14 rfl (lv_at hl 3 rfl) ?_
      refine lv_i2l (v := p2.toInt64) hx hb dX7_figure_15 rfl ?_
      refine lv_lconst (v := (0 : Int64)) hx hb dX7_figure_16 (by decide) ?_
      refine lv_ldc2 (v := (1000000 : Int64)) hx hb hown (hts (.constantLong RX7 96 (1000000)) (by decide +kernel)) dX7_figure_17 ?_
      refine cp_i (va_runS (As := [.long p2.toInt64, .long (0 : Int64), .long (1000000 : Int64)]) (rest := []) ⟨hx, hb, hml, hown, hts⟩ (spec_X7_in l p2.toInt64 (0 : Int64) (1000000 : Int64)) (va_cwS 3 hts gX7_figure_X7_in rfl rfl rfl (by decide +kernel) ⟨Nat.le_of_ble_eq_true rfl, Nat.le_of_ble_eq_true rfl⟩) cp_pre rfl rfl hl.1 rfl (lv_room (Nat.le_of_ble_eq_true rfl)) dX7_figure_20 ⟨Nat.zero_le _, Nat.zero_le _⟩) (fun r20 q_20 => ?_)
      have hV := hV r20 q_20
      refine lv_if_ne (tgt := 28) hx hb dX7_figure_23 (by decide) (fun c_23 => ?_) (fun c_23 => ?_)
      · have hV := hV.2 c_23
        refine lv_iload_n hx hb dX7_figure_28 rfl (lv_at hl 1 rfl) ?_
        refine lv_iload_n hx hb dX7_figure_29 rfl (lv_at hl 2 rfl) ?_
        refine lv_iload_n hx hb dX7_figure_30 rfl (lv_at hl 1 rfl) ?_
        refine lv_iload_n hx hb dX7_figure_31 rfl (lv_at hl 3 rfl) ?_
        refine lv_i2l (v := p2.toInt64) hx hb dX7_figure_32 rfl ?_
        obtain ⟨h_33, hV⟩ := hV
        refine cp_i (va_runS (As := [.int p1, .int p0, .long p2.toInt64]) (rest := [.int p0]) ⟨hx, hb, hml, hown, hts⟩ (spec_X7_powerOf l p1 p0 p2.toInt64 h_33) (va_cwS 3 hts gX7_figure_X7_powerOf rfl rfl rfl (by decide +kernel) ⟨Nat.le_of_ble_eq_true rfl, Nat.le_of_ble_eq_true rfl⟩) cp_pre rfl rfl hl.1 rfl (lv_room (Nat.le_of_ble_eq_true rfl)) dX7_figure_33 ⟨Nat.zero_le _, Nat.zero_le _⟩) (fun r33 q_33 => ?_)
        have hV := hV r33 q_33
        refine lv_imul hx hb dX7_figure_36 ?_
        refine lv_iload_n hx hb dX7_figure_37 rfl (lv_at hl 2 rfl) ?_
        obtain ⟨h_38, hV⟩ := hV
        refine lv_idiv hx hb dX7_figure_38 h_38 ?_
        exact W.iret (v := (p0 * r33) / p1) hx hb hr (fun t ht hW => ⟨_, rfl, hV, ht⟩) (fun _ h => by cases h) dX7_figure_39
      · have hV := hV.1 c_23
        refine lv_iconst (v := (-1 : Int32)) hx hb dX7_figure_26 (by decide) ?_
        exact W.iret (v := (-1 : Int32)) hx hb hr (fun t ht hW => ⟨_, rfl, hV, ht⟩) (fun _ h => by cases h) dX7_figure_27
def post_X7_figure (g : Gs) (a : As) (p0 p1 p2 r : Int32) : Prop := FigAns p0 p1 p2 r
set_option maxRecDepth 4000 in
theorem spec_X7_figure (l : Launch) (D : va_G) (cy : Nat → ClassId) (ad : Nat → Nat) (sz : Nat) (g : Gs) (a : As) (p0 : Int32) (p1 : Int32) (p2 : Int32) : Met l yX7_figure wsX7_figure ({ frames := 2, cells := 0, slots := 0, locals := 45 } : Room) (va_Pc [.ref (ad 0), .int p0, .int p1, .int p2] (ArP D cy sz (maW ad cy g a))) (Qpi (post_X7_figure g a p0 p1 p2)) 0 0 noF := by
  apply met_X7_figure
  intro r hr
  unfold post_X7_isBase at hr
  subst hr
  refine ⟨fun h => Or.inl ⟨Or.inl (zb_0 h), rfl⟩, fun h r2 hr2 => ?_⟩
  unfold post_X7_isBy at hr2
  subst hr2
  refine ⟨fun h2 => Or.inl ⟨Or.inr (Or.inl (zb_0 h2)), rfl⟩, fun h2 r3 hr3 => ?_⟩
  unfold post_X7_in at hr3
  have e0 : (0 : Int64).toInt = 0 := rfl
  have e1 : (1000000 : Int64).toInt = 1000000 := rfl
  rw [il_t, e0, e1] at hr3
  subst hr3
  have hb := zb_1 h
  have hdv : Dv p1 := zb_1 h2
  obtain ⟨d1, d2⟩ := id hdv
  refine ⟨fun h3 => Or.inl ⟨Or.inr (Or.inr ?_), rfl⟩, fun h3 => ⟨⟨by omega, by omega, by rw [il_t]; exact (zb_1 h3).1⟩, fun r4 hr4 => ?_⟩⟩
  · have := zb_0 h3
    omega
  · have h3 := zb_1 h3
    unfold post_X7_powerOf at hr4
    rw [tl_i h3.1] at hr4
    have hn1 : 0 < tn p1 := by show 0 < p1.toInt.toNat; omega
    obtain ⟨q1, q2⟩ := fig_r (i := p2) hb hdv _ (Nat.mod_lt (tn p0 ^ tn p2) hn1)
    exact ⟨q1, Or.inr ⟨⟨hb, hdv, h3.1, h3.2⟩, by rw [hr4]; exact q2⟩⟩
/-- LOOKS -/
def OddN (n : Int32) : Prop := 3 ≤ n.toInt ∧ n.toInt ≤ 50001 ∧ n.toInt % 2 = 1
def LooksAns (n a what r : Int32) : Prop := ((¬ OddN n ∨ a.toInt < 1 ∨ n.toInt ≤ a.toInt ∨ what.toInt < 0 ∨ 2 < what.toInt) ∧ r = -1) ∨ ((OddN n ∧ 1 ≤ a.toInt ∧ a.toInt < n.toInt) ∧ ((what = 1 ∧ r = zb (Strong (tn n) (tn a))) ∨ (what = 0 ∧ r = zb (tn a ^ (tn n - 1) % tn n = 1)) ∨ (what = 2 ∧ r = zb (tn a ^ (tn n - 1) % tn n = 1 ∧ ¬ Pr (tn n)))))
theorem what2 {x : Int32} (h0 : 0 ≤ x.toInt) (h2 : x.toInt ≤ 2) (n0 : ¬ x = 0) (n1 : ¬ x = 1) : x = 2 := by
  rw [i_eq] at n0 n1 ⊢
  have e0 : (0 : Int32).toInt = 0 := rfl
  have e1 : (1 : Int32).toInt = 1 := rfl
  have e2 : (2 : Int32).toInt = 2 := rfl
  omega
set_option maxHeartbeats 4000000 in
set_option maxRecDepth 100000 in
theorem met_X6_looks (l : Launch) (D : va_G) (cy : Nat → ClassId) (ad : Nat → Nat) (sz : Nat) (g : Gs) (a : As) (w : Ws) (p0 : Int32) (p1 : Int32) (p2 : Int32) (post : Int32 → Prop)
  (hV : ∀ r1 : Int32, post_X6_isOddOne p0 r1 → ((r1 = 0 → post (-1 : Int32)) ∧ (¬ r1 = 0 → ((p1 < (1 : Int32) → post (-1 : Int32)) ∧ (¬ p1 < (1 : Int32) → ((p0 ≤ p1 → post (-1 : Int32)) ∧ (¬ p0 ≤ p1 → ((p2 < 0 → post (-1 : Int32)) ∧ (¬ p2 < 0 → ((p2 ≤ (2 : Int32) → ((p2 = (1 : Int32) → pre_X4_looksStrongly p0 p1 ∧ (∀ r35 : Int32, post_X4_looksStrongly p0 p1 r35 → ((r35 = 0 → post (0 : Int32)) ∧ (¬ r35 = 0 → post (1 : Int32))))) ∧ (¬ p2 = (1 : Int32) → pre_X4_raise p1.toInt64 ((p0 - (1 : Int32)).toInt64) p0 ∧ (∀ r50 : Int32, post_X4_raise p1.toInt64 ((p0 - (1 : Int32)).toInt64) p0 r50 → ((r50 = (1 : Int32) → ((p2 = 0 → post (1 : Int32)) ∧ (¬ p2 = 0 → pre_X4_isPrime p0 ∧ (∀ r62 : Int32, post_X4_isPrime p0 r62 → ((r62 = 0 → post (1 : Int32)) ∧ (¬ r62 = 0 → post (0 : Int32))))))) ∧ (¬ r50 = (1 : Int32) → post (0 : Int32))))))) ∧ (¬ p2 ≤ (2 : Int32) → post (-1 : Int32)))))))))))) :
  Met l yX6_looks wsX6_looks ({ frames := 3, cells := 0, slots := 0, locals := 67 } : Room) (va_Pc [.ref (ad 0), .int p0, .int p1, .int p2] (ArP D cy sz (caW ad cy g a w))) (Qpi post) 0 0 noF := by
  refine Met.ofW (cc := cX6_looks) (maxL := 5) (ret := (some .int)) (by decide) rfl ?_
  intro p e s m args below meth c s₁ B hml hv
  obtain ⟨rfl, hsz, hP, hK, hD0, hN⟩ := hv
  have hx := B.exec
  have hb := B.bytes
  have hr := B.returns
  have hts := atoms_spec (ws := wsX6_looks) B.pre
  have hown : s.vm.findClass RX6 = some m.cls := findClass_of_methodNamed B.named
  have hlocks := B.notSynchronized
  subst hsz
  have hP : va_P D vwCl (caW ad cy g a w) s.heap := hP
  have hD : va_D (fun _ => True) (caW ad cy g a w) := hD0
  have hl := lv_entry ([.ref (ad 0), .int p0, .int p1, .int p2]) (n := 5) (Nat.le_of_ble_eq_true rfl)
  rw [lg_entry_eq]
  generalize (lg_sl ([.ref (ad 0), .int p0, .int p1, .int p2]) ++ List.replicate (5 - (lg_sl ([.ref (ad 0), .int p0, .int p1, .int p2])).length) Slot.unset).toArray = ls at hl ⊢
  have hl : lv_has ls 5 [(0, .ref (ad 0)), (1, .int p0), (2, .int p1), (3, .int p2)] := hl
  refine lv_iload_n hx hb dX6_looks_0 rfl (lv_at hl 1 rfl) ?_
  refine cp_i (va_runS (As := [.int p0]) (rest := []) ⟨hx, hb, hml, hown, hts⟩ (spec_X6_isOddOne l p0) (va_cwS 1 hts gX6_looks_X6_isOddOne rfl rfl rfl (by decide +kernel) ⟨Nat.le_of_ble_eq_true rfl, Nat.le_of_ble_eq_true rfl⟩) cp_pre rfl rfl hl.1 rfl (lv_room (Nat.le_of_ble_eq_true rfl)) dX6_looks_1 ⟨Nat.zero_le _, Nat.zero_le _⟩) (fun r1 q_1 => ?_)
  have hV := hV r1 q_1
  refine lv_if_eq (tgt := 26) hx hb dX6_looks_4 (by decide) (fun c_4 => ?_) (fun c_4 => ?_)
  · have hV := hV.1 c_4
    refine lv_iconst (v := (-1 : Int32)) hx hb dX6_looks_26 (by decide) ?_
    exact W.iret (v := (-1 : Int32)) hx hb hr (fun t ht hW => ⟨_, rfl, hV, ht⟩) (fun _ h => by cases h) dX6_looks_27
  · have hV := hV.2 c_4
    refine lv_iload_n hx hb dX6_looks_7 rfl (lv_at hl 2 rfl) ?_
    refine lv_iconst (v := (1 : Int32)) hx hb dX6_looks_8 (by decide) ?_
    refine lv_icmp_lt (tgt := 26) hx hb dX6_looks_9 (by decide) (fun c_9 => ?_) (fun c_9 => ?_)
    · have hV := hV.1 c_9
      refine lv_iconst (v := (-1 : Int32)) hx hb dX6_looks_26 (by decide) ?_
      exact W.iret (v := (-1 : Int32)) hx hb hr (fun t ht hW => ⟨_, rfl, hV, ht⟩) (fun _ h => by cases h) dX6_looks_27
    · have hV := hV.2 c_9
      refine lv_iload_n hx hb dX6_looks_12 rfl (lv_at hl 2 rfl) ?_
      refine lv_iload_n hx hb dX6_looks_13 rfl (lv_at hl 1 rfl) ?_
      refine lv_icmp_ge (tgt := 26) hx hb dX6_looks_14 (by decide) (fun c_14 => ?_) (fun c_14 => ?_)
      · have hV := hV.1 c_14
        refine lv_iconst (v := (-1 : Int32)) hx hb dX6_looks_26 (by decide) ?_
        exact W.iret (v := (-1 : Int32)) hx hb hr (fun t ht hW => ⟨_, rfl, hV, ht⟩) (fun _ h => by cases h) dX6_looks_27
      · have hV := hV.2 c_14
        refine lv_iload_n hx hb dX6_looks_17 rfl (lv_at hl 3 rfl) ?_
        refine lv_if_lt (tgt := 26) hx hb dX6_looks_18 (by decide) (fun c_18 => ?_) (fun c_18 => ?_)
        · have hV := hV.1 c_18
          refine lv_iconst (v := (-1 : Int32)) hx hb dX6_looks_26 (by decide) ?_
          exact W.iret (v := (-1 : Int32)) hx hb hr (fun t ht hW => ⟨_, rfl, hV, ht⟩) (fun _ h => by cases h) dX6_looks_27
        · have hV := hV.2 c_18
          refine lv_iload_n hx hb dX6_looks_21 rfl (lv_at hl 3 rfl) ?_
          refine lv_iconst (v := (2 : Int32)) hx hb dX6_looks_22 (by decide) ?_
          refine lv_icmp_le (tgt := 28) hx hb dX6_looks_23 (by decide) (fun c_23 => ?_) (fun c_23 => ?_)
          · have hV := hV.1 c_23
            refine lv_iload_n hx hb dX6_looks_28 rfl (lv_at hl 3 rfl) ?_
            refine lv_iconst (v := (1 : Int32)) hx hb dX6_looks_29 (by decide) ?_
            refine lv_icmp_ne (tgt := 43) hx hb dX6_looks_30 (by decide) (fun c_30 => ?_) (fun c_30 => ?_)
            · have hV := hV.2 c_30
              refine lv_iload_n hx hb dX6_looks_43 rfl (lv_at hl 2 rfl) ?_
              refine lv_i2l (v := p1.toInt64) hx hb dX6_looks_44 rfl ?_
              refine lv_iload_n hx hb dX6_looks_45 rfl (lv_at hl 1 rfl) ?_
              refine lv_iconst (v := (1 : Int32)) hx hb dX6_looks_46 (by decide) ?_
              refine lv_isub hx hb dX6_looks_47 ?_
              refine lv_i2l (v := (p0 - (1 : Int32)).toInt64) hx hb dX6_looks_48 rfl ?_
              refine lv_iload_n hx hb dX6_looks_49 rfl (lv_at hl 1 rfl) ?_
              obtain ⟨h_50, hV⟩ := hV
              refine cp_i (va_runS (As := [.long p1.toInt64, .long ((p0 - (1 : Int32)).toInt64), .int p0]) (rest := []) ⟨hx, hb, hml, hown, hts⟩ (spec_X4_raise l p1.toInt64 ((p0 - (1 : Int32)).toInt64) p0 h_50) (va_cwS 3 hts gX6_looks_X4_raise rfl rfl rfl (by decide +kernel) ⟨Nat.le_of_ble_eq_true rfl, Nat.le_of_ble_eq_true rfl⟩) cp_pre rfl rfl hl.1 rfl (lv_room (Nat.le_of_ble_eq_true rfl)) dX6_looks_50 ⟨Nat.zero_le _, Nat.zero_le _⟩) (fun r50 q_50 => ?_)
              have hV := hV r50 q_50
              refine lv_iconst (v := (1 : Int32)) hx hb dX6_looks_53 (by decide) ?_
              refine lv_icmp_ne (tgt := 72) hx hb dX6_looks_54 (by decide) (fun c_54 => ?_) (fun c_54 => ?_)
              · have hV := hV.2 c_54
                refine lv_iconst (v := (0 : Int32)) hx hb dX6_looks_72 (by decide) ?_
                refine lv_istore (lv' := [(4, .int (0 : Int32)), (0, .ref (ad 0)), (1, .int p0), (2, .int p1), (3, .int p2)]) hx hb dX6_looks_73 hl (by decide) rfl (fun ls hl => ?_)
                refine lv_iload hx hb dX6_looks_75 (lv_at hl 0 rfl) ?_
                refine lv_if_eq (tgt := 84) hx hb dX6_looks_77 (by decide) (fun c_77 => ?_) (fun c_77 => ?_)
                · have hV := hV
                  refine lv_iconst (v := (0 : Int32)) hx hb dX6_looks_84 (by decide) ?_
                  exact W.iret (v := (0 : Int32)) hx hb hr (fun t ht hW => ⟨_, rfl, hV, ht⟩) (fun _ h => by cases h) dX6_looks_85
                · exact absurd (by decide) c_77
              · have hV := hV.1 c_54
                refine lv_iload_n hx hb dX6_looks_57 rfl (lv_at hl 3 rfl) ?_
                refine lv_if_eq (tgt := 68) hx hb dX6_looks_58 (by decide) (fun c_58 => ?_) (fun c_58 => ?_)
                · have hV := hV.1 c_58
                  refine lv_iconst (v := (1 : Int32)) hx hb dX6_looks_68 (by decide) ?_
                  refine lv_goto (tgt := 73) hx hb dX6_looks_69 (by decide) ?_
                  refine lv_istore (lv' := [(4, .int (1 : Int32)), (0, .ref (ad 0)), (1, .int p0), (2, .int p1), (3, .int p2)]) hx hb dX6_looks_73 hl (by decide) rfl (fun ls hl => ?_)
                  refine lv_iload hx hb dX6_looks_75 (lv_at hl 0 rfl) ?_
                  refine lv_if_eq (tgt := 84) hx hb dX6_looks_77 (by decide) (fun c_77 => ?_) (fun c_77 => ?_)
                  · exact absurd c_77 (by decide)
                  · have hV := hV
                    refine lv_iconst (v := (1 : Int32)) hx hb dX6_looks_80 (by decide) ?_
                    refine lv_goto (tgt := 85) hx hb dX6_looks_81 (by decide) ?_
                    exact W.iret (v := (1 : Int32)) hx hb hr (fun t ht hW => ⟨_, rfl, hV, ht⟩) (fun _ h => by cases h) dX6_looks_85
                · have hV := hV.2 c_58
                  refine lv_iload_n hx hb dX6_looks_61 rfl (lv_at hl 1 rfl) ?_
                  obtain ⟨h_62, hV⟩ := hV
                  refine cp_i (va_runS (As := [.int p0]) (rest := []) ⟨hx, hb, hml, hown, hts⟩ (spec_X4_isPrime l p0 h_62) (va_cwS 1 hts gX6_looks_X4_isPrime rfl rfl rfl (by decide +kernel) ⟨Nat.le_of_ble_eq_true rfl, Nat.le_of_ble_eq_true rfl⟩) cp_pre rfl rfl hl.1 rfl (lv_room (Nat.le_of_ble_eq_true rfl)) dX6_looks_62 ⟨Nat.zero_le _, Nat.zero_le _⟩) (fun r62 q_62 => ?_)
                  have hV := hV r62 q_62
                  refine lv_if_ne (tgt := 72) hx hb dX6_looks_65 (by decide) (fun c_65 => ?_) (fun c_65 => ?_)
                  · have hV := hV.2 c_65
                    refine lv_iconst (v := (0 : Int32)) hx hb dX6_looks_72 (by decide) ?_
                    refine lv_istore (lv' := [(4, .int (0 : Int32)), (0, .ref (ad 0)), (1, .int p0), (2, .int p1), (3, .int p2)]) hx hb dX6_looks_73 hl (by decide) rfl (fun ls hl => ?_)
                    refine lv_iload hx hb dX6_looks_75 (lv_at hl 0 rfl) ?_
                    refine lv_if_eq (tgt := 84) hx hb dX6_looks_77 (by decide) (fun c_77 => ?_) (fun c_77 => ?_)
                    · have hV := hV
                      refine lv_iconst (v := (0 : Int32)) hx hb dX6_looks_84 (by decide) ?_
                      exact W.iret (v := (0 : Int32)) hx hb hr (fun t ht hW => ⟨_, rfl, hV, ht⟩) (fun _ h => by cases h) dX6_looks_85
                    · exact absurd (by decide) c_77
                  · have hV := hV.1 c_65
                    refine lv_iconst (v := (1 : Int32)) hx hb dX6_looks_68 (by decide) ?_
                    refine lv_goto (tgt := 73) hx hb dX6_looks_69 (by decide) ?_
                    refine lv_istore (lv' := [(4, .int (1 : Int32)), (0, .ref (ad 0)), (1, .int p0), (2, .int p1), (3, .int p2)]) hx hb dX6_looks_73 hl (by decide) rfl (fun ls hl => ?_)
                    refine lv_iload hx hb dX6_looks_75 (lv_at hl 0 rfl) ?_
                    refine lv_if_eq (tgt := 84) hx hb dX6_looks_77 (by decide) (fun c_77 => ?_) (fun c_77 => ?_)
                    · exact absurd c_77 (by decide)
                    · have hV := hV
                      refine lv_iconst (v := (1 : Int32)) hx hb dX6_looks_80 (by decide) ?_
                      refine lv_goto (tgt := 85) hx hb dX6_looks_81 (by decide) ?_
                      exact W.iret (v := (1 : Int32)) hx hb hr (fun t ht hW => ⟨_, rfl, hV, ht⟩) (fun _ h => by cases h) dX6_looks_85
            · have hV := hV.1 c_30
              refine lv_iload_n hx hb dX6_looks_33 rfl (lv_at hl 1 rfl) ?_
              refine lv_iload_n hx hb dX6_looks_34 rfl (lv_at hl 2 rfl) ?_
              obtain ⟨h_35, hV⟩ := hV
              refine cp_i (va_runS (As := [.int p0, .int p1]) (rest := []) ⟨hx, hb, hml, hown, hts⟩ (spec_X4_looksStrongly l p0 p1 h_35) (va_cwS 2 hts gX6_looks_X4_looksStrongly rfl rfl rfl (by decide +kernel) ⟨Nat.le_of_ble_eq_true rfl, Nat.le_of_ble_eq_true rfl⟩) cp_pre rfl rfl hl.1 rfl (lv_room (Nat.le_of_ble_eq_true rfl)) dX6_looks_35 ⟨Nat.zero_le _, Nat.zero_le _⟩) (fun r35 q_35 => ?_)
              have hV := hV r35 q_35
              refine lv_istore (lv' := [(4, .int r35), (0, .ref (ad 0)), (1, .int p0), (2, .int p1), (3, .int p2)]) hx hb dX6_looks_38 hl (by decide) rfl (fun ls hl => ?_)
              refine lv_goto (tgt := 75) hx hb dX6_looks_40 (by decide) ?_
              refine lv_iload hx hb dX6_looks_75 (lv_at hl 0 rfl) ?_
              refine lv_if_eq (tgt := 84) hx hb dX6_looks_77 (by decide) (fun c_77 => ?_) (fun c_77 => ?_)
              · have hV := hV.1 c_77
                refine lv_iconst (v := (0 : Int32)) hx hb dX6_looks_84 (by decide) ?_
                exact W.iret (v := (0 : Int32)) hx hb hr (fun t ht hW => ⟨_, rfl, hV, ht⟩) (fun _ h => by cases h) dX6_looks_85
              · have hV := hV.2 c_77
                refine lv_iconst (v := (1 : Int32)) hx hb dX6_looks_80 (by decide) ?_
                refine lv_goto (tgt := 85) hx hb dX6_looks_81 (by decide) ?_
                exact W.iret (v := (1 : Int32)) hx hb hr (fun t ht hW => ⟨_, rfl, hV, ht⟩) (fun _ h => by cases h) dX6_looks_85
          · have hV := hV.2 c_23
            refine lv_iconst (v := (-1 : Int32)) hx hb dX6_looks_26 (by decide) ?_
            exact W.iret (v := (-1 : Int32)) hx hb hr (fun t ht hW => ⟨_, rfl, hV, ht⟩) (fun _ h => by cases h) dX6_looks_27
def post_X6_looks (g : Gs) (a : As) (w : Ws) (p0 p1 p2 r : Int32) : Prop := LooksAns p0 p1 p2 r
set_option maxRecDepth 4000 in
theorem spec_X6_looks (l : Launch) (D : va_G) (cy : Nat → ClassId) (ad : Nat → Nat) (sz : Nat) (g : Gs) (a : As) (w : Ws) (p0 : Int32) (p1 : Int32) (p2 : Int32) : Met l yX6_looks wsX6_looks ({ frames := 3, cells := 0, slots := 0, locals := 67 } : Room) (va_Pc [.ref (ad 0), .int p0, .int p1, .int p2] (ArP D cy sz (caW ad cy g a w))) (Qpi (post_X6_looks g a w p0 p1 p2)) 0 0 noF := by
  apply met_X6_looks
  intro r hr
  unfold post_X6_isOddOne at hr
  subst hr
  have e0 : (0 : Int32).toInt = 0 := rfl
  have e1 : (1 : Int32).toInt = 1 := rfl
  have e2 : (2 : Int32).toInt = 2 := rfl
  refine ⟨fun h => Or.inl ⟨Or.inl (zb_0 h), rfl⟩, fun h => ⟨fun h2 => Or.inl ⟨Or.inr (Or.inl (by rw [i_lt, e1] at h2; exact h2)), rfl⟩, fun h2 => ⟨fun h3 => Or.inl ⟨Or.inr (Or.inr (Or.inl (by rw [i_le] at h3; exact h3))), rfl⟩, fun h3 => ⟨fun h4 => Or.inl ⟨Or.inr (Or.inr (Or.inr (Or.inl (by rw [i_lt, e0] at h4; exact h4)))), rfl⟩, fun h4 => ⟨fun h5 => ?_, fun h5 => Or.inl ⟨Or.inr (Or.inr (Or.inr (Or.inr (by rw [i_le, e2] at h5; omega)))), rfl⟩⟩⟩⟩⟩⟩
  have ho : OddN p0 := zb_1 h
  obtain ⟨o1, o2, o3⟩ := id ho
  rw [i_lt, e1] at h2
  rw [i_le] at h3
  rw [i_lt, e0] at h4
  rw [i_le, e2] at h5
  have ha : OddN p0 ∧ 1 ≤ p1.toInt ∧ p1.toInt < p0.toInt := ⟨ho, by omega, by omega⟩
  refine ⟨fun h6 => ⟨⟨o1, by omega⟩, fun r2 hr2 => ?_⟩, fun h6 => ?_⟩
  · unfold post_X4_looksStrongly at hr2
    subst hr2
    exact ⟨fun q => Or.inr ⟨ha, Or.inl ⟨h6, (zb_f (zb_0 q)).symm⟩⟩, fun q => Or.inr ⟨ha, Or.inl ⟨h6, (zb_t (zb_1 q)).symm⟩⟩⟩
  · obtain ⟨n, hn, rfl, hn2⟩ := of_i (x := p0) (by omega)
    obtain ⟨x, hx, rfl, hx2⟩ := of_i (x := p1) (by omega)
    have es : nI n - (1 : Int32) = nI (n - 1) := pk_sub (b := 1) (by omega)
    rw [es, nI_l hx, nI_l (by omega)]
    refine ⟨⟨by rw [pk_lT (by omega)]; omega, by rw [pk_lT (by omega)]; omega, by rw [pk_lT (by omega)]; omega, by omega⟩, fun r2 hr2 => ?_⟩
    unfold post_X4_raise at hr2
    rw [tl_lN (by omega), tl_lN (by omega), tn_nI hn] at hr2
    subst hr2
    have hml := Nat.mod_lt (x ^ (n - 1)) (show 0 < n by omega)
    have tnn : tn (nI n) = n := tn_nI hn
    have tnx : tn (nI x) = x := tn_nI hx
    refine pk_eq (x ^ (n - 1) % n) 1 (fun h7 => ⟨fun h8 => Or.inr ⟨ha, Or.inr (Or.inl ⟨h8, (zb_t (by rw [tnn, tnx]; exact h7)).symm⟩)⟩, fun h8 => ⟨show (nI n).toInt < 1000000 by omega, fun r3 hr3 => ?_⟩⟩) (fun h7 => ?_)
    · unfold post_X4_isPrime at hr3
      subst hr3
      have hw := what2 (by omega) h5 h8 h6
      refine ⟨fun q => Or.inr ⟨ha, Or.inr (Or.inr ⟨hw, (zb_t ⟨by rw [tnn, tnx]; exact h7, zb_0 q⟩).symm⟩)⟩, fun q => Or.inr ⟨ha, Or.inr (Or.inr ⟨hw, (zb_f (fun z => z.2 (zb_1 q))).symm⟩)⟩⟩
    · by_cases h8 : p2 = 0
      · exact Or.inr ⟨ha, Or.inr (Or.inl ⟨h8, (zb_f (by rw [tnn, tnx]; exact h7)).symm⟩)⟩
      · exact Or.inr ⟨ha, Or.inr (Or.inr ⟨what2 (by omega) h5 h8 h6, (zb_f (fun z => h7 (by have := z.1; rwa [tnn, tnx] at this))).symm⟩)⟩
set_option maxHeartbeats 4000000 in
set_option maxRecDepth 100000 in
theorem met_X7_looks (l : Launch) (D : va_G) (cy : Nat → ClassId) (ad : Nat → Nat) (sz : Nat) (g : Gs) (a : As) (p0 : Int32) (p1 : Int32) (p2 : Int32) (post : Int32 → Prop)
  (hV : ∀ r1 : Int32, post_X7_isOdd p0 r1 → ((r1 = 0 → post (-1 : Int32)) ∧ (¬ r1 = 0 → ∀ r14 : Int32, post_X7_in p1.toInt64 (1 : Int64) ((p0 - (1 : Int32)).toInt64) r14 → ((r14 = 0 → post (-1 : Int32)) ∧ (¬ r14 = 0 → ∀ r26 : Int32, post_X7_in p2.toInt64 (0 : Int64) (2 : Int64) r26 → ((r26 = 0 → post (-1 : Int32)) ∧ (¬ r26 = 0 → ((p2 = (1 : Int32) → pre_X7_isStrong p0 p1 ∧ (∀ r41 : Int32, post_X7_isStrong p0 p1 r41 → ((r41 = 0 → post (0 : Int32)) ∧ (¬ r41 = 0 → post (1 : Int32))))) ∧ (¬ p2 = (1 : Int32) → pre_X7_looksSo p0 p1 ∧ (∀ r49 : Int32, post_X7_looksSo p0 p1 r49 → ((r49 = 0 → post (0 : Int32)) ∧ (¬ r49 = 0 → ((p2 = 0 → post (1 : Int32)) ∧ (¬ p2 = 0 → pre_X7_isPrime p0 ∧ (∀ r60 : Int32, post_X7_isPrime p0 r60 → ((r60 = 0 → post (1 : Int32)) ∧ (¬ r60 = 0 → post (0 : Int32)))))))))))))))))) :
  Met l yX7_looks wsX7_looks ({ frames := 2, cells := 0, slots := 0, locals := 56 } : Room) (va_Pc [.ref (ad 0), .int p0, .int p1, .int p2] (ArP D cy sz (maW ad cy g a))) (Qpi post) 0 0 noF := by
  refine Met.ofW (cc := cX7_looks) (maxL := 5) (ret := (some .int)) (by decide) rfl ?_
  intro p e s m args below meth c s₁ B hml hv
  obtain ⟨rfl, hsz, hP, hK, hD0, hN⟩ := hv
  have hx := B.exec
  have hb := B.bytes
  have hr := B.returns
  have hts := atoms_spec (ws := wsX7_looks) B.pre
  have hown : s.vm.findClass RX7 = some m.cls := findClass_of_methodNamed B.named
  have hlocks := B.notSynchronized
  subst hsz
  have hP : va_P D vwCl (maW ad cy g a) s.heap := hP
  have hD : va_D (fun _ => True) (maW ad cy g a) := hD0
  have hl := lv_entry ([.ref (ad 0), .int p0, .int p1, .int p2]) (n := 5) (Nat.le_of_ble_eq_true rfl)
  rw [lg_entry_eq]
  generalize (lg_sl ([.ref (ad 0), .int p0, .int p1, .int p2]) ++ List.replicate (5 - (lg_sl ([.ref (ad 0), .int p0, .int p1, .int p2])).length) Slot.unset).toArray = ls at hl ⊢
  have hl : lv_has ls 5 [(0, .ref (ad 0)), (1, .int p0), (2, .int p1), (3, .int p2)] := hl
  refine lv_iload_n hx hb dX7_looks_0 rfl (lv_at hl 1 rfl) ?_
  refine cp_i (va_runS (As := [.int p0]) (rest := []) ⟨hx, hb, hml, hown, hts⟩ (spec_X7_isOdd l p0) (va_cwS 1 hts gX7_looks_X7_isOdd rfl rfl rfl (by decide +kernel) ⟨Nat.le_of_ble_eq_true rfl, Nat.le_of_ble_eq_true rfl⟩) cp_pre rfl rfl hl.1 rfl (lv_room (Nat.le_of_ble_eq_true rfl)) dX7_looks_1 ⟨Nat.zero_le _, Nat.zero_le _⟩) (fun r1 q_1 => ?_)
  have hV := hV r1 q_1
  refine lv_if_eq (tgt := 32) hx hb dX7_looks_4 (by decide) (fun c_4 => ?_) (fun c_4 => ?_)
  · have hV := hV.1 c_4
    refine lv_iconst (v := (-1 : Int32)) hx hb dX7_looks_32 (by decide) ?_
    exact W.iret (v := (-1 : Int32)) hx hb hr (fun t ht hW => ⟨_, rfl, hV, ht⟩) (fun _ h => by cases h) dX7_looks_33
  · have hV := hV.2 c_4
    refine lv_iload_n hx hb dX7_looks_7 rfl (lv_at hl 2 rfl) ?_
    refine lv_i2l (v := p1.toInt64) hx hb dX7_looks_8 rfl ?_
    refine lv_lconst (v := (1 : Int64)) hx hb dX7_looks_9 (by decide) ?_
    refine lv_iload_n hx hb dX7_looks_10 rfl (lv_at hl 1 rfl) ?_
    refine lv_iconst (v := (1 : Int32)) hx hb dX7_looks_11 (by decide) ?_
    refine lv_isub hx hb dX7_looks_12 ?_
    refine lv_i2l (v := (p0 - (1 : Int32)).toInt64) hx hb dX7_looks_13 rfl ?_
    refine cp_i (va_runS (As := [.long p1.toInt64, .long (1 : Int64), .long ((p0 - (1 : Int32)).toInt64)]) (rest := []) ⟨hx, hb, hml, hown, hts⟩ (spec_X7_in l p1.toInt64 (1 : Int64) ((p0 - (1 : Int32)).toInt64)) (va_cwS 3 hts gX7_looks_X7_in rfl rfl rfl (by decide +kernel) ⟨Nat.le_of_ble_eq_true rfl, Nat.le_of_ble_eq_true rfl⟩) cp_pre rfl rfl hl.1 rfl (lv_room (Nat.le_of_ble_eq_true rfl)) dX7_looks_14 ⟨Nat.zero_le _, Nat.zero_le _⟩) (fun r14 q_14 => ?_)
    have hV := hV r14 q_14
    refine lv_if_eq (tgt := 32) hx hb dX7_looks_17 (by decide) (fun c_17 => ?_) (fun c_17 => ?_)
    · have hV := hV.1 c_17
      refine lv_iconst (v := (-1 : Int32)) hx hb dX7_looks_32 (by decide) ?_
      exact W.iret (v := (-1 : Int32)) hx hb hr (fun t ht hW => ⟨_, rfl, hV, ht⟩) (fun _ h => by cases h) dX7_looks_33
    · have hV := hV.2 c_17
      refine lv_iload_n hx hb dX7_looks_20 rfl (lv_at hl 3 rfl) ?_
      refine lv_i2l (v := p2.toInt64) hx hb dX7_looks_21 rfl ?_
      refine lv_lconst (v := (0 : Int64)) hx hb dX7_looks_22 (by decide) ?_
      refine lv_ldc2 (v := (2 : Int64)) hx hb hown (hts (.constantLong RX7 56 (2)) (by decide +kernel)) dX7_looks_23 ?_
      refine cp_i (va_runS (As := [.long p2.toInt64, .long (0 : Int64), .long (2 : Int64)]) (rest := []) ⟨hx, hb, hml, hown, hts⟩ (spec_X7_in l p2.toInt64 (0 : Int64) (2 : Int64)) (va_cwS 3 hts gX7_looks_X7_in rfl rfl rfl (by decide +kernel) ⟨Nat.le_of_ble_eq_true rfl, Nat.le_of_ble_eq_true rfl⟩) cp_pre rfl rfl hl.1 rfl (lv_room (Nat.le_of_ble_eq_true rfl)) dX7_looks_26 ⟨Nat.zero_le _, Nat.zero_le _⟩) (fun r26 q_26 => ?_)
      have hV := hV r26 q_26
      refine lv_if_ne (tgt := 34) hx hb dX7_looks_29 (by decide) (fun c_29 => ?_) (fun c_29 => ?_)
      · have hV := hV.2 c_29
        refine lv_iload_n hx hb dX7_looks_34 rfl (lv_at hl 3 rfl) ?_
        refine lv_iconst (v := (1 : Int32)) hx hb dX7_looks_35 (by decide) ?_
        refine lv_icmp_ne (tgt := 47) hx hb dX7_looks_36 (by decide) (fun c_36 => ?_) (fun c_36 => ?_)
        · have hV := hV.2 c_36
          refine lv_iload_n hx hb dX7_looks_47 rfl (lv_at hl 1 rfl) ?_
          refine lv_iload_n hx hb dX7_looks_48 rfl (lv_at hl 2 rfl) ?_
          obtain ⟨h_49, hV⟩ := hV
          refine cp_i (va_runS (As := [.int p0, .int p1]) (rest := []) ⟨hx, hb, hml, hown, hts⟩ (spec_X7_looksSo l p0 p1 h_49) (va_cwS 2 hts gX7_looks_X7_looksSo rfl rfl rfl (by decide +kernel) ⟨Nat.le_of_ble_eq_true rfl, Nat.le_of_ble_eq_true rfl⟩) cp_pre rfl rfl hl.1 rfl (lv_room (Nat.le_of_ble_eq_true rfl)) dX7_looks_49 ⟨Nat.zero_le _, Nat.zero_le _⟩) (fun r49 q_49 => ?_)
          have hV := hV r49 q_49
          refine lv_if_eq (tgt := 70) hx hb dX7_looks_52 (by decide) (fun c_52 => ?_) (fun c_52 => ?_)
          · have hV := hV.1 c_52
            refine lv_iconst (v := (0 : Int32)) hx hb dX7_looks_70 (by decide) ?_
            refine lv_istore (lv' := [(4, .int (0 : Int32)), (0, .ref (ad 0)), (1, .int p0), (2, .int p1), (3, .int p2)]) hx hb dX7_looks_71 hl (by decide) rfl (fun ls hl => ?_)
            refine lv_iload hx hb dX7_looks_73 (lv_at hl 0 rfl) ?_
            refine lv_if_eq (tgt := 82) hx hb dX7_looks_75 (by decide) (fun c_75 => ?_) (fun c_75 => ?_)
            · have hV := hV
              refine lv_iconst (v := (0 : Int32)) hx hb dX7_looks_82 (by decide) ?_
              exact W.iret (v := (0 : Int32)) hx hb hr (fun t ht hW => ⟨_, rfl, hV, ht⟩) (fun _ h => by cases h) dX7_looks_83
            · exact absurd (by decide) c_75
          · have hV := hV.2 c_52
            refine lv_iload_n hx hb dX7_looks_55 rfl (lv_at hl 3 rfl) ?_
            refine lv_if_eq (tgt := 66) hx hb dX7_looks_56 (by decide) (fun c_56 => ?_) (fun c_56 => ?_)
            · have hV := hV.1 c_56
              refine lv_iconst (v := (1 : Int32)) hx hb dX7_looks_66 (by decide) ?_
              refine lv_goto (tgt := 71) hx hb dX7_looks_67 (by decide) ?_
              refine lv_istore (lv' := [(4, .int (1 : Int32)), (0, .ref (ad 0)), (1, .int p0), (2, .int p1), (3, .int p2)]) hx hb dX7_looks_71 hl (by decide) rfl (fun ls hl => ?_)
              refine lv_iload hx hb dX7_looks_73 (lv_at hl 0 rfl) ?_
              refine lv_if_eq (tgt := 82) hx hb dX7_looks_75 (by decide) (fun c_75 => ?_) (fun c_75 => ?_)
              · exact absurd c_75 (by decide)
              · have hV := hV
                refine lv_iconst (v := (1 : Int32)) hx hb dX7_looks_78 (by decide) ?_
                refine lv_goto (tgt := 83) hx hb dX7_looks_79 (by decide) ?_
                exact W.iret (v := (1 : Int32)) hx hb hr (fun t ht hW => ⟨_, rfl, hV, ht⟩) (fun _ h => by cases h) dX7_looks_83
            · have hV := hV.2 c_56
              refine lv_iload_n hx hb dX7_looks_59 rfl (lv_at hl 1 rfl) ?_
              obtain ⟨h_60, hV⟩ := hV
              refine cp_i (va_runS (As := [.int p0]) (rest := []) ⟨hx, hb, hml, hown, hts⟩ (spec_X7_isPrime l p0 h_60) (va_cwS 1 hts gX7_looks_X7_isPrime rfl rfl rfl (by decide +kernel) ⟨Nat.le_of_ble_eq_true rfl, Nat.le_of_ble_eq_true rfl⟩) cp_pre rfl rfl hl.1 rfl (lv_room (Nat.le_of_ble_eq_true rfl)) dX7_looks_60 ⟨Nat.zero_le _, Nat.zero_le _⟩) (fun r60 q_60 => ?_)
              have hV := hV r60 q_60
              refine lv_if_ne (tgt := 70) hx hb dX7_looks_63 (by decide) (fun c_63 => ?_) (fun c_63 => ?_)
              · have hV := hV.2 c_63
                refine lv_iconst (v := (0 : Int32)) hx hb dX7_looks_70 (by decide) ?_
                refine lv_istore (lv' := [(4, .int (0 : Int32)), (0, .ref (ad 0)), (1, .int p0), (2, .int p1), (3, .int p2)]) hx hb dX7_looks_71 hl (by decide) rfl (fun ls hl => ?_)
                refine lv_iload hx hb dX7_looks_73 (lv_at hl 0 rfl) ?_
                refine lv_if_eq (tgt := 82) hx hb dX7_looks_75 (by decide) (fun c_75 => ?_) (fun c_75 => ?_)
                · have hV := hV
                  refine lv_iconst (v := (0 : Int32)) hx hb dX7_looks_82 (by decide) ?_
                  exact W.iret (v := (0 : Int32)) hx hb hr (fun t ht hW => ⟨_, rfl, hV, ht⟩) (fun _ h => by cases h) dX7_looks_83
                · exact absurd (by decide) c_75
              · have hV := hV.1 c_63
                refine lv_iconst (v := (1 : Int32)) hx hb dX7_looks_66 (by decide) ?_
                refine lv_goto (tgt := 71) hx hb dX7_looks_67 (by decide) ?_
                refine lv_istore (lv' := [(4, .int (1 : Int32)), (0, .ref (ad 0)), (1, .int p0), (2, .int p1), (3, .int p2)]) hx hb dX7_looks_71 hl (by decide) rfl (fun ls hl => ?_)
                refine lv_iload hx hb dX7_looks_73 (lv_at hl 0 rfl) ?_
                refine lv_if_eq (tgt := 82) hx hb dX7_looks_75 (by decide) (fun c_75 => ?_) (fun c_75 => ?_)
                · exact absurd c_75 (by decide)
                · have hV := hV
                  refine lv_iconst (v := (1 : Int32)) hx hb dX7_looks_78 (by decide) ?_
                  refine lv_goto (tgt := 83) hx hb dX7_looks_79 (by decide) ?_
                  exact W.iret (v := (1 : Int32)) hx hb hr (fun t ht hW => ⟨_, rfl, hV, ht⟩) (fun _ h => by cases h) dX7_looks_83
        · have hV := hV.1 c_36
          refine lv_iload_n hx hb dX7_looks_39 rfl (lv_at hl 1 rfl) ?_
          refine lv_iload_n hx hb dX7_looks_40 rfl (lv_at hl 2 rfl) ?_
          obtain ⟨h_41, hV⟩ := hV
          refine cp_i (va_runS (As := [.int p0, .int p1]) (rest := []) ⟨hx, hb, hml, hown, hts⟩ (spec_X7_isStrong l p0 p1 h_41) (va_cwS 2 hts gX7_looks_X7_isStrong rfl rfl rfl (by decide +kernel) ⟨Nat.le_of_ble_eq_true rfl, Nat.le_of_ble_eq_true rfl⟩) cp_pre rfl rfl hl.1 rfl (lv_room (Nat.le_of_ble_eq_true rfl)) dX7_looks_41 ⟨Nat.zero_le _, Nat.zero_le _⟩) (fun r41 q_41 => ?_)
          have hV := hV r41 q_41
          refine lv_goto (tgt := 71) hx hb dX7_looks_44 (by decide) ?_
          refine lv_istore (lv' := [(4, .int r41), (0, .ref (ad 0)), (1, .int p0), (2, .int p1), (3, .int p2)]) hx hb dX7_looks_71 hl (by decide) rfl (fun ls hl => ?_)
          refine lv_iload hx hb dX7_looks_73 (lv_at hl 0 rfl) ?_
          refine lv_if_eq (tgt := 82) hx hb dX7_looks_75 (by decide) (fun c_75 => ?_) (fun c_75 => ?_)
          · have hV := hV.1 c_75
            refine lv_iconst (v := (0 : Int32)) hx hb dX7_looks_82 (by decide) ?_
            exact W.iret (v := (0 : Int32)) hx hb hr (fun t ht hW => ⟨_, rfl, hV, ht⟩) (fun _ h => by cases h) dX7_looks_83
          · have hV := hV.2 c_75
            refine lv_iconst (v := (1 : Int32)) hx hb dX7_looks_78 (by decide) ?_
            refine lv_goto (tgt := 83) hx hb dX7_looks_79 (by decide) ?_
            exact W.iret (v := (1 : Int32)) hx hb hr (fun t ht hW => ⟨_, rfl, hV, ht⟩) (fun _ h => by cases h) dX7_looks_83
      · have hV := hV.1 c_29
        refine lv_iconst (v := (-1 : Int32)) hx hb dX7_looks_32 (by decide) ?_
        exact W.iret (v := (-1 : Int32)) hx hb hr (fun t ht hW => ⟨_, rfl, hV, ht⟩) (fun _ h => by cases h) dX7_looks_33
def post_X7_looks (g : Gs) (a : As) (p0 p1 p2 r : Int32) : Prop := LooksAns p0 p1 p2 r
set_option maxRecDepth 4000 in
theorem spec_X7_looks (l : Launch) (D : va_G) (cy : Nat → ClassId) (ad : Nat → Nat) (sz : Nat) (g : Gs) (a : As) (p0 : Int32) (p1 : Int32) (p2 : Int32) : Met l yX7_looks wsX7_looks ({ frames := 2, cells := 0, slots := 0, locals := 56 } : Room) (va_Pc [.ref (ad 0), .int p0, .int p1, .int p2] (ArP D cy sz (maW ad cy g a))) (Qpi (post_X7_looks g a p0 p1 p2)) 0 0 noF := by
  apply met_X7_looks
  intro r hr
  unfold post_X7_isOdd at hr
  subst hr
  refine ⟨fun h => Or.inl ⟨Or.inl (zb_0 h), rfl⟩, fun h r2 hr2 => ?_⟩
  have ho : OddN p0 := zb_1 h
  obtain ⟨o1, o2, o3⟩ := id ho
  obtain ⟨n, hn, rfl, hn2⟩ := of_i (x := p0) (by omega)
  have es : nI n - (1 : Int32) = nI (n - 1) := pk_sub (b := 1) (by omega)
  unfold post_X7_in at hr2
  have e0 : (0 : Int64).toInt = 0 := rfl
  have e1 : (1 : Int64).toInt = 1 := rfl
  have e2 : (2 : Int64).toInt = 2 := rfl
  rw [es, il_t, il_t, nI_toInt (by omega), e1] at hr2
  subst hr2
  refine ⟨fun h2 => Or.inl ⟨Or.inr ?_, rfl⟩, fun h2 r3 hr3 => ?_⟩
  · have := zb_0 h2
    rcases (show p1.toInt < 1 ∨ (nI n).toInt ≤ p1.toInt by omega) with q | q
    · exact Or.inl q
    · exact Or.inr (Or.inl q)
  · have h2 := zb_1 h2
    unfold post_X7_in at hr3
    rw [il_t, e0, e2] at hr3
    subst hr3
    have ha : OddN (nI n) ∧ 1 ≤ p1.toInt ∧ p1.toInt < (nI n).toInt := ⟨ho, h2.1, by omega⟩
    refine ⟨fun h3 => Or.inl ⟨Or.inr (Or.inr (Or.inr ?_)), rfl⟩, fun h3 => ⟨fun h6 => ⟨⟨o1, by omega⟩, fun r4 hr4 => ?_⟩, fun h6 => ⟨⟨o1, by omega⟩, fun r4 hr4 => ?_⟩⟩⟩
    · have := zb_0 h3
      omega
    · unfold post_X7_isStrong at hr4
      subst hr4
      exact ⟨fun q => Or.inr ⟨ha, Or.inl ⟨h6, (zb_f (zb_0 q)).symm⟩⟩, fun q => Or.inr ⟨ha, Or.inl ⟨h6, (zb_t (zb_1 q)).symm⟩⟩⟩
    · have h3 := zb_1 h3
      unfold post_X7_looksSo at hr4
      subst hr4
      refine ⟨fun h7 => ?_, fun h7 => ⟨fun h8 => Or.inr ⟨ha, Or.inr (Or.inl ⟨h8, (zb_t (zb_1 h7)).symm⟩)⟩, fun h8 => ⟨show (nI n).toInt < 1000000 by omega, fun r5 hr5 => ?_⟩⟩⟩
      · by_cases h8 : p2 = 0
        · exact Or.inr ⟨ha, Or.inr (Or.inl ⟨h8, (zb_f (zb_0 h7)).symm⟩)⟩
        · exact Or.inr ⟨ha, Or.inr (Or.inr ⟨what2 h3.1 h3.2 h8 h6, (zb_f (fun z => zb_0 h7 z.1)).symm⟩)⟩
      · unfold post_X7_isPrime at hr5
        subst hr5
        have hw := what2 h3.1 h3.2 h8 h6
        exact ⟨fun q => Or.inr ⟨ha, Or.inr (Or.inr ⟨hw, (zb_t ⟨zb_1 h7, zb_0 q⟩).symm⟩)⟩, fun q => Or.inr ⟨ha, Or.inr (Or.inr ⟨hw, (zb_f (fun z => z.2 (zb_1 q))).symm⟩)⟩⟩
