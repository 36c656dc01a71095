/-! who lies -/
noncomputable def StB (n : Nat) (a : Nat) : Bool := cb (Strong n a)
def WitP (n a : Nat) : Prop := 2 ≤ a ∧ a < n - 1 ∧ ¬ Strong n a
def LiedAns (n what r : Int32) : Prop := ((¬ OddN n ∨ what.toInt < 0 ∨ 2 < what.toInt) ∧ r = -1) ∨ ((OddN n ∧ 0 ≤ what.toInt ∧ what.toInt ≤ 2) ∧ (what = 0 → r = nI (fb_ct (OB (tn n - 1) (tn n)) (tn n))) ∧ (what = 1 → r = nI (fb_ct (StB (tn n)) (tn n))) ∧ (what = 2 → First (WitP (tn n)) (tn n) r))
theorem what_2 {x : Int32} (h0 : 0 ≤ x.toInt) (h3 : x.toInt ≤ 2) : x = 0 ∨ x = 1 ∨ x = 2 := by
  rw [i_eq, i_eq, i_eq]
  have e0 : (0 : Int32).toInt = 0 := rfl
  have e1 : (1 : Int32).toInt = 1 := rfl
  have e2 : (2 : Int32).toInt = 2 := rfl
  omega
theorem LiedAns.one {n what r r' : Int32} (h : LiedAns n what r) (h' : LiedAns n what r') : r = r' := by
  rcases h with ⟨h1, h2⟩ | ⟨h1, h2, h3, h4⟩ <;> rcases h' with ⟨k1, k2⟩ | ⟨k1, k2, k3, k4⟩
  · rw [h2, k2]
  · rcases h1 with q | q
    · exact absurd k1.1 q
    · have := k1.2; omega
  · rcases k1 with q | q
    · exact absurd h1.1 q
    · have := h1.2; omega
  · rcases what_2 h1.2.1 h1.2.2 with q | q | q
    · rw [h2 q, k2 q]
    · rw [h3 q, k3 q]
    · exact (h4 q).one (k4 q)
def pre_X6_leastWitness (p0 : Int32) : Prop := OddN p0
set_option maxHeartbeats 4000000 in
set_option maxRecDepth 100000 in
theorem met_X6_leastWitness (l : Launch) (p0 : Int32) (post : Int32 → Prop)
  (hV : ∀ (J12 : Int32 → Prop),
    (∀ (x1 : Int32), (((p0 - (2 : Int32)) < x1 → post (-4 : Int32)) ∧ (¬ (p0 - (2 : Int32)) < x1 → pre_X4_looksStrongly p0 x1 ∧ (∀ r21 : Int32, post_X4_looksStrongly p0 x1 r21 → ((r21 = 0 → post x1) ∧ (¬ r21 = 0 → J12 (x1 + 1)))))) → J12 x1) →
    pre_X4_isPrime p0 ∧ (∀ r1 : Int32, post_X4_isPrime p0 r1 → ((r1 = 0 → J12 (2 : Int32)) ∧ (¬ r1 = 0 → post (-4 : Int32))))) :
  Met l yX6_leastWitness wsX6_leastWitness ({ frames := 3, cells := 0, slots := 0, locals := 67 } : Room) (va_Pc [.int p0] (fun _ => True)) (Qpi post) 0 0 noF := by
  refine Met.ofW (cc := cX6_leastWitness) (maxL := 2) (ret := (some .int)) (by decide) rfl ?_
  intro p e s m args below meth c s₁ B hml hv
  obtain ⟨rfl, -⟩ := hv
  have hx := B.exec
  have hb := B.bytes
  have hr := B.returns
  have hts := atoms_spec (ws := wsX6_leastWitness) B.pre
  have hown : s.vm.findClass RX6 = some m.cls := findClass_of_methodNamed B.named
  have hlocks := B.notSynchronized
  obtain ⟨J12, iJ12, oJ12⟩ : ∃ J : Int32 → Prop, (∀ (x1 : Int32), (∀ ls : Array Slot, lv_has ls 2 [(0, .int p0), (1, .int x1)] → W p l e (headSpec wsX6_leastWitness ({ frames := 3, cells := 0, slots := 0, locals := 67 } : Room)).room s m [.int p0].toArray below meth c s.heap [] 0 0 (MQ below (Qpi post) [.int p0].toArray s 0 0 noF) (F0 m 12 ls [])) → J x1) ∧ (∀ (x1 : Int32), J x1 → (∀ ls : Array Slot, lv_has ls 2 [(0, .int p0), (1, .int x1)] → W p l e (headSpec wsX6_leastWitness ({ frames := 3, cells := 0, slots := 0, locals := 67 } : Room)).room s m [.int p0].toArray below meth c s.heap [] 0 0 (MQ below (Qpi post) [.int p0].toArray s 0 0 noF) (F0 m 12 ls []))) := ⟨fun (x1 : Int32) => (∀ ls : Array Slot, lv_has ls 2 [(0, .int p0), (1, .int x1)] → W p l e (headSpec wsX6_leastWitness ({ frames := 3, cells := 0, slots := 0, locals := 67 } : Room)).room s m [.int p0].toArray below meth c s.heap [] 0 0 (MQ below (Qpi post) [.int p0].toArray s 0 0 noF) (F0 m 12 ls [])), fun _ h => h, fun _ h => h⟩
  have hV := hV J12
  replace hV := hV (by
    intro x1 hV
    refine iJ12 x1 ?_
    intro ls hl
    refine lv_iload_n hx hb dX6_leastWitness_12 rfl (lv_at hl 1 rfl) ?_
    refine lv_iload_n hx hb dX6_leastWitness_13 rfl (lv_at hl 0 rfl) ?_
    refine lv_iconst (v := (2 : Int32)) hx hb dX6_leastWitness_14 (by decide) ?_
    refine lv_isub hx hb dX6_leastWitness_15 ?_
    refine lv_icmp_gt (tgt := 35) hx hb dX6_leastWitness_16 (by decide) (fun c_16 => ?_) (fun c_16 => ?_)
    · have hV := hV.1 c_16
      refine lv_bipush (v := (-4 : Int32)) hx hb dX6_leastWitness_35 (by decide) ?_
      exact W.iret (v := (-4 : Int32)) hx hb hr (fun t ht hW => ⟨_, rfl, hV, ht⟩) (fun _ h => by cases h) dX6_leastWitness_37
    · have hV := hV.2 c_16
      refine lv_iload_n hx hb dX6_leastWitness_19 rfl (lv_at hl 0 rfl) ?_
      refine lv_iload_n hx hb dX6_leastWitness_20 rfl (lv_at hl 1 rfl) ?_
      obtain ⟨h_21, hV⟩ := hV
      refine cp_i (va_runS (As := [.int p0, .int x1]) (rest := []) ⟨hx, hb, hml, hown, hts⟩ (spec_X4_looksStrongly l p0 x1 h_21) (va_cwS 2 hts gX6_leastWitness_X4_looksStrongly rfl rfl rfl (by decide +kernel) ⟨Nat.le_of_ble_eq_true rfl, Nat.le_of_ble_eq_true rfl⟩) cp_pre rfl rfl hl.1 rfl (lv_room (Nat.le_of_ble_eq_true rfl)) dX6_leastWitness_21 ⟨Nat.zero_le _, Nat.zero_le _⟩) (fun r21 q_21 => ?_)
      have hV := hV r21 q_21
      refine lv_if_ne (tgt := 29) hx hb dX6_leastWitness_24 (by decide) (fun c_24 => ?_) (fun c_24 => ?_)
      · have hV := hV.2 c_24
        refine lv_iinc (v := x1 + 1) (lv' := [(1, .int (x1 + 1)), (0, .int p0)]) hx hb dX6_leastWitness_29 hl (k := 1) rfl rfl (by decide) rfl (fun ls hl => ?_)
        refine lv_goto (tgt := 12) hx hb dX6_leastWitness_32 (by decide) ?_
        exact oJ12 _ hV _ (lv_sub hl [1, 0] rfl)
      · have hV := hV.1 c_24
        refine lv_iload_n hx hb dX6_leastWitness_27 rfl (lv_at hl 1 rfl) ?_
        exact W.iret (v := x1) hx hb hr (fun t ht hW => ⟨_, rfl, hV, ht⟩) (fun _ h => by cases h) dX6_leastWitness_28)
  have hl := lv_entry ([.int p0]) (n := 2) (Nat.le_of_ble_eq_true rfl)
  rw [lg_entry_eq]
  generalize (lg_sl ([.int p0]) ++ List.replicate (2 - (lg_sl ([.int p0])).length) Slot.unset).toArray = ls at hl ⊢
  have hl : lv_has ls 2 [(0, .int p0)] := hl
  refine lv_iload_n hx hb dX6_leastWitness_0 rfl (lv_at hl 0 rfl) ?_
  obtain ⟨h_1, hV⟩ := hV
  refine cp_i (va_runS (As := [.int p0]) (rest := []) ⟨hx, hb, hml, hown, hts⟩ (spec_X4_isPrime l p0 h_1) (va_cwS 1 hts gX6_leastWitness_X4_isPrime rfl rfl rfl (by decide +kernel) ⟨Nat.le_of_ble_eq_true rfl, Nat.le_of_ble_eq_true rfl⟩) cp_pre rfl rfl hl.1 rfl (lv_room (Nat.le_of_ble_eq_true rfl)) dX6_leastWitness_1 ⟨Nat.zero_le _, Nat.zero_le _⟩) (fun r1 q_1 => ?_)
  have hV := hV r1 q_1
  refine lv_if_eq (tgt := 10) hx hb dX6_leastWitness_4 (by decide) (fun c_4 => ?_) (fun c_4 => ?_)
  · have hV := hV.1 c_4
    refine lv_iconst (v := (2 : Int32)) hx hb dX6_leastWitness_10 (by decide) ?_
    refine lv_istore_n (lv' := [(1, .int (2 : Int32)), (0, .int p0)]) hx hb dX6_leastWitness_11 rfl hl (by decide) rfl (fun ls hl => ?_)
    exact oJ12 _ hV _ (lv_sub hl [1, 0] rfl)
  · have hV := hV.2 c_4
    refine lv_bipush (v := (-4 : Int32)) hx hb dX6_leastWitness_7 (by decide) ?_
    exact W.iret (v := (-4 : Int32)) hx hb hr (fun t ht hW => ⟨_, rfl, hV, ht⟩) (fun _ h => by cases h) dX6_leastWitness_9
def post_X6_leastWitness (p0 r : Int32) : Prop := First (WitP (tn p0)) (tn p0) r
set_option maxRecDepth 4000 in
theorem spec_X6_leastWitness (l : Launch) (p0 : Int32) (hpre : pre_X6_leastWitness p0) : Met l yX6_leastWitness wsX6_leastWitness ({ frames := 3, cells := 0, slots := 0, locals := 67 } : Room) (va_Pc [.int p0] (fun _ => True)) (Qpi (post_X6_leastWitness p0)) 0 0 noF := by
  apply met_X6_leastWitness
  intro J hJ
  obtain ⟨o1, o2, o3⟩ := id (show OddN p0 from hpre)
  obtain ⟨n, hn, rfl, hn2⟩ := of_i (x := p0) (by omega)
  have tnn : tn (nI n) = n := tn_nI hn
  have good : ∀ r, First (WitP n) n r → post_X6_leastWitness (nI n) r := fun r h => by unfold post_X6_leastWitness; rw [tnn]; exact h
  refine ⟨show (nI n).toInt < 1000000 by omega, fun r hr => ?_⟩
  unfold post_X4_isPrime at hr
  rw [tnn] at hr
  subst hr
  refine ⟨fun _ => ?_, fun h => good _ (Or.inr ⟨fun x hx q => q.2.2 (pr_strong (zb_1 h) (by omega) (by omega) (by have := q.1; omega) hx), rfl⟩)⟩
  have key : ∀ (d k : Nat), k + d = n - 1 → 2 ≤ k → (∀ y, y < k → ¬ WitP n y) → J (nI k) := by
    intro d
    induction d with
    | zero =>
      intro k hk hk1 hi
      refine hJ _ ?_
      rw [show (2 : Int32) = nI 2 from rfl, pk_sub (by omega)]
      refine pk_lt (n - 2) k (fun _ => good _ (Or.inr ⟨fun x hx q => ?_, rfl⟩)) (fun h => absurd h (by omega))
      exact hi x (by have := q.2.1; omega) q
    | succ d ih =>
      intro k hk hk1 hi
      refine hJ _ ?_
      rw [show (2 : Int32) = nI 2 from rfl, pk_sub (by omega)]
      refine pk_lt (n - 2) k (fun h => absurd h (by omega)) (fun _ => ⟨⟨o1, by rw [nI_toInt (by omega)]; omega⟩, fun r hr => ?_⟩)
      unfold post_X4_looksStrongly at hr
      rw [tnn, tn_nI (by omega)] at hr
      subst hr
      refine ⟨fun h => good _ (Or.inl ⟨k, by omega, ⟨hk1, by omega, zb_0 h⟩, hi, rfl⟩), fun h => ?_⟩
      rw [nI_1]
      refine ih (k + 1) (by omega) (by omega) (fun y hy => ?_)
      by_cases e : y = k
      · subst e; exact fun q => q.2.2 (zb_1 h)
      · exact hi y (by omega)
  by_cases h3 : n = 3
  · refine key 0 2 (by omega) (by omega) (fun y hy q => ?_)
    have := q.1; omega
  · exact key (n - 3) 2 (by omega) (by omega) (fun y hy q => by have := q.1; omega)
def pre_X6_looksPrimeTo (g : Gs) (a : As) (w : Ws) (p0 : Int32) : Prop := OddN p0 ∧ Fac 0 (tn p0) g a
set_option maxHeartbeats 4000000 in
set_option maxRecDepth 100000 in
theorem met_X6_looksPrimeTo (l : Launch) (D : va_G) (cy : Nat → ClassId) (ad : Nat → Nat) (sz : Nat) (g : Gs) (a : As) (w : Ws) (p0 : Int32) (post : Int32 → Prop)
  (hV : ∀ (J4 : Int32 → Int32 → Prop),
    (∀ (x2 : Int32) (x3 : Int32), (((g 0) ≤ x3 → post x2) ∧ (¬ (g 0) ≤ x3 → vp_in x3 8 ∧ (pre_X4_commonDivisor (p0 - (1 : Int32)) (((a 0) x3.toNatClampNeg) - (1 : Int32)) ∧ (∀ r30 : Int32, post_X4_commonDivisor (p0 - (1 : Int32)) (((a 0) x3.toNatClampNeg) - (1 : Int32)) r30 → J4 (x2 * r30) (x3 + 1))))) → J4 x2 x3) →
    J4 (1 : Int32) (0 : Int32)) :
  Met l yX6_looksPrimeTo wsX6_looksPrimeTo ({ frames := 1, cells := 0, slots := 0, locals := 25 } : Room) (va_Pc [.ref (ad 0), .int p0] (ArP D cy sz (caW ad cy g a w))) (Qpi post) 0 0 noF := by
  refine Met.ofW (cc := cX6_looksPrimeTo) (maxL := 4) (ret := (some .int)) (by decide) rfl ?_
  intro p e s m args below meth c s₁ B hml hv
  obtain ⟨rfl, hsz, hP, hK, hD0, hN⟩ := hv
  have hx := B.exec
  have hb := B.bytes
  have hr := B.returns
  have hts := atoms_spec (ws := wsX6_looksPrimeTo) B.pre
  have hown : s.vm.findClass RX6 = some m.cls := findClass_of_methodNamed B.named
  have hlocks := B.notSynchronized
  subst hsz
  have hP : va_P D vwCl (caW ad cy g a w) s.heap := hP
  have hD : va_D (fun _ => True) (caW ad cy g a w) := hD0
  obtain ⟨J4, iJ4, oJ4⟩ : ∃ J : Int32 → Int32 → Prop, (∀ (x2 : Int32) (x3 : Int32), (∀ ls : Array Slot, lv_has ls 4 [(0, .ref (ad 0)), (1, .int p0), (2, .int x2), (3, .int x3)] → W p l e (headSpec wsX6_looksPrimeTo ({ frames := 1, cells := 0, slots := 0, locals := 25 } : Room)).room s m [.ref (ad 0), .int p0].toArray below meth c s.heap [] 0 0 (MQ below (Qpi post) [.ref (ad 0), .int p0].toArray s 0 0 noF) (F0 m 4 ls [])) → J x2 x3) ∧ (∀ (x2 : Int32) (x3 : Int32), J x2 x3 → (∀ ls : Array Slot, lv_has ls 4 [(0, .ref (ad 0)), (1, .int p0), (2, .int x2), (3, .int x3)] → W p l e (headSpec wsX6_looksPrimeTo ({ frames := 1, cells := 0, slots := 0, locals := 25 } : Room)).room s m [.ref (ad 0), .int p0].toArray below meth c s.heap [] 0 0 (MQ below (Qpi post) [.ref (ad 0), .int p0].toArray s 0 0 noF) (F0 m 4 ls []))) := ⟨fun (x2 : Int32) (x3 : Int32) => (∀ ls : Array Slot, lv_has ls 4 [(0, .ref (ad 0)), (1, .int p0), (2, .int x2), (3, .int x3)] → W p l e (headSpec wsX6_looksPrimeTo ({ frames := 1, cells := 0, slots := 0, locals := 25 } : Room)).room s m [.ref (ad 0), .int p0].toArray below meth c s.heap [] 0 0 (MQ below (Qpi post) [.ref (ad 0), .int p0].toArray s 0 0 noF) (F0 m 4 ls [])), fun _ _ h => h, fun _ _ h => h⟩
  have hV := hV J4
  replace hV := hV (by
    intro x2 x3 hV
    refine iJ4 x2 x3 ?_
    intro ls hl
    refine lv_iload_n hx hb dX6_looksPrimeTo_4 rfl (lv_at hl 3 rfl) ?_
    refine lv_aload_n hx hb dX6_looksPrimeTo_5 rfl (lv_at hl 0 rfl) ?_
    refine va_get (D := D) (ci := 5) (v := .ref (ad 1)) (C := RX6) (T := TX6) (N := 10) hx hb hts (by decide +kernel) hown hK hP 0 rfl rfl 0 (by decide) (hts (.fieldLink RX6 10 "PowerRests" "ofN" "LPowerRests$Factors;") (by decide +kernel)) (fun _ h9 => h9) rfl dX6_looksPrimeTo_6 ?_
    refine va_getN (D := D) (ci := 0) (v := .int (g 0)) (C := RX0) (T := TX0) (N := 3) hx hb hts (by decide +kernel) hown hK hP 1 rfl rfl 2 (by decide) (hN.use 0 (q := (RX6, 115, RX0, "kinds", "I")) rfl) (fun _ h9 => h9) rfl dX6_looksPrimeTo_9 ?_
    refine lv_icmp_ge (tgt := 41) hx hb dX6_looksPrimeTo_12 (by decide) (fun c_12 => ?_) (fun c_12 => ?_)
    · have hV := hV.1 c_12
      refine lv_iload_n hx hb dX6_looksPrimeTo_41 rfl (lv_at hl 2 rfl) ?_
      exact W.iret (v := x2) hx hb hr (fun t ht hW => ⟨_, rfl, hV, ht⟩) (fun _ h => by cases h) dX6_looksPrimeTo_42
    · have hV := hV.2 c_12
      refine lv_iload_n hx hb dX6_looksPrimeTo_15 rfl (lv_at hl 2 rfl) ?_
      refine lv_iload_n hx hb dX6_looksPrimeTo_16 rfl (lv_at hl 1 rfl) ?_
      refine lv_iconst (v := (1 : Int32)) hx hb dX6_looksPrimeTo_17 (by decide) ?_
      refine lv_isub hx hb dX6_looksPrimeTo_18 ?_
      refine lv_aload_n hx hb dX6_looksPrimeTo_19 rfl (lv_at hl 0 rfl) ?_
      refine va_get (D := D) (ci := 5) (v := .ref (ad 1)) (C := RX6) (T := TX6) (N := 10) hx hb hts (by decide +kernel) hown hK hP 0 rfl rfl 0 (by decide) (hts (.fieldLink RX6 10 "PowerRests" "ofN" "LPowerRests$Factors;") (by decide +kernel)) (fun _ h9 => h9) rfl dX6_looksPrimeTo_20 ?_
      refine va_getN (D := D) (ci := 0) (v := .ref (ad 2)) (C := RX0) (T := TX0) (N := 3) hx hb hts (by decide +kernel) hown hK hP 1 rfl rfl 0 (by decide) (hN.use 1 (q := (RX6, 119, RX0, "primes", "[I")) rfl) (fun _ h9 => h9) rfl dX6_looksPrimeTo_23 ?_
      refine lv_iload_n hx hb dX6_looksPrimeTo_26 rfl (lv_at hl 3 rfl) ?_
      obtain ⟨h_27, hV⟩ := hV
      refine va_iald (f := (a 0)) hx hb hK hP 2 0 rfl rfl h_27 dX6_looksPrimeTo_27 ?_
      refine lv_iconst (v := (1 : Int32)) hx hb dX6_looksPrimeTo_28 (by decide) ?_
      refine lv_isub hx hb dX6_looksPrimeTo_29 ?_
      obtain ⟨h_30, hV⟩ := hV
      refine cp_i (va_runS (As := [.int (p0 - (1 : Int32)), .int (((a 0) x3.toNatClampNeg) - (1 : Int32))]) (rest := [.int x2]) ⟨hx, hb, hml, hown, hts⟩ (spec_X4_commonDivisor l (p0 - (1 : Int32)) (((a 0) x3.toNatClampNeg) - (1 : Int32)) h_30) (va_cwS 2 hts gX6_looksPrimeTo_X4_commonDivisor rfl rfl rfl (by decide +kernel) ⟨Nat.le_of_ble_eq_true rfl, Nat.le_of_ble_eq_true rfl⟩) cp_pre rfl rfl hl.1 rfl (lv_room (Nat.le_of_ble_eq_true rfl)) dX6_looksPrimeTo_30 ⟨Nat.zero_le _, Nat.zero_le _⟩) (fun r30 q_30 => ?_)
      have hV := hV r30 q_30
      refine lv_imul hx hb dX6_looksPrimeTo_33 ?_
      refine lv_istore_n (lv' := [(2, .int (x2 * r30)), (0, .ref (ad 0)), (1, .int p0), (3, .int x3)]) hx hb dX6_looksPrimeTo_34 rfl hl (by decide) rfl (fun ls hl => ?_)
      refine lv_iinc (v := x3 + 1) (lv' := [(3, .int (x3 + 1)), (2, .int (x2 * r30)), (0, .ref (ad 0)), (1, .int p0)]) hx hb dX6_looksPrimeTo_35 hl (k := 3) rfl rfl (by decide) rfl (fun ls hl => ?_)
      refine lv_goto (tgt := 4) hx hb dX6_looksPrimeTo_38 (by decide) ?_
      exact oJ4 _ _ hV _ (lv_sub hl [2, 3, 1, 0] rfl))
  have hl := lv_entry ([.ref (ad 0), .int p0]) (n := 4) (Nat.le_of_ble_eq_true rfl)
  rw [lg_entry_eq]
  generalize (lg_sl ([.ref (ad 0), .int p0]) ++ List.replicate (4 - (lg_sl ([.ref (ad 0), .int p0])).length) Slot.unset).toArray = ls at hl ⊢
  have hl : lv_has ls 4 [(0, .ref (ad 0)), (1, .int p0)] := hl
  refine lv_iconst (v := (1 : Int32)) hx hb dX6_looksPrimeTo_0 (by decide) ?_
  refine lv_istore_n (lv' := [(2, .int (1 : Int32)), (0, .ref (ad 0)), (1, .int p0)]) hx hb dX6_looksPrimeTo_1 rfl hl (by decide) rfl (fun ls hl => ?_)
  refine lv_iconst (v := (0 : Int32)) hx hb dX6_looksPrimeTo_2 (by decide) ?_
  refine lv_istore_n (lv' := [(3, .int (0 : Int32)), (2, .int (1 : Int32)), (0, .ref (ad 0)), (1, .int p0)]) hx hb dX6_looksPrimeTo_3 rfl hl (by decide) rfl (fun ls hl => ?_)
  exact oJ4 _ _ hV _ (lv_sub hl [2, 3, 1, 0] rfl)
def post_X6_looksPrimeTo (g : Gs) (a : As) (w : Ws) (p0 r : Int32) : Prop := r = nI (fb_ct (OB (tn p0 - 1) (tn p0)) (tn p0))
set_option maxRecDepth 4000 in
theorem spec_X6_looksPrimeTo (l : Launch) (D : va_G) (cy : Nat → ClassId) (ad : Nat → Nat) (sz : Nat) (g : Gs) (a : As) (w : Ws) (p0 : Int32) (hpre : pre_X6_looksPrimeTo g a w p0) : Met l yX6_looksPrimeTo wsX6_looksPrimeTo ({ frames := 1, cells := 0, slots := 0, locals := 25 } : Room) (va_Pc [.ref (ad 0), .int p0] (ArP D cy sz (caW ad cy g a w))) (Qpi (post_X6_looksPrimeTo g a w p0)) 0 0 noF := by
  apply met_X6_looksPrimeTo
  intro J hJ
  obtain ⟨⟨o1, o2, o3⟩, hF⟩ := hpre
  obtain ⟨n, hn, rfl, hn2⟩ := of_i (x := p0) (by omega)
  have tnn : tn (nI n) = n := tn_nI hn
  unfold post_X6_looksPrimeTo at hJ
  rw [tnn] at hF hJ
  have h7 := hF.few
  rw [looks_ct hF.1 (by omega) (by omega) (by omega)] at hJ
  have key : ∀ (d k : Nat), k + d = tn (g 0) → J (nI (prodF (fun i => Nat.gcd (n - 1) (PP 0 a i - 1)) k)) (nI k) := by
    intro d
    induction d with
    | zero =>
      intro k hk
      have : k = tn (g 0) := by omega
      subst this
      exact hJ _ _ (pk_le (tn (g 0)) (tn (g 0)) (fun _ => rfl) (fun h => absurd h (by omega)) hF.2.2.1)
    | succ d ih =>
      intro k hk
      obtain ⟨v1, v2, v3, v4, v5, v6, v7, v8, v9⟩ := hF.at (show k < tn (g 0) by omega)
      refine hJ _ _ (pk_le (tn (g 0)) k (fun h => absurd h (by omega)) (fun _ => ⟨v1, ?_⟩) hF.2.2.1)
      rw [show (nI k).toNatClampNeg = k from v2, v3, show (1 : Int32) = nI 1 from rfl, pk_sub (by omega), pk_sub (by omega)]
      refine ⟨⟨by rw [nI_toInt (by omega)]; omega, by rw [nI_toInt (by omega)]; omega⟩, fun r hr => ?_⟩
      unfold post_X4_commonDivisor at hr
      rw [tn_nI (by omega), tn_nI (by omega)] at hr
      rw [hr, pk_mul, nI_add]
      exact ih (k + 1) (by omega)
  exact key (tn (g 0)) 0 (by omega)
def pre_X6_looksStronglyTo (g : Gs) (a : As) (w : Ws) (p0 : Int32) : Prop := OddN p0 ∧ Fac 0 (tn p0) g a
set_option maxHeartbeats 4000000 in
set_option maxRecDepth 100000 in
theorem met_X6_looksStronglyTo (l : Launch) (D : va_G) (cy : Nat → ClassId) (ad : Nat → Nat) (sz : Nat) (g : Gs) (a : As) (w : Ws) (p0 : Int32) (post : Int32 → Prop)
  (hV : ∀ (J15 : Int32 → Int32 → Int32 → Int32 → Prop) (J77 : Int32 → Int32 → Int32 → Int32 → Prop),
    (∀ (x2 : Int32) (x3 : Int32) (x4 : Int32) (x5 : Int32), (((g 0) ≤ x5 → J77 x3 x4 (1 : Int32) (0 : Int32)) ∧ (¬ (g 0) ≤ x5 → vp_in x5 8 ∧ (pre_X4_oddPart (((a 0) x5.toNatClampNeg) - (1 : Int32)) ∧ (∀ r45 : Int32, post_X4_oddPart (((a 0) x5.toNatClampNeg) - (1 : Int32)) r45 → pre_X4_commonDivisor x2 r45 ∧ (∀ r48 : Int32, post_X4_commonDivisor x2 r45 r48 → pre_X4_twosOf (((a 0) x5.toNatClampNeg) - (1 : Int32)) ∧ (∀ r57 : Int32, post_X4_twosOf (((a 0) x5.toNatClampNeg) - (1 : Int32)) r57 → J15 x2 (x3 * r48) (if r57 < x4 then r57 else x4) (x5 + 1))))))) → J15 x2 x3 x4 x5) →
    (∀ (x3 : Int32) (x4 : Int32) (x5 : Int32) (x6 : Int32), ((x4 ≤ x6 → post (x3 * x5)) ∧ (¬ x4 ≤ x6 → (((16 : Int32) ≤ x6 → post (x3 * x5)) ∧ (¬ (16 : Int32) ≤ x6 → J77 x3 x4 (x5 + ((1 : Int32) <<< ((x6 * (g 0)) &&& 31))) (x6 + 1))))) → J77 x3 x4 x5 x6) →
    pre_X4_oddPart (p0 - (1 : Int32)) ∧ (∀ r3 : Int32, post_X4_oddPart (p0 - (1 : Int32)) r3 → J15 r3 (1 : Int32) p0 (0 : Int32))) :
  Met l yX6_looksStronglyTo wsX6_looksStronglyTo ({ frames := 2, cells := 0, slots := 0, locals := 42 } : Room) (va_Pc [.ref (ad 0), .int p0] (ArP D cy sz (caW ad cy g a w))) (Qpi post) 0 0 noF := by
  refine Met.ofW (cc := cX6_looksStronglyTo) (maxL := 7) (ret := (some .int)) (by decide) rfl ?_
  intro p e s m args below meth c s₁ B hml hv
  obtain ⟨rfl, hsz, hP, hK, hD0, hN⟩ := hv
  have hx := B.exec
  have hb := B.bytes
  have hr := B.returns
  have hts := atoms_spec (ws := wsX6_looksStronglyTo) B.pre
  have hown : s.vm.findClass RX6 = some m.cls := findClass_of_methodNamed B.named
  have hlocks := B.notSynchronized
  subst hsz
  have hP : va_P D vwCl (caW ad cy g a w) s.heap := hP
  have hD : va_D (fun _ => True) (caW ad cy g a w) := hD0
  obtain ⟨J15, iJ15, oJ15⟩ : ∃ J : Int32 → Int32 → Int32 → Int32 → Prop, (∀ (x2 : Int32) (x3 : Int32) (x4 : Int32) (x5 : Int32), (∀ ls : Array Slot, lv_has ls 7 [(0, .ref (ad 0)), (2, .int x2), (3, .int x3), (4, .int x4), (5, .int x5)] → W p l e (headSpec wsX6_looksStronglyTo ({ frames := 2, cells := 0, slots := 0, locals := 42 } : Room)).room s m [.ref (ad 0), .int p0].toArray below meth c s.heap [] 0 0 (MQ below (Qpi post) [.ref (ad 0), .int p0].toArray s 0 0 noF) (F0 m 15 ls [])) → J x2 x3 x4 x5) ∧ (∀ (x2 : Int32) (x3 : Int32) (x4 : Int32) (x5 : Int32), J x2 x3 x4 x5 → (∀ ls : Array Slot, lv_has ls 7 [(0, .ref (ad 0)), (2, .int x2), (3, .int x3), (4, .int x4), (5, .int x5)] → W p l e (headSpec wsX6_looksStronglyTo ({ frames := 2, cells := 0, slots := 0, locals := 42 } : Room)).room s m [.ref (ad 0), .int p0].toArray below meth c s.heap [] 0 0 (MQ below (Qpi post) [.ref (ad 0), .int p0].toArray s 0 0 noF) (F0 m 15 ls []))) := ⟨fun (x2 : Int32) (x3 : Int32) (x4 : Int32) (x5 : Int32) => (∀ ls : Array Slot, lv_has ls 7 [(0, .ref (ad 0)), (2, .int x2), (3, .int x3), (4, .int x4), (5, .int x5)] → W p l e (headSpec wsX6_looksStronglyTo ({ frames := 2, cells := 0, slots := 0, locals := 42 } : Room)).room s m [.ref (ad 0), .int p0].toArray below meth c s.heap [] 0 0 (MQ below (Qpi post) [.ref (ad 0), .int p0].toArray s 0 0 noF) (F0 m 15 ls [])), fun _ _ _ _ h => h, fun _ _ _ _ h => h⟩
  obtain ⟨J77, iJ77, oJ77⟩ : ∃ J : Int32 → Int32 → Int32 → Int32 → Prop, (∀ (x3 : Int32) (x4 : Int32) (x5 : Int32) (x6 : Int32), (∀ ls : Array Slot, lv_has ls 7 [(0, .ref (ad 0)), (3, .int x3), (4, .int x4), (5, .int x5), (6, .int x6)] → W p l e (headSpec wsX6_looksStronglyTo ({ frames := 2, cells := 0, slots := 0, locals := 42 } : Room)).room s m [.ref (ad 0), .int p0].toArray below meth c s.heap [] 0 0 (MQ below (Qpi post) [.ref (ad 0), .int p0].toArray s 0 0 noF) (F0 m 77 ls [])) → J x3 x4 x5 x6) ∧ (∀ (x3 : Int32) (x4 : Int32) (x5 : Int32) (x6 : Int32), J x3 x4 x5 x6 → (∀ ls : Array Slot, lv_has ls 7 [(0, .ref (ad 0)), (3, .int x3), (4, .int x4), (5, .int x5), (6, .int x6)] → W p l e (headSpec wsX6_looksStronglyTo ({ frames := 2, cells := 0, slots := 0, locals := 42 } : Room)).room s m [.ref (ad 0), .int p0].toArray below meth c s.heap [] 0 0 (MQ below (Qpi post) [.ref (ad 0), .int p0].toArray s 0 0 noF) (F0 m 77 ls []))) := ⟨fun (x3 : Int32) (x4 : Int32) (x5 : Int32) (x6 : Int32) => (∀ ls : Array Slot, lv_has ls 7 [(0, .ref (ad 0)), (3, .int x3), (4, .int x4), (5, .int x5), (6, .int x6)] → W p l e (headSpec wsX6_looksStronglyTo ({ frames := 2, cells := 0, slots := 0, locals := 42 } : Room)).room s m [.ref (ad 0), .int p0].toArray below meth c s.heap [] 0 0 (MQ below (Qpi post) [.ref (ad 0), .int p0].toArray s 0 0 noF) (F0 m 77 ls [])), fun _ _ _ _ h => h, fun _ _ _ _ h => h⟩
  have hV := hV J15 J77
  replace hV := hV (by
    intro x2 x3 x4 x5 hV
    refine iJ15 x2 x3 x4 x5 ?_
    intro ls hl
    refine lv_iload hx hb dX6_looksStronglyTo_15 (lv_at hl 4 rfl) ?_
    refine lv_aload_n hx hb dX6_looksStronglyTo_17 rfl (lv_at hl 0 rfl) ?_
    refine va_get (D := D) (ci := 5) (v := .ref (ad 1)) (C := RX6) (T := TX6) (N := 10) hx hb hts (by decide +kernel) hown hK hP 0 rfl rfl 0 (by decide) (hts (.fieldLink RX6 10 "PowerRests" "ofN" "LPowerRests$Factors;") (by decide +kernel)) (fun _ h9 => h9) rfl dX6_looksStronglyTo_18 ?_
    refine va_getN (D := D) (ci := 0) (v := .int (g 0)) (C := RX0) (T := TX0) (N := 3) hx hb hts (by decide +kernel) hown hK hP 1 rfl rfl 2 (by decide) (hN.use 0 (q := (RX6, 115, RX0, "kinds", "I")) rfl) (fun _ h9 => h9) rfl dX6_looksStronglyTo_21 ?_
    refine lv_icmp_ge (tgt := 71) hx hb dX6_looksStronglyTo_24 (by decide) (fun c_24 => ?_) (fun c_24 => ?_)
    · have hV := hV.1 c_24
      refine lv_iconst (v := (1 : Int32)) hx hb dX6_looksStronglyTo_71 (by decide) ?_
      refine lv_istore (lv' := [(5, .int (1 : Int32)), (0, .ref (ad 0)), (2, .int x2), (3, .int x3), (4, .int x4)]) hx hb dX6_looksStronglyTo_72 hl (by decide) rfl (fun ls hl => ?_)
      refine lv_iconst (v := (0 : Int32)) hx hb dX6_looksStronglyTo_74 (by decide) ?_
      refine lv_istore (lv' := [(6, .int (0 : Int32)), (5, .int (1 : Int32)), (0, .ref (ad 0)), (2, .int x2), (3, .int x3), (4, .int x4)]) hx hb dX6_looksStronglyTo_75 hl (by decide) rfl (fun ls hl => ?_)
      exact oJ77 _ _ _ _ hV _ (lv_sub hl [2, 4, 5, 1, 0] rfl)
    · have hV := hV.2 c_24
      refine lv_aload_n hx hb dX6_looksStronglyTo_27 rfl (lv_at hl 0 rfl) ?_
      refine va_get (D := D) (ci := 5) (v := .ref (ad 1)) (C := RX6) (T := TX6) (N := 10) hx hb hts (by decide +kernel) hown hK hP 0 rfl rfl 0 (by decide) (hts (.fieldLink RX6 10 "PowerRests" "ofN" "LPowerRests$Factors;") (by decide +kernel)) (fun _ h9 => h9) rfl dX6_looksStronglyTo_28 ?_
      refine va_getN (D := D) (ci := 0) (v := .ref (ad 2)) (C := RX0) (T := TX0) (N := 3) hx hb hts (by decide +kernel) hown hK hP 1 rfl rfl 0 (by decide) (hN.use 1 (q := (RX6, 119, RX0, "primes", "[I")) rfl) (fun _ h9 => h9) rfl dX6_looksStronglyTo_31 ?_
      refine lv_iload hx hb dX6_looksStronglyTo_34 (lv_at hl 4 rfl) ?_
      obtain ⟨h_36, hV⟩ := hV
      refine va_iald (f := (a 0)) hx hb hK hP 2 0 rfl rfl h_36 dX6_looksStronglyTo_36 ?_
      refine lv_iconst (v := (1 : Int32)) hx hb dX6_looksStronglyTo_37 (by decide) ?_
      refine lv_isub hx hb dX6_looksStronglyTo_38 ?_
      refine lv_istore (lv' := [(6, .int (((a 0) x5.toNatClampNeg) - (1 : Int32))), (0, .ref (ad 0)), (2, .int x2), (3, .int x3), (4, .int x4), (5, .int x5)]) hx hb dX6_looksStronglyTo_39 hl (by decide) rfl (fun ls hl => ?_)
      refine lv_iload_n hx hb dX6_looksStronglyTo_41 rfl (lv_at hl 3 rfl) ?_
      refine lv_iload_n hx hb dX6_looksStronglyTo_42 rfl (lv_at hl 2 rfl) ?_
      refine lv_iload hx hb dX6_looksStronglyTo_43 (lv_at hl 0 rfl) ?_
      obtain ⟨h_45, hV⟩ := hV
      refine cp_i (va_runS (As := [.int (((a 0) x5.toNatClampNeg) - (1 : Int32))]) (rest := [.int x2, .int x3]) ⟨hx, hb, hml, hown, hts⟩ (spec_X4_oddPart l (((a 0) x5.toNatClampNeg) - (1 : Int32)) h_45) (va_cwS 1 hts gX6_looksStronglyTo_X4_oddPart rfl rfl rfl (by decide +kernel) ⟨Nat.le_of_ble_eq_true rfl, Nat.le_of_ble_eq_true rfl⟩) cp_pre rfl rfl hl.1 rfl (lv_room (Nat.le_of_ble_eq_true rfl)) dX6_looksStronglyTo_45 ⟨Nat.zero_le _, Nat.zero_le _⟩) (fun r45 q_45 => ?_)
      have hV := hV r45 q_45
      obtain ⟨h_48, hV⟩ := hV
      refine cp_i (va_runS (As := [.int x2, .int r45]) (rest := [.int x3]) ⟨hx, hb, hml, hown, hts⟩ (spec_X4_commonDivisor l x2 r45 h_48) (va_cwS 2 hts gX6_looksStronglyTo_X4_commonDivisor rfl rfl rfl (by decide +kernel) ⟨Nat.le_of_ble_eq_true rfl, Nat.le_of_ble_eq_true rfl⟩) cp_pre rfl rfl hl.1 rfl (lv_room (Nat.le_of_ble_eq_true rfl)) dX6_looksStronglyTo_48 ⟨Nat.zero_le _, Nat.zero_le _⟩) (fun r48 q_48 => ?_)
      have hV := hV r48 q_48
      refine lv_imul hx hb dX6_looksStronglyTo_51 ?_
      refine lv_istore_n (lv' := [(3, .int (x3 * r48)), (6, .int (((a 0) x5.toNatClampNeg) - (1 : Int32))), (0, .ref (ad 0)), (2, .int x2), (4, .int x4), (5, .int x5)]) hx hb dX6_looksStronglyTo_52 rfl hl (by decide) rfl (fun ls hl => ?_)
      refine lv_iload hx hb dX6_looksStronglyTo_53 (lv_at hl 4 rfl) ?_
      refine lv_iload hx hb dX6_looksStronglyTo_55 (lv_at hl 1 rfl) ?_
      obtain ⟨h_57, hV⟩ := hV
      refine cp_i (va_runS (As := [.int (((a 0) x5.toNatClampNeg) - (1 : Int32))]) (rest := [.int x4]) ⟨hx, hb, hml, hown, hts⟩ (spec_X4_twosOf l (((a 0) x5.toNatClampNeg) - (1 : Int32)) h_57) (va_cwS 1 hts gX6_looksStronglyTo_X4_twosOf rfl rfl rfl (by decide +kernel) ⟨Nat.le_of_ble_eq_true rfl, Nat.le_of_ble_eq_true rfl⟩) cp_pre rfl rfl hl.1 rfl (lv_room (Nat.le_of_ble_eq_true rfl)) dX6_looksStronglyTo_57 ⟨Nat.zero_le _, Nat.zero_le _⟩) (fun r57 q_57 => ?_)
      have hV := hV r57 q_57
      refine va_mmin hx hb (hml.trans hl.1.symm) hown (hts (.methodLink RX6 300 Lib.Math.min.name) (by decide +kernel)) (hts (.static Lib.Math.min.name) (by decide +kernel)) (hts (.initialized "java/lang/Math") (by decide +kernel)) (hts (.code Lib.Math.min.name Lib.Math.min.code 2 (some .int)) (by decide +kernel)) (Nat.le_of_ble_eq_true rfl) (Nat.le_of_ble_eq_true rfl) (Nat.zero_le _) (Nat.zero_le _) dX6_looksStronglyTo_60 ?_
      refine lv_istore (lv' := [(4, .int (if r57 < x4 then r57 else x4)), (3, .int (x3 * r48)), (6, .int (((a 0) x5.toNatClampNeg) - (1 : Int32))), (0, .ref (ad 0)), (2, .int x2), (5, .int x5)]) hx hb dX6_looksStronglyTo_63 hl (by decide) rfl (fun ls hl => ?_)
      refine lv_iinc (v := x5 + 1) (lv' := [(5, .int (x5 + 1)), (4, .int (if r57 < x4 then r57 else x4)), (3, .int (x3 * r48)), (6, .int (((a 0) x5.toNatClampNeg) - (1 : Int32))), (0, .ref (ad 0)), (2, .int x2)]) hx hb dX6_looksStronglyTo_65 hl (k := 5) rfl rfl (by decide) rfl (fun ls hl => ?_)
      refine lv_goto (tgt := 15) hx hb dX6_looksStronglyTo_68 (by decide) ?_
      exact oJ15 _ _ _ _ hV _ (lv_sub hl [4, 5, 2, 1, 0] rfl))
  replace hV := hV (by
    intro x3 x4 x5 x6 hV
    refine iJ77 x3 x4 x5 x6 ?_
    intro ls hl
    refine lv_iload hx hb dX6_looksStronglyTo_77 (lv_at hl 4 rfl) ?_
    refine lv_iload hx hb dX6_looksStronglyTo_79 (lv_at hl 2 rfl) ?_
    refine lv_icmp_ge (tgt := 114) hx hb dX6_looksStronglyTo_81 (by decide) (fun c_81 => ?_) (fun c_81 => ?_)
    · have hV := hV.1 c_81
      refine lv_iload_n hx hb dX6_looksStronglyTo_114 rfl (lv_at hl 1 rfl) ?_
      refine lv_iload hx hb dX6_looksStronglyTo_115 (lv_at hl 3 rfl) ?_
      refine lv_imul hx hb dX6_looksStronglyTo_117 ?_
      exact W.iret (v := x3 * x5) hx hb hr (fun t ht hW => ⟨_, rfl, hV, ht⟩) (fun _ h => by cases h) dX6_looksStronglyTo_118
    · have hV := hV.2 c_81
      refine lv_iload hx hb dX6_looksStronglyTo_84 (lv_at hl 4 rfl) ?_
      refine lv_bipush (v := (16 : Int32)) hx hb dX6_looksStronglyTo_86 (by decide) ?_
      refine lv_icmp_ge (tgt := 114) hx hb dX6_looksStronglyTo_88 (by decide) (fun c_88 => ?_) (fun c_88 => ?_)
      · have hV := hV.1 c_88
        refine lv_iload_n hx hb dX6_looksStronglyTo_114 rfl (lv_at hl 1 rfl) ?_
        refine lv_iload hx hb dX6_looksStronglyTo_115 (lv_at hl 3 rfl) ?_
        refine lv_imul hx hb dX6_looksStronglyTo_117 ?_
        exact W.iret (v := x3 * x5) hx hb hr (fun t ht hW => ⟨_, rfl, hV, ht⟩) (fun _ h => by cases h) dX6_looksStronglyTo_118
      · have hV := hV.2 c_88
        refine lv_iload hx hb dX6_looksStronglyTo_91 (lv_at hl 3 rfl) ?_
        refine lv_iconst (v := (1 : Int32)) hx hb dX6_looksStronglyTo_93 (by decide) ?_
        refine lv_iload hx hb dX6_looksStronglyTo_94 (lv_at hl 4 rfl) ?_
        refine lv_aload_n hx hb dX6_looksStronglyTo_96 rfl (lv_at hl 0 rfl) ?_
        refine va_get (D := D) (ci := 5) (v := .ref (ad 1)) (C := RX6) (T := TX6) (N := 10) hx hb hts (by decide +kernel) hown hK hP 0 rfl rfl 0 (by decide) (hts (.fieldLink RX6 10 "PowerRests" "ofN" "LPowerRests$Factors;") (by decide +kernel)) (fun _ h9 => h9) rfl dX6_looksStronglyTo_97 ?_
        refine va_getN (D := D) (ci := 0) (v := .int (g 0)) (C := RX0) (T := TX0) (N := 3) hx hb hts (by decide +kernel) hown hK hP 1 rfl rfl 2 (by decide) (hN.use 0 (q := (RX6, 115, RX0, "kinds", "I")) rfl) (fun _ h9 => h9) rfl dX6_looksStronglyTo_100 ?_
        refine lv_imul hx hb dX6_looksStronglyTo_103 ?_
        refine lv_ishl hx hb dX6_looksStronglyTo_104 ?_
        refine lv_iadd hx hb dX6_looksStronglyTo_105 ?_
        refine lv_istore (lv' := [(5, .int (x5 + ((1 : Int32) <<< ((x6 * (g 0)) &&& 31)))), (0, .ref (ad 0)), (3, .int x3), (4, .int x4), (6, .int x6)]) hx hb dX6_looksStronglyTo_106 hl (by decide) rfl (fun ls hl => ?_)
        refine lv_iinc (v := x6 + 1) (lv' := [(6, .int (x6 + 1)), (5, .int (x5 + ((1 : Int32) <<< ((x6 * (g 0)) &&& 31)))), (0, .ref (ad 0)), (3, .int x3), (4, .int x4)]) hx hb dX6_looksStronglyTo_108 hl (k := 4) rfl rfl (by decide) rfl (fun ls hl => ?_)
        refine lv_goto (tgt := 77) hx hb dX6_looksStronglyTo_111 (by decide) ?_
        exact oJ77 _ _ _ _ hV _ (lv_sub hl [2, 3, 4, 1, 0] rfl))
  have hl := lv_entry ([.ref (ad 0), .int p0]) (n := 7) (Nat.le_of_ble_eq_true rfl)
  rw [lg_entry_eq]
  generalize (lg_sl ([.ref (ad 0), .int p0]) ++ List.replicate (7 - (lg_sl ([.ref (ad 0), .int p0])).length) Slot.unset).toArray = ls at hl ⊢
  have hl : lv_has ls 7 [(0, .ref (ad 0)), (1, .int p0)] := hl
  refine lv_iload_n hx hb dX6_looksStronglyTo_0 rfl (lv_at hl 1 rfl) ?_
  refine lv_iconst (v := (1 : Int32)) hx hb dX6_looksStronglyTo_1 (by decide) ?_
  refine lv_isub hx hb dX6_looksStronglyTo_2 ?_
  obtain ⟨h_3, hV⟩ := hV
  refine cp_i (va_runS (As := [.int (p0 - (1 : Int32))]) (rest := []) ⟨hx, hb, hml, hown, hts⟩ (spec_X4_oddPart l (p0 - (1 : Int32)) h_3) (va_cwS 1 hts gX6_looksStronglyTo_X4_oddPart rfl rfl rfl (by decide +kernel) ⟨Nat.le_of_ble_eq_true rfl, Nat.le_of_ble_eq_true rfl⟩) cp_pre rfl rfl hl.1 rfl (lv_room (Nat.le_of_ble_eq_true rfl)) dX6_looksStronglyTo_3 ⟨Nat.zero_le _, Nat.zero_le _⟩) (fun r3 q_3 => ?_)
  have hV := hV r3 q_3
  refine lv_istore_n (lv' := [(2, .int r3), (0, .ref (ad 0)), (1, .int p0)]) hx hb dX6_looksStronglyTo_6 rfl hl (by decide) rfl (fun ls hl => ?_)
  refine lv_iconst (v := (1 : Int32)) hx hb dX6_looksStronglyTo_7 (by decide) ?_
  refine lv_istore_n (lv' := [(3, .int (1 : Int32)), (2, .int r3), (0, .ref (ad 0)), (1, .int p0)]) hx hb dX6_looksStronglyTo_8 rfl hl (by decide) rfl (fun ls hl => ?_)
  refine lv_iload_n hx hb dX6_looksStronglyTo_9 rfl (lv_at hl 3 rfl) ?_
  refine lv_istore (lv' := [(4, .int p0), (3, .int (1 : Int32)), (2, .int r3), (0, .ref (ad 0)), (1, .int p0)]) hx hb dX6_looksStronglyTo_10 hl (by decide) rfl (fun ls hl => ?_)
  refine lv_iconst (v := (0 : Int32)) hx hb dX6_looksStronglyTo_12 (by decide) ?_
  refine lv_istore (lv' := [(5, .int (0 : Int32)), (4, .int p0), (3, .int (1 : Int32)), (2, .int r3), (0, .ref (ad 0)), (1, .int p0)]) hx hb dX6_looksStronglyTo_13 hl (by decide) rfl (fun ls hl => ?_)
  exact oJ15 _ _ _ _ hV _ (lv_sub hl [4, 3, 2, 1, 0] rfl)
def post_X6_looksStronglyTo (g : Gs) (a : As) (w : Ws) (p0 r : Int32) : Prop := r = nI (fb_ct (StB (tn p0)) (tn p0))
set_option maxRecDepth 4000 in
theorem spec_X6_looksStronglyTo (l : Launch) (D : va_G) (cy : Nat → ClassId) (ad : Nat → Nat) (sz : Nat) (g : Gs) (a : As) (w : Ws) (p0 : Int32) (hpre : pre_X6_looksStronglyTo g a w p0) : Met l yX6_looksStronglyTo wsX6_looksStronglyTo ({ frames := 2, cells := 0, slots := 0, locals := 42 } : Room) (va_Pc [.ref (ad 0), .int p0] (ArP D cy sz (caW ad cy g a w))) (Qpi (post_X6_looksStronglyTo g a w p0)) 0 0 noF := by
  apply met_X6_looksStronglyTo
  intro J15 J77 h15 h77
  obtain ⟨⟨o1, o2, o3⟩, hF⟩ := hpre
  obtain ⟨n, hn, rfl, hn2⟩ := of_i (x := p0) (by omega)
  have tnn : tn (nI n) = n := tn_nI hn
  unfold post_X6_looksStronglyTo at h77
  rw [tnn] at hF h77
  have h7 := hF.few
  have hm1 : 1 ≤ tn (g 0) := Nat.not_lt.mp fun q => by
    have := hF.1.1
    rw [show tn (g 0) = 0 by omega] at this
    have : n = 1 := this
    omega
  have podd := odd_fac hF.1 (by omega)
  have pge : ∀ i, i < tn (g 0) → 3 ≤ PP 0 a i := fun i hi => by
    have h1 := podd i hi
    have h2 := (hF.1.2.1 i hi).1.1
    omega
  obtain ⟨v, u, hvu⟩ := two_fun (P := fun i => PP 0 a i - 1) (m := tn (g 0)) (fun i hi => by have := pge i hi; omega)
  have hvu : ∀ i, i < tn (g 0) → Two (PP 0 a i - 1) (v i) (u i) := hvu
  rw [show (1 : Int32) = nI 1 from rfl, pk_sub (by omega)]
  refine ⟨by show 1 ≤ (nI (n - 1)).toInt; rw [nI_toInt (by omega)]; omega, fun r hr => ?_⟩
  obtain ⟨s, d, hsd, -, rfl⟩ := hr
  rw [tn_nI (by omega)] at hsd
  have hdn : d ≤ n - 1 := by
    have := Nat.le_of_dvd (show 0 < n - 1 by omega) ⟨2 ^ s, by rw [Nat.mul_comm]; exact hsd.1⟩
    exact this
  -- the ways
  have tail : ∀ F, (∀ i, i < tn (g 0) → F ≤ v i) → (∃ i, i < tn (g 0) ∧ v i = F) → J77 (nI (prodF (fun i => Nat.gcd d (u i)) (tn (g 0)))) (nI F) (nI 1) 0 := by
    intro F hF1 hF2
    have hst := strong_ct hF.1 (by omega) (by omega) (by omega) hsd hvu hF1 hF2
    have h2F : ∀ i, i < tn (g 0) → 2 ^ F ≤ PP 0 a i := fun i hi => by
      have e := (hvu i hi).1
      have h1 : 2 ^ F ≤ 2 ^ v i := Nat.pow_le_pow_right (by decide) (hF1 i hi)
      have h3 : 1 ≤ u i := by have := (hvu i hi).2; omega
      have h4 : 2 ^ v i * 1 ≤ 2 ^ v i * u i := Nat.mul_le_mul_left _ h3
      have := pge i hi
      omega
    have hpow := pow_prod hF.1 h2F
    rw [← Nat.pow_mul] at hpow
    have hFm : F * tn (g 0) ≤ 15 := pow_lt_exp (by omega)
    have hF15 : F ≤ 15 := by
      have : F * 1 ≤ F * tn (g 0) := Nat.mul_le_mul_left F hm1
      omega
    have fin : nI (prodF (fun i => Nat.gcd d (u i)) (tn (g 0))) * nI (1 + fb_sm (fun r => 2 ^ (r * tn (g 0))) F) = nI (fb_ct (StB n) n) := by
      rw [pk_mul, ← hst]
      rfl
    have key : ∀ (e k : Nat), k + e = F → J77 (nI (prodF (fun i => Nat.gcd d (u i)) (tn (g 0)))) (nI F) (nI (1 + fb_sm (fun r => 2 ^ (r * tn (g 0))) k)) (nI k) := by
      intro e
      induction e with
      | zero =>
        intro k hk
        have : k = F := by omega
        subst this
        exact h77 _ _ _ _ (pk_le k k (fun _ => fin) (fun h => absurd h (by omega)))
      | succ e ih =>
        intro k hk
        refine h77 _ _ _ _ (pk_le F k (fun h => absurd h (by omega)) (fun _ => pk_le 16 k (fun h => absurd h (by omega)) (fun _ => ?_)))
        have hkm : k * tn (g 0) ≤ F * tn (g 0) := Nat.mul_le_mul_right _ (by omega)
        have eg : nI k * g 0 = nI (k * tn (g 0)) := by rw [← pk_mul, ← hF.2.2.1]
        rw [eg, shl_1 (by omega), nI_add, nI_1, Nat.add_assoc, ← fb_sm_succ (fun r => 2 ^ (r * tn (g 0))) k]
        exact ih (k + 1) (by omega)
    exact key F 0 (by omega)
  have key : ∀ (e k F : Nat), k + e = tn (g 0) → F ≤ n → (∀ i, i < k → F ≤ v i) → ((k = 0 ∧ F = n) ∨ ∃ i, i < k ∧ v i = F) → J15 (nI d) (nI (prodF (fun i => Nat.gcd d (u i)) k)) (nI F) (nI k) := by
    intro e
    induction e with
    | zero =>
      intro k F hk hFn hle hex
      have : k = tn (g 0) := by omega
      subst this
      refine h15 _ _ _ _ (pk_le (tn (g 0)) (tn (g 0)) (fun _ => tail F hle ?_) (fun h => absurd h (by omega)) hF.2.2.1)
      rcases hex with q | q
      · omega
      · exact q
    | succ e ih =>
      intro k F hk hFn hle hex
      obtain ⟨v1, v2, v3, v4, v5, v6, v7, v8, v9⟩ := hF.at (show k < tn (g 0) by omega)
      have pg := pge k (by omega)
      have hpn : PP 0 a k ≤ n := by
        have h1 := (fac_at hF.1 (show k < tn (g 0) by omega)).1
        have h2 := (fac_at hF.1 (show k < tn (g 0) by omega)).2.2.2.1
        omega
      refine h15 _ _ _ _ (pk_le (tn (g 0)) k (fun h => absurd h (by omega)) (fun _ => ⟨v1, ?_⟩) hF.2.2.1)
      rw [show (nI k).toNatClampNeg = k from v2, v3, show (1 : Int32) = nI 1 from rfl, pk_sub (by omega)]
      have hpre1 : 1 ≤ (nI (PP 0 a k - 1)).toInt := by rw [nI_toInt (by omega)]; omega
      refine ⟨hpre1, fun r hr => ?_⟩
      obtain ⟨t, m', hT, -, rfl⟩ := hr
      rw [tn_nI (by omega)] at hT
      obtain ⟨e1, e2⟩ := two_one hT (hvu k (by omega))
      subst e1 e2
      have hm' : u k ≤ PP 0 a k - 1 := Nat.le_of_dvd (by omega) ⟨2 ^ v k, by rw [Nat.mul_comm]; exact hT.1⟩
      refine ⟨⟨by rw [nI_toInt (by omega)]; omega, by rw [nI_toInt (by omega)]; omega⟩, fun r hr => ⟨hpre1, fun r2 hr2 => ?_⟩⟩
      unfold post_X4_commonDivisor at hr
      rw [tn_nI (by omega), tn_nI (by omega)] at hr
      subst hr
      obtain ⟨t, m', hT2, -, rfl⟩ := hr2
      rw [tn_nI (by omega)] at hT2
      obtain ⟨e1, e2⟩ := two_one hT2 hT
      subst e1 e2
      have hvlt : v k < n := by
        have h1 : v k < 2 ^ v k := Nat.lt_two_pow_self
        have h3 : 1 ≤ u k := by have := hT.2; omega
        have h4 : 2 ^ v k * 1 ≤ 2 ^ v k * u k := Nat.mul_le_mul_left _ h3
        have := hT.1
        omega
      rw [pk_mul, nI_add]
      by_cases hlt : v k < F
      · rw [if_pos ((nI_ltI (by omega) (by omega)).mpr hlt)]
        exact ih (k + 1) (v k) (by omega) (by omega) (fun i hi => by
          by_cases e : i = k
          · subst e; exact Nat.le_refl _
          · have := hle i (by omega); omega) (Or.inr ⟨k, by omega, rfl⟩)
      · rw [if_neg (fun q => hlt ((nI_ltI (by omega) (by omega)).mp q))]
        refine ih (k + 1) F (by omega) hFn (fun i hi => ?_) (Or.inr ?_)
        · by_cases e : i = k
          · subst e; omega
          · exact hle i (by omega)
        · rcases hex with ⟨q1, q2⟩ | ⟨i, q1, q2⟩
          · omega
          · exact ⟨i, by omega, q2⟩
  exact key (tn (g 0)) 0 n (by omega) (Nat.le_refl n) (fun i hi => by omega) (Or.inl ⟨rfl, rfl⟩)
set_option maxHeartbeats 4000000 in
set_option maxRecDepth 100000 in
theorem met_X6_lied (l : Launch) (D : va_G) (cy : Nat → ClassId) (ad : Nat → Nat) (sz : Nat) (g : Gs) (a : As) (w : Ws) (p0 : Int32) (p1 : Int32) (post : Int32 → Gs → As → Ws → Prop)
  (hV : ∀ r1 : Int32, post_X6_isOddOne p0 r1 → ((r1 = 0 → post (-1 : Int32) g a w) ∧ (¬ r1 = 0 → ((p1 < 0 → post (-1 : Int32) g a w) ∧ (¬ p1 < 0 → ((p1 ≤ (2 : Int32) → ((p1 = (2 : Int32) → pre_X6_leastWitness p0 ∧ (∀ r24 : Int32, post_X6_leastWitness p0 r24 → post r24 g a w)) ∧ (¬ p1 = (2 : Int32) → pre_X0_split 0 g a w p0 ∧ (∀ (g33 : Gs) (a33 : As) (w33 : Ws), post_X0_split 0 g a w p0 g33 a33 w33 → ((p1 = 0 → pre_X6_looksPrimeTo g33 a33 w33 p0 ∧ (∀ r42 : Int32, post_X6_looksPrimeTo g33 a33 w33 p0 r42 → post r42 g33 a33 w33)) ∧ (¬ p1 = 0 → pre_X6_looksStronglyTo g33 a33 w33 p0 ∧ (∀ r50 : Int32, post_X6_looksStronglyTo g33 a33 w33 p0 r50 → post r50 g33 a33 w33))))))) ∧ (¬ p1 ≤ (2 : Int32) → post (-1 : Int32) g a w))))))) :
  Met l yX6_lied wsX6_lied ({ frames := 4, cells := 0, slots := 0, locals := 88 } : Room) (va_Pc [.ref (ad 0), .int p0, .int p1] (ArP D cy sz (caW ad cy g a w))) (va_Qi (fun (r : Int32) (u : Gs × As × Ws) => post r u.1 u.2.1 u.2.2) (fun u t => va_P D vwCl (caW ad cy u.1 u.2.1 u.2.2) t.heap) (va_A (caW ad cy g a w) sz)) 0 0 (va_A (caW ad cy g a w) sz) := by
  refine Met.ofW (cc := cX6_lied) (maxL := 3) (ret := (some .int)) (by decide) rfl ?_
  intro p e s m args below meth c s₁ B hml hv
  obtain ⟨rfl, hsz, hP, hK, hD0, hN⟩ := hv
  have hx := B.exec
  have hb := B.bytes
  have hr := B.returns
  have hts := atoms_spec (ws := wsX6_lied) B.pre
  have hown : s.vm.findClass RX6 = some m.cls := findClass_of_methodNamed B.named
  have hlocks := B.notSynchronized
  subst hsz
  have hD := hD0.self (sz := s.heap.size)
  have hP : va_P D vwCl (caW ad cy g a w) s.heap := hP
  have hD : va_D (va_A (caW ad cy g a w) s.heap.size) (caW ad cy g a w) := hD
  have hS : va_S (va_A (caW ad cy g a w) s.heap.size) s.heap s.heap [] := va_S.rf
  have hA : ∀ q : Nat, s.heap.size ≤ q → va_A (caW ad cy g a w) s.heap.size q := fun q h => Or.inr h
  have hl := lv_entry ([.ref (ad 0), .int p0, .int p1]) (n := 3) (Nat.le_of_ble_eq_true rfl)
  rw [lg_entry_eq]
  generalize (lg_sl ([.ref (ad 0), .int p0, .int p1]) ++ List.replicate (3 - (lg_sl ([.ref (ad 0), .int p0, .int p1])).length) Slot.unset).toArray = ls at hl ⊢
  have hl : lv_has ls 3 [(0, .ref (ad 0)), (1, .int p0), (2, .int p1)] := hl
  refine lv_iload_n hx hb dX6_lied_0 rfl (lv_at hl 1 rfl) ?_
  refine cp_i (va_runS (As := [.int p0]) (rest := []) ⟨hx, hb, hml, hown, hts⟩ (spec_X6_isOddOne l p0) (va_cwS 1 hts gX6_lied_X6_isOddOne rfl rfl rfl (by decide +kernel) ⟨Nat.le_of_ble_eq_true rfl, Nat.le_of_ble_eq_true rfl⟩) cp_pre rfl rfl hl.1 rfl (lv_room (Nat.le_of_ble_eq_true rfl)) dX6_lied_1 ⟨Nat.zero_le _, Nat.zero_le _⟩) (fun r1 q_1 => ?_)
  have hV := hV r1 q_1
  refine lv_if_eq (tgt := 16) hx hb dX6_lied_4 (by decide) (fun c_4 => ?_) (fun c_4 => ?_)
  · have hV := hV.1 c_4
    refine lv_iconst (v := (-1 : Int32)) hx hb dX6_lied_16 (by decide) ?_
    exact W.iret (v := (-1 : Int32)) hx hb hr (fun t ht hW => ⟨⟨_, (g, a, w), rfl, hV, ar_heap ht hP⟩, hS.F ht⟩) hS.2.2 dX6_lied_17
  · have hV := hV.2 c_4
    refine lv_iload_n hx hb dX6_lied_7 rfl (lv_at hl 2 rfl) ?_
    refine lv_if_lt (tgt := 16) hx hb dX6_lied_8 (by decide) (fun c_8 => ?_) (fun c_8 => ?_)
    · have hV := hV.1 c_8
      refine lv_iconst (v := (-1 : Int32)) hx hb dX6_lied_16 (by decide) ?_
      exact W.iret (v := (-1 : Int32)) hx hb hr (fun t ht hW => ⟨⟨_, (g, a, w), rfl, hV, ar_heap ht hP⟩, hS.F ht⟩) hS.2.2 dX6_lied_17
    · have hV := hV.2 c_8
      refine lv_iload_n hx hb dX6_lied_11 rfl (lv_at hl 2 rfl) ?_
      refine lv_iconst (v := (2 : Int32)) hx hb dX6_lied_12 (by decide) ?_
      refine lv_icmp_le (tgt := 18) hx hb dX6_lied_13 (by decide) (fun c_13 => ?_) (fun c_13 => ?_)
      · have hV := hV.1 c_13
        refine lv_iload_n hx hb dX6_lied_18 rfl (lv_at hl 2 rfl) ?_
        refine lv_iconst (v := (2 : Int32)) hx hb dX6_lied_19 (by decide) ?_
        refine lv_icmp_ne (tgt := 28) hx hb dX6_lied_20 (by decide) (fun c_20 => ?_) (fun c_20 => ?_)
        · have hV := hV.2 c_20
          refine lv_aload_n hx hb dX6_lied_28 rfl (lv_at hl 0 rfl) ?_
          refine va_get (D := D) (ci := 5) (v := .ref (ad 1)) (C := RX6) (T := TX6) (N := 10) hx hb hts (by decide +kernel) hown hK hP 0 rfl rfl 0 (by decide) (hts (.fieldLink RX6 10 "PowerRests" "ofN" "LPowerRests$Factors;") (by decide +kernel)) (fun _ h9 => h9) rfl dX6_lied_29 ?_
          refine lv_iload_n hx hb dX6_lied_32 rfl (lv_at hl 1 rfl) ?_
          obtain ⟨h_33, hV⟩ := hV
          refine cw_v (va_runV (As := [.int p0]) (rest := []) ⟨hx, hb, hml, hown, hts⟩ (spec_X0_split l 0 (by decide) D cy ad _ g a w p0 h_33) (cwV 1 hts gX6_lied_X0_split rfl rfl rfl (by decide +kernel) ⟨Nat.le_of_ble_eq_true rfl, Nat.le_of_ble_eq_true rfl⟩) (ar_preV hN hK hP (caD hD) (ci := 0) (q0 := 1) rfl rfl) rfl rfl hl.1 rfl (lv_room (Nat.le_of_ble_eq_true rfl)) dX6_lied_33 ⟨Nat.zero_le _, Nat.zero_le _⟩) hS (caD hD) hA (fun u_33 H locs q_33 hP hS => ?_)
          obtain ⟨g33, a33, w33⟩ := u_33
          have hV := hV g33 a33 w33 q_33
          have hP : va_P D vwCl (caW ad cy g33 a33 w33) H := hP
          refine lv_iload_n hx hb dX6_lied_36 rfl (lv_at hl 2 rfl) ?_
          refine lv_if_ne (tgt := 48) hx hb dX6_lied_37 (by decide) (fun c_37 => ?_) (fun c_37 => ?_)
          · have hV := hV.2 c_37
            refine lv_aload_n hx hb dX6_lied_48 rfl (lv_at hl 0 rfl) ?_
            refine lv_iload_n hx hb dX6_lied_49 rfl (lv_at hl 1 rfl) ?_
            obtain ⟨h_50, hV⟩ := hV
            refine cp_i (va_runV (As := [.int p0]) (rest := []) ⟨hx, hb, hml, hown, hts⟩ (spec_X6_looksStronglyTo l D cy ad _ g33 a33 w33 p0 h_50) (cwV 1 hts gX6_lied_X6_looksStronglyTo rfl rfl rfl (by decide +kernel) ⟨Nat.le_of_ble_eq_true rfl, Nat.le_of_ble_eq_true rfl⟩) (ar_preV hN hK hP (caD hD) (ci := 5) (q0 := 0) rfl rfl) rfl rfl hl.1 rfl (lv_room (Nat.le_of_ble_eq_true rfl)) dX6_lied_50 ⟨Nat.zero_le _, Nat.zero_le _⟩) (fun r50 q_50 => ?_)
            have hV := hV r50 q_50
            exact W.iret (v := r50) hx hb hr (fun t ht hW => ⟨⟨_, (g33, a33, w33), rfl, hV, ar_heap ht hP⟩, hS.F ht⟩) hS.2.2 dX6_lied_53
          · have hV := hV.1 c_37
            refine lv_aload_n hx hb dX6_lied_40 rfl (lv_at hl 0 rfl) ?_
            refine lv_iload_n hx hb dX6_lied_41 rfl (lv_at hl 1 rfl) ?_
            obtain ⟨h_42, hV⟩ := hV
            refine cp_i (va_runV (As := [.int p0]) (rest := []) ⟨hx, hb, hml, hown, hts⟩ (spec_X6_looksPrimeTo l D cy ad _ g33 a33 w33 p0 h_42) (cwV 1 hts gX6_lied_X6_looksPrimeTo rfl rfl rfl (by decide +kernel) ⟨Nat.le_of_ble_eq_true rfl, Nat.le_of_ble_eq_true rfl⟩) (ar_preV hN hK hP (caD hD) (ci := 5) (q0 := 0) rfl rfl) rfl rfl hl.1 rfl (lv_room (Nat.le_of_ble_eq_true rfl)) dX6_lied_42 ⟨Nat.zero_le _, Nat.zero_le _⟩) (fun r42 q_42 => ?_)
            have hV := hV r42 q_42
            refine lv_goto (tgt := 53) hx hb dX6_lied_45 (by decide) ?_
            exact W.iret (v := r42) hx hb hr (fun t ht hW => ⟨⟨_, (g33, a33, w33), rfl, hV, ar_heap ht hP⟩, hS.F ht⟩) hS.2.2 dX6_lied_53
        · have hV := hV.1 c_20
          refine lv_iload_n hx hb dX6_lied_23 rfl (lv_at hl 1 rfl) ?_
          obtain ⟨h_24, hV⟩ := hV
          refine cp_i (va_runS (As := [.int p0]) (rest := []) ⟨hx, hb, hml, hown, hts⟩ (spec_X6_leastWitness l p0 h_24) (va_cwS 1 hts gX6_lied_X6_leastWitness rfl rfl rfl (by decide +kernel) ⟨Nat.le_of_ble_eq_true rfl, Nat.le_of_ble_eq_true rfl⟩) cp_pre rfl rfl hl.1 rfl (lv_room (Nat.le_of_ble_eq_true rfl)) dX6_lied_24 ⟨Nat.zero_le _, Nat.zero_le _⟩) (fun r24 q_24 => ?_)
          have hV := hV r24 q_24
          exact W.iret (v := r24) hx hb hr (fun t ht hW => ⟨⟨_, (g, a, w), rfl, hV, ar_heap ht hP⟩, hS.F ht⟩) hS.2.2 dX6_lied_27
      · have hV := hV.2 c_13
        refine lv_iconst (v := (-1 : Int32)) hx hb dX6_lied_16 (by decide) ?_
        exact W.iret (v := (-1 : Int32)) hx hb hr (fun t ht hW => ⟨⟨_, (g, a, w), rfl, hV, ar_heap ht hP⟩, hS.F ht⟩) hS.2.2 dX6_lied_17
def post_X6_lied (g : Gs) (a : As) (w : Ws) (p0 p1 r : Int32) (g' : Gs) (a' : As) (w' : Ws) : Prop := LiedAns p0 p1 r ∧ FS g a w g' a' w'
set_option maxRecDepth 4000 in
theorem spec_X6_lied (l : Launch) (D : va_G) (cy : Nat → ClassId) (ad : Nat → Nat) (sz : Nat) (g : Gs) (a : As) (w : Ws) (p0 : Int32) (p1 : Int32) : Met l yX6_lied wsX6_lied ({ frames := 4, cells := 0, slots := 0, locals := 88 } : Room) (va_Pc [.ref (ad 0), .int p0, .int p1] (ArP D cy sz (caW ad cy g a w))) (va_Qi (fun (r : Int32) (u : Gs × As × Ws) => (post_X6_lied g a w p0 p1) r u.1 u.2.1 u.2.2) (fun u t => va_P D vwCl (caW ad cy u.1 u.2.1 u.2.2) t.heap) (va_A (caW ad cy g a w) sz)) 0 0 (va_A (caW ad cy g a w) sz) := by
  apply met_X6_lied
  intro r hr
  unfold post_X6_isOddOne at hr
  subst hr
  have e0 : (0 : Int32).toInt = 0 := rfl
  have e2 : (2 : Int32).toInt = 2 := rfl
  refine ⟨fun h => ⟨Or.inl ⟨Or.inl (zb_0 h), rfl⟩, FS.rf⟩, fun h => ⟨fun h2 => ⟨Or.inl ⟨Or.inr (Or.inl (by rw [i_lt, e0] at h2; exact h2)), rfl⟩, FS.rf⟩, fun h2 => ⟨fun h3 => ?_, fun h3 => ⟨Or.inl ⟨Or.inr (Or.inr (by rw [i_le, e2] at h3; omega)), rfl⟩, FS.rf⟩⟩⟩⟩
  have ho : OddN p0 := zb_1 h
  obtain ⟨o1, o2, o3⟩ := id ho
  rw [i_lt, e0] at h2
  rw [i_le, e2] at h3
  have hin : OddN p0 ∧ 0 ≤ p1.toInt ∧ p1.toInt ≤ 2 := ⟨ho, by omega, h3⟩
  refine ⟨fun h4 => ⟨ho, fun r2 hr2 => ⟨Or.inr ⟨hin, fun q => absurd (q.symm.trans h4) (by decide), fun q => absurd (q.symm.trans h4) (by decide), fun _ => hr2⟩, FS.rf⟩⟩, fun h4 => ⟨⟨by omega, by omega⟩, fun g1 a1 w1 hsp => ?_⟩⟩
  have hF : Fac 0 (tn p0) g1 a1 := hsp.2.1 (by show 1 ≤ p0.toInt.toNat; omega)
  have hFS := split_FS (by decide) hsp
  refine ⟨fun h5 => ⟨⟨ho, hF⟩, fun r2 hr2 => ⟨Or.inr ⟨hin, fun _ => hr2, fun q => absurd (q.symm.trans h5) (by decide), fun q => absurd q h4⟩, hFS⟩⟩, fun h5 => ⟨⟨ho, hF⟩, fun r2 hr2 => ⟨Or.inr ⟨hin, fun q => absurd q h5, fun _ => hr2, fun q => absurd q h4⟩, hFS⟩⟩⟩
set_option maxHeartbeats 4000000 in
set_option maxRecDepth 100000 in
theorem met_X7_lied (l : Launch) (D : va_G) (cy : Nat → ClassId) (ad : Nat → Nat) (sz : Nat) (g : Gs) (a : As) (p0 : Int32) (p1 : Int32) (post : Int32 → Prop)
  (hV : ∀ (J33 : Int32 → Int32 → Int32 → Int32 → Prop) (J58 : Int32 → Int32 → Int32 → Int32 → Int32 → Prop),
    (∀ (x3 : Int32) (x4 : Int32) (x5 : Int32) (x6 : Int32), ((p0 ≤ x6 → ((p1 = 0 → post x3) ∧ (¬ p1 = 0 → ((p1 = (1 : Int32) → post x4) ∧ (¬ p1 = (1 : Int32) → post x5))))) ∧ (¬ p0 ≤ x6 → ((p1 = 0 → pre_X7_looksSo p0 x6 ∧ (∀ r47 : Int32, post_X7_looksSo p0 x6 r47 → ((r47 = 0 → J58 x4 x5 x6 (0 : Int32) x3) ∧ (¬ r47 = 0 → J58 x4 x5 x6 (1 : Int32) x3)))) ∧ (¬ p1 = 0 → J58 x4 x5 x6 (0 : Int32) x3)))) → J33 x3 x4 x5 x6) →
    (∀ (x4 : Int32) (x5 : Int32) (x6 : Int32) (s0 : Int32) (s1 : Int32), ((p1 ≤ 0 → ((p1 = (2 : Int32) → ((x6 ≤ (1 : Int32) → J33 (s1 + s0) (x4 + (0 : Int32)) x5 (x6 + 1)) ∧ (¬ x6 ≤ (1 : Int32) → (((p0 - (1 : Int32)) ≤ x6 → J33 (s1 + s0) (x4 + (0 : Int32)) x5 (x6 + 1)) ∧ (¬ (p0 - (1 : Int32)) ≤ x6 → post x6))))) ∧ (¬ p1 = (2 : Int32) → J33 (s1 + s0) (x4 + (0 : Int32)) x5 (x6 + 1)))) ∧ (¬ p1 ≤ 0 → pre_X7_isStrong p0 x6 ∧ (∀ r67 : Int32, post_X7_isStrong p0 x6 r67 → ((r67 = 0 → ((p1 = (2 : Int32) → ((x6 ≤ (1 : Int32) → J33 (s1 + s0) (x4 + (0 : Int32)) x5 (x6 + 1)) ∧ (¬ x6 ≤ (1 : Int32) → (((p0 - (1 : Int32)) ≤ x6 → J33 (s1 + s0) (x4 + (0 : Int32)) x5 (x6 + 1)) ∧ (¬ (p0 - (1 : Int32)) ≤ x6 → post x6))))) ∧ (¬ p1 = (2 : Int32) → J33 (s1 + s0) (x4 + (0 : Int32)) x5 (x6 + 1)))) ∧ (¬ r67 = 0 → ((p1 = (2 : Int32) → J33 (s1 + s0) (x4 + (1 : Int32)) x5 (x6 + 1)) ∧ (¬ p1 = (2 : Int32) → J33 (s1 + s0) (x4 + (1 : Int32)) x5 (x6 + 1)))))))) → J58 x4 x5 x6 s0 s1) →
    ∀ r1 : Int32, post_X7_isOdd p0 r1 → ((r1 = 0 → post (-1 : Int32)) ∧ (¬ r1 = 0 → ∀ r13 : Int32, post_X7_in p1.toInt64 (0 : Int64) (2 : Int64) r13 → ((r13 = 0 → post (-1 : Int32)) ∧ (¬ r13 = 0 → J33 (0 : Int32) (0 : Int32) (-4 : Int32) (1 : Int32)))))) :
  Met l yX7_lied wsX7_lied ({ frames := 2, cells := 0, slots := 0, locals := 56 } : Room) (va_Pc [.ref (ad 0), .int p0, .int p1] (ArP D cy sz (maW ad cy g a))) (Qpi post) 0 0 noF := by
  refine Met.ofW (cc := cX7_lied) (maxL := 8) (ret := (some .int)) (by decide) rfl ?_
  intro p e s m args below meth c s₁ B hml hv
  obtain ⟨rfl, hsz, hP, hK, hD0, hN⟩ := hv
  have hx := B.exec
  have hb := B.bytes
  have hr := B.returns
  have hts := atoms_spec (ws := wsX7_lied) B.pre
  have hown : s.vm.findClass RX7 = some m.cls := findClass_of_methodNamed B.named
  have hlocks := B.notSynchronized
  subst hsz
  have hP : va_P D vwCl (maW ad cy g a) s.heap := hP
  have hD : va_D (fun _ => True) (maW ad cy g a) := hD0
  obtain ⟨J33, iJ33, oJ33⟩ : ∃ J : Int32 → Int32 → Int32 → Int32 → Prop, (∀ (x3 : Int32) (x4 : Int32) (x5 : Int32) (x6 : Int32), (∀ ls : Array Slot, lv_has ls 8 [(1, .int p0), (2, .int p1), (3, .int x3), (4, .int x4), (5, .int x5), (6, .int x6)] → W p l e (headSpec wsX7_lied ({ frames := 2, cells := 0, slots := 0, locals := 56 } : Room)).room s m [.ref (ad 0), .int p0, .int p1].toArray below meth c s.heap [] 0 0 (MQ below (Qpi post) [.ref (ad 0), .int p0, .int p1].toArray s 0 0 noF) (F0 m 33 ls [])) → J x3 x4 x5 x6) ∧ (∀ (x3 : Int32) (x4 : Int32) (x5 : Int32) (x6 : Int32), J x3 x4 x5 x6 → (∀ ls : Array Slot, lv_has ls 8 [(1, .int p0), (2, .int p1), (3, .int x3), (4, .int x4), (5, .int x5), (6, .int x6)] → W p l e (headSpec wsX7_lied ({ frames := 2, cells := 0, slots := 0, locals := 56 } : Room)).room s m [.ref (ad 0), .int p0, .int p1].toArray below meth c s.heap [] 0 0 (MQ below (Qpi post) [.ref (ad 0), .int p0, .int p1].toArray s 0 0 noF) (F0 m 33 ls []))) := ⟨fun (x3 : Int32) (x4 : Int32) (x5 : Int32) (x6 : Int32) => (∀ ls : Array Slot, lv_has ls 8 [(1, .int p0), (2, .int p1), (3, .int x3), (4, .int x4), (5, .int x5), (6, .int x6)] → W p l e (headSpec wsX7_lied ({ frames := 2, cells := 0, slots := 0, locals := 56 } : Room)).room s m [.ref (ad 0), .int p0, .int p1].toArray below meth c s.heap [] 0 0 (MQ below (Qpi post) [.ref (ad 0), .int p0, .int p1].toArray s 0 0 noF) (F0 m 33 ls [])), fun _ _ _ _ h => h, fun _ _ _ _ h => h⟩
  obtain ⟨J58, iJ58, oJ58⟩ : ∃ J : Int32 → Int32 → Int32 → Int32 → Int32 → Prop, (∀ (x4 : Int32) (x5 : Int32) (x6 : Int32) (s0 : Int32) (s1 : Int32), (∀ ls : Array Slot, lv_has ls 8 [(1, .int p0), (2, .int p1), (4, .int x4), (5, .int x5), (6, .int x6)] → W p l e (headSpec wsX7_lied ({ frames := 2, cells := 0, slots := 0, locals := 56 } : Room)).room s m [.ref (ad 0), .int p0, .int p1].toArray below meth c s.heap [] 0 0 (MQ below (Qpi post) [.ref (ad 0), .int p0, .int p1].toArray s 0 0 noF) (F0 m 58 ls [.int s0, .int s1])) → J x4 x5 x6 s0 s1) ∧ (∀ (x4 : Int32) (x5 : Int32) (x6 : Int32) (s0 : Int32) (s1 : Int32), J x4 x5 x6 s0 s1 → (∀ ls : Array Slot, lv_has ls 8 [(1, .int p0), (2, .int p1), (4, .int x4), (5, .int x5), (6, .int x6)] → W p l e (headSpec wsX7_lied ({ frames := 2, cells := 0, slots := 0, locals := 56 } : Room)).room s m [.ref (ad 0), .int p0, .int p1].toArray below meth c s.heap [] 0 0 (MQ below (Qpi post) [.ref (ad 0), .int p0, .int p1].toArray s 0 0 noF) (F0 m 58 ls [.int s0, .int s1]))) := ⟨fun (x4 : Int32) (x5 : Int32) (x6 : Int32) (s0 : Int32) (s1 : Int32) => (∀ ls : Array Slot, lv_has ls 8 [(1, .int p0), (2, .int p1), (4, .int x4), (5, .int x5), (6, .int x6)] → W p l e (headSpec wsX7_lied ({ frames := 2, cells := 0, slots := 0, locals := 56 } : Room)).room s m [.ref (ad 0), .int p0, .int p1].toArray below meth c s.heap [] 0 0 (MQ below (Qpi post) [.ref (ad 0), .int p0, .int p1].toArray s 0 0 noF) (F0 m 58 ls [.int s0, .int s1])), fun _ _ _ _ _ h => h, fun _ _ _ _ _ h => h⟩
  have hV := hV J33 J58
  replace hV := hV (by
    intro x3 x4 x5 x6 hV
    refine iJ33 x3 x4 x5 x6 ?_
    intro ls hl
    refine lv_iload hx hb dX7_lied_33 (lv_at hl 5 rfl) ?_
    refine lv_iload_n hx hb dX7_lied_35 rfl (lv_at hl 0 rfl) ?_
    refine lv_icmp_ge (tgt := 128) hx hb dX7_lied_36 (by decide) (fun c_36 => ?_) (fun c_36 => ?_)
    · have hV := hV.1 c_36
      refine lv_iload_n hx hb dX7_lied_128 rfl (lv_at hl 1 rfl) ?_
      refine lv_if_ne (tgt := 136) hx hb dX7_lied_129 (by decide) (fun c_129 => ?_) (fun c_129 => ?_)
      · have hV := hV.2 c_129
        refine lv_iload_n hx hb dX7_lied_136 rfl (lv_at hl 1 rfl) ?_
        refine lv_iconst (v := (1 : Int32)) hx hb dX7_lied_137 (by decide) ?_
        refine lv_icmp_ne (tgt := 146) hx hb dX7_lied_138 (by decide) (fun c_138 => ?_) (fun c_138 => ?_)
        · have hV := hV.2 c_138
          refine lv_iload hx hb dX7_lied_146 (lv_at hl 4 rfl) ?_
          exact W.iret (v := x5) hx hb hr (fun t ht hW => ⟨_, rfl, hV, ht⟩) (fun _ h => by cases h) dX7_lied_148
        · have hV := hV.1 c_138
          refine lv_iload hx hb dX7_lied_141 (lv_at hl 3 rfl) ?_
          refine lv_goto (tgt := 148) hx hb dX7_lied_143 (by decide) ?_
          exact W.iret (v := x4) hx hb hr (fun t ht hW => ⟨_, rfl, hV, ht⟩) (fun _ h => by cases h) dX7_lied_148
      · have hV := hV.1 c_129
        refine lv_iload_n hx hb dX7_lied_132 rfl (lv_at hl 2 rfl) ?_
        refine lv_goto (tgt := 148) hx hb dX7_lied_133 (by decide) ?_
        exact W.iret (v := x3) hx hb hr (fun t ht hW => ⟨_, rfl, hV, ht⟩) (fun _ h => by cases h) dX7_lied_148
    · have hV := hV.2 c_36
      refine lv_iload_n hx hb dX7_lied_39 rfl (lv_at hl 2 rfl) ?_
      refine lv_iload_n hx hb dX7_lied_40 rfl (lv_at hl 1 rfl) ?_
      refine lv_if_ne (tgt := 57) hx hb dX7_lied_41 (by decide) (fun c_41 => ?_) (fun c_41 => ?_)
      · have hV := hV.2 c_41
        refine lv_iconst (v := (0 : Int32)) hx hb dX7_lied_57 (by decide) ?_
        exact oJ58 _ _ _ _ _ hV _ (lv_sub hl [0, 1, 3, 4, 5] rfl)
      · have hV := hV.1 c_41
        refine lv_iload_n hx hb dX7_lied_44 rfl (lv_at hl 0 rfl) ?_
        refine lv_iload hx hb dX7_lied_45 (lv_at hl 5 rfl) ?_
        obtain ⟨h_47, hV⟩ := hV
        refine cp_i (va_runS (As := [.int p0, .int x6]) (rest := [.int x3]) ⟨hx, hb, hml, hown, hts⟩ (spec_X7_looksSo l p0 x6 h_47) (va_cwS 2 hts gX7_lied_X7_looksSo rfl rfl rfl (by decide +kernel) ⟨Nat.le_of_ble_eq_true rfl, Nat.le_of_ble_eq_true rfl⟩) cp_pre rfl rfl hl.1 rfl (lv_room (Nat.le_of_ble_eq_true rfl)) dX7_lied_47 ⟨Nat.zero_le _, Nat.zero_le _⟩) (fun r47 q_47 => ?_)
        have hV := hV r47 q_47
        refine lv_if_eq (tgt := 57) hx hb dX7_lied_50 (by decide) (fun c_50 => ?_) (fun c_50 => ?_)
        · have hV := hV.1 c_50
          refine lv_iconst (v := (0 : Int32)) hx hb dX7_lied_57 (by decide) ?_
          exact oJ58 _ _ _ _ _ hV _ (lv_sub hl [0, 1, 3, 4, 5] rfl)
        · have hV := hV.2 c_50
          refine lv_iconst (v := (1 : Int32)) hx hb dX7_lied_53 (by decide) ?_
          refine lv_goto (tgt := 58) hx hb dX7_lied_54 (by decide) ?_
          exact oJ58 _ _ _ _ _ hV _ (lv_sub hl [0, 1, 3, 4, 5] rfl))
  replace hV := hV (by
    intro x4 x5 x6 s0 s1 hV
    refine iJ58 x4 x5 x6 s0 s1 ?_
    intro ls hl
    refine lv_iadd hx hb dX7_lied_58 ?_
    refine lv_istore_n (lv' := [(3, .int (s1 + s0)), (1, .int p0), (2, .int p1), (4, .int x4), (5, .int x5), (6, .int x6)]) hx hb dX7_lied_59 rfl hl (by decide) rfl (fun ls hl => ?_)
    refine lv_iload_n hx hb dX7_lied_60 rfl (lv_at hl 2 rfl) ?_
    refine lv_if_le (tgt := 77) hx hb dX7_lied_61 (by decide) (fun c_61 => ?_) (fun c_61 => ?_)
    · have hV := hV.1 c_61
      refine lv_iconst (v := (0 : Int32)) hx hb dX7_lied_77 (by decide) ?_
      refine lv_istore (lv' := [(7, .int (0 : Int32)), (3, .int (s1 + s0)), (1, .int p0), (2, .int p1), (4, .int x4), (5, .int x5), (6, .int x6)]) hx hb dX7_lied_78 hl (by decide) rfl (fun ls hl => ?_)
      refine lv_iload hx hb dX7_lied_80 (lv_at hl 4 rfl) ?_
      refine lv_iload hx hb dX7_lied_82 (lv_at hl 0 rfl) ?_
      refine lv_if_eq (tgt := 91) hx hb dX7_lied_84 (by decide) (fun c_84 => ?_) (fun c_84 => ?_)
      · have hV := hV
        refine lv_iconst (v := (0 : Int32)) hx hb dX7_lied_91 (by decide) ?_
        refine lv_iadd hx hb dX7_lied_92 ?_
        refine lv_istore (lv' := [(4, .int (x4 + (0 : Int32))), (7, .int (0 : Int32)), (3, .int (s1 + s0)), (1, .int p0), (2, .int p1), (5, .int x5), (6, .int x6)]) hx hb dX7_lied_93 hl (by decide) rfl (fun ls hl => ?_)
        refine lv_iload_n hx hb dX7_lied_95 rfl (lv_at hl 4 rfl) ?_
        refine lv_iconst (v := (2 : Int32)) hx hb dX7_lied_96 (by decide) ?_
        refine lv_icmp_ne (tgt := 122) hx hb dX7_lied_97 (by decide) (fun c_97 => ?_) (fun c_97 => ?_)
        · have hV := hV.2 c_97
          refine lv_iinc (v := x6 + 1) (lv' := [(6, .int (x6 + 1)), (4, .int (x4 + (0 : Int32))), (7, .int (0 : Int32)), (3, .int (s1 + s0)), (1, .int p0), (2, .int p1), (5, .int x5)]) hx hb dX7_lied_122 hl (k := 6) rfl rfl (by decide) rfl (fun ls hl => ?_)
          refine lv_goto (tgt := 33) hx hb dX7_lied_125 (by decide) ?_
          exact oJ33 _ _ _ _ hV _ (lv_sub hl [4, 5, 3, 1, 6, 0] rfl)
        · have hV := hV.1 c_97
          refine lv_iload hx hb dX7_lied_100 (lv_at hl 1 rfl) ?_
          refine lv_if_ne (tgt := 122) hx hb dX7_lied_102 (by decide) (fun c_102 => ?_) (fun c_102 => ?_)
          · exact absurd (by decide) c_102
          · have hV := hV
            refine lv_iload hx hb dX7_lied_105 (lv_at hl 6 rfl) ?_
            refine lv_iconst (v := (1 : Int32)) hx hb dX7_lied_107 (by decide) ?_
            refine lv_icmp_le (tgt := 122) hx hb dX7_lied_108 (by decide) (fun c_108 => ?_) (fun c_108 => ?_)
            · have hV := hV.1 c_108
              refine lv_iinc (v := x6 + 1) (lv' := [(6, .int (x6 + 1)), (4, .int (x4 + (0 : Int32))), (7, .int (0 : Int32)), (3, .int (s1 + s0)), (1, .int p0), (2, .int p1), (5, .int x5)]) hx hb dX7_lied_122 hl (k := 6) rfl rfl (by decide) rfl (fun ls hl => ?_)
              refine lv_goto (tgt := 33) hx hb dX7_lied_125 (by decide) ?_
              exact oJ33 _ _ _ _ hV _ (lv_sub hl [4, 5, 3, 1, 6, 0] rfl)
            · have hV := hV.2 c_108
              refine lv_iload hx hb dX7_lied_111 (lv_at hl 6 rfl) ?_
              refine lv_iload_n hx hb dX7_lied_113 rfl (lv_at hl 3 rfl) ?_
              refine lv_iconst (v := (1 : Int32)) hx hb dX7_lied_114 (by decide) ?_
              refine lv_isub hx hb dX7_lied_115 ?_
              refine lv_icmp_ge (tgt := 122) hx hb dX7_lied_116 (by decide) (fun c_116 => ?_) (fun c_116 => ?_)
              · have hV := hV.1 c_116
                refine lv_iinc (v := x6 + 1) (lv' := [(6, .int (x6 + 1)), (4, .int (x4 + (0 : Int32))), (7, .int (0 : Int32)), (3, .int (s1 + s0)), (1, .int p0), (2, .int p1), (5, .int x5)]) hx hb dX7_lied_122 hl (k := 6) rfl rfl (by decide) rfl (fun ls hl => ?_)
                refine lv_goto (tgt := 33) hx hb dX7_lied_125 (by decide) ?_
                exact oJ33 _ _ _ _ hV _ (lv_sub hl [4, 5, 3, 1, 6, 0] rfl)
              · have hV := hV.2 c_116
                refine lv_iload hx hb dX7_lied_119 (lv_at hl 6 rfl) ?_
                exact W.iret (v := x6) hx hb hr (fun t ht hW => ⟨_, rfl, hV, ht⟩) (fun _ h => by cases h) dX7_lied_121
      · exact absurd (by decide) c_84
    · have hV := hV.2 c_61
      refine lv_iload_n hx hb dX7_lied_64 rfl (lv_at hl 1 rfl) ?_
      refine lv_iload hx hb dX7_lied_65 (lv_at hl 5 rfl) ?_
      obtain ⟨h_67, hV⟩ := hV
      refine cp_i (va_runS (As := [.int p0, .int x6]) (rest := []) ⟨hx, hb, hml, hown, hts⟩ (spec_X7_isStrong l p0 x6 h_67) (va_cwS 2 hts gX7_lied_X7_isStrong rfl rfl rfl (by decide +kernel) ⟨Nat.le_of_ble_eq_true rfl, Nat.le_of_ble_eq_true rfl⟩) cp_pre rfl rfl hl.1 rfl (lv_room (Nat.le_of_ble_eq_true rfl)) dX7_lied_67 ⟨Nat.zero_le _, Nat.zero_le _⟩) (fun r67 q_67 => ?_)
      have hV := hV r67 q_67
      refine lv_if_eq (tgt := 77) hx hb dX7_lied_70 (by decide) (fun c_70 => ?_) (fun c_70 => ?_)
      · have hV := hV.1 c_70
        refine lv_iconst (v := (0 : Int32)) hx hb dX7_lied_77 (by decide) ?_
        refine lv_istore (lv' := [(7, .int (0 : Int32)), (3, .int (s1 + s0)), (1, .int p0), (2, .int p1), (4, .int x4), (5, .int x5), (6, .int x6)]) hx hb dX7_lied_78 hl (by decide) rfl (fun ls hl => ?_)
        refine lv_iload hx hb dX7_lied_80 (lv_at hl 4 rfl) ?_
        refine lv_iload hx hb dX7_lied_82 (lv_at hl 0 rfl) ?_
        refine lv_if_eq (tgt := 91) hx hb dX7_lied_84 (by decide) (fun c_84 => ?_) (fun c_84 => ?_)
        · have hV := hV
          refine lv_iconst (v := (0 : Int32)) hx hb dX7_lied_91 (by decide) ?_
          refine lv_iadd hx hb dX7_lied_92 ?_
          refine lv_istore (lv' := [(4, .int (x4 + (0 : Int32))), (7, .int (0 : Int32)), (3, .int (s1 + s0)), (1, .int p0), (2, .int p1), (5, .int x5), (6, .int x6)]) hx hb dX7_lied_93 hl (by decide) rfl (fun ls hl => ?_)
          refine lv_iload_n hx hb dX7_lied_95 rfl (lv_at hl 4 rfl) ?_
          refine lv_iconst (v := (2 : Int32)) hx hb dX7_lied_96 (by decide) ?_
          refine lv_icmp_ne (tgt := 122) hx hb dX7_lied_97 (by decide) (fun c_97 => ?_) (fun c_97 => ?_)
          · have hV := hV.2 c_97
            refine lv_iinc (v := x6 + 1) (lv' := [(6, .int (x6 + 1)), (4, .int (x4 + (0 : Int32))), (7, .int (0 : Int32)), (3, .int (s1 + s0)), (1, .int p0), (2, .int p1), (5, .int x5)]) hx hb dX7_lied_122 hl (k := 6) rfl rfl (by decide) rfl (fun ls hl => ?_)
            refine lv_goto (tgt := 33) hx hb dX7_lied_125 (by decide) ?_
            exact oJ33 _ _ _ _ hV _ (lv_sub hl [4, 5, 3, 1, 6, 0] rfl)
          · have hV := hV.1 c_97
            refine lv_iload hx hb dX7_lied_100 (lv_at hl 1 rfl) ?_
            refine lv_if_ne (tgt := 122) hx hb dX7_lied_102 (by decide) (fun c_102 => ?_) (fun c_102 => ?_)
            · exact absurd (by decide) c_102
            · have hV := hV
              refine lv_iload hx hb dX7_lied_105 (lv_at hl 6 rfl) ?_
              refine lv_iconst (v := (1 : Int32)) hx hb dX7_lied_107 (by decide) ?_
              refine lv_icmp_le (tgt := 122) hx hb dX7_lied_108 (by decide) (fun c_108 => ?_) (fun c_108 => ?_)
              · have hV := hV.1 c_108
                refine lv_iinc (v := x6 + 1) (lv' := [(6, .int (x6 + 1)), (4, .int (x4 + (0 : Int32))), (7, .int (0 : Int32)), (3, .int (s1 + s0)), (1, .int p0), (2, .int p1), (5, .int x5)]) hx hb dX7_lied_122 hl (k := 6) rfl rfl (by decide) rfl (fun ls hl => ?_)
                refine lv_goto (tgt := 33) hx hb dX7_lied_125 (by decide) ?_
                exact oJ33 _ _ _ _ hV _ (lv_sub hl [4, 5, 3, 1, 6, 0] rfl)
              · have hV := hV.2 c_108
                refine lv_iload hx hb dX7_lied_111 (lv_at hl 6 rfl) ?_
                refine lv_iload_n hx hb dX7_lied_113 rfl (lv_at hl 3 rfl) ?_
                refine lv_iconst (v := (1 : Int32)) hx hb dX7_lied_114 (by decide) ?_
                refine lv_isub hx hb dX7_lied_115 ?_
                refine lv_icmp_ge (tgt := 122) hx hb dX7_lied_116 (by decide) (fun c_116 => ?_) (fun c_116 => ?_)
                · have hV := hV.1 c_116
                  refine lv_iinc (v := x6 + 1) (lv' := [(6, .int (x6 + 1)), (4, .int (x4 + (0 : Int32))), (7, .int (0 : Int32)), (3, .int (s1 + s0)), (1, .int p0), (2, .int p1), (5, .int x5)]) hx hb dX7_lied_122 hl (k := 6) rfl rfl (by decide) rfl (fun ls hl => ?_)
                  refine lv_goto (tgt := 33) hx hb dX7_lied_125 (by decide) ?_
                  exact oJ33 _ _ _ _ hV _ (lv_sub hl [4, 5, 3, 1, 6, 0] rfl)
                · have hV := hV.2 c_116
                  refine lv_iload hx hb dX7_lied_119 (lv_at hl 6 rfl) ?_
                  exact W.iret (v := x6) hx hb hr (fun t ht hW => ⟨_, rfl, hV, ht⟩) (fun _ h => by cases h) dX7_lied_121
        · exact absurd (by decide) c_84
      · have hV := hV.2 c_70
        refine lv_iconst (v := (1 : Int32)) hx hb dX7_lied_73 (by decide) ?_
        refine lv_goto (tgt := 78) hx hb dX7_lied_74 (by decide) ?_
        refine lv_istore (lv' := [(7, .int (1 : Int32)), (3, .int (s1 + s0)), (1, .int p0), (2, .int p1), (4, .int x4), (5, .int x5), (6, .int x6)]) hx hb dX7_lied_78 hl (by decide) rfl (fun ls hl => ?_)
        refine lv_iload hx hb dX7_lied_80 (lv_at hl 4 rfl) ?_
        refine lv_iload hx hb dX7_lied_82 (lv_at hl 0 rfl) ?_
        refine lv_if_eq (tgt := 91) hx hb dX7_lied_84 (by decide) (fun c_84 => ?_) (fun c_84 => ?_)
        · exact absurd c_84 (by decide)
        · have hV := hV
          refine lv_iconst (v := (1 : Int32)) hx hb dX7_lied_87 (by decide) ?_
          refine lv_goto (tgt := 92) hx hb dX7_lied_88 (by decide) ?_
          refine lv_iadd hx hb dX7_lied_92 ?_
          refine lv_istore (lv' := [(4, .int (x4 + (1 : Int32))), (7, .int (1 : Int32)), (3, .int (s1 + s0)), (1, .int p0), (2, .int p1), (5, .int x5), (6, .int x6)]) hx hb dX7_lied_93 hl (by decide) rfl (fun ls hl => ?_)
          refine lv_iload_n hx hb dX7_lied_95 rfl (lv_at hl 4 rfl) ?_
          refine lv_iconst (v := (2 : Int32)) hx hb dX7_lied_96 (by decide) ?_
          refine lv_icmp_ne (tgt := 122) hx hb dX7_lied_97 (by decide) (fun c_97 => ?_) (fun c_97 => ?_)
          · have hV := hV.2 c_97
            refine lv_iinc (v := x6 + 1) (lv' := [(6, .int (x6 + 1)), (4, .int (x4 + (1 : Int32))), (7, .int (1 : Int32)), (3, .int (s1 + s0)), (1, .int p0), (2, .int p1), (5, .int x5)]) hx hb dX7_lied_122 hl (k := 6) rfl rfl (by decide) rfl (fun ls hl => ?_)
            refine lv_goto (tgt := 33) hx hb dX7_lied_125 (by decide) ?_
            exact oJ33 _ _ _ _ hV _ (lv_sub hl [4, 5, 3, 1, 6, 0] rfl)
          · have hV := hV.1 c_97
            refine lv_iload hx hb dX7_lied_100 (lv_at hl 1 rfl) ?_
            refine lv_if_ne (tgt := 122) hx hb dX7_lied_102 (by decide) (fun c_102 => ?_) (fun c_102 => ?_)
            · have hV := hV
              refine lv_iinc (v := x6 + 1) (lv' := [(6, .int (x6 + 1)), (4, .int (x4 + (1 : Int32))), (7, .int (1 : Int32)), (3, .int (s1 + s0)), (1, .int p0), (2, .int p1), (5, .int x5)]) hx hb dX7_lied_122 hl (k := 6) rfl rfl (by decide) rfl (fun ls hl => ?_)
              refine lv_goto (tgt := 33) hx hb dX7_lied_125 (by decide) ?_
              exact oJ33 _ _ _ _ hV _ (lv_sub hl [4, 5, 3, 1, 6, 0] rfl)
            · exact absurd c_102 (by decide))
  have hl := lv_entry ([.ref (ad 0), .int p0, .int p1]) (n := 8) (Nat.le_of_ble_eq_true rfl)
  rw [lg_entry_eq]
  generalize (lg_sl ([.ref (ad 0), .int p0, .int p1]) ++ List.replicate (8 - (lg_sl ([.ref (ad 0), .int p0, .int p1])).length) Slot.unset).toArray = ls at hl ⊢
  have hl : lv_has ls 8 [(0, .ref (ad 0)), (1, .int p0), (2, .int p1)] := hl
  refine lv_iload_n hx hb dX7_lied_0 rfl (lv_at hl 1 rfl) ?_
  refine cp_i (va_runS (As := [.int p0]) (rest := []) ⟨hx, hb, hml, hown, hts⟩ (spec_X7_isOdd l p0) (va_cwS 1 hts gX7_lied_X7_isOdd rfl rfl rfl (by decide +kernel) ⟨Nat.le_of_ble_eq_true rfl, Nat.le_of_ble_eq_true rfl⟩) cp_pre rfl rfl hl.1 rfl (lv_room (Nat.le_of_ble_eq_true rfl)) dX7_lied_1 ⟨Nat.zero_le _, Nat.zero_le _⟩) (fun r1 q_1 => ?_)
  have hV := hV r1 q_1
  refine lv_if_eq (tgt := 19) hx hb dX7_lied_4 (by decide) (fun c_4 => ?_) (fun c_4 => ?_)
  · have hV := hV.1 c_4
    refine lv_iconst (v := (-1 : Int32)) hx hb dX7_lied_19 (by decide) ?_
    exact W.iret (v := (-1 : Int32)) hx hb hr (fun t ht hW => ⟨_, rfl, hV, ht⟩) (fun _ h => by cases h) dX7_lied_20
  · have hV := hV.2 c_4
    refine lv_iload_n hx hb dX7_lied_7 rfl (lv_at hl 2 rfl) ?_
    refine lv_i2l (v := p1.toInt64) hx hb dX7_lied_8 rfl ?_
    refine lv_lconst (v := (0 : Int64)) hx hb dX7_lied_9 (by decide) ?_
    refine lv_ldc2 (v := (2 : Int64)) hx hb hown (hts (.constantLong RX7 56 (2)) (by decide +kernel)) dX7_lied_10 ?_
    refine cp_i (va_runS (As := [.long p1.toInt64, .long (0 : Int64), .long (2 : Int64)]) (rest := []) ⟨hx, hb, hml, hown, hts⟩ (spec_X7_in l p1.toInt64 (0 : Int64) (2 : Int64)) (va_cwS 3 hts gX7_lied_X7_in rfl rfl rfl (by decide +kernel) ⟨Nat.le_of_ble_eq_true rfl, Nat.le_of_ble_eq_true rfl⟩) cp_pre rfl rfl hl.1 rfl (lv_room (Nat.le_of_ble_eq_true rfl)) dX7_lied_13 ⟨Nat.zero_le _, Nat.zero_le _⟩) (fun r13 q_13 => ?_)
    have hV := hV r13 q_13
    refine lv_if_ne (tgt := 21) hx hb dX7_lied_16 (by decide) (fun c_16 => ?_) (fun c_16 => ?_)
    · have hV := hV.2 c_16
      refine lv_iconst (v := (0 : Int32)) hx hb dX7_lied_21 (by decide) ?_
      refine lv_istore_n (lv' := [(3, .int (0 : Int32)), (0, .ref (ad 0)), (1, .int p0), (2, .int p1)]) hx hb dX7_lied_22 rfl hl (by decide) rfl (fun ls hl => ?_)
      refine lv_iconst (v := (0 : Int32)) hx hb dX7_lied_23 (by decide) ?_
      refine lv_istore (lv' := [(4, .int (0 : Int32)), (3, .int (0 : Int32)), (0, .ref (ad 0)), (1, .int p0), (2, .int p1)]) hx hb dX7_lied_24 hl (by decide) rfl (fun ls hl => ?_)
      refine lv_bipush (v := (-4 : Int32)) hx hb dX7_lied_26 (by decide) ?_
      refine lv_istore (lv' := [(5, .int (-4 : Int32)), (4, .int (0 : Int32)), (3, .int (0 : Int32)), (0, .ref (ad 0)), (1, .int p0), (2, .int p1)]) hx hb dX7_lied_28 hl (by decide) rfl (fun ls hl => ?_)
      refine lv_iconst (v := (1 : Int32)) hx hb dX7_lied_30 (by decide) ?_
      refine lv_istore (lv' := [(6, .int (1 : Int32)), (5, .int (-4 : Int32)), (4, .int (0 : Int32)), (3, .int (0 : Int32)), (0, .ref (ad 0)), (1, .int p0), (2, .int p1)]) hx hb dX7_lied_31 hl (by decide) rfl (fun ls hl => ?_)
      exact oJ33 _ _ _ _ hV _ (lv_sub hl [5, 6, 3, 2, 1, 0] rfl)
    · have hV := hV.1 c_16
      refine lv_iconst (v := (-1 : Int32)) hx hb dX7_lied_19 (by decide) ?_
      exact W.iret (v := (-1 : Int32)) hx hb hr (fun t ht hW => ⟨_, rfl, hV, ht⟩) (fun _ h => by cases h) dX7_lied_20
def post_X7_lied (g : Gs) (a : As) (p0 p1 r : Int32) : Prop := LiedAns p0 p1 r
set_option maxRecDepth 4000 in
theorem spec_X7_lied (l : Launch) (D : va_G) (cy : Nat → ClassId) (ad : Nat → Nat) (sz : Nat) (g : Gs) (a : As) (p0 : Int32) (p1 : Int32) : Met l yX7_lied wsX7_lied ({ frames := 2, cells := 0, slots := 0, locals := 56 } : Room) (va_Pc [.ref (ad 0), .int p0, .int p1] (ArP D cy sz (maW ad cy g a))) (Qpi (post_X7_lied g a p0 p1)) 0 0 noF := by
  apply met_X7_lied
  intro J33 J58 h33 h58 r hr
  unfold post_X7_isOdd at hr
  subst hr
  have l0 : (0 : Int64).toInt = 0 := rfl
  have l2 : (2 : Int64).toInt = 2 := rfl
  refine ⟨fun h => Or.inl ⟨Or.inl (zb_0 h), rfl⟩, fun h r2 hr2 => ?_⟩
  have ho : OddN p0 := zb_1 h
  obtain ⟨o1, o2, o3⟩ := id ho
  unfold post_X7_in at hr2
  rw [il_t, l0, l2] at hr2
  subst hr2
  refine ⟨fun h2 => Or.inl ⟨Or.inr (by have := zb_0 h2; omega), rfl⟩, fun h2 => ?_⟩
  have h2 := zb_1 h2
  obtain ⟨n, hn, rfl, hn2⟩ := of_i (x := p0) (by omega)
  have tnn : tn (nI n) = n := tn_nI hn
  have good : ∀ r, (p1 = 0 → r = nI (fb_ct (OB (n - 1) n) n)) → (p1 = 1 → r = nI (fb_ct (StB n) n)) → (p1 = 2 → First (WitP n) n r) → post_X7_lied g a (nI n) p1 r := fun r a1 a2 a3 => Or.inr ⟨⟨ho, h2⟩, by rw [tnn]; exact ⟨a1, a2, a3⟩⟩
  have h1n : 1 % n = 1 := Nat.mod_eq_of_lt (by omega)
  have key : ∀ (d k : Nat) (X S : Int32), k + d = n → 1 ≤ k → (p1 = 0 → X = nI (fb_ct (OB (n - 1) n) k)) → (p1 = 1 → S = nI (fb_ct (StB n) k)) → (p1 = 2 → ∀ y, y < k → ¬ WitP n y) → J33 X S (-4) (nI k) := by
    intro d
    induction d with
    | zero =>
      intro k X S hk hk1 a1 a2 a3
      have : k = n := by omega
      subst this
      refine h33 _ _ _ _ (pk_le k k (fun _ => ⟨fun q => good _ a1 (fun z => absurd (z.symm.trans q) (by decide)) (fun z => absurd (z.symm.trans q) (by decide)), fun q => ⟨fun q1 => good _ (fun z => absurd z q) a2 (fun z => absurd (z.symm.trans q1) (by decide)), fun q1 => good _ (fun z => absurd z q) (fun z => absurd z q1) (fun z => Or.inr ⟨a3 z, rfl⟩)⟩⟩) (fun h => absurd h (by omega)))
    | succ d ih =>
      intro k X S hk hk1 a1 a2 a3
      have es : nI n - 1 = nI (n - 1) := pk_sub (b := 1) (by omega)
      have mid : ∀ (s0 : Int32), (p1 = 0 → s0 = zb (k ^ (n - 1) % n = 1)) → J58 S (-4) (nI k) s0 X := by
        intro s0 hs0
        have next : ∀ z : Int32, (p1 = 1 → z = zb (Strong n k)) → (p1 = 2 → ¬ WitP n k) → J33 (X + s0) (S + z) (-4) (nI k + 1) := by
          intro z hz1 hz2
          rw [nI_1]
          refine ih (k + 1) _ _ (by omega) (by omega) (fun q => ?_) (fun q => ?_) (fun q y hy => ?_)
          · rw [a1 q, hs0 q, fb_ct_succ]
            by_cases c : k ^ (n - 1) % n = 1
            · rw [zb_t c, show OB (n - 1) n k = true from decide_eq_true (by rw [c, h1n]), nI_1]; rfl
            · rw [zb_f c, show OB (n - 1) n k = false from decide_eq_false (by rw [h1n]; exact c)]
              exact nI_add _ 0
          · rw [a2 q, hz1 q, fb_ct_succ]
            by_cases c : Strong n k
            · rw [zb_t c, show StB n k = true from cb_t c, nI_1]; rfl
            · rw [zb_f c, show StB n k = false from cb_f c]
              exact nI_add _ 0
          · by_cases e : y = k
            · subst e; exact hz2 q
            · exact a3 q y (by omega)
        have no : (p1 = 1 → ¬ Strong n k) → (p1 = 2 → ¬ Strong n k) → ((p1 = 2 → ((nI k ≤ 1 → J33 (X + s0) (S + 0) (-4) (nI k + 1)) ∧ (¬ nI k ≤ 1 → ((nI n - 1 ≤ nI k → J33 (X + s0) (S + 0) (-4) (nI k + 1)) ∧ (¬ nI n - 1 ≤ nI k → post_X7_lied g a (nI n) p1 (nI k)))))) ∧ (¬ p1 = 2 → J33 (X + s0) (S + 0) (-4) (nI k + 1))) := by
          intro q1 q2
          refine ⟨fun q => pk_le k 1 (fun c => next 0 (fun z => (zb_f (q1 z)).symm) (fun z w => by have := w.1; omega)) (fun c => ?_), fun q => next 0 (fun z => (zb_f (q1 z)).symm) (fun z => absurd z q)⟩
          rw [es]
          exact pk_le (n - 1) k (fun c2 => next 0 (fun z => (zb_f (q1 z)).symm) (fun z w => by have := w.2.1; omega)) (fun c2 => good _ (fun z => absurd (z.symm.trans q) (by decide)) (fun z => absurd (z.symm.trans q) (by decide)) (fun _ => Or.inl ⟨k, by omega, ⟨by omega, by omega, q2 q⟩, a3 q, rfl⟩))
        refine h58 _ _ _ _ _ ⟨fun q => ?_, fun q => ⟨⟨o1, by rw [nI_toInt (by omega)]; omega⟩, fun r hr => ?_⟩⟩
        · rw [i_le, Int32.toInt_zero] at q
          refine no (fun z => ?_) (fun z => ?_)
          · rw [z] at q; exact absurd q (by decide)
          · rw [z] at q; exact absurd q (by decide)
        · unfold post_X7_isStrong at hr
          rw [tnn, tn_nI (by omega)] at hr
          subst hr
          refine ⟨fun q2 => no (fun _ => zb_0 q2) (fun _ => zb_0 q2), fun q2 => ?_⟩
          have c := zb_1 q2
          exact ⟨fun _ => next 1 (fun _ => (zb_t c).symm) (fun _ w => w.2.2 c), fun _ => next 1 (fun _ => (zb_t c).symm) (fun _ w => w.2.2 c)⟩
      refine h33 _ _ _ _ (pk_le n k (fun h => absurd h (by omega)) (fun _ => ⟨fun q => ⟨⟨o1, by rw [nI_toInt (by omega)]; omega⟩, fun r hr => ?_⟩, fun q => mid 0 (fun z => absurd z q)⟩))
      unfold post_X7_looksSo at hr
      rw [tnn, tn_nI (by omega)] at hr
      subst hr
      exact ⟨fun q2 => mid 0 (fun _ => (zb_f (zb_0 q2)).symm), fun q2 => mid 1 (fun _ => (zb_t (zb_1 q2)).symm)⟩
  refine key (n - 1) 1 0 0 (by omega) (by omega) (fun _ => ?_) (fun _ => ?_) (fun _ y hy w => by have := w.1; omega)
  · rw [fb_ct_succ, show OB (n - 1) n 0 = false from decide_eq_false (by rw [Nat.zero_pow (by omega), Nat.zero_mod, h1n]; decide)]
    rfl
  · rw [fb_ct_succ, show StB n 0 = false from cb_f (fun q => by
      have := strong_fermat (by omega) q
      rw [Nat.zero_pow (by omega), Nat.zero_mod] at this
      omega)]
    rfl
