/-! letters -/
def Free (p q e : Int32) : Prop := Nat.gcd ((tn p - 1) * (tn q - 1)) (tn e) = 1
theorem Keys.nat {p q e : Int32} (h : Keys p q e) : ∃ P Q E : Nat, p = nI P ∧ q = nI Q ∧ e = nI E ∧ Pr P ∧ Pr Q ∧ P ≠ Q ∧ P ≤ 199 ∧ Q ≤ 199 ∧ 1 ≤ E ∧ E ≤ 100000 := by
  obtain ⟨⟨h1, h2⟩, ⟨h3, h4⟩, h5, h6, h7⟩ := h
  have p2 := tn_ge h2.1
  have q2 := tn_ge h4.1
  obtain ⟨P, hP, rfl, hP2⟩ := of_i (x := p) (by omega)
  obtain ⟨Q, hQ, rfl, hQ2⟩ := of_i (x := q) (by omega)
  obtain ⟨E, hE, rfl, hE2⟩ := of_i (x := e) (by omega)
  rw [tn_nI hP] at h2
  rw [tn_nI hQ] at h4
  exact ⟨P, Q, E, rfl, rfl, rfl, h2, h4, fun z => h5 (by rw [z]), by omega, by omega, by omega, by omega⟩
theorem lcm_two {P Q : Nat} (hp : Pr P) (hq : Pr Q) (h : P ≠ Q) : 2 ≤ Nat.lcm (P - 1) (Q - 1) := by
  have h1 := hp.1
  have h2 := hq.1
  have h0 : 0 < Nat.lcm (P - 1) (Q - 1) := Nat.lcm_pos (by omega) (by omega)
  have h3 := Nat.le_of_dvd h0 (Nat.dvd_lcm_left (P - 1) (Q - 1))
  have h4 := Nat.le_of_dvd h0 (Nat.dvd_lcm_right (P - 1) (Q - 1))
  omega
theorem lcm_dvd_mul (a b : Nat) : Nat.lcm a b ∣ a * b := Nat.lcm_dvd (Nat.dvd_mul_right a b) (Nat.dvd_mul_left b a)
theorem lcm_le_mul {a b : Nat} (ha : 0 < a) (hb : 0 < b) : Nat.lcm a b ≤ a * b := Nat.le_of_dvd (Nat.mul_pos ha hb) (lcm_dvd_mul a b)
/-- BACK -/
def BackAns (p q e r : Int32) : Prop := (¬ Keys p q e ∧ r = -1) ∨ (Keys p q e ∧ ((¬ Free p q e ∧ r = -2) ∨ (Free p q e ∧ ∃ d, 1 ≤ d ∧ d < Nat.lcm (tn p - 1) (tn q - 1) ∧ d * tn e % Nat.lcm (tn p - 1) (tn q - 1) = 1 ∧ r = nI d)))
theorem inv_one {m e d d' : Nat} (hc : Nat.Coprime m e) (h1 : d < m) (h2 : d' < m) (h : d * e % m = d' * e % m) : d = d' := by
  rw [Nat.mul_comm d, Nat.mul_comm d'] at h
  have := md_cancel hc h
  rwa [Nat.mod_eq_of_lt h1, Nat.mod_eq_of_lt h2] at this
theorem free_cop {a b e m : Nat} (h : Nat.gcd (a * b) e = 1) (hm : m ∣ a * b) : Nat.Coprime m e := Nat.Coprime.coprime_dvd_left hm h
theorem BackAns.one {p q e r r' : Int32} (h : BackAns p q e r) (h' : BackAns p q e r') : r = r' := by
  rcases h with ⟨h1, h2⟩ | ⟨h1, h2⟩ <;> rcases h' with ⟨k1, k2⟩ | ⟨k1, k2⟩
  · rw [h2, k2]
  · exact absurd k1 h1
  · exact absurd h1 k1
  · rcases h2 with ⟨q1, q2⟩ | ⟨q1, d, d1, d2, d3, d4⟩ <;> rcases k2 with ⟨r1, r2⟩ | ⟨r1, x, x1, x2, x3, x4⟩
    · rw [q2, r2]
    · exact absurd r1 q1
    · exact absurd q1 r1
    · rw [d4, x4, inv_one (free_cop q1 (lcm_dvd_mul _ _)) d2 x2 (d3.trans x3.symm)]
set_option maxHeartbeats 4000000 in
set_option maxRecDepth 100000 in
theorem met_X6_back (l : Launch) (D : va_G) (cy : Nat → ClassId) (ad : Nat → Nat) (sz : Nat) (g : Gs) (a : As) (w : Ws) (p0 : Int32) (p1 : Int32) (p2 : Int32) (post : Int32 → Gs → As → Ws → Prop)
  (hV : ∀ r3 : Int32, post_X6_areKeys p0 p1 p2 r3 → ((r3 = 0 → post (-1 : Int32) g a w) ∧ (¬ r3 = 0 → pre_X6_keySharesDivisor p0 p1 p2 ∧ (∀ r14 : Int32, post_X6_keySharesDivisor p0 p1 p2 r14 → ((r14 = 0 → pre_X4_commonMultiple (p0 - (1 : Int32)) (p1 - (1 : Int32)) ∧ (∀ r29 : Int32, post_X4_commonMultiple (p0 - (1 : Int32)) (p1 - (1 : Int32)) r29 → pre_X0_split 0 g a w r29 ∧ (∀ (g40 : Gs) (a40 : As) (w40 : Ws), post_X0_split 0 g a w r29 g40 a40 w40 → pre_X0_greatestOrder 0 g40 a40 w40 ∧ (∀ r49 : Int32, post_X0_greatestOrder 0 g40 a40 w40 r49 → pre_X4_raise p2.toInt64 ((r49 - (1 : Int32)).toInt64) r29 ∧ (∀ r57 : Int32, post_X4_raise p2.toInt64 ((r49 - (1 : Int32)).toInt64) r29 r57 → post r57 g40 a40 w40))))) ∧ (¬ r14 = 0 → post (-2 : Int32) g a w)))))) :
  Met l yX6_back wsX6_back ({ frames := 3, cells := 0, slots := 0, locals := 70 } : Room) (va_Pc [.ref (ad 0), .int p0, .int p1, .int p2] (ArP D cy sz (caW ad cy g a w))) (va_Qi (fun (r : Int32) (u : Gs × As × Ws) => post r u.1 u.2.1 u.2.2) (fun u t => va_P D vwCl (caW ad cy u.1 u.2.1 u.2.2) t.heap) (va_A (caW ad cy g a w) sz)) 0 0 (va_A (caW ad cy g a w) sz) := by
  refine Met.ofW (cc := cX6_back) (maxL := 5) (ret := (some .int)) (by decide) rfl ?_
  intro p e s m args below meth c s₁ B hml hv
  obtain ⟨rfl, hsz, hP, hK, hD0, hN⟩ := hv
  have hx := B.exec
  have hb := B.bytes
  have hr := B.returns
  have hts := atoms_spec (ws := wsX6_back) B.pre
  have hown : s.vm.findClass RX6 = some m.cls := findClass_of_methodNamed B.named
  have hlocks := B.notSynchronized
  subst hsz
  have hD := hD0.self (sz := s.heap.size)
  have hP : va_P D vwCl (caW ad cy g a w) s.heap := hP
  have hD : va_D (va_A (caW ad cy g a w) s.heap.size) (caW ad cy g a w) := hD
  have hS : va_S (va_A (caW ad cy g a w) s.heap.size) s.heap s.heap [] := va_S.rf
  have hA : ∀ q : Nat, s.heap.size ≤ q → va_A (caW ad cy g a w) s.heap.size q := fun q h => Or.inr h
  have hl := lv_entry ([.ref (ad 0), .int p0, .int p1, .int p2]) (n := 5) (Nat.le_of_ble_eq_true rfl)
  rw [lg_entry_eq]
  generalize (lg_sl ([.ref (ad 0), .int p0, .int p1, .int p2]) ++ List.replicate (5 - (lg_sl ([.ref (ad 0), .int p0, .int p1, .int p2])).length) Slot.unset).toArray = ls at hl ⊢
  have hl : lv_has ls 5 [(0, .ref (ad 0)), (1, .int p0), (2, .int p1), (3, .int p2)] := hl
  refine lv_iload_n hx hb dX6_back_0 rfl (lv_at hl 1 rfl) ?_
  refine lv_iload_n hx hb dX6_back_1 rfl (lv_at hl 2 rfl) ?_
  refine lv_iload_n hx hb dX6_back_2 rfl (lv_at hl 3 rfl) ?_
  refine cp_i (va_runS (As := [.int p0, .int p1, .int p2]) (rest := []) ⟨hx, hb, hml, hown, hts⟩ (spec_X6_areKeys l p0 p1 p2) (va_cwS 3 hts gX6_back_X6_areKeys rfl rfl rfl (by decide +kernel) ⟨Nat.le_of_ble_eq_true rfl, Nat.le_of_ble_eq_true rfl⟩) cp_pre rfl rfl hl.1 rfl (lv_room (Nat.le_of_ble_eq_true rfl)) dX6_back_3 ⟨Nat.zero_le _, Nat.zero_le _⟩) (fun r3 q_3 => ?_)
  have hV := hV r3 q_3
  refine lv_if_ne (tgt := 11) hx hb dX6_back_6 (by decide) (fun c_6 => ?_) (fun c_6 => ?_)
  · have hV := hV.2 c_6
    refine lv_iload_n hx hb dX6_back_11 rfl (lv_at hl 1 rfl) ?_
    refine lv_iload_n hx hb dX6_back_12 rfl (lv_at hl 2 rfl) ?_
    refine lv_iload_n hx hb dX6_back_13 rfl (lv_at hl 3 rfl) ?_
    obtain ⟨h_14, hV⟩ := hV
    refine cp_i (va_runS (As := [.int p0, .int p1, .int p2]) (rest := []) ⟨hx, hb, hml, hown, hts⟩ (spec_X6_keySharesDivisor l p0 p1 p2 h_14) (va_cwS 3 hts gX6_back_X6_keySharesDivisor rfl rfl rfl (by decide +kernel) ⟨Nat.le_of_ble_eq_true rfl, Nat.le_of_ble_eq_true rfl⟩) cp_pre rfl rfl hl.1 rfl (lv_room (Nat.le_of_ble_eq_true rfl)) dX6_back_14 ⟨Nat.zero_le _, Nat.zero_le _⟩) (fun r14 q_14 => ?_)
    have hV := hV r14 q_14
    refine lv_if_eq (tgt := 23) hx hb dX6_back_17 (by decide) (fun c_17 => ?_) (fun c_17 => ?_)
    · have hV := hV.1 c_17
      refine lv_iload_n hx hb dX6_back_23 rfl (lv_at hl 1 rfl) ?_
      refine lv_iconst (v := (1 : Int32)) hx hb dX6_back_24 (by decide) ?_
      refine lv_isub hx hb dX6_back_25 ?_
      refine lv_iload_n hx hb dX6_back_26 rfl (lv_at hl 2 rfl) ?_
      refine lv_iconst (v := (1 : Int32)) hx hb dX6_back_27 (by decide) ?_
      refine lv_isub hx hb dX6_back_28 ?_
      obtain ⟨h_29, hV⟩ := hV
      refine cp_i (va_runS (As := [.int (p0 - (1 : Int32)), .int (p1 - (1 : Int32))]) (rest := []) ⟨hx, hb, hml, hown, hts⟩ (spec_X4_commonMultiple l (p0 - (1 : Int32)) (p1 - (1 : Int32)) h_29) (va_cwS 2 hts gX6_back_X4_commonMultiple rfl rfl rfl (by decide +kernel) ⟨Nat.le_of_ble_eq_true rfl, Nat.le_of_ble_eq_true rfl⟩) cp_pre rfl rfl hl.1 rfl (lv_room (Nat.le_of_ble_eq_true rfl)) dX6_back_29 ⟨Nat.zero_le _, Nat.zero_le _⟩) (fun r29 q_29 => ?_)
      have hV := hV r29 q_29
      refine lv_istore (lv' := [(4, .int r29), (0, .ref (ad 0)), (1, .int p0), (2, .int p1), (3, .int p2)]) hx hb dX6_back_32 hl (by decide) rfl (fun ls hl => ?_)
      refine lv_aload_n hx hb dX6_back_34 rfl (lv_at hl 1 rfl) ?_
      refine va_get (D := D) (ci := 5) (v := .ref (ad 1)) (C := RX6) (T := TX6) (N := 10) hx hb hts (by decide +kernel) hown hK hP 0 rfl rfl 0 (by decide) (hts (.fieldLink RX6 10 "PowerRests" "ofN" "LPowerRests$Factors;") (by decide +kernel)) (fun _ h9 => h9) rfl dX6_back_35 ?_
      refine lv_iload hx hb dX6_back_38 (lv_at hl 0 rfl) ?_
      obtain ⟨h_40, hV⟩ := hV
      refine cw_v (va_runV (As := [.int r29]) (rest := []) ⟨hx, hb, hml, hown, hts⟩ (spec_X0_split l 0 (by decide) D cy ad _ g a w r29 h_40) (cwV 1 hts gX6_back_X0_split rfl rfl rfl (by decide +kernel) ⟨Nat.le_of_ble_eq_true rfl, Nat.le_of_ble_eq_true rfl⟩) (ar_preV hN hK hP (caD hD) (ci := 0) (q0 := 1) rfl rfl) rfl rfl hl.1 rfl (lv_room (Nat.le_of_ble_eq_true rfl)) dX6_back_40 ⟨Nat.zero_le _, Nat.zero_le _⟩) hS (caD hD) hA (fun u_40 H locs q_40 hP hS => ?_)
      obtain ⟨g40, a40, w40⟩ := u_40
      have hV := hV g40 a40 w40 q_40
      have hP : va_P D vwCl (caW ad cy g40 a40 w40) H := hP
      refine lv_iload_n hx hb dX6_back_43 rfl (lv_at hl 4 rfl) ?_
      refine lv_i2l (v := p2.toInt64) hx hb dX6_back_44 rfl ?_
      refine lv_aload_n hx hb dX6_back_45 rfl (lv_at hl 1 rfl) ?_
      refine va_get (D := D) (ci := 5) (v := .ref (ad 1)) (C := RX6) (T := TX6) (N := 10) hx hb hts (by decide +kernel) hown hK hP 0 rfl rfl 0 (by decide) (hts (.fieldLink RX6 10 "PowerRests" "ofN" "LPowerRests$Factors;") (by decide +kernel)) (fun _ h9 => h9) rfl dX6_back_46 ?_
      obtain ⟨h_49, hV⟩ := hV
      refine cp_i (va_runV (As := []) (rest := [.long p2.toInt64]) ⟨hx, hb, hml, hown, hts⟩ (spec_X0_greatestOrder l 0 (by decide) D cy ad _ g40 a40 w40 h_49) (cwV 0 hts gX6_back_X0_greatestOrder rfl rfl rfl (by decide +kernel) ⟨Nat.le_of_ble_eq_true rfl, Nat.le_of_ble_eq_true rfl⟩) (ar_preV hN hK hP (caD hD) (ci := 0) (q0 := 1) rfl rfl) rfl rfl hl.1 rfl (lv_room (Nat.le_of_ble_eq_true rfl)) dX6_back_49 ⟨Nat.zero_le _, Nat.zero_le _⟩) (fun r49 q_49 => ?_)
      have hV := hV r49 q_49
      refine lv_iconst (v := (1 : Int32)) hx hb dX6_back_52 (by decide) ?_
      refine lv_isub hx hb dX6_back_53 ?_
      refine lv_i2l (v := (r49 - (1 : Int32)).toInt64) hx hb dX6_back_54 rfl ?_
      refine lv_iload hx hb dX6_back_55 (lv_at hl 0 rfl) ?_
      obtain ⟨h_57, hV⟩ := hV
      refine cp_i (va_runS (As := [.long p2.toInt64, .long ((r49 - (1 : Int32)).toInt64), .int r29]) (rest := []) ⟨hx, hb, hml, hown, hts⟩ (spec_X4_raise l p2.toInt64 ((r49 - (1 : Int32)).toInt64) r29 h_57) (va_cwS 3 hts gX6_back_X4_raise rfl rfl rfl (by decide +kernel) ⟨Nat.le_of_ble_eq_true rfl, Nat.le_of_ble_eq_true rfl⟩) cp_pre rfl rfl hl.1 rfl (lv_room (Nat.le_of_ble_eq_true rfl)) dX6_back_57 ⟨Nat.zero_le _, Nat.zero_le _⟩) (fun r57 q_57 => ?_)
      have hV := hV r57 q_57
      exact W.iret (v := r57) hx hb hr (fun t ht hW => ⟨⟨_, (g40, a40, w40), rfl, hV, ar_heap ht hP⟩, hS.F ht⟩) hS.2.2 dX6_back_60
    · have hV := hV.2 c_17
      refine lv_bipush (v := (-2 : Int32)) hx hb dX6_back_20 (by decide) ?_
      exact W.iret (v := (-2 : Int32)) hx hb hr (fun t ht hW => ⟨⟨_, (g, a, w), rfl, hV, ar_heap ht hP⟩, hS.F ht⟩) hS.2.2 dX6_back_22
  · have hV := hV.1 c_6
    refine lv_iconst (v := (-1 : Int32)) hx hb dX6_back_9 (by decide) ?_
    exact W.iret (v := (-1 : Int32)) hx hb hr (fun t ht hW => ⟨⟨_, (g, a, w), rfl, hV, ar_heap ht hP⟩, hS.F ht⟩) hS.2.2 dX6_back_10
def post_X6_back (g : Gs) (a : As) (w : Ws) (p0 p1 p2 r : Int32) (g' : Gs) (a' : As) (w' : Ws) : Prop := BackAns p0 p1 p2 r ∧ FS g a w g' a' w'
set_option maxRecDepth 4000 in
theorem spec_X6_back (l : Launch) (D : va_G) (cy : Nat → ClassId) (ad : Nat → Nat) (sz : Nat) (g : Gs) (a : As) (w : Ws) (p0 : Int32) (p1 : Int32) (p2 : Int32) : Met l yX6_back wsX6_back ({ frames := 3, cells := 0, slots := 0, locals := 70 } : Room) (va_Pc [.ref (ad 0), .int p0, .int p1, .int p2] (ArP D cy sz (caW ad cy g a w))) (va_Qi (fun (r : Int32) (u : Gs × As × Ws) => (post_X6_back g a w p0 p1 p2) r u.1 u.2.1 u.2.2) (fun u t => va_P D vwCl (caW ad cy u.1 u.2.1 u.2.2) t.heap) (va_A (caW ad cy g a w) sz)) 0 0 (va_A (caW ad cy g a w) sz) := by
  apply met_X6_back
  intro r hr
  unfold post_X6_areKeys at hr
  subst hr
  refine ⟨fun h => ⟨Or.inl ⟨zb_0 h, rfl⟩, FS.rf⟩, fun h => ?_⟩
  have hK : Keys p0 p1 p2 := zb_1 h
  obtain ⟨P, Q, E, rfl, rfl, rfl, pP, pQ, hne, hP, hQ, hE1, hE2⟩ := hK.nat
  have p2 := pP.1
  have q2 := pQ.1
  have iP : (nI P).toInt = P := nI_toInt (by omega)
  have iQ : (nI Q).toInt = Q := nI_toInt (by omega)
  have iE : (nI E).toInt = E := nI_toInt (by omega)
  have nP : tn (nI P) = P := tn_nI (by omega)
  have nQ : tn (nI Q) = Q := tn_nI (by omega)
  have nE : tn (nI E) = E := tn_nI (by omega)
  refine ⟨⟨⟨by omega, by omega⟩, ⟨by omega, by omega⟩, by omega⟩, fun r2 hr2 => ?_⟩
  unfold post_X6_keySharesDivisor at hr2
  subst hr2
  refine ⟨fun h2 => ?_, fun h2 => ⟨Or.inr ⟨hK, Or.inl ⟨zb_1 h2, rfl⟩⟩, FS.rf⟩⟩
  have hF : Free (nI P) (nI Q) (nI E) := Classical.not_not.mp (zb_0 h2)
  have hF' := hF
  unfold Free at hF'
  rw [nP, nQ, nE] at hF'
  rw [show nI P - (1 : Int32) = nI (P - 1) from pk_sub (b := 1) (by omega), show nI Q - (1 : Int32) = nI (Q - 1) from pk_sub (b := 1) (by omega)]
  have hlm := lcm_le_mul (a := P - 1) (b := Q - 1) (by omega) (by omega)
  have hmm : (P - 1) * (Q - 1) ≤ 198 * 198 := Nat.mul_le_mul (by omega) (by omega)
  have hl2 := lcm_two pP pQ hne
  have hcop := free_cop hF' (lcm_dvd_mul (P - 1) (Q - 1))
  refine ⟨⟨by rw [nI_toInt (by omega)]; omega, by rw [nI_toInt (by omega)]; omega, by rw [tn_nI (by omega), tn_nI (by omega)]; omega⟩, fun r3 hr3 => ?_⟩
  unfold post_X4_commonMultiple at hr3
  rw [tn_nI (by omega), tn_nI (by omega)] at hr3
  subst hr3
  have em : Nat.lcm (P - 1) (Q - 1) = Nat.lcm (tn (nI P) - 1) (tn (nI Q) - 1) := by rw [nP, nQ]
  generalize hm : Nat.lcm (P - 1) (Q - 1) = m at *
  refine ⟨⟨by rw [nI_toInt (by omega)]; omega, by rw [nI_toInt (by omega)]; omega⟩, fun g1 a1 w1 hsp => ?_⟩
  have hF1 : Fac 0 m g1 a1 := by have := hsp.2.1 (by rw [tn_nI (by omega)]; omega); rwa [tn_nI (by omega)] at this
  have hFS := split_FS (by decide) hsp
  refine ⟨⟨_, hF1⟩, fun r4 hr4 => ?_⟩
  unfold post_X0_greatestOrder at hr4
  have hlam := (lam_fac hF1.1 (by omega)).1 E hcop
  have hll := lam_le hF1.1
  generalize lcmF (cyF (PP 0 a1) (TT 0 a1)) (tn (g1 0)) = L at *
  subst hr4
  rw [show nI L - (1 : Int32) = nI (L - 1) from pk_sub (b := 1) (by omega), nI_l (by omega), nI_l (by omega)]
  refine ⟨⟨by rw [pk_lT (by omega)]; omega, by rw [pk_lT (by omega)]; omega, by rw [pk_lT (by omega)]; omega, by rw [nI_toInt (by omega)]; omega⟩, fun r5 hr5 => ⟨Or.inr ⟨hK, Or.inr ⟨hF, ?_⟩⟩, hFS⟩⟩
  unfold post_X4_raise at hr5
  rw [tl_lN (by omega), tl_lN (by omega), tn_nI (by omega)] at hr5
  rw [← em, nE]
  have hd : E ^ (L - 1) % m * E % m = 1 := by
    rw [Nat.mod_mul_mod, ← Nat.pow_succ, show (L - 1).succ = L by omega, hlam, Nat.mod_eq_of_lt (by omega)]
  refine ⟨E ^ (L - 1) % m, Nat.pos_of_ne_zero (fun z => ?_), Nat.mod_lt _ (by omega), hd, hr5⟩
  rw [z, Nat.zero_mul, Nat.zero_mod] at hd
  omega
theorem pair_keys {p q e : Int32} (h : (p.toInt ≤ 199 ∧ Pr (tn p)) ∧ (q.toInt ≤ 199 ∧ Pr (tn q)) ∧ ¬ p = q) (k : 1 ≤ e.toInt ∧ e.toInt ≤ 100000) : Keys p q e := ⟨h.1, h.2.1, h.2.2, k⟩
set_option maxHeartbeats 4000000 in
set_option maxRecDepth 100000 in
theorem met_X7_back (l : Launch) (D : va_G) (cy : Nat → ClassId) (ad : Nat → Nat) (sz : Nat) (g : Gs) (a : As) (p0 : Int32) (p1 : Int32) (p2 : Int32) (post : Int32 → Prop)
  (hV : ∀ (J44 : Int32 → Int32 → Prop),
    (∀ (x4 : Int32) (x5 : Int32), ¬ x4.toInt64 = 0 ∧ (¬ x4 = 0 ∧ (((((x5.toInt64 * p2.toInt64) - (x5.toInt64 * p2.toInt64) / x4.toInt64 * x4.toInt64) = (((1 : Int32) - (1 : Int32) / x4 * x4).toInt64) → post x5) ∧ (¬ ((x5.toInt64 * p2.toInt64) - (x5.toInt64 * p2.toInt64) / x4.toInt64 * x4.toInt64) = (((1 : Int32) - (1 : Int32) / x4 * x4).toInt64) → J44 x4 (x5 + 1))))) → J44 x4 x5) →
    ∀ r2 : Int32, post_X7_isPair p0 p1 r2 → ((r2 = 0 → post (-1 : Int32)) ∧ (¬ r2 = 0 → ∀ r14 : Int32, post_X7_in p2.toInt64 (1 : Int64) (100000 : Int64) r14 → ((r14 = 0 → post (-1 : Int32)) ∧ (¬ r14 = 0 → pre_X7_isFree p0 p1 p2 ∧ (∀ r25 : Int32, post_X7_isFree p0 p1 p2 r25 → ((r25 = 0 → post (-2 : Int32)) ∧ (¬ r25 = 0 → pre_X7_both p0 p1 ∧ (∀ r36 : Int32, post_X7_both p0 p1 r36 → J44 r36 (1 : Int32)))))))))) :
  Met l yX7_back wsX7_back ({ frames := 2, cells := 0, slots := 0, locals := 46 } : Room) (va_Pc [.ref (ad 0), .int p0, .int p1, .int p2] (ArP D cy sz (maW ad cy g a))) (Qpi post) 0 0 noF := by
  refine Met.ofW (cc := cX7_back) (maxL := 6) (ret := (some .int)) (by decide) rfl ?_
  intro p e s m args below meth c s₁ B hml hv
  obtain ⟨rfl, hsz, hP, hK, hD0, hN⟩ := hv
  have hx := B.exec
  have hb := B.bytes
  have hr := B.returns
  have hts := atoms_spec (ws := wsX7_back) B.pre
  have hown : s.vm.findClass RX7 = some m.cls := findClass_of_methodNamed B.named
  have hlocks := B.notSynchronized
  subst hsz
  have hP : va_P D vwCl (maW ad cy g a) s.heap := hP
  have hD : va_D (fun _ => True) (maW ad cy g a) := hD0
  obtain ⟨J44, iJ44, oJ44⟩ : ∃ J : Int32 → Int32 → Prop, (∀ (x4 : Int32) (x5 : Int32), (∀ ls : Array Slot, lv_has ls 6 [(3, .int p2), (4, .int x4), (5, .int x5)] → W p l e (headSpec wsX7_back ({ frames := 2, cells := 0, slots := 0, locals := 46 } : Room)).room s m [.ref (ad 0), .int p0, .int p1, .int p2].toArray below meth c s.heap [] 0 0 (MQ below (Qpi post) [.ref (ad 0), .int p0, .int p1, .int p2].toArray s 0 0 noF) (F0 m 44 ls [])) → J x4 x5) ∧ (∀ (x4 : Int32) (x5 : Int32), J x4 x5 → (∀ ls : Array Slot, lv_has ls 6 [(3, .int p2), (4, .int x4), (5, .int x5)] → W p l e (headSpec wsX7_back ({ frames := 2, cells := 0, slots := 0, locals := 46 } : Room)).room s m [.ref (ad 0), .int p0, .int p1, .int p2].toArray below meth c s.heap [] 0 0 (MQ below (Qpi post) [.ref (ad 0), .int p0, .int p1, .int p2].toArray s 0 0 noF) (F0 m 44 ls []))) := ⟨fun (x4 : Int32) (x5 : Int32) => (∀ ls : Array Slot, lv_has ls 6 [(3, .int p2), (4, .int x4), (5, .int x5)] → W p l e (headSpec wsX7_back ({ frames := 2, cells := 0, slots := 0, locals := 46 } : Room)).room s m [.ref (ad 0), .int p0, .int p1, .int p2].toArray below meth c s.heap [] 0 0 (MQ below (Qpi post) [.ref (ad 0), .int p0, .int p1, .int p2].toArray s 0 0 noF) (F0 m 44 ls [])), fun _ _ h => h, fun _ _ h => h⟩
  have hV := hV J44
  replace hV := hV (by
    intro x4 x5 hV
    refine iJ44 x4 x5 ?_
    intro ls hl
    refine lv_iload hx hb dX7_back_44 (lv_at hl 2 rfl) ?_
    refine lv_i2l (v := x5.toInt64) hx hb dX7_back_46 rfl ?_
    refine lv_iload_n hx hb dX7_back_47 rfl (lv_at hl 0 rfl) ?_
    refine lv_i2l (v := p2.toInt64) hx hb dX7_back_48 rfl ?_
    refine lv_lmul hx hb dX7_back_49 ?_
    refine lv_iload hx hb dX7_back_50 (lv_at hl 1 rfl) ?_
    refine lv_i2l (v := x4.toInt64) hx hb dX7_back_52 rfl ?_
    obtain ⟨h_53, hV⟩ := hV
    refine lv_lrem hx hb dX7_back_53 h_53 ?_
    refine lv_iconst (v := (1 : Int32)) hx hb dX7_back_54 (by decide) ?_
    refine lv_iload hx hb dX7_back_55 (lv_at hl 1 rfl) ?_
    obtain ⟨h_57, hV⟩ := hV
    refine lv_irem hx hb dX7_back_57 h_57 ?_
    refine lv_i2l (v := ((1 : Int32) - (1 : Int32) / x4 * x4).toInt64) hx hb dX7_back_58 rfl ?_
    refine lc_eq (tgt := 69) hx hb dX7_back_59 dX7_back_60 (by decide) (fun c_59 => ?_) (fun c_59 => ?_)
    · have hV := hV.1 c_59
      refine lv_iload hx hb dX7_back_69 (lv_at hl 2 rfl) ?_
      exact W.iret (v := x5) hx hb hr (fun t ht hW => ⟨_, rfl, hV, ht⟩) (fun _ h => by cases h) dX7_back_71
    · have hV := hV.2 c_59
      refine lv_iinc (v := x5 + 1) (lv' := [(5, .int (x5 + 1)), (3, .int p2), (4, .int x4)]) hx hb dX7_back_63 hl (k := 2) rfl rfl (by decide) rfl (fun ls hl => ?_)
      refine lv_goto (tgt := 44) hx hb dX7_back_66 (by decide) ?_
      exact oJ44 _ _ hV _ (lv_sub hl [1, 2, 0] rfl))
  have hl := lv_entry ([.ref (ad 0), .int p0, .int p1, .int p2]) (n := 6) (Nat.le_of_ble_eq_true rfl)
  rw [lg_entry_eq]
  generalize (lg_sl ([.ref (ad 0), .int p0, .int p1, .int p2]) ++ List.replicate (6 - (lg_sl ([.ref (ad 0), .int p0, .int p1, .int p2])).length) Slot.unset).toArray = ls at hl ⊢
  have hl : lv_has ls 6 [(0, .ref (ad 0)), (1, .int p0), (2, .int p1), (3, .int p2)] := hl
  refine lv_iload_n hx hb dX7_back_0 rfl (lv_at hl 1 rfl) ?_
  refine lv_iload_n hx hb dX7_back_1 rfl (lv_at hl 2 rfl) ?_
  refine cp_i (va_runS (As := [.int p0, .int p1]) (rest := []) ⟨hx, hb, hml, hown, hts⟩ (spec_X7_isPair l p0 p1) (va_cwS 2 hts gX7_back_X7_isPair rfl rfl rfl (by decide +kernel) ⟨Nat.le_of_ble_eq_true rfl, Nat.le_of_ble_eq_true rfl⟩) cp_pre rfl rfl hl.1 rfl (lv_room (Nat.le_of_ble_eq_true rfl)) dX7_back_2 ⟨Nat.zero_le _, Nat.zero_le _⟩) (fun r2 q_2 => ?_)
  have hV := hV r2 q_2
  refine lv_if_eq (tgt := 20) hx hb dX7_back_5 (by decide) (fun c_5 => ?_) (fun c_5 => ?_)
  · have hV := hV.1 c_5
    refine lv_iconst (v := (-1 : Int32)) hx hb dX7_back_20 (by decide) ?_
    exact W.iret (v := (-1 : Int32)) hx hb hr (fun t ht hW => ⟨_, rfl, hV, ht⟩) (fun _ h => by cases h) dX7_back_21
  · have hV := hV.2 c_5
    refine lv_iload_n hx hb dX7_back_8 rfl (lv_at hl 3 rfl) ?_
    refine lv_i2l (v := p2.toInt64) hx hb dX7_back_9 rfl ?_
    refine lv_lconst (v := (1 : Int64)) hx hb dX7_back_10 (by decide) ?_
    refine lv_ldc2 (v := (100000 : Int64)) hx hb hown (hts (.constantLong RX7 215 (100000)) (by decide +kernel)) dX7_back_11 ?_
    refine cp_i (va_runS (As := [.long p2.toInt64, .long (1 : Int64), .long (100000 : Int64)]) (rest := []) ⟨hx, hb, hml, hown, hts⟩ (spec_X7_in l p2.toInt64 (1 : Int64) (100000 : Int64)) (va_cwS 3 hts gX7_back_X7_in rfl rfl rfl (by decide +kernel) ⟨Nat.le_of_ble_eq_true rfl, Nat.le_of_ble_eq_true rfl⟩) cp_pre rfl rfl hl.1 rfl (lv_room (Nat.le_of_ble_eq_true rfl)) dX7_back_14 ⟨Nat.zero_le _, Nat.zero_le _⟩) (fun r14 q_14 => ?_)
    have hV := hV r14 q_14
    refine lv_if_ne (tgt := 22) hx hb dX7_back_17 (by decide) (fun c_17 => ?_) (fun c_17 => ?_)
    · have hV := hV.2 c_17
      refine lv_iload_n hx hb dX7_back_22 rfl (lv_at hl 1 rfl) ?_
      refine lv_iload_n hx hb dX7_back_23 rfl (lv_at hl 2 rfl) ?_
      refine lv_iload_n hx hb dX7_back_24 rfl (lv_at hl 3 rfl) ?_
      obtain ⟨h_25, hV⟩ := hV
      refine cp_i (va_runS (As := [.int p0, .int p1, .int p2]) (rest := []) ⟨hx, hb, hml, hown, hts⟩ (spec_X7_isFree l p0 p1 p2 h_25) (va_cwS 3 hts gX7_back_X7_isFree rfl rfl rfl (by decide +kernel) ⟨Nat.le_of_ble_eq_true rfl, Nat.le_of_ble_eq_true rfl⟩) cp_pre rfl rfl hl.1 rfl (lv_room (Nat.le_of_ble_eq_true rfl)) dX7_back_25 ⟨Nat.zero_le _, Nat.zero_le _⟩) (fun r25 q_25 => ?_)
      have hV := hV r25 q_25
      refine lv_if_ne (tgt := 34) hx hb dX7_back_28 (by decide) (fun c_28 => ?_) (fun c_28 => ?_)
      · have hV := hV.2 c_28
        refine lv_iload_n hx hb dX7_back_34 rfl (lv_at hl 1 rfl) ?_
        refine lv_iload_n hx hb dX7_back_35 rfl (lv_at hl 2 rfl) ?_
        obtain ⟨h_36, hV⟩ := hV
        refine cp_i (va_runS (As := [.int p0, .int p1]) (rest := []) ⟨hx, hb, hml, hown, hts⟩ (spec_X7_both l p0 p1 h_36) (va_cwS 2 hts gX7_back_X7_both rfl rfl rfl (by decide +kernel) ⟨Nat.le_of_ble_eq_true rfl, Nat.le_of_ble_eq_true rfl⟩) cp_pre rfl rfl hl.1 rfl (lv_room (Nat.le_of_ble_eq_true rfl)) dX7_back_36 ⟨Nat.zero_le _, Nat.zero_le _⟩) (fun r36 q_36 => ?_)
        have hV := hV r36 q_36
        refine lv_istore (lv' := [(4, .int r36), (0, .ref (ad 0)), (1, .int p0), (2, .int p1), (3, .int p2)]) hx hb dX7_back_39 hl (by decide) rfl (fun ls hl => ?_)
        refine lv_iconst (v := (1 : Int32)) hx hb dX7_back_41 (by decide) ?_
        refine lv_istore (lv' := [(5, .int (1 : Int32)), (4, .int r36), (0, .ref (ad 0)), (1, .int p0), (2, .int p1), (3, .int p2)]) hx hb dX7_back_42 hl (by decide) rfl (fun ls hl => ?_)
        exact oJ44 _ _ hV _ (lv_sub hl [5, 1, 0] rfl)
      · have hV := hV.1 c_28
        refine lv_bipush (v := (-2 : Int32)) hx hb dX7_back_31 (by decide) ?_
        exact W.iret (v := (-2 : Int32)) hx hb hr (fun t ht hW => ⟨_, rfl, hV, ht⟩) (fun _ h => by cases h) dX7_back_33
    · have hV := hV.1 c_17
      refine lv_iconst (v := (-1 : Int32)) hx hb dX7_back_20 (by decide) ?_
      exact W.iret (v := (-1 : Int32)) hx hb hr (fun t ht hW => ⟨_, rfl, hV, ht⟩) (fun _ h => by cases h) dX7_back_21
def post_X7_back (g : Gs) (a : As) (p0 p1 p2 r : Int32) : Prop := BackAns p0 p1 p2 r
set_option maxRecDepth 4000 in
theorem spec_X7_back (l : Launch) (D : va_G) (cy : Nat → ClassId) (ad : Nat → Nat) (sz : Nat) (g : Gs) (a : As) (p0 : Int32) (p1 : Int32) (p2 : Int32) : Met l yX7_back wsX7_back ({ frames := 2, cells := 0, slots := 0, locals := 46 } : Room) (va_Pc [.ref (ad 0), .int p0, .int p1, .int p2] (ArP D cy sz (maW ad cy g a))) (Qpi (post_X7_back g a p0 p1 p2)) 0 0 noF := by
  apply met_X7_back
  intro J hJ r hr
  unfold post_X7_isPair at hr
  subst hr
  have l1 : (1 : Int64).toInt = 1 := rfl
  have l5 : (100000 : Int64).toInt = 100000 := rfl
  refine ⟨fun h => Or.inl ⟨fun z => zb_0 h ⟨z.1, z.2.1, z.2.2.1⟩, rfl⟩, fun h r2 hr2 => ?_⟩
  unfold post_X7_in at hr2
  rw [il_t, l1, l5] at hr2
  subst hr2
  refine ⟨fun h2 => Or.inl ⟨fun z => zb_0 h2 z.2.2.2, rfl⟩, fun h2 => ?_⟩
  have hK : Keys p0 p1 p2 := pair_keys (zb_1 h) (zb_1 h2)
  clear h h2
  obtain ⟨P, Q, E, rfl, rfl, rfl, pP, pQ, hne, hP, hQ, hE1, hE2⟩ := hK.nat
  have p2 := pP.1
  have q2 := pQ.1
  have iP : (nI P).toInt = P := nI_toInt (by omega)
  have iQ : (nI Q).toInt = Q := nI_toInt (by omega)
  have iE : (nI E).toInt = E := nI_toInt (by omega)
  have nP : tn (nI P) = P := tn_nI (by omega)
  have nQ : tn (nI Q) = Q := tn_nI (by omega)
  have nE : tn (nI E) = E := tn_nI (by omega)
  refine ⟨⟨⟨by omega, by omega⟩, ⟨by omega, by omega⟩, by omega⟩, fun r2 hr2 => ?_⟩
  unfold post_X7_isFree at hr2
  subst hr2
  refine ⟨fun h2 => Or.inr ⟨hK, Or.inl ⟨zb_0 h2, rfl⟩⟩, fun h2 => ⟨⟨⟨by omega, by omega⟩, ⟨by omega, by omega⟩⟩, fun r3 hr3 => ?_⟩⟩
  have hF : Free (nI P) (nI Q) (nI E) := zb_1 h2
  have hF' := hF
  unfold Free at hF'
  rw [nP, nQ, nE] at hF'
  have hlm := lcm_le_mul (a := P - 1) (b := Q - 1) (by omega) (by omega)
  have hmm : (P - 1) * (Q - 1) ≤ 198 * 198 := Nat.mul_le_mul (by omega) (by omega)
  have hl2 := lcm_two pP pQ hne
  have hcop := free_cop hF' (lcm_dvd_mul (P - 1) (Q - 1))
  unfold post_X7_both at hr3
  have em : Nat.lcm (P - 1) (Q - 1) = Nat.lcm (tn (nI P) - 1) (tn (nI Q) - 1) := by rw [nP, nQ]
  rw [← em] at hr3
  generalize hm : Nat.lcm (P - 1) (Q - 1) = m at *
  subst hr3
  obtain ⟨o, ho1, ho2⟩ := ord_ex (n := m) (a := E) (by omega) hcop
  have hinv : E ^ (o - 1) % m * E % m = 1 := by
    rw [Nat.mod_mul_mod, ← Nat.pow_succ, show (o - 1).succ = o by have := ho1.1; omega, ho1.2.1, Nat.mod_eq_of_lt (by omega)]
  obtain ⟨D, hD⟩ : ∃ D, D = E ^ (o - 1) % m := ⟨_, rfl⟩
  rw [← hD] at hinv
  have hDm : D < m := by rw [hD]; exact Nat.mod_lt _ (by omega)
  have hD1 : 1 ≤ D := Nat.pos_of_ne_zero (fun z => by rw [z, Nat.zero_mul, Nat.zero_mod] at hinv; omega)
  have e1 : (1 : Int32) - (1 : Int32) / nI m * nI m = nI 1 := by
    have := pk_rem (a := 1) (d := m) (by omega) (by omega) (by omega)
    rw [Nat.mod_eq_of_lt (by omega)] at this
    exact this
  have key : ∀ (b d : Nat), d + b = D → 1 ≤ d → J (nI m) (nI d) := by
    intro b
    induction b with
    | zero =>
      intro d hd h1
      have : d = D := by omega
      subst this
      have hb : d * E ≤ 40000 * 100000 := Nat.mul_le_mul (by omega) (by omega)
      refine hJ _ _ ?_
      rw [e1, nI_l (by omega), nI_l (by omega), nI_l (by omega), nI_l (by omega), lN_mul, pk_lRem (by omega) (by omega) (by omega)]
      refine ⟨lN_nz (by omega) (by omega), nI_nz (by omega) (by omega), ql_eq (d * E % m) 1 (fun _ => Or.inr ⟨hK, Or.inr ⟨hF, d, h1, by rw [← em]; exact hDm, by rw [← em, nE]; exact hinv, rfl⟩⟩) (fun z => absurd hinv z) rfl rfl (by have := Nat.mod_lt (d * E) (show 0 < m by omega); omega) (by omega)⟩
    | succ b ih =>
      intro d hd h1
      have hb : d * E ≤ 40000 * 100000 := Nat.mul_le_mul (by omega) (by omega)
      refine hJ _ _ ?_
      rw [e1, nI_l (by omega), nI_l (by omega), nI_l (by omega), nI_l (by omega), lN_mul, pk_lRem (by omega) (by omega) (by omega), nI_1]
      refine ⟨lN_nz (by omega) (by omega), nI_nz (by omega) (by omega), ql_eq (d * E % m) 1 (fun z => absurd (inv_one hcop (show d < m by omega) hDm (z.trans hinv.symm)) (by omega)) (fun _ => ih (d + 1) (by omega) (by omega)) rfl rfl (by have := Nat.mod_lt (d * E) (show 0 < m by omega); omega) (by omega)⟩
  exact key (D - 1) 1 (by omega) (by omega)
