/-! how long figures go on -/
theorem pb_gcd {b n : Nat} (hn : 1 ≤ n) : ∀ k, Nat.gcd n (b ^ k) * pb b n k = n
  | 0 => by rw [Nat.pow_zero, Nat.gcd_one_right, Nat.one_mul]; rfl
  | k + 1 => by
    have ih := pb_gcd (b := b) hn k
    have hg : 0 < Nat.gcd n (b ^ k) := Nat.gcd_pos_of_pos_left _ (by omega)
    obtain ⟨c, hc⟩ := Nat.gcd_dvd_right n (b ^ k)
    show Nat.gcd n (b ^ (k + 1)) * (pb b n k / Nat.gcd (pb b n k) b) = n
    generalize hG : Nat.gcd n (b ^ k) = G at ih hg hc
    generalize pb b n k = m at ih
    have h1 : Nat.gcd m c = 1 := by
      have e : Nat.gcd (G * m) (G * c) = G := by rw [ih, ← hc, hG]
      rw [Nat.gcd_mul_left] at e
      exact Nat.eq_of_mul_eq_mul_left hg (by rw [e, Nat.mul_one])
    have h2 : Nat.gcd n (b ^ (k + 1)) = G * Nat.gcd m b := by
      rw [Nat.pow_succ, hc, Nat.mul_assoc, ← ih, Nat.gcd_mul_left, Nat.Coprime.gcd_mul_left_cancel_right b (Nat.Coprime.symm h1)]
    rw [h2, Nat.mul_assoc, Nat.mul_div_cancel' (Nat.gcd_dvd_left m b), ih]
theorem pb_less {b n : Nat} (hb : 2 ≤ b) (hn : 1 ≤ n) {t : Nat} (h : ∀ j, j < t → ¬ Nat.gcd (pb b n j) b = 1) : ∀ {f : Nat}, f < t → pb b n t < pb b n f := by
  intro f hf
  induction t with
  | zero => omega
  | succ t ih =>
    have hp := pb_pos (b := b) hn t
    have hg : 0 < Nat.gcd (pb b n t) b := Nat.gcd_pos_of_pos_left _ (by omega)
    have h1 : pb b n (t + 1) < pb b n t := by
      show pb b n t / Nat.gcd (pb b n t) b < pb b n t
      have := h t (by omega)
      exact Nat.div_lt_self (by omega) (by omega)
    by_cases e : f = t
    · subst e; exact h1
    · have := ih (fun j hj => h j (by omega)) (by omega)
      omega
theorem ahead_iff {b n t f : Nat} (hb : 2 ≤ b) (hn : 1 ≤ n) (h : Beside b n t) (hf : f ≤ t) : b ^ f % (n / pb b n t) = 0 ↔ f = t := by
  have hpt := pb_pos (b := b) hn t
  have e : ∀ k, n / pb b n k = Nat.gcd n (b ^ k) := fun k => by
    have hpk := pb_pos (b := b) hn k
    have := pb_gcd (b := b) hn k
    generalize Nat.gcd n (b ^ k) = G at this ⊢
    generalize pb b n k = q at this hpk ⊢
    rw [← this, Nat.mul_div_cancel _ hpk]
  constructor
  · intro hz
    by_cases hft : f = t
    · exact hft
    · exfalso
      rw [e t] at hz
      have hd : Nat.gcd n (b ^ t) ∣ Nat.gcd n (b ^ f) := Nat.dvd_gcd (Nat.gcd_dvd_left _ _) (Nat.dvd_of_mod_eq_zero hz)
      have h1 := Nat.le_of_dvd (Nat.gcd_pos_of_pos_left _ (by omega)) hd
      have h2 := pb_less hb hn h.2 (show f < t by omega)
      have h3 := pb_gcd (b := b) hn t
      have h4 := pb_gcd (b := b) hn f
      have h5 : Nat.gcd n (b ^ t) * pb b n t < Nat.gcd n (b ^ f) * pb b n f := Nat.lt_of_le_of_lt (Nat.mul_le_mul_right _ h1) (Nat.mul_lt_mul_of_pos_left h2 (Nat.gcd_pos_of_pos_left _ (by omega)))
      omega
  · intro hft
    subst hft
    rw [e f]
    exact Nat.mod_eq_zero_of_dvd (Nat.gcd_dvd_right _ _)
def pre_X6_aheadOf (p0 p1 : Int32) : Prop := 2 ≤ p0.toInt ∧ 1 ≤ p1.toInt ∧ p1.toInt ≤ 60000
set_option maxHeartbeats 4000000 in
set_option maxRecDepth 100000 in
theorem met_X6_aheadOf (l : Launch) (p0 : Int32) (p1 : Int32) (post : Int32 → Prop)
  (hV : ∀ (J22 : Int32 → Int32 → Prop),
    (∀ (x3 : Int32) (x4 : Int32), (((32 : Int32) ≤ x4 → post (32 : Int32)) ∧ (¬ (32 : Int32) ≤ x4 → pre_X4_raise p0.toInt64 x4.toInt64 x3 ∧ (∀ r35 : Int32, post_X4_raise p0.toInt64 x4.toInt64 x3 r35 → ((r35 = 0 → post x4) ∧ (¬ r35 = 0 → J22 x3 (x4 + 1)))))) → J22 x3 x4) →
    pre_X6_partBeside p0 p1 ∧ (∀ r2 : Int32, post_X6_partBeside p0 p1 r2 → (((1 : Int32) ≤ r2 → ¬ r2 = 0 ∧ (J22 (p1 / r2) (0 : Int32))) ∧ (¬ (1 : Int32) ≤ r2 → J22 (1 : Int32) (0 : Int32))))) :
  Met l yX6_aheadOf wsX6_aheadOf ({ frames := 2, cells := 0, slots := 0, locals := 49 } : Room) (va_Pc [.int p0, .int p1] (fun _ => True)) (Qpi post) 0 0 noF := by
  refine Met.ofW (cc := cX6_aheadOf) (maxL := 5) (ret := (some .int)) (by decide) rfl ?_
  intro p e s m args below meth c s₁ B hml hv
  obtain ⟨rfl, -⟩ := hv
  have hx := B.exec
  have hb := B.bytes
  have hr := B.returns
  have hts := atoms_spec (ws := wsX6_aheadOf) B.pre
  have hown : s.vm.findClass RX6 = some m.cls := findClass_of_methodNamed B.named
  have hlocks := B.notSynchronized
  obtain ⟨J22, iJ22, oJ22⟩ : ∃ J : Int32 → Int32 → Prop, (∀ (x3 : Int32) (x4 : Int32), (∀ ls : Array Slot, lv_has ls 5 [(0, .int p0), (3, .int x3), (4, .int x4)] → W p l e (headSpec wsX6_aheadOf ({ frames := 2, cells := 0, slots := 0, locals := 49 } : Room)).room s m [.int p0, .int p1].toArray below meth c s.heap [] 0 0 (MQ below (Qpi post) [.int p0, .int p1].toArray s 0 0 noF) (F0 m 22 ls [])) → J x3 x4) ∧ (∀ (x3 : Int32) (x4 : Int32), J x3 x4 → (∀ ls : Array Slot, lv_has ls 5 [(0, .int p0), (3, .int x3), (4, .int x4)] → W p l e (headSpec wsX6_aheadOf ({ frames := 2, cells := 0, slots := 0, locals := 49 } : Room)).room s m [.int p0, .int p1].toArray below meth c s.heap [] 0 0 (MQ below (Qpi post) [.int p0, .int p1].toArray s 0 0 noF) (F0 m 22 ls []))) := ⟨fun (x3 : Int32) (x4 : Int32) => (∀ ls : Array Slot, lv_has ls 5 [(0, .int p0), (3, .int x3), (4, .int x4)] → W p l e (headSpec wsX6_aheadOf ({ frames := 2, cells := 0, slots := 0, locals := 49 } : Room)).room s m [.int p0, .int p1].toArray below meth c s.heap [] 0 0 (MQ below (Qpi post) [.int p0, .int p1].toArray s 0 0 noF) (F0 m 22 ls [])), fun _ _ h => h, fun _ _ h => h⟩
  have hV := hV J22
  replace hV := hV (by
    intro x3 x4 hV
    refine iJ22 x3 x4 ?_
    intro ls hl
    refine lv_iload hx hb dX6_aheadOf_22 (lv_at hl 2 rfl) ?_
    refine lv_bipush (v := (32 : Int32)) hx hb dX6_aheadOf_24 (by decide) ?_
    refine lv_icmp_ge (tgt := 50) hx hb dX6_aheadOf_26 (by decide) (fun c_26 => ?_) (fun c_26 => ?_)
    · have hV := hV.1 c_26
      refine lv_bipush (v := (32 : Int32)) hx hb dX6_aheadOf_50 (by decide) ?_
      exact W.iret (v := (32 : Int32)) hx hb hr (fun t ht hW => ⟨_, rfl, hV, ht⟩) (fun _ h => by cases h) dX6_aheadOf_52
    · have hV := hV.2 c_26
      refine lv_iload_n hx hb dX6_aheadOf_29 rfl (lv_at hl 0 rfl) ?_
      refine lv_i2l (v := p0.toInt64) hx hb dX6_aheadOf_30 rfl ?_
      refine lv_iload hx hb dX6_aheadOf_31 (lv_at hl 2 rfl) ?_
      refine lv_i2l (v := x4.toInt64) hx hb dX6_aheadOf_33 rfl ?_
      refine lv_iload_n hx hb dX6_aheadOf_34 rfl (lv_at hl 1 rfl) ?_
      obtain ⟨h_35, hV⟩ := hV
      refine cp_i (va_runS (As := [.long p0.toInt64, .long x4.toInt64, .int x3]) (rest := []) ⟨hx, hb, hml, hown, hts⟩ (spec_X4_raise l p0.toInt64 x4.toInt64 x3 h_35) (va_cwS 3 hts gX6_aheadOf_X4_raise rfl rfl rfl (by decide +kernel) ⟨Nat.le_of_ble_eq_true rfl, Nat.le_of_ble_eq_true rfl⟩) cp_pre rfl rfl hl.1 rfl (lv_room (Nat.le_of_ble_eq_true rfl)) dX6_aheadOf_35 ⟨Nat.zero_le _, Nat.zero_le _⟩) (fun r35 q_35 => ?_)
      have hV := hV r35 q_35
      refine lv_if_ne (tgt := 44) hx hb dX6_aheadOf_38 (by decide) (fun c_38 => ?_) (fun c_38 => ?_)
      · have hV := hV.2 c_38
        refine lv_iinc (v := x4 + 1) (lv' := [(4, .int (x4 + 1)), (0, .int p0), (3, .int x3)]) hx hb dX6_aheadOf_44 hl (k := 2) rfl rfl (by decide) rfl (fun ls hl => ?_)
        refine lv_goto (tgt := 22) hx hb dX6_aheadOf_47 (by decide) ?_
        exact oJ22 _ _ hV _ (lv_sub hl [1, 2, 0] rfl)
      · have hV := hV.1 c_38
        refine lv_iload hx hb dX6_aheadOf_41 (lv_at hl 2 rfl) ?_
        exact W.iret (v := x4) hx hb hr (fun t ht hW => ⟨_, rfl, hV, ht⟩) (fun _ h => by cases h) dX6_aheadOf_43)
  have hl := lv_entry ([.int p0, .int p1]) (n := 5) (Nat.le_of_ble_eq_true rfl)
  rw [lg_entry_eq]
  generalize (lg_sl ([.int p0, .int p1]) ++ List.replicate (5 - (lg_sl ([.int p0, .int p1])).length) Slot.unset).toArray = ls at hl ⊢
  have hl : lv_has ls 5 [(0, .int p0), (1, .int p1)] := hl
  refine lv_iload_n hx hb dX6_aheadOf_0 rfl (lv_at hl 0 rfl) ?_
  refine lv_iload_n hx hb dX6_aheadOf_1 rfl (lv_at hl 1 rfl) ?_
  obtain ⟨h_2, hV⟩ := hV
  refine cp_i (va_runS (As := [.int p0, .int p1]) (rest := []) ⟨hx, hb, hml, hown, hts⟩ (spec_X6_partBeside l p0 p1 h_2) (va_cwS 2 hts gX6_aheadOf_X6_partBeside rfl rfl rfl (by decide +kernel) ⟨Nat.le_of_ble_eq_true rfl, Nat.le_of_ble_eq_true rfl⟩) cp_pre rfl rfl hl.1 rfl (lv_room (Nat.le_of_ble_eq_true rfl)) dX6_aheadOf_2 ⟨Nat.zero_le _, Nat.zero_le _⟩) (fun r2 q_2 => ?_)
  have hV := hV r2 q_2
  refine lv_istore_n (lv' := [(2, .int r2), (0, .int p0), (1, .int p1)]) hx hb dX6_aheadOf_5 rfl hl (by decide) rfl (fun ls hl => ?_)
  refine lv_iload_n hx hb dX6_aheadOf_6 rfl (lv_at hl 0 rfl) ?_
  refine lv_iconst (v := (1 : Int32)) hx hb dX6_aheadOf_7 (by decide) ?_
  refine lv_icmp_ge (tgt := 15) hx hb dX6_aheadOf_8 (by decide) (fun c_8 => ?_) (fun c_8 => ?_)
  · have hV := hV.1 c_8
    refine lv_iload_n hx hb dX6_aheadOf_15 rfl (lv_at hl 2 rfl) ?_
    refine lv_iload_n hx hb dX6_aheadOf_16 rfl (lv_at hl 0 rfl) ?_
    obtain ⟨h_17, hV⟩ := hV
    refine lv_idiv hx hb dX6_aheadOf_17 h_17 ?_
    refine lv_istore_n (lv' := [(3, .int (p1 / r2)), (2, .int r2), (0, .int p0), (1, .int p1)]) hx hb dX6_aheadOf_18 rfl hl (by decide) rfl (fun ls hl => ?_)
    refine lv_iconst (v := (0 : Int32)) hx hb dX6_aheadOf_19 (by decide) ?_
    refine lv_istore (lv' := [(4, .int (0 : Int32)), (3, .int (p1 / r2)), (2, .int r2), (0, .int p0), (1, .int p1)]) hx hb dX6_aheadOf_20 hl (by decide) rfl (fun ls hl => ?_)
    exact oJ22 _ _ hV _ (lv_sub hl [3, 1, 0] rfl)
  · have hV := hV.2 c_8
    refine lv_iconst (v := (1 : Int32)) hx hb dX6_aheadOf_11 (by decide) ?_
    refine lv_goto (tgt := 18) hx hb dX6_aheadOf_12 (by decide) ?_
    refine lv_istore_n (lv' := [(3, .int (1 : Int32)), (2, .int r2), (0, .int p0), (1, .int p1)]) hx hb dX6_aheadOf_18 rfl hl (by decide) rfl (fun ls hl => ?_)
    refine lv_iconst (v := (0 : Int32)) hx hb dX6_aheadOf_19 (by decide) ?_
    refine lv_istore (lv' := [(4, .int (0 : Int32)), (3, .int (1 : Int32)), (2, .int r2), (0, .int p0), (1, .int p1)]) hx hb dX6_aheadOf_20 hl (by decide) rfl (fun ls hl => ?_)
    exact oJ22 _ _ hV _ (lv_sub hl [3, 1, 0] rfl)
def post_X6_aheadOf (p0 p1 r : Int32) : Prop := ∃ t, t < 16 ∧ Beside (tn p0) (tn p1) t ∧ r = nI t
set_option maxRecDepth 4000 in
theorem spec_X6_aheadOf (l : Launch) (p0 : Int32) (p1 : Int32) (hpre : pre_X6_aheadOf p0 p1) : Met l yX6_aheadOf wsX6_aheadOf ({ frames := 2, cells := 0, slots := 0, locals := 49 } : Room) (va_Pc [.int p0, .int p1] (fun _ => True)) (Qpi (post_X6_aheadOf p0 p1)) 0 0 noF := by
  apply met_X6_aheadOf
  intro J hJ
  obtain ⟨h0, h1, h2⟩ := id hpre
  obtain ⟨b, hb, rfl, hb2⟩ := of_i (x := p0) (by omega)
  obtain ⟨n, hn, rfl, hn2⟩ := of_i (x := p1) (by omega)
  refine ⟨⟨h0, h1, h2⟩, fun r hr => ?_⟩
  obtain ⟨t, ht, hB, rfl⟩ := hr
  rw [tn_nI hb, tn_nI hn] at hB ⊢
  have hp1 := pb_pos (b := b) (n := n) (by omega) t
  have hp2 := pb_le (b := b) (n := n) t
  have hs1 : 1 ≤ n / pb b n t := Nat.div_pos hp2 hp1
  have hs2 : n / pb b n t ≤ n := Nat.div_le_self _ _
  refine pk_le 1 (pb b n t) (fun _ => ⟨nI_nz (by omega) (by omega), ?_⟩) (fun h => absurd h (by omega))
  rw [pk_div hn (by omega) (by omega)]
  rw [nI_l hb] at hJ
  have key : ∀ (d k : Nat), k + d = t → J (nI (n / pb b n t)) (nI k) := by
    intro d
    induction d with
    | zero =>
      intro k hk
      have : k = t := by omega
      subst this
      refine hJ _ _ (pk_le 32 k (fun h => absurd h (by omega)) (fun _ => ?_))
      rw [nI_l (by omega)]
      refine ⟨⟨by rw [pk_lT (by omega)]; omega, by rw [pk_lT (by omega)]; omega, by rw [pk_lT (by omega)]; omega, by rw [nI_toInt (by omega)]; omega⟩, fun r hr => ?_⟩
      unfold post_X4_raise at hr
      rw [tl_lN (by omega), tl_lN (by omega), tn_nI (by omega), (ahead_iff (by omega) (by omega) hB (Nat.le_refl k)).mpr rfl] at hr
      exact ⟨fun _ => ⟨k, ht, by rw [tn_nI hb, tn_nI hn]; exact hB, rfl⟩, fun q => absurd hr q⟩
    | succ d ih =>
      intro k hk
      refine hJ _ _ (pk_le 32 k (fun h => absurd h (by omega)) (fun _ => ?_))
      rw [nI_l (by omega)]
      refine ⟨⟨by rw [pk_lT (by omega)]; omega, by rw [pk_lT (by omega)]; omega, by rw [pk_lT (by omega)]; omega, by rw [nI_toInt (by omega)]; omega⟩, fun r hr => ?_⟩
      unfold post_X4_raise at hr
      rw [tl_lN (by omega), tl_lN (by omega), tn_nI (by omega)] at hr
      subst hr
      have hml := Nat.mod_lt (b ^ k) hs1
      refine pk_eq (b ^ k % (n / pb b n t)) 0 (fun q => ?_) (fun q => ?_)
      · have := (ahead_iff (by omega) (by omega) hB (show k ≤ t by omega)).mp q
        omega
      · rw [nI_1]
        exact ih (k + 1) (by omega)
  exact key t 0 (by omega)
theorem Round.one {b n e f : Nat} (h : Round b n e) (h' : Round b n f) : e = f := by
  obtain ⟨t, h1, h2⟩ := h
  obtain ⟨u, k1, k2⟩ := h'
  have := beside_one h1 k1
  subst this
  rcases h2 with ⟨q1, q2⟩ | ⟨q1, q2, q3⟩ <;> rcases k2 with ⟨r1, r2⟩ | ⟨r1, r2, r3⟩
  · rw [q2, r2]
  · exact absurd q1 r1
  · exact absurd r1 q1
  · exact ord_one q2 r2
def pre_X6_roundOf (g : Gs) (a : As) (w : Ws) (p0 p1 : Int32) : Prop := 2 ≤ p0.toInt ∧ 1 ≤ p1.toInt ∧ p1.toInt ≤ 50000
set_option maxHeartbeats 4000000 in
set_option maxRecDepth 100000 in
theorem met_X6_roundOf (l : Launch) (D : va_G) (cy : Nat → ClassId) (ad : Nat → Nat) (sz : Nat) (g : Gs) (a : As) (w : Ws) (p0 : Int32) (p1 : Int32) (post : Int32 → Gs → As → Ws → Prop)
  (hV : pre_X6_partBeside p0 p1 ∧ (∀ r2 : Int32, post_X6_partBeside p0 p1 r2 → ((r2 = (1 : Int32) → post (0 : Int32) g a w) ∧ (¬ r2 = (1 : Int32) → pre_X6_leastExponent g a w p0 r2 ∧ (∀ (r18 : Int32) (g18 : Gs) (a18 : As) (w18 : Ws), post_X6_leastExponent g a w p0 r2 r18 g18 a18 w18 → post r18 g18 a18 w18))))) :
  Met l yX6_roundOf wsX6_roundOf ({ frames := 4, cells := 0, slots := 0, locals := 96 } : Room) (va_Pc [.ref (ad 0), .int p0, .int p1] (ArP D cy sz (caW ad cy g a w))) (va_Qi (fun (r : Int32) (u : Gs × As × Ws) => post r u.1 u.2.1 u.2.2) (fun u t => va_P D vwCl (caW ad cy u.1 u.2.1 u.2.2) t.heap) (va_A (caW ad cy g a w) sz)) 0 0 (va_A (caW ad cy g a w) sz) := by
  refine Met.ofW (cc := cX6_roundOf) (maxL := 4) (ret := (some .int)) (by decide) rfl ?_
  intro p e s m args below meth c s₁ B hml hv
  obtain ⟨rfl, hsz, hP, hK, hD0, hN⟩ := hv
  have hx := B.exec
  have hb := B.bytes
  have hr := B.returns
  have hts := atoms_spec (ws := wsX6_roundOf) B.pre
  have hown : s.vm.findClass RX6 = some m.cls := findClass_of_methodNamed B.named
  have hlocks := B.notSynchronized
  subst hsz
  have hD := hD0.self (sz := s.heap.size)
  have hP : va_P D vwCl (caW ad cy g a w) s.heap := hP
  have hD : va_D (va_A (caW ad cy g a w) s.heap.size) (caW ad cy g a w) := hD
  have hS : va_S (va_A (caW ad cy g a w) s.heap.size) s.heap s.heap [] := va_S.rf
  have hA : ∀ q : Nat, s.heap.size ≤ q → va_A (caW ad cy g a w) s.heap.size q := fun q h => Or.inr h
  have hl := lv_entry ([.ref (ad 0), .int p0, .int p1]) (n := 4) (Nat.le_of_ble_eq_true rfl)
  rw [lg_entry_eq]
  generalize (lg_sl ([.ref (ad 0), .int p0, .int p1]) ++ List.replicate (4 - (lg_sl ([.ref (ad 0), .int p0, .int p1])).length) Slot.unset).toArray = ls at hl ⊢
  have hl : lv_has ls 4 [(0, .ref (ad 0)), (1, .int p0), (2, .int p1)] := hl
  refine lv_iload_n hx hb dX6_roundOf_0 rfl (lv_at hl 1 rfl) ?_
  refine lv_iload_n hx hb dX6_roundOf_1 rfl (lv_at hl 2 rfl) ?_
  obtain ⟨h_2, hV⟩ := hV
  refine cp_i (va_runS (As := [.int p0, .int p1]) (rest := []) ⟨hx, hb, hml, hown, hts⟩ (spec_X6_partBeside l p0 p1 h_2) (va_cwS 2 hts gX6_roundOf_X6_partBeside rfl rfl rfl (by decide +kernel) ⟨Nat.le_of_ble_eq_true rfl, Nat.le_of_ble_eq_true rfl⟩) cp_pre rfl rfl hl.1 rfl (lv_room (Nat.le_of_ble_eq_true rfl)) dX6_roundOf_2 ⟨Nat.zero_le _, Nat.zero_le _⟩) (fun r2 q_2 => ?_)
  have hV := hV r2 q_2
  refine lv_istore_n (lv' := [(3, .int r2), (0, .ref (ad 0)), (1, .int p0), (2, .int p1)]) hx hb dX6_roundOf_5 rfl hl (by decide) rfl (fun ls hl => ?_)
  refine lv_iload_n hx hb dX6_roundOf_6 rfl (lv_at hl 0 rfl) ?_
  refine lv_iconst (v := (1 : Int32)) hx hb dX6_roundOf_7 (by decide) ?_
  refine lv_icmp_ne (tgt := 15) hx hb dX6_roundOf_8 (by decide) (fun c_8 => ?_) (fun c_8 => ?_)
  · have hV := hV.2 c_8
    refine lv_aload_n hx hb dX6_roundOf_15 rfl (lv_at hl 1 rfl) ?_
    refine lv_iload_n hx hb dX6_roundOf_16 rfl (lv_at hl 2 rfl) ?_
    refine lv_iload_n hx hb dX6_roundOf_17 rfl (lv_at hl 0 rfl) ?_
    obtain ⟨h_18, hV⟩ := hV
    refine cw_i (va_runV (As := [.int p0, .int r2]) (rest := []) ⟨hx, hb, hml, hown, hts⟩ (spec_X6_leastExponent l D cy ad _ g a w p0 r2 h_18) (cwV 2 hts gX6_roundOf_X6_leastExponent rfl rfl rfl (by decide +kernel) ⟨Nat.le_of_ble_eq_true rfl, Nat.le_of_ble_eq_true rfl⟩) (ar_preV hN hK hP (caD hD) (ci := 5) (q0 := 0) rfl rfl) rfl rfl hl.1 rfl (lv_room (Nat.le_of_ble_eq_true rfl)) dX6_roundOf_18 ⟨Nat.zero_le _, Nat.zero_le _⟩) hS (caD hD) hA (fun r18 u_18 H locs q_18 hP hS => ?_)
    obtain ⟨g18, a18, w18⟩ := u_18
    have hV := hV r18 g18 a18 w18 q_18
    have hP : va_P D vwCl (caW ad cy g18 a18 w18) H := hP
    exact W.iret (v := r18) hx hb hr (fun t ht hW => ⟨⟨_, (g18, a18, w18), rfl, hV, ar_heap ht hP⟩, hS.F ht⟩) hS.2.2 dX6_roundOf_21
  · have hV := hV.1 c_8
    refine lv_iconst (v := (0 : Int32)) hx hb dX6_roundOf_11 (by decide) ?_
    refine lv_goto (tgt := 21) hx hb dX6_roundOf_12 (by decide) ?_
    exact W.iret (v := (0 : Int32)) hx hb hr (fun t ht hW => ⟨⟨_, (g, a, w), rfl, hV, ar_heap ht hP⟩, hS.F ht⟩) hS.2.2 dX6_roundOf_21
def post_X6_roundOf (g : Gs) (a : As) (w : Ws) (p0 p1 r : Int32) (g' : Gs) (a' : As) (w' : Ws) : Prop := (∃ e, Round (tn p0) (tn p1) e ∧ e ≤ tn p1 ∧ r = nI e) ∧ FS g a w g' a' w'
set_option maxRecDepth 4000 in
theorem spec_X6_roundOf (l : Launch) (D : va_G) (cy : Nat → ClassId) (ad : Nat → Nat) (sz : Nat) (g : Gs) (a : As) (w : Ws) (p0 : Int32) (p1 : Int32) (hpre : pre_X6_roundOf g a w p0 p1) : Met l yX6_roundOf wsX6_roundOf ({ frames := 4, cells := 0, slots := 0, locals := 96 } : Room) (va_Pc [.ref (ad 0), .int p0, .int p1] (ArP D cy sz (caW ad cy g a w))) (va_Qi (fun (r : Int32) (u : Gs × As × Ws) => (post_X6_roundOf g a w p0 p1) r u.1 u.2.1 u.2.2) (fun u t => va_P D vwCl (caW ad cy u.1 u.2.1 u.2.2) t.heap) (va_A (caW ad cy g a w) sz)) 0 0 (va_A (caW ad cy g a w) sz) := by
  apply met_X6_roundOf
  obtain ⟨h0, h1, h2⟩ := id hpre
  obtain ⟨b, hb, rfl, hb2⟩ := of_i (x := p0) (by omega)
  obtain ⟨n, hn, rfl, hn2⟩ := of_i (x := p1) (by omega)
  refine ⟨⟨h0, h1, by omega⟩, fun r hr => ?_⟩
  obtain ⟨t, ht, hB, rfl⟩ := hr
  rw [tn_nI hb, tn_nI hn] at hB ⊢
  have hp1 := pb_pos (b := b) (n := n) (by omega) t
  have hp2 := pb_le (b := b) (n := n) t
  refine pk_eq (pb b n t) 1 (fun q => ⟨⟨0, by rw [tn_nI hb, tn_nI hn]; exact ⟨t, hB, Or.inl ⟨q, rfl⟩⟩, by omega, rfl⟩, FS.rf⟩) (fun q => ⟨⟨by omega, by rw [nI_toInt (by omega)]; omega, by rw [nI_toInt (by omega)]; omega, by rw [tn_nI hb, tn_nI (by omega)]; exact hB.1⟩, fun r2 g2 a2 w2 hr2 => ?_⟩)
  obtain ⟨⟨e, e1, e2, rfl⟩, hFS⟩ := hr2
  rw [tn_nI hb, tn_nI (by omega)] at e1
  rw [tn_nI (by omega)] at e2
  exact ⟨⟨e, by rw [tn_nI hb, tn_nI hn]; exact ⟨t, hB, Or.inr ⟨q, e1, e2⟩⟩, by rw [tn_nI hn]; omega, rfl⟩, hFS⟩
def Bs (b : Int32) : Prop := 2 ≤ b.toInt ∧ b.toInt ≤ 36
/-- BROKEN -/
def BrokenAns (b n what r : Int32) : Prop := ((¬ Bs b ∨ ¬ Dv n ∨ what.toInt < 0 ∨ 1 < what.toInt) ∧ r = -1) ∨ ((Bs b ∧ Dv n ∧ 0 ≤ what.toInt ∧ what.toInt ≤ 1) ∧ (what = 0 → ∃ t, Beside (tn b) (tn n) t ∧ r = nI t) ∧ (¬ what = 0 → ∃ e, Round (tn b) (tn n) e ∧ r = nI e))
theorem BrokenAns.one {b n what r r' : Int32} (h : BrokenAns b n what r) (h' : BrokenAns b n what r') : r = r' := by
  rcases h with ⟨h1, h2⟩ | ⟨⟨h1, h2, h3⟩, h4, h5⟩ <;> rcases h' with ⟨k1, k2⟩ | ⟨⟨k1, k2, k3⟩, k4, k5⟩
  · rw [h2, k2]
  · rcases h1 with q | q | q
    · exact absurd k1 q
    · exact absurd k2 q
    · omega
  · rcases k1 with q | q | q
    · exact absurd h1 q
    · exact absurd h2 q
    · omega
  · by_cases q : what = 0
    · obtain ⟨t, t1, t2⟩ := h4 q
      obtain ⟨u, u1, u2⟩ := k4 q
      rw [t2, u2, beside_one t1 u1]
    · obtain ⟨t, t1, t2⟩ := h5 q
      obtain ⟨u, u1, u2⟩ := k5 q
      rw [t2, u2, t1.one u1]
set_option maxHeartbeats 4000000 in
set_option maxRecDepth 100000 in
theorem met_X6_broken (l : Launch) (D : va_G) (cy : Nat → ClassId) (ad : Nat → Nat) (sz : Nat) (g : Gs) (a : As) (w : Ws) (p0 : Int32) (p1 : Int32) (p2 : Int32) (post : Int32 → Gs → As → Ws → Prop)
  (hV : ∀ r1 : Int32, post_X6_isBase p0 r1 → ((r1 = 0 → post (-1 : Int32) g a w) ∧ (¬ r1 = 0 → ∀ r8 : Int32, post_X6_isDivisor p1 r8 → ((r8 = 0 → post (-1 : Int32) g a w) ∧ (¬ r8 = 0 → ((p2 < 0 → post (-1 : Int32) g a w) ∧ (¬ p2 < 0 → ((p2 ≤ (1 : Int32) → ((p2 = 0 → pre_X6_aheadOf p0 p1 ∧ (∀ r31 : Int32, post_X6_aheadOf p0 p1 r31 → post r31 g a w)) ∧ (¬ p2 = 0 → pre_X6_roundOf g a w p0 p1 ∧ (∀ (r40 : Int32) (g40 : Gs) (a40 : As) (w40 : Ws), post_X6_roundOf g a w p0 p1 r40 g40 a40 w40 → post r40 g40 a40 w40)))) ∧ (¬ p2 ≤ (1 : Int32) → post (-1 : Int32) g a w))))))))) :
  Met l yX6_broken wsX6_broken ({ frames := 5, cells := 0, slots := 0, locals := 119 } : Room) (va_Pc [.ref (ad 0), .int p0, .int p1, .int p2] (ArP D cy sz (caW ad cy g a w))) (va_Qi (fun (r : Int32) (u : Gs × As × Ws) => post r u.1 u.2.1 u.2.2) (fun u t => va_P D vwCl (caW ad cy u.1 u.2.1 u.2.2) t.heap) (va_A (caW ad cy g a w) sz)) 0 0 (va_A (caW ad cy g a w) sz) := by
  refine Met.ofW (cc := cX6_broken) (maxL := 4) (ret := (some .int)) (by decide) rfl ?_
  intro p e s m args below meth c s₁ B hml hv
  obtain ⟨rfl, hsz, hP, hK, hD0, hN⟩ := hv
  have hx := B.exec
  have hb := B.bytes
  have hr := B.returns
  have hts := atoms_spec (ws := wsX6_broken) B.pre
  have hown : s.vm.findClass RX6 = some m.cls := findClass_of_methodNamed B.named
  have hlocks := B.notSynchronized
  subst hsz
  have hD := hD0.self (sz := s.heap.size)
  have hP : va_P D vwCl (caW ad cy g a w) s.heap := hP
  have hD : va_D (va_A (caW ad cy g a w) s.heap.size) (caW ad cy g a w) := hD
  have hS : va_S (va_A (caW ad cy g a w) s.heap.size) s.heap s.heap [] := va_S.rf
  have hA : ∀ q : Nat, s.heap.size ≤ q → va_A (caW ad cy g a w) s.heap.size q := fun q h => Or.inr h
  have hl := lv_entry ([.ref (ad 0), .int p0, .int p1, .int p2]) (n := 4) (Nat.le_of_ble_eq_true rfl)
  rw [lg_entry_eq]
  generalize (lg_sl ([.ref (ad 0), .int p0, .int p1, .int p2]) ++ List.replicate (4 - (lg_sl ([.ref (ad 0), .int p0, .int p1, .int p2])).length) Slot.unset).toArray = ls at hl ⊢
  have hl : lv_has ls 4 [(0, .ref (ad 0)), (1, .int p0), (2, .int p1), (3, .int p2)] := hl
  refine lv_iload_n hx hb dX6_broken_0 rfl (lv_at hl 1 rfl) ?_
  refine cp_i (va_runS (As := [.int p0]) (rest := []) ⟨hx, hb, hml, hown, hts⟩ (spec_X6_isBase l p0) (va_cwS 1 hts gX6_broken_X6_isBase rfl rfl rfl (by decide +kernel) ⟨Nat.le_of_ble_eq_true rfl, Nat.le_of_ble_eq_true rfl⟩) cp_pre rfl rfl hl.1 rfl (lv_room (Nat.le_of_ble_eq_true rfl)) dX6_broken_1 ⟨Nat.zero_le _, Nat.zero_le _⟩) (fun r1 q_1 => ?_)
  have hV := hV r1 q_1
  refine lv_if_eq (tgt := 23) hx hb dX6_broken_4 (by decide) (fun c_4 => ?_) (fun c_4 => ?_)
  · have hV := hV.1 c_4
    refine lv_iconst (v := (-1 : Int32)) hx hb dX6_broken_23 (by decide) ?_
    exact W.iret (v := (-1 : Int32)) hx hb hr (fun t ht hW => ⟨⟨_, (g, a, w), rfl, hV, ar_heap ht hP⟩, hS.F ht⟩) hS.2.2 dX6_broken_24
  · have hV := hV.2 c_4
    refine lv_iload_n hx hb dX6_broken_7 rfl (lv_at hl 2 rfl) ?_
    refine cp_i (va_runS (As := [.int p1]) (rest := []) ⟨hx, hb, hml, hown, hts⟩ (spec_X6_isDivisor l p1) (va_cwS 1 hts gX6_broken_X6_isDivisor rfl rfl rfl (by decide +kernel) ⟨Nat.le_of_ble_eq_true rfl, Nat.le_of_ble_eq_true rfl⟩) cp_pre rfl rfl hl.1 rfl (lv_room (Nat.le_of_ble_eq_true rfl)) dX6_broken_8 ⟨Nat.zero_le _, Nat.zero_le _⟩) (fun r8 q_8 => ?_)
    have hV := hV r8 q_8
    refine lv_if_eq (tgt := 23) hx hb dX6_broken_11 (by decide) (fun c_11 => ?_) (fun c_11 => ?_)
    · have hV := hV.1 c_11
      refine lv_iconst (v := (-1 : Int32)) hx hb dX6_broken_23 (by decide) ?_
      exact W.iret (v := (-1 : Int32)) hx hb hr (fun t ht hW => ⟨⟨_, (g, a, w), rfl, hV, ar_heap ht hP⟩, hS.F ht⟩) hS.2.2 dX6_broken_24
    · have hV := hV.2 c_11
      refine lv_iload_n hx hb dX6_broken_14 rfl (lv_at hl 3 rfl) ?_
      refine lv_if_lt (tgt := 23) hx hb dX6_broken_15 (by decide) (fun c_15 => ?_) (fun c_15 => ?_)
      · have hV := hV.1 c_15
        refine lv_iconst (v := (-1 : Int32)) hx hb dX6_broken_23 (by decide) ?_
        exact W.iret (v := (-1 : Int32)) hx hb hr (fun t ht hW => ⟨⟨_, (g, a, w), rfl, hV, ar_heap ht hP⟩, hS.F ht⟩) hS.2.2 dX6_broken_24
      · have hV := hV.2 c_15
        refine lv_iload_n hx hb dX6_broken_18 rfl (lv_at hl 3 rfl) ?_
        refine lv_iconst (v := (1 : Int32)) hx hb dX6_broken_19 (by decide) ?_
        refine lv_icmp_le (tgt := 25) hx hb dX6_broken_20 (by decide) (fun c_20 => ?_) (fun c_20 => ?_)
        · have hV := hV.1 c_20
          refine lv_iload_n hx hb dX6_broken_25 rfl (lv_at hl 3 rfl) ?_
          refine lv_if_ne (tgt := 37) hx hb dX6_broken_26 (by decide) (fun c_26 => ?_) (fun c_26 => ?_)
          · have hV := hV.2 c_26
            refine lv_aload_n hx hb dX6_broken_37 rfl (lv_at hl 0 rfl) ?_
            refine lv_iload_n hx hb dX6_broken_38 rfl (lv_at hl 1 rfl) ?_
            refine lv_iload_n hx hb dX6_broken_39 rfl (lv_at hl 2 rfl) ?_
            obtain ⟨h_40, hV⟩ := hV
            refine cw_i (va_runV (As := [.int p0, .int p1]) (rest := []) ⟨hx, hb, hml, hown, hts⟩ (spec_X6_roundOf l D cy ad _ g a w p0 p1 h_40) (cwV 2 hts gX6_broken_X6_roundOf rfl rfl rfl (by decide +kernel) ⟨Nat.le_of_ble_eq_true rfl, Nat.le_of_ble_eq_true rfl⟩) (ar_preV hN hK hP (caD hD) (ci := 5) (q0 := 0) rfl rfl) rfl rfl hl.1 rfl (lv_room (Nat.le_of_ble_eq_true rfl)) dX6_broken_40 ⟨Nat.zero_le _, Nat.zero_le _⟩) hS (caD hD) hA (fun r40 u_40 H locs q_40 hP hS => ?_)
            obtain ⟨g40, a40, w40⟩ := u_40
            have hV := hV r40 g40 a40 w40 q_40
            have hP : va_P D vwCl (caW ad cy g40 a40 w40) H := hP
            exact W.iret (v := r40) hx hb hr (fun t ht hW => ⟨⟨_, (g40, a40, w40), rfl, hV, ar_heap ht hP⟩, hS.F ht⟩) hS.2.2 dX6_broken_43
          · have hV := hV.1 c_26
            refine lv_iload_n hx hb dX6_broken_29 rfl (lv_at hl 1 rfl) ?_
            refine lv_iload_n hx hb dX6_broken_30 rfl (lv_at hl 2 rfl) ?_
            obtain ⟨h_31, hV⟩ := hV
            refine cp_i (va_runS (As := [.int p0, .int p1]) (rest := []) ⟨hx, hb, hml, hown, hts⟩ (spec_X6_aheadOf l p0 p1 h_31) (va_cwS 2 hts gX6_broken_X6_aheadOf rfl rfl rfl (by decide +kernel) ⟨Nat.le_of_ble_eq_true rfl, Nat.le_of_ble_eq_true rfl⟩) cp_pre rfl rfl hl.1 rfl (lv_room (Nat.le_of_ble_eq_true rfl)) dX6_broken_31 ⟨Nat.zero_le _, Nat.zero_le _⟩) (fun r31 q_31 => ?_)
            have hV := hV r31 q_31
            refine lv_goto (tgt := 43) hx hb dX6_broken_34 (by decide) ?_
            exact W.iret (v := r31) hx hb hr (fun t ht hW => ⟨⟨_, (g, a, w), rfl, hV, ar_heap ht hP⟩, hS.F ht⟩) hS.2.2 dX6_broken_43
        · have hV := hV.2 c_20
          refine lv_iconst (v := (-1 : Int32)) hx hb dX6_broken_23 (by decide) ?_
          exact W.iret (v := (-1 : Int32)) hx hb hr (fun t ht hW => ⟨⟨_, (g, a, w), rfl, hV, ar_heap ht hP⟩, hS.F ht⟩) hS.2.2 dX6_broken_24
def post_X6_broken (g : Gs) (a : As) (w : Ws) (p0 p1 p2 r : Int32) (g' : Gs) (a' : As) (w' : Ws) : Prop := BrokenAns p0 p1 p2 r ∧ FS g a w g' a' w'
set_option maxRecDepth 4000 in
theorem spec_X6_broken (l : Launch) (D : va_G) (cy : Nat → ClassId) (ad : Nat → Nat) (sz : Nat) (g : Gs) (a : As) (w : Ws) (p0 : Int32) (p1 : Int32) (p2 : Int32) : Met l yX6_broken wsX6_broken ({ frames := 5, cells := 0, slots := 0, locals := 119 } : Room) (va_Pc [.ref (ad 0), .int p0, .int p1, .int p2] (ArP D cy sz (caW ad cy g a w))) (va_Qi (fun (r : Int32) (u : Gs × As × Ws) => (post_X6_broken g a w p0 p1 p2) r u.1 u.2.1 u.2.2) (fun u t => va_P D vwCl (caW ad cy u.1 u.2.1 u.2.2) t.heap) (va_A (caW ad cy g a w) sz)) 0 0 (va_A (caW ad cy g a w) sz) := by
  apply met_X6_broken
  intro r hr
  unfold post_X6_isBase at hr
  subst hr
  have e0 : (0 : Int32).toInt = 0 := rfl
  have e1 : (1 : Int32).toInt = 1 := rfl
  refine ⟨fun h => ⟨Or.inl ⟨Or.inl (zb_0 h), rfl⟩, FS.rf⟩, fun h r2 hr2 => ?_⟩
  unfold post_X6_isDivisor at hr2
  subst hr2
  refine ⟨fun h2 => ⟨Or.inl ⟨Or.inr (Or.inl (zb_0 h2)), rfl⟩, FS.rf⟩, fun h2 => ⟨fun h3 => ⟨Or.inl ⟨Or.inr (Or.inr (Or.inl (by rw [i_lt, e0] at h3; exact h3))), rfl⟩, FS.rf⟩, fun h3 => ⟨fun h4 => ?_, fun h4 => ⟨Or.inl ⟨Or.inr (Or.inr (Or.inr (by rw [i_le, e1] at h4; omega))), rfl⟩, FS.rf⟩⟩⟩⟩
  have hb : Bs p0 := zb_1 h
  have hdv : Dv p1 := zb_1 h2
  obtain ⟨b1, b2⟩ := id hb
  obtain ⟨d1, d2⟩ := id hdv
  rw [i_lt, e0] at h3
  rw [i_le, e1] at h4
  have hin : Bs p0 ∧ Dv p1 ∧ 0 ≤ p2.toInt ∧ p2.toInt ≤ 1 := ⟨hb, hdv, by omega, h4⟩
  refine ⟨fun q => ⟨⟨by omega, by omega, by omega⟩, fun r3 hr3 => ?_⟩, fun q => ⟨⟨by omega, by omega, by omega⟩, fun r3 g3 a3 w3 hr3 => ?_⟩⟩
  · obtain ⟨t, -, t1, t2⟩ := hr3
    exact ⟨Or.inr ⟨hin, fun _ => ⟨t, t1, t2⟩, fun z => absurd q z⟩, FS.rf⟩
  · obtain ⟨⟨e, e1, -, e2⟩, hFS⟩ := hr3
    exact ⟨Or.inr ⟨hin, fun z => absurd z q, fun _ => ⟨e, e1, e2⟩⟩, hFS⟩
set_option maxHeartbeats 4000000 in
set_option maxRecDepth 100000 in
theorem met_X7_broken (l : Launch) (D : va_G) (cy : Nat → ClassId) (ad : Nat → Nat) (sz : Nat) (g : Gs) (a : As) (p0 : Int32) (p1 : Int32) (p2 : Int32) (post : Int32 → Prop)
  (hV : ∀ r1 : Int32, post_X7_isBase p0 r1 → ((r1 = 0 → post (-1 : Int32)) ∧ (¬ r1 = 0 → ∀ r8 : Int32, post_X7_isBy p1 r8 → ((r8 = 0 → post (-1 : Int32)) ∧ (¬ r8 = 0 → ∀ r18 : Int32, post_X7_in p2.toInt64 (0 : Int64) (1 : Int64) r18 → ((r18 = 0 → post (-1 : Int32)) ∧ (¬ r18 = 0 → ((p2 = 0 → pre_X7_aheadOf p0 p1 ∧ (∀ r32 : Int32, post_X7_aheadOf p0 p1 r32 → post r32)) ∧ (¬ p2 = 0 → pre_X7_roundOf p0 p1 ∧ (∀ r40 : Int32, post_X7_roundOf p0 p1 r40 → post r40)))))))))) :
  Met l yX7_broken wsX7_broken ({ frames := 2, cells := 0, slots := 0, locals := 47 } : Room) (va_Pc [.ref (ad 0), .int p0, .int p1, .int p2] (ArP D cy sz (maW ad cy g a))) (Qpi post) 0 0 noF := by
  refine Met.ofW (cc := cX7_broken) (maxL := 4) (ret := (some .int)) (by decide) rfl ?_
  intro p e s m args below meth c s₁ B hml hv
  obtain ⟨rfl, hsz, hP, hK, hD0, hN⟩ := hv
  have hx := B.exec
  have hb := B.bytes
  have hr := B.returns
  have hts := atoms_spec (ws := wsX7_broken) B.pre
  have hown : s.vm.findClass RX7 = some m.cls := findClass_of_methodNamed B.named
  have hlocks := B.notSynchronized
  subst hsz
  have hP : va_P D vwCl (maW ad cy g a) s.heap := hP
  have hD : va_D (fun _ => True) (maW ad cy g a) := hD0
  have hl := lv_entry ([.ref (ad 0), .int p0, .int p1, .int p2]) (n := 4) (Nat.le_of_ble_eq_true rfl)
  rw [lg_entry_eq]
  generalize (lg_sl ([.ref (ad 0), .int p0, .int p1, .int p2]) ++ List.replicate (4 - (lg_sl ([.ref (ad 0), .int p0, .int p1, .int p2])).length) Slot.unset).toArray = ls at hl ⊢
  have hl : lv_has ls 4 [(0, .ref (ad 0)), (1, .int p0), (2, .int p1), (3, .int p2)] := hl
  refine lv_iload_n hx hb dX7_broken_0 rfl (lv_at hl 1 rfl) ?_
  refine cp_i (va_runS (As := [.int p0]) (rest := []) ⟨hx, hb, hml, hown, hts⟩ (spec_X7_isBase l p0) (va_cwS 1 hts gX7_broken_X7_isBase rfl rfl rfl (by decide +kernel) ⟨Nat.le_of_ble_eq_true rfl, Nat.le_of_ble_eq_true rfl⟩) cp_pre rfl rfl hl.1 rfl (lv_room (Nat.le_of_ble_eq_true rfl)) dX7_broken_1 ⟨Nat.zero_le _, Nat.zero_le _⟩) (fun r1 q_1 => ?_)
  have hV := hV r1 q_1
  refine lv_if_eq (tgt := 24) hx hb dX7_broken_4 (by decide) (fun c_4 => ?_) (fun c_4 => ?_)
  · have hV := hV.1 c_4
    refine lv_iconst (v := (-1 : Int32)) hx hb dX7_broken_24 (by decide) ?_
    exact W.iret (v := (-1 : Int32)) hx hb hr (fun t ht hW => ⟨_, rfl, hV, ht⟩) (fun _ h => by cases h) dX7_broken_25
  · have hV := hV.2 c_4
    refine lv_iload_n hx hb dX7_broken_7 rfl (lv_at hl 2 rfl) ?_
    refine cp_i (va_runS (As := [.int p1]) (rest := []) ⟨hx, hb, hml, hown, hts⟩ (spec_X7_isBy l p1) (va_cwS 1 hts gX7_broken_X7_isBy rfl rfl rfl (by decide +kernel) ⟨Nat.le_of_ble_eq_true rfl, Nat.le_of_ble_eq_true rfl⟩) cp_pre rfl rfl hl.1 rfl (lv_room (Nat.le_of_ble_eq_true rfl)) dX7_broken_8 ⟨Nat.zero_le _, Nat.zero_le _⟩) (fun r8 q_8 => ?_)
    have hV := hV r8 q_8
    refine lv_if_eq (tgt := 24) hx hb dX7_broken_11 (by decide) (fun c_11 => ?_) (fun c_11 => ?_)
    · have hV := hV.1 c_11
      refine lv_iconst (v := (-1 : Int32)) hx hb dX7_broken_24 (by decide) ?_
      exact W.iret (v := (-1 : Int32)) hx hb hr (fun t ht hW => ⟨_, rfl, hV, ht⟩) (fun _ h => by cases h) dX7_broken_25
    · have hV := hV.2 c_11
      refine lv_iload_n hx hb dX7_broken_14 rfl (lv_at hl 3 rfl) ?_
      refine lv_i2l (v := p2.toInt64) hx hb dX7_broken_15 rfl ?_
      refine lv_lconst (v := (0 : Int64)) hx hb dX7_broken_16 (by decide) ?_
      refine lv_lconst (v := (1 : Int64)) hx hb dX7_broken_17 (by decide) ?_
      refine cp_i (va_runS (As := [.long p2.toInt64, .long (0 : Int64), .long (1 : Int64)]) (rest := []) ⟨hx, hb, hml, hown, hts⟩ (spec_X7_in l p2.toInt64 (0 : Int64) (1 : Int64)) (va_cwS 3 hts gX7_broken_X7_in rfl rfl rfl (by decide +kernel) ⟨Nat.le_of_ble_eq_true rfl, Nat.le_of_ble_eq_true rfl⟩) cp_pre rfl rfl hl.1 rfl (lv_room (Nat.le_of_ble_eq_true rfl)) dX7_broken_18 ⟨Nat.zero_le _, Nat.zero_le _⟩) (fun r18 q_18 => ?_)
      have hV := hV r18 q_18
      refine lv_if_ne (tgt := 26) hx hb dX7_broken_21 (by decide) (fun c_21 => ?_) (fun c_21 => ?_)
      · have hV := hV.2 c_21
        refine lv_iload_n hx hb dX7_broken_26 rfl (lv_at hl 3 rfl) ?_
        refine lv_if_ne (tgt := 38) hx hb dX7_broken_27 (by decide) (fun c_27 => ?_) (fun c_27 => ?_)
        · have hV := hV.2 c_27
          refine lv_iload_n hx hb dX7_broken_38 rfl (lv_at hl 1 rfl) ?_
          refine lv_iload_n hx hb dX7_broken_39 rfl (lv_at hl 2 rfl) ?_
          obtain ⟨h_40, hV⟩ := hV
          refine cp_i (va_runS (As := [.int p0, .int p1]) (rest := []) ⟨hx, hb, hml, hown, hts⟩ (spec_X7_roundOf l p0 p1 h_40) (va_cwS 2 hts gX7_broken_X7_roundOf rfl rfl rfl (by decide +kernel) ⟨Nat.le_of_ble_eq_true rfl, Nat.le_of_ble_eq_true rfl⟩) cp_pre rfl rfl hl.1 rfl (lv_room (Nat.le_of_ble_eq_true rfl)) dX7_broken_40 ⟨Nat.zero_le _, Nat.zero_le _⟩) (fun r40 q_40 => ?_)
          have hV := hV r40 q_40
          exact W.iret (v := r40) hx hb hr (fun t ht hW => ⟨_, rfl, hV, ht⟩) (fun _ h => by cases h) dX7_broken_43
        · have hV := hV.1 c_27
          refine lv_iload_n hx hb dX7_broken_30 rfl (lv_at hl 1 rfl) ?_
          refine lv_iload_n hx hb dX7_broken_31 rfl (lv_at hl 2 rfl) ?_
          obtain ⟨h_32, hV⟩ := hV
          refine cp_i (va_runS (As := [.int p0, .int p1]) (rest := []) ⟨hx, hb, hml, hown, hts⟩ (spec_X7_aheadOf l p0 p1 h_32) (va_cwS 2 hts gX7_broken_X7_aheadOf rfl rfl rfl (by decide +kernel) ⟨Nat.le_of_ble_eq_true rfl, Nat.le_of_ble_eq_true rfl⟩) cp_pre rfl rfl hl.1 rfl (lv_room (Nat.le_of_ble_eq_true rfl)) dX7_broken_32 ⟨Nat.zero_le _, Nat.zero_le _⟩) (fun r32 q_32 => ?_)
          have hV := hV r32 q_32
          refine lv_goto (tgt := 43) hx hb dX7_broken_35 (by decide) ?_
          exact W.iret (v := r32) hx hb hr (fun t ht hW => ⟨_, rfl, hV, ht⟩) (fun _ h => by cases h) dX7_broken_43
      · have hV := hV.1 c_21
        refine lv_iconst (v := (-1 : Int32)) hx hb dX7_broken_24 (by decide) ?_
        exact W.iret (v := (-1 : Int32)) hx hb hr (fun t ht hW => ⟨_, rfl, hV, ht⟩) (fun _ h => by cases h) dX7_broken_25
def post_X7_broken (g : Gs) (a : As) (p0 p1 p2 r : Int32) : Prop := BrokenAns p0 p1 p2 r
set_option maxRecDepth 4000 in
theorem spec_X7_broken (l : Launch) (D : va_G) (cy : Nat → ClassId) (ad : Nat → Nat) (sz : Nat) (g : Gs) (a : As) (p0 : Int32) (p1 : Int32) (p2 : Int32) : Met l yX7_broken wsX7_broken ({ frames := 2, cells := 0, slots := 0, locals := 47 } : Room) (va_Pc [.ref (ad 0), .int p0, .int p1, .int p2] (ArP D cy sz (maW ad cy g a))) (Qpi (post_X7_broken g a p0 p1 p2)) 0 0 noF := by
  apply met_X7_broken
  intro r hr
  unfold post_X7_isBase at hr
  subst hr
  have l0 : (0 : Int64).toInt = 0 := rfl
  have l1 : (1 : Int64).toInt = 1 := rfl
  refine ⟨fun h => Or.inl ⟨Or.inl (zb_0 h), rfl⟩, fun h r2 hr2 => ?_⟩
  unfold post_X7_isBy at hr2
  subst hr2
  refine ⟨fun h2 => Or.inl ⟨Or.inr (Or.inl (zb_0 h2)), rfl⟩, fun h2 r3 hr3 => ?_⟩
  unfold post_X7_in at hr3
  rw [il_t, l0, l1] at hr3
  subst hr3
  refine ⟨fun h3 => Or.inl ⟨Or.inr (Or.inr (by have := zb_0 h3; omega)), rfl⟩, fun h3 => ?_⟩
  have h3 := zb_1 h3
  have hb : Bs p0 := zb_1 h
  have hdv : Dv p1 := zb_1 h2
  obtain ⟨b1, b2⟩ := id hb
  obtain ⟨d1, d2⟩ := id hdv
  refine ⟨fun q => ⟨⟨by omega, by omega, by omega⟩, fun r3 hr3 => ?_⟩, fun q => ⟨⟨by omega, by omega, by omega⟩, fun r3 hr3 => ?_⟩⟩
  · obtain ⟨t, -, t1, t2⟩ := hr3
    exact Or.inr ⟨⟨hb, hdv, h3⟩, fun _ => ⟨t, t1, t2⟩, fun z => absurd q z⟩
  · obtain ⟨e, e1, -, e2⟩ := hr3
    exact Or.inr ⟨⟨hb, hdv, h3⟩, fun z => absurd z q, fun _ => ⟨e, e1, e2⟩⟩
def pre_X6_hasRound (g : Gs) (a : As) (w : Ws) (p0 p1 p2 : Int32) : Prop := 2 ≤ p0.toInt ∧ 2 ≤ p1.toInt ∧ p1.toInt ≤ 60000 ∧ 0 ≤ p2.toInt ∧ (1 ≤ tn p2 → Fac 1 (tn p2) g a)
set_option maxHeartbeats 4000000 in
set_option maxRecDepth 100000 in
theorem met_X6_hasRound (l : Launch) (D : va_G) (cy : Nat → ClassId) (ad : Nat → Nat) (sz : Nat) (g : Gs) (a : As) (w : Ws) (p0 : Int32) (p1 : Int32) (p2 : Int32) (post : Int32 → Prop)
  (hV : pre_X6_partBeside p0 p1 ∧ (∀ r2 : Int32, post_X6_partBeside p0 p1 r2 → ((r2 = (1 : Int32) → ((r2 = (1 : Int32) → ((p2 = 0 → post (1 : Int32)) ∧ (¬ p2 = 0 → post (0 : Int32)))) ∧ (¬ r2 = (1 : Int32) → post (0 : Int32)))) ∧ (¬ r2 = (1 : Int32) → ((p2 = 0 → ((r2 = (1 : Int32) → ((p2 = 0 → post (1 : Int32)) ∧ (¬ p2 = 0 → post (0 : Int32)))) ∧ (¬ r2 = (1 : Int32) → post (0 : Int32)))) ∧ (¬ p2 = 0 → pre_X6_hasOrder g a w p0 p2 r2 ∧ (∀ r38 : Int32, post_X6_hasOrder g a w p0 p2 r2 r38 → (r38 = 0 ∨ r38 = 1) ∧ post r38))))))) :
  Met l yX6_hasRound wsX6_hasRound ({ frames := 2, cells := 0, slots := 0, locals := 56 } : Room) (va_Pc [.ref (ad 0), .int p0, .int p1, .int p2] (ArP D cy sz (caW ad cy g a w))) (Qpi post) 0 0 noF := by
  refine Met.ofW (cc := cX6_hasRound) (maxL := 5) (ret := (some .boolean)) (by decide) rfl ?_
  intro p e s m args below meth c s₁ B hml hv
  obtain ⟨rfl, hsz, hP, hK, hD0, hN⟩ := hv
  have hx := B.exec
  have hb := B.bytes
  have hr := B.returns
  have hts := atoms_spec (ws := wsX6_hasRound) B.pre
  have hown : s.vm.findClass RX6 = some m.cls := findClass_of_methodNamed B.named
  have hlocks := B.notSynchronized
  subst hsz
  have hP : va_P D vwCl (caW ad cy g a w) s.heap := hP
  have hD : va_D (fun _ => True) (caW ad cy g a w) := hD0
  have hl := lv_entry ([.ref (ad 0), .int p0, .int p1, .int p2]) (n := 5) (Nat.le_of_ble_eq_true rfl)
  rw [lg_entry_eq]
  generalize (lg_sl ([.ref (ad 0), .int p0, .int p1, .int p2]) ++ List.replicate (5 - (lg_sl ([.ref (ad 0), .int p0, .int p1, .int p2])).length) Slot.unset).toArray = ls at hl ⊢
  have hl : lv_has ls 5 [(0, .ref (ad 0)), (1, .int p0), (2, .int p1), (3, .int p2)] := hl
  refine lv_iload_n hx hb dX6_hasRound_0 rfl (lv_at hl 1 rfl) ?_
  refine lv_iload_n hx hb dX6_hasRound_1 rfl (lv_at hl 2 rfl) ?_
  obtain ⟨h_2, hV⟩ := hV
  refine cp_i (va_runS (As := [.int p0, .int p1]) (rest := []) ⟨hx, hb, hml, hown, hts⟩ (spec_X6_partBeside l p0 p1 h_2) (va_cwS 2 hts gX6_hasRound_X6_partBeside rfl rfl rfl (by decide +kernel) ⟨Nat.le_of_ble_eq_true rfl, Nat.le_of_ble_eq_true rfl⟩) cp_pre rfl rfl hl.1 rfl (lv_room (Nat.le_of_ble_eq_true rfl)) dX6_hasRound_2 ⟨Nat.zero_le _, Nat.zero_le _⟩) (fun r2 q_2 => ?_)
  have hV := hV r2 q_2
  refine lv_istore (lv' := [(4, .int r2), (0, .ref (ad 0)), (1, .int p0), (2, .int p1), (3, .int p2)]) hx hb dX6_hasRound_5 hl (by decide) rfl (fun ls hl => ?_)
  refine lv_iload hx hb dX6_hasRound_7 (lv_at hl 0 rfl) ?_
  refine lv_iconst (v := (1 : Int32)) hx hb dX6_hasRound_9 (by decide) ?_
  refine lv_icmp_eq (tgt := 17) hx hb dX6_hasRound_10 (by decide) (fun c_10 => ?_) (fun c_10 => ?_)
  · have hV := hV.1 c_10
    refine lv_iload hx hb dX6_hasRound_17 (lv_at hl 0 rfl) ?_
    refine lv_iconst (v := (1 : Int32)) hx hb dX6_hasRound_19 (by decide) ?_
    refine lv_icmp_ne (tgt := 31) hx hb dX6_hasRound_20 (by decide) (fun c_20 => ?_) (fun c_20 => ?_)
    · have hV := hV.2 c_20
      refine lv_iconst (v := (0 : Int32)) hx hb dX6_hasRound_31 (by decide) ?_
      exact W.zret (v := (0 : Int32)) hx hb hr rfl (fun t ht hW => ⟨_, rfl, hV, ht⟩) (fun _ h => by cases h) dX6_hasRound_32
    · have hV := hV.1 c_20
      refine lv_iload_n hx hb dX6_hasRound_23 rfl (lv_at hl 4 rfl) ?_
      refine lv_if_ne (tgt := 31) hx hb dX6_hasRound_24 (by decide) (fun c_24 => ?_) (fun c_24 => ?_)
      · have hV := hV.2 c_24
        refine lv_iconst (v := (0 : Int32)) hx hb dX6_hasRound_31 (by decide) ?_
        exact W.zret (v := (0 : Int32)) hx hb hr rfl (fun t ht hW => ⟨_, rfl, hV, ht⟩) (fun _ h => by cases h) dX6_hasRound_32
      · have hV := hV.1 c_24
        refine lv_iconst (v := (1 : Int32)) hx hb dX6_hasRound_27 (by decide) ?_
        refine lv_goto (tgt := 32) hx hb dX6_hasRound_28 (by decide) ?_
        exact W.zret (v := (1 : Int32)) hx hb hr rfl (fun t ht hW => ⟨_, rfl, hV, ht⟩) (fun _ h => by cases h) dX6_hasRound_32
  · have hV := hV.2 c_10
    refine lv_iload_n hx hb dX6_hasRound_13 rfl (lv_at hl 4 rfl) ?_
    refine lv_if_ne (tgt := 33) hx hb dX6_hasRound_14 (by decide) (fun c_14 => ?_) (fun c_14 => ?_)
    · have hV := hV.2 c_14
      refine lv_aload_n hx hb dX6_hasRound_33 rfl (lv_at hl 1 rfl) ?_
      refine lv_iload_n hx hb dX6_hasRound_34 rfl (lv_at hl 2 rfl) ?_
      refine lv_iload_n hx hb dX6_hasRound_35 rfl (lv_at hl 4 rfl) ?_
      refine lv_iload hx hb dX6_hasRound_36 (lv_at hl 0 rfl) ?_
      obtain ⟨h_38, hV⟩ := hV
      refine cp_i (va_runV (As := [.int p0, .int p2, .int r2]) (rest := []) ⟨hx, hb, hml, hown, hts⟩ (spec_X6_hasOrder l D cy ad s.heap.size g a w p0 p2 r2 h_38) (cwV 3 hts gX6_hasRound_X6_hasOrder rfl rfl rfl (by decide +kernel) ⟨Nat.le_of_ble_eq_true rfl, Nat.le_of_ble_eq_true rfl⟩) (ar_preV hN hK hP hD (ci := 5) (q0 := 0) rfl rfl) rfl rfl hl.1 rfl (lv_room (Nat.le_of_ble_eq_true rfl)) dX6_hasRound_38 ⟨Nat.zero_le _, Nat.zero_le _⟩) (fun r38 q_38 => ?_)
      have hV := hV r38 q_38
      obtain ⟨h_41, hV⟩ := hV
      exact W.zret (v := r38) hx hb hr (zr_nar h_41) (fun t ht hW => ⟨_, rfl, hV, ht⟩) (fun _ h => by cases h) dX6_hasRound_41
    · have hV := hV.1 c_14
      refine lv_iload hx hb dX6_hasRound_17 (lv_at hl 0 rfl) ?_
      refine lv_iconst (v := (1 : Int32)) hx hb dX6_hasRound_19 (by decide) ?_
      refine lv_icmp_ne (tgt := 31) hx hb dX6_hasRound_20 (by decide) (fun c_20 => ?_) (fun c_20 => ?_)
      · have hV := hV.2 c_20
        refine lv_iconst (v := (0 : Int32)) hx hb dX6_hasRound_31 (by decide) ?_
        exact W.zret (v := (0 : Int32)) hx hb hr rfl (fun t ht hW => ⟨_, rfl, hV, ht⟩) (fun _ h => by cases h) dX6_hasRound_32
      · have hV := hV.1 c_20
        refine lv_iload_n hx hb dX6_hasRound_23 rfl (lv_at hl 4 rfl) ?_
        refine lv_if_ne (tgt := 31) hx hb dX6_hasRound_24 (by decide) (fun c_24 => ?_) (fun c_24 => ?_)
        · have hV := hV.2 c_24
          refine lv_iconst (v := (0 : Int32)) hx hb dX6_hasRound_31 (by decide) ?_
          exact W.zret (v := (0 : Int32)) hx hb hr rfl (fun t ht hW => ⟨_, rfl, hV, ht⟩) (fun _ h => by cases h) dX6_hasRound_32
        · have hV := hV.1 c_24
          refine lv_iconst (v := (1 : Int32)) hx hb dX6_hasRound_27 (by decide) ?_
          refine lv_goto (tgt := 32) hx hb dX6_hasRound_28 (by decide) ?_
          exact W.zret (v := (1 : Int32)) hx hb hr rfl (fun t ht hW => ⟨_, rfl, hV, ht⟩) (fun _ h => by cases h) dX6_hasRound_32
def post_X6_hasRound (g : Gs) (a : As) (w : Ws) (p0 p1 p2 r : Int32) : Prop := r = zb (Round (tn p0) (tn p1) (tn p2))
set_option maxRecDepth 4000 in
theorem spec_X6_hasRound (l : Launch) (D : va_G) (cy : Nat → ClassId) (ad : Nat → Nat) (sz : Nat) (g : Gs) (a : As) (w : Ws) (p0 : Int32) (p1 : Int32) (p2 : Int32) (hpre : pre_X6_hasRound g a w p0 p1 p2) : Met l yX6_hasRound wsX6_hasRound ({ frames := 2, cells := 0, slots := 0, locals := 56 } : Room) (va_Pc [.ref (ad 0), .int p0, .int p1, .int p2] (ArP D cy sz (caW ad cy g a w))) (Qpi (post_X6_hasRound g a w p0 p1 p2)) 0 0 noF := by
  apply met_X6_hasRound
  obtain ⟨h0, h1, h2, h3, hF⟩ := id hpre
  obtain ⟨b, hb, rfl, hb2⟩ := of_i (x := p0) (by omega)
  obtain ⟨n, hn, rfl, hn2⟩ := of_i (x := p1) (by omega)
  obtain ⟨l, hl, rfl, hl2⟩ := of_i (x := p2) (by omega)
  have good : ∀ r, r = zb (Round b n l) → post_X6_hasRound g a w (nI b) (nI n) (nI l) r := fun r h => by unfold post_X6_hasRound; rw [tn_nI hb, tn_nI hn, tn_nI hl]; exact h
  refine ⟨⟨h0, by omega, by omega⟩, fun r hr => ?_⟩
  obtain ⟨t, ht, hB, rfl⟩ := hr
  rw [tn_nI hb, tn_nI hn] at hB ⊢
  rw [tn_nI hl] at hF
  have hp1 := pb_pos (b := b) (n := n) (by omega) t
  have hp2 := pb_le (b := b) (n := n) t
  refine pk_eq (pb b n t) 1 (fun q => ?_) (fun q => pk_eq l 0 (fun z => ?_) (fun z => ?_))
  · refine ⟨fun _ => pk_eq l 0 (fun z => good _ (zb_t ⟨t, hB, Or.inl ⟨q, z⟩⟩).symm) (fun z => good _ (zb_f (fun y => ?_)).symm), fun y => absurd (by rw [q]; rfl) y⟩
    exact z (y.one ⟨t, hB, Or.inl ⟨q, rfl⟩⟩)
  · refine ⟨fun y => absurd ((nI_eq (a := pb b n t) (b := 1) (by omega) (by omega)).mp y) q, fun _ => good _ (zb_f (fun y => ?_)).symm⟩
    obtain ⟨u, u1, u2⟩ := y
    have := beside_one u1 hB
    subst this
    rcases u2 with ⟨q1, -⟩ | ⟨-, q2, -⟩
    · exact q q1
    · have := q2.1; omega
  · refine ⟨⟨by omega, by omega, by rw [nI_toInt (by omega)]; omega, by rw [tn_nI hl]; exact hF (by omega)⟩, fun r2 hr2 => ?_⟩
    unfold post_X6_hasOrder at hr2
    rw [tn_nI hb, tn_nI hl, tn_nI (by omega)] at hr2
    subst hr2
    refine ⟨zb_01 _, good _ (zb_c ⟨fun y => ?_, fun y => ?_⟩)⟩
    · obtain ⟨e, e1, e2⟩ := ord_ex (n := pb b n t) (a := b) (by omega) hB.1
      exact ⟨t, hB, Or.inr ⟨q, y, by rw [ord_one y e1]; exact e2⟩⟩
    · obtain ⟨u, u1, u2⟩ := y
      have := beside_one u1 hB
      subst this
      rcases u2 with ⟨q1, -⟩ | ⟨-, q2, -⟩
      · exact absurd q1 q
      · exact q2
/-- SO LONG -/
noncomputable def SoB (b l n : Nat) : Bool := cb (2 ≤ n ∧ Round b n l)
def SoAns (b l m i r : Int32) : Prop := ((¬ Bs b ∨ l.toInt < 0 ∨ 3000 < l.toInt ∨ m.toInt < 2 ∨ 3000 < m.toInt ∨ i.toInt < -1) ∧ r = -1) ∨ ((Bs b ∧ 0 ≤ l.toInt ∧ l.toInt ≤ 3000 ∧ 2 ≤ m.toInt ∧ m.toInt ≤ 3000 ∧ -1 ≤ i.toInt) ∧ Ith (SoB (tn b) (tn l)) (tn m + 1) i r)
theorem SoAns.one {b l m i r r' : Int32} (h : SoAns b l m i r) (h' : SoAns b l m i r') : r = r' := by
  rcases h with ⟨h1, h2⟩ | ⟨h1, h2⟩ <;> rcases h' with ⟨k1, k2⟩ | ⟨k1, k2⟩
  · rw [h2, k2]
  · rcases h1 with q | q
    · exact absurd k1.1 q
    · have := k1.2; omega
  · rcases k1 with q | q
    · exact absurd h1.1 q
    · have := h1.2; omega
  · exact h2.one k2
set_option maxHeartbeats 4000000 in
set_option maxRecDepth 100000 in
theorem met_X6_soLong (l : Launch) (D : va_G) (cy : Nat → ClassId) (ad : Nat → Nat) (sz : Nat) (g : Gs) (a : As) (w : Ws) (p0 : Int32) (p1 : Int32) (p2 : Int32) (p3 : Int32) (post : Int32 → Gs → As → Ws → Prop)
  (hV : ∀ (J52 : Int32 → Int32 → Gs → As → Ws → Prop),
    (∀ (x5 : Int32) (x6 : Int32) (g_ : Gs) (a_ : As) (w_ : Ws), ((p2 < x6 → ((p3 = (-1 : Int32) → post x5 g_ a_ w_) ∧ (¬ p3 = (-1 : Int32) → post (-4 : Int32) g_ a_ w_))) ∧ (¬ p2 < x6 → pre_X6_hasRound g_ a_ w_ p0 x6 p1 ∧ (∀ r63 : Int32, post_X6_hasRound g_ a_ w_ p0 x6 p1 r63 → ((r63 = 0 → J52 x5 (x6 + 1) g_ a_ w_) ∧ (¬ r63 = 0 → ((x5 = p3 → post x6 g_ a_ w_) ∧ (¬ x5 = p3 → J52 (x5 + 1) (x6 + 1) g_ a_ w_))))))) → J52 x5 x6 g_ a_ w_) →
    ∀ r1 : Int32, post_X6_isBase p0 r1 → ((r1 = 0 → post (-1 : Int32) g a w) ∧ (¬ r1 = 0 → ((p1 < 0 → post (-1 : Int32) g a w) ∧ (¬ p1 < 0 → (((3000 : Int32) < p1 → post (-1 : Int32) g a w) ∧ (¬ (3000 : Int32) < p1 → ((p2 < (2 : Int32) → post (-1 : Int32) g a w) ∧ (¬ p2 < (2 : Int32) → (((3000 : Int32) < p2 → post (-1 : Int32) g a w) ∧ (¬ (3000 : Int32) < p2 → (((-1 : Int32) ≤ p3 → pre_X0_split 1 g a w p1 ∧ (∀ (g43 : Gs) (a43 : As) (w43 : Ws), post_X0_split 1 g a w p1 g43 a43 w43 → J52 (0 : Int32) (2 : Int32) g43 a43 w43)) ∧ (¬ (-1 : Int32) ≤ p3 → post (-1 : Int32) g a w))))))))))))) :
  Met l yX6_soLong wsX6_soLong ({ frames := 3, cells := 0, slots := 0, locals := 80 } : Room) (va_Pc [.ref (ad 0), .int p0, .int p1, .int p2, .int p3] (ArP D cy sz (caW ad cy g a w))) (va_Qi (fun (r : Int32) (u : Gs × As × Ws) => post r u.1 u.2.1 u.2.2) (fun u t => va_P D vwCl (caW ad cy u.1 u.2.1 u.2.2) t.heap) (va_A (caW ad cy g a w) sz)) 0 0 (va_A (caW ad cy g a w) sz) := by
  refine Met.ofW (cc := cX6_soLong) (maxL := 7) (ret := (some .int)) (by decide) rfl ?_
  intro p e s m args below meth c s₁ B hml hv
  obtain ⟨rfl, hsz, hP, hK, hD0, hN⟩ := hv
  have hx := B.exec
  have hb := B.bytes
  have hr := B.returns
  have hts := atoms_spec (ws := wsX6_soLong) B.pre
  have hown : s.vm.findClass RX6 = some m.cls := findClass_of_methodNamed B.named
  have hlocks := B.notSynchronized
  subst hsz
  have hD := hD0.self (sz := s.heap.size)
  have hP : va_P D vwCl (caW ad cy g a w) s.heap := hP
  have hD : va_D (va_A (caW ad cy g a w) s.heap.size) (caW ad cy g a w) := hD
  have hS : va_S (va_A (caW ad cy g a w) s.heap.size) s.heap s.heap [] := va_S.rf
  have hA : ∀ q : Nat, s.heap.size ≤ q → va_A (caW ad cy g a w) s.heap.size q := fun q h => Or.inr h
  obtain ⟨J52, iJ52, oJ52⟩ : ∃ J : Int32 → Int32 → Gs → As → Ws → Prop, (∀ (x5 : Int32) (x6 : Int32) (g_ : Gs) (a_ : As) (w_ : Ws), (∀ (H : Heap) (locs : List Loc), va_P D vwCl (caW ad cy g_ a_ w_) H → va_S (va_A (caW ad cy g a w) s.heap.size) s.heap H locs → ∀ ls : Array Slot, lv_has ls 7 [(0, .ref (ad 0)), (1, .int p0), (2, .int p1), (3, .int p2), (4, .int p3), (5, .int x5), (6, .int x6)] → W p l e (headSpec wsX6_soLong ({ frames := 3, cells := 0, slots := 0, locals := 80 } : Room)).room s m [.ref (ad 0), .int p0, .int p1, .int p2, .int p3].toArray below meth c H locs 0 0 (MQ below (va_Qi (fun (r : Int32) (u : Gs × As × Ws) => post r u.1 u.2.1 u.2.2) (fun u t => va_P D vwCl (caW ad cy u.1 u.2.1 u.2.2) t.heap) (va_A (caW ad cy g a w) s.heap.size)) [.ref (ad 0), .int p0, .int p1, .int p2, .int p3].toArray s 0 0 (va_A (caW ad cy g a w) s.heap.size)) (F0 m 52 ls [])) → J x5 x6 g_ a_ w_) ∧ (∀ (x5 : Int32) (x6 : Int32) (g_ : Gs) (a_ : As) (w_ : Ws), J x5 x6 g_ a_ w_ → (∀ (H : Heap) (locs : List Loc), va_P D vwCl (caW ad cy g_ a_ w_) H → va_S (va_A (caW ad cy g a w) s.heap.size) s.heap H locs → ∀ ls : Array Slot, lv_has ls 7 [(0, .ref (ad 0)), (1, .int p0), (2, .int p1), (3, .int p2), (4, .int p3), (5, .int x5), (6, .int x6)] → W p l e (headSpec wsX6_soLong ({ frames := 3, cells := 0, slots := 0, locals := 80 } : Room)).room s m [.ref (ad 0), .int p0, .int p1, .int p2, .int p3].toArray below meth c H locs 0 0 (MQ below (va_Qi (fun (r : Int32) (u : Gs × As × Ws) => post r u.1 u.2.1 u.2.2) (fun u t => va_P D vwCl (caW ad cy u.1 u.2.1 u.2.2) t.heap) (va_A (caW ad cy g a w) s.heap.size)) [.ref (ad 0), .int p0, .int p1, .int p2, .int p3].toArray s 0 0 (va_A (caW ad cy g a w) s.heap.size)) (F0 m 52 ls []))) := ⟨fun (x5 : Int32) (x6 : Int32) (g_ : Gs) (a_ : As) (w_ : Ws) => (∀ (H : Heap) (locs : List Loc), va_P D vwCl (caW ad cy g_ a_ w_) H → va_S (va_A (caW ad cy g a w) s.heap.size) s.heap H locs → ∀ ls : Array Slot, lv_has ls 7 [(0, .ref (ad 0)), (1, .int p0), (2, .int p1), (3, .int p2), (4, .int p3), (5, .int x5), (6, .int x6)] → W p l e (headSpec wsX6_soLong ({ frames := 3, cells := 0, slots := 0, locals := 80 } : Room)).room s m [.ref (ad 0), .int p0, .int p1, .int p2, .int p3].toArray below meth c H locs 0 0 (MQ below (va_Qi (fun (r : Int32) (u : Gs × As × Ws) => post r u.1 u.2.1 u.2.2) (fun u t => va_P D vwCl (caW ad cy u.1 u.2.1 u.2.2) t.heap) (va_A (caW ad cy g a w) s.heap.size)) [.ref (ad 0), .int p0, .int p1, .int p2, .int p3].toArray s 0 0 (va_A (caW ad cy g a w) s.heap.size)) (F0 m 52 ls [])), fun _ _ _ _ _ h => h, fun _ _ _ _ _ h => h⟩
  have hV := hV J52
  replace hV := hV (by
    intro x5 x6 g_ a_ w_ hV
    refine iJ52 x5 x6 g_ a_ w_ ?_
    intro H locs hP hS ls hl
    refine lv_iload hx hb dX6_soLong_52 (lv_at hl 6 rfl) ?_
    refine lv_iload_n hx hb dX6_soLong_54 rfl (lv_at hl 3 rfl) ?_
    refine lv_icmp_gt (tgt := 88) hx hb dX6_soLong_55 (by decide) (fun c_55 => ?_) (fun c_55 => ?_)
    · have hV := hV.1 c_55
      refine lv_iload hx hb dX6_soLong_88 (lv_at hl 4 rfl) ?_
      refine lv_iconst (v := (-1 : Int32)) hx hb dX6_soLong_90 (by decide) ?_
      refine lv_icmp_ne (tgt := 99) hx hb dX6_soLong_91 (by decide) (fun c_91 => ?_) (fun c_91 => ?_)
      · have hV := hV.2 c_91
        refine lv_bipush (v := (-4 : Int32)) hx hb dX6_soLong_99 (by decide) ?_
        exact W.iret (v := (-4 : Int32)) hx hb hr (fun t ht hW => ⟨⟨_, (g_, a_, w_), rfl, hV, ar_heap ht hP⟩, hS.F ht⟩) hS.2.2 dX6_soLong_101
      · have hV := hV.1 c_91
        refine lv_iload hx hb dX6_soLong_94 (lv_at hl 5 rfl) ?_
        refine lv_goto (tgt := 101) hx hb dX6_soLong_96 (by decide) ?_
        exact W.iret (v := x5) hx hb hr (fun t ht hW => ⟨⟨_, (g_, a_, w_), rfl, hV, ar_heap ht hP⟩, hS.F ht⟩) hS.2.2 dX6_soLong_101
    · have hV := hV.2 c_55
      refine lv_aload_n hx hb dX6_soLong_58 rfl (lv_at hl 0 rfl) ?_
      refine lv_iload_n hx hb dX6_soLong_59 rfl (lv_at hl 1 rfl) ?_
      refine lv_iload hx hb dX6_soLong_60 (lv_at hl 6 rfl) ?_
      refine lv_iload_n hx hb dX6_soLong_62 rfl (lv_at hl 2 rfl) ?_
      obtain ⟨h_63, hV⟩ := hV
      refine cp_i (va_runV (As := [.int p0, .int x6, .int p1]) (rest := []) ⟨hx, hb, hml, hown, hts⟩ (spec_X6_hasRound l D cy ad _ g_ a_ w_ p0 x6 p1 h_63) (cwV 3 hts gX6_soLong_X6_hasRound rfl rfl rfl (by decide +kernel) ⟨Nat.le_of_ble_eq_true rfl, Nat.le_of_ble_eq_true rfl⟩) (ar_preV hN hK hP (caD hD) (ci := 5) (q0 := 0) rfl rfl) rfl rfl hl.1 rfl (lv_room (Nat.le_of_ble_eq_true rfl)) dX6_soLong_63 ⟨Nat.zero_le _, Nat.zero_le _⟩) (fun r63 q_63 => ?_)
      have hV := hV r63 q_63
      refine lv_if_eq (tgt := 82) hx hb dX6_soLong_66 (by decide) (fun c_66 => ?_) (fun c_66 => ?_)
      · have hV := hV.1 c_66
        refine lv_iinc (v := x6 + 1) (lv' := [(6, .int (x6 + 1)), (0, .ref (ad 0)), (1, .int p0), (2, .int p1), (3, .int p2), (4, .int p3), (5, .int x5)]) hx hb dX6_soLong_82 hl (k := 6) rfl rfl (by decide) rfl (fun ls hl => ?_)
        refine lv_goto (tgt := 52) hx hb dX6_soLong_85 (by decide) ?_
        exact oJ52 _ _ _ _ _ hV _ _ hP hS _ (lv_sub hl [1, 2, 3, 4, 5, 6, 0] rfl)
      · have hV := hV.2 c_66
        refine lv_iload hx hb dX6_soLong_69 (lv_at hl 5 rfl) ?_
        refine lv_iload hx hb dX6_soLong_71 (lv_at hl 4 rfl) ?_
        refine lv_icmp_ne (tgt := 79) hx hb dX6_soLong_73 (by decide) (fun c_73 => ?_) (fun c_73 => ?_)
        · have hV := hV.2 c_73
          refine lv_iinc (v := x5 + 1) (lv' := [(5, .int (x5 + 1)), (0, .ref (ad 0)), (1, .int p0), (2, .int p1), (3, .int p2), (4, .int p3), (6, .int x6)]) hx hb dX6_soLong_79 hl (k := 5) rfl rfl (by decide) rfl (fun ls hl => ?_)
          refine lv_iinc (v := x6 + 1) (lv' := [(6, .int (x6 + 1)), (5, .int (x5 + 1)), (0, .ref (ad 0)), (1, .int p0), (2, .int p1), (3, .int p2), (4, .int p3)]) hx hb dX6_soLong_82 hl (k := 6) rfl rfl (by decide) rfl (fun ls hl => ?_)
          refine lv_goto (tgt := 52) hx hb dX6_soLong_85 (by decide) ?_
          exact oJ52 _ _ _ _ _ hV _ _ hP hS _ (lv_sub hl [2, 3, 4, 5, 6, 1, 0] rfl)
        · have hV := hV.1 c_73
          refine lv_iload hx hb dX6_soLong_76 (lv_at hl 6 rfl) ?_
          exact W.iret (v := x6) hx hb hr (fun t ht hW => ⟨⟨_, (g_, a_, w_), rfl, hV, ar_heap ht hP⟩, hS.F ht⟩) hS.2.2 dX6_soLong_78)
  have hl := lv_entry ([.ref (ad 0), .int p0, .int p1, .int p2, .int p3]) (n := 7) (Nat.le_of_ble_eq_true rfl)
  rw [lg_entry_eq]
  generalize (lg_sl ([.ref (ad 0), .int p0, .int p1, .int p2, .int p3]) ++ List.replicate (7 - (lg_sl ([.ref (ad 0), .int p0, .int p1, .int p2, .int p3])).length) Slot.unset).toArray = ls at hl ⊢
  have hl : lv_has ls 7 [(0, .ref (ad 0)), (1, .int p0), (2, .int p1), (3, .int p2), (4, .int p3)] := hl
  refine lv_iload_n hx hb dX6_soLong_0 rfl (lv_at hl 1 rfl) ?_
  refine cp_i (va_runS (As := [.int p0]) (rest := []) ⟨hx, hb, hml, hown, hts⟩ (spec_X6_isBase l p0) (va_cwS 1 hts gX6_soLong_X6_isBase rfl rfl rfl (by decide +kernel) ⟨Nat.le_of_ble_eq_true rfl, Nat.le_of_ble_eq_true rfl⟩) cp_pre rfl rfl hl.1 rfl (lv_room (Nat.le_of_ble_eq_true rfl)) dX6_soLong_1 ⟨Nat.zero_le _, Nat.zero_le _⟩) (fun r1 q_1 => ?_)
  have hV := hV r1 q_1
  refine lv_if_eq (tgt := 36) hx hb dX6_soLong_4 (by decide) (fun c_4 => ?_) (fun c_4 => ?_)
  · have hV := hV.1 c_4
    refine lv_iconst (v := (-1 : Int32)) hx hb dX6_soLong_36 (by decide) ?_
    exact W.iret (v := (-1 : Int32)) hx hb hr (fun t ht hW => ⟨⟨_, (g, a, w), rfl, hV, ar_heap ht hP⟩, hS.F ht⟩) hS.2.2 dX6_soLong_37
  · have hV := hV.2 c_4
    refine lv_iload_n hx hb dX6_soLong_7 rfl (lv_at hl 2 rfl) ?_
    refine lv_if_lt (tgt := 36) hx hb dX6_soLong_8 (by decide) (fun c_8 => ?_) (fun c_8 => ?_)
    · have hV := hV.1 c_8
      refine lv_iconst (v := (-1 : Int32)) hx hb dX6_soLong_36 (by decide) ?_
      exact W.iret (v := (-1 : Int32)) hx hb hr (fun t ht hW => ⟨⟨_, (g, a, w), rfl, hV, ar_heap ht hP⟩, hS.F ht⟩) hS.2.2 dX6_soLong_37
    · have hV := hV.2 c_8
      refine lv_iload_n hx hb dX6_soLong_11 rfl (lv_at hl 2 rfl) ?_
      refine lv_sipush (v := (3000 : Int32)) hx hb dX6_soLong_12 (by decide) ?_
      refine lv_icmp_gt (tgt := 36) hx hb dX6_soLong_15 (by decide) (fun c_15 => ?_) (fun c_15 => ?_)
      · have hV := hV.1 c_15
        refine lv_iconst (v := (-1 : Int32)) hx hb dX6_soLong_36 (by decide) ?_
        exact W.iret (v := (-1 : Int32)) hx hb hr (fun t ht hW => ⟨⟨_, (g, a, w), rfl, hV, ar_heap ht hP⟩, hS.F ht⟩) hS.2.2 dX6_soLong_37
      · have hV := hV.2 c_15
        refine lv_iload_n hx hb dX6_soLong_18 rfl (lv_at hl 3 rfl) ?_
        refine lv_iconst (v := (2 : Int32)) hx hb dX6_soLong_19 (by decide) ?_
        refine lv_icmp_lt (tgt := 36) hx hb dX6_soLong_20 (by decide) (fun c_20 => ?_) (fun c_20 => ?_)
        · have hV := hV.1 c_20
          refine lv_iconst (v := (-1 : Int32)) hx hb dX6_soLong_36 (by decide) ?_
          exact W.iret (v := (-1 : Int32)) hx hb hr (fun t ht hW => ⟨⟨_, (g, a, w), rfl, hV, ar_heap ht hP⟩, hS.F ht⟩) hS.2.2 dX6_soLong_37
        · have hV := hV.2 c_20
          refine lv_iload_n hx hb dX6_soLong_23 rfl (lv_at hl 3 rfl) ?_
          refine lv_sipush (v := (3000 : Int32)) hx hb dX6_soLong_24 (by decide) ?_
          refine lv_icmp_gt (tgt := 36) hx hb dX6_soLong_27 (by decide) (fun c_27 => ?_) (fun c_27 => ?_)
          · have hV := hV.1 c_27
            refine lv_iconst (v := (-1 : Int32)) hx hb dX6_soLong_36 (by decide) ?_
            exact W.iret (v := (-1 : Int32)) hx hb hr (fun t ht hW => ⟨⟨_, (g, a, w), rfl, hV, ar_heap ht hP⟩, hS.F ht⟩) hS.2.2 dX6_soLong_37
          · have hV := hV.2 c_27
            refine lv_iload hx hb dX6_soLong_30 (lv_at hl 4 rfl) ?_
            refine lv_iconst (v := (-1 : Int32)) hx hb dX6_soLong_32 (by decide) ?_
            refine lv_icmp_ge (tgt := 38) hx hb dX6_soLong_33 (by decide) (fun c_33 => ?_) (fun c_33 => ?_)
            · have hV := hV.1 c_33
              refine lv_aload_n hx hb dX6_soLong_38 rfl (lv_at hl 0 rfl) ?_
              refine va_get (D := D) (ci := 5) (v := .ref (ad 4)) (C := RX6) (T := TX6) (N := 10) hx hb hts (by decide +kernel) hown hK hP 0 rfl rfl 1 (by decide) (hts (.fieldLink RX6 16 "PowerRests" "ofOrder" "LPowerRests$Factors;") (by decide +kernel)) (fun _ h9 => h9) rfl dX6_soLong_39 ?_
              refine lv_iload_n hx hb dX6_soLong_42 rfl (lv_at hl 2 rfl) ?_
              obtain ⟨h_43, hV⟩ := hV
              refine cw_v (va_runV (As := [.int p1]) (rest := []) ⟨hx, hb, hml, hown, hts⟩ (spec_X0_split l 1 (by decide) D cy ad _ g a w p1 h_43) (cwV 1 hts gX6_soLong_X0_split rfl rfl rfl (by decide +kernel) ⟨Nat.le_of_ble_eq_true rfl, Nat.le_of_ble_eq_true rfl⟩) (ar_preV hN hK hP (caD hD) (ci := 0) (q0 := 4) rfl rfl) rfl rfl hl.1 rfl (lv_room (Nat.le_of_ble_eq_true rfl)) dX6_soLong_43 ⟨Nat.zero_le _, Nat.zero_le _⟩) hS (caD hD) hA (fun u_43 H locs q_43 hP hS => ?_)
              obtain ⟨g43, a43, w43⟩ := u_43
              have hV := hV g43 a43 w43 q_43
              have hP : va_P D vwCl (caW ad cy g43 a43 w43) H := hP
              refine lv_iconst (v := (0 : Int32)) hx hb dX6_soLong_46 (by decide) ?_
              refine lv_istore (lv' := [(5, .int (0 : Int32)), (0, .ref (ad 0)), (1, .int p0), (2, .int p1), (3, .int p2), (4, .int p3)]) hx hb dX6_soLong_47 hl (by decide) rfl (fun ls hl => ?_)
              refine lv_iconst (v := (2 : Int32)) hx hb dX6_soLong_49 (by decide) ?_
              refine lv_istore (lv' := [(6, .int (2 : Int32)), (5, .int (0 : Int32)), (0, .ref (ad 0)), (1, .int p0), (2, .int p1), (3, .int p2), (4, .int p3)]) hx hb dX6_soLong_50 hl (by decide) rfl (fun ls hl => ?_)
              exact oJ52 _ _ _ _ _ hV _ _ hP hS _ (lv_sub hl [2, 3, 4, 5, 6, 1, 0] rfl)
            · have hV := hV.2 c_33
              refine lv_iconst (v := (-1 : Int32)) hx hb dX6_soLong_36 (by decide) ?_
              exact W.iret (v := (-1 : Int32)) hx hb hr (fun t ht hW => ⟨⟨_, (g, a, w), rfl, hV, ar_heap ht hP⟩, hS.F ht⟩) hS.2.2 dX6_soLong_37
def post_X6_soLong (g : Gs) (a : As) (w : Ws) (p0 p1 p2 p3 r : Int32) (g' : Gs) (a' : As) (w' : Ws) : Prop := SoAns p0 p1 p2 p3 r ∧ FS g a w g' a' w'
set_option maxRecDepth 4000 in
theorem spec_X6_soLong (l : Launch) (D : va_G) (cy : Nat → ClassId) (ad : Nat → Nat) (sz : Nat) (g : Gs) (a : As) (w : Ws) (p0 : Int32) (p1 : Int32) (p2 : Int32) (p3 : Int32) : Met l yX6_soLong wsX6_soLong ({ frames := 3, cells := 0, slots := 0, locals := 80 } : Room) (va_Pc [.ref (ad 0), .int p0, .int p1, .int p2, .int p3] (ArP D cy sz (caW ad cy g a w))) (va_Qi (fun (r : Int32) (u : Gs × As × Ws) => (post_X6_soLong g a w p0 p1 p2 p3) r u.1 u.2.1 u.2.2) (fun u t => va_P D vwCl (caW ad cy u.1 u.2.1 u.2.2) t.heap) (va_A (caW ad cy g a w) sz)) 0 0 (va_A (caW ad cy g a w) sz) := by
  apply met_X6_soLong
  intro J hJ r hr
  unfold post_X6_isBase at hr
  subst hr
  have e0 : (0 : Int32).toInt = 0 := rfl
  have e2 : (2 : Int32).toInt = 2 := rfl
  have e3 : (3000 : Int32).toInt = 3000 := rfl
  have hm1 : (-1 : Int32).toInt = -1 := rfl
  refine ⟨fun h => ⟨Or.inl ⟨Or.inl (zb_0 h), rfl⟩, FS.rf⟩, fun h => ⟨fun h2 => ⟨Or.inl ⟨by rw [i_lt, e0] at h2; omega, rfl⟩, FS.rf⟩, fun h2 => ⟨fun h3 => ⟨Or.inl ⟨by rw [i_lt, e3] at h3; omega, rfl⟩, FS.rf⟩, fun h3 => ⟨fun h4 => ⟨Or.inl ⟨by rw [i_lt, e2] at h4; omega, rfl⟩, FS.rf⟩, fun h4 => ⟨fun h5 => ⟨Or.inl ⟨by rw [i_lt, e3] at h5; omega, rfl⟩, FS.rf⟩, fun h5 => ⟨fun h6 => ?_, fun h6 => ⟨Or.inl ⟨by rw [i_le, hm1] at h6; omega, rfl⟩, FS.rf⟩⟩⟩⟩⟩⟩⟩
  have hbs : Bs p0 := zb_1 h
  obtain ⟨b1, b2⟩ := id hbs
  rw [i_lt, e0] at h2
  rw [i_lt, e3] at h3
  rw [i_lt, e2] at h4
  rw [i_lt, e3] at h5
  rw [i_le, hm1] at h6
  obtain ⟨b, hb, rfl, hb2⟩ := of_i (x := p0) (by omega)
  obtain ⟨l, hl, rfl, hl2⟩ := of_i (x := p1) (by omega)
  obtain ⟨m, hm, rfl, hm2⟩ := of_i (x := p2) (by omega)
  refine ⟨⟨by omega, by omega⟩, fun g1 a1 w1 hsp => ?_⟩
  have hF : 1 ≤ l → Fac 1 l g1 a1 := fun q => by have := hsp.2.1 (by rw [tn_nI hl]; omega); rwa [tn_nI hl] at this
  have hFS := split_FS (by decide) hsp
  refine ith_loop (J := fun f k => J f k g1 a1 w1) (post := fun r => post_X6_soLong g a w (nI b) (nI l) (nI m) p3 r g1 a1 w1) (p := SoB b l) (N := m + 1) (lo := 2) (i := p3) (by omega) (by omega) h6 (fb_ct_zero.mpr (fun k hk => cb_f (fun q => by have := q.1; omega))) (fun r hr => ⟨Or.inr ⟨⟨hbs, by omega, by omega, by omega, by omega, h6⟩, by rw [tn_nI hb, tn_nI hl, tn_nI hm]; exact hr⟩, hFS⟩) (fun f hf c1 c2 => ?_) (fun f k hf hlk hk c1 c2 c3 => ?_)
  · exact hJ _ _ _ _ _ (pk_lt m (m + 1) (fun _ => ⟨c1, c2⟩) (fun h => absurd h (by omega)))
  · refine hJ _ _ _ _ _ (pk_lt m k (fun h => absurd h (by omega)) (fun _ => ⟨⟨by omega, by rw [nI_toInt (by omega)]; omega, by rw [nI_toInt (by omega)]; omega, by omega, by rw [tn_nI hl]; exact hF⟩, fun r hr => ?_⟩))
    unfold post_X6_hasRound at hr
    rw [tn_nI hb, tn_nI hl, tn_nI (by omega)] at hr
    subst hr
    rw [nI_1, nI_1]
    exact ⟨fun q => c1 (cb_f (fun z => zb_0 q z.2)), fun q => ⟨fun q2 => c2 (cb_t ⟨hlk, zb_1 q⟩) q2, fun q2 => c3 (cb_t ⟨hlk, zb_1 q⟩) q2⟩⟩
set_option maxHeartbeats 4000000 in
set_option maxRecDepth 100000 in
theorem met_X7_soLong (l : Launch) (D : va_G) (cy : Nat → ClassId) (ad : Nat → Nat) (sz : Nat) (g : Gs) (a : As) (p0 : Int32) (p1 : Int32) (p2 : Int32) (p3 : Int32) (post : Int32 → Prop)
  (hV : ∀ (J47 : Int32 → Int32 → Prop),
    (∀ (x5 : Int32) (x6 : Int32), ((p2 < x6 → ((0 ≤ p3 → post (-4 : Int32)) ∧ (¬ 0 ≤ p3 → post x5))) ∧ (¬ p2 < x6 → pre_X7_roundOf p0 x6 ∧ (∀ r56 : Int32, post_X7_roundOf p0 x6 r56 → ((r56 = p1 → ((x5 = p3 → post x6) ∧ (¬ x5 = p3 → J47 (x5 + 1) (x6 + 1)))) ∧ (¬ r56 = p1 → J47 x5 (x6 + 1)))))) → J47 x5 x6) →
    ∀ r1 : Int32, post_X7_isBase p0 r1 → ((r1 = 0 → post (-1 : Int32)) ∧ (¬ r1 = 0 → ∀ r13 : Int32, post_X7_in p1.toInt64 (0 : Int64) (3000 : Int64) r13 → ((r13 = 0 → post (-1 : Int32)) ∧ (¬ r13 = 0 → ∀ r27 : Int32, post_X7_in p2.toInt64 (2 : Int64) (3000 : Int64) r27 → ((r27 = 0 → post (-1 : Int32)) ∧ (¬ r27 = 0 → (((-1 : Int32) ≤ p3 → J47 (0 : Int32) (2 : Int32)) ∧ (¬ (-1 : Int32) ≤ p3 → post (-1 : Int32)))))))))) :
  Met l yX7_soLong wsX7_soLong ({ frames := 2, cells := 0, slots := 0, locals := 46 } : Room) (va_Pc [.ref (ad 0), .int p0, .int p1, .int p2, .int p3] (ArP D cy sz (maW ad cy g a))) (Qpi post) 0 0 noF := by
  refine Met.ofW (cc := cX7_soLong) (maxL := 7) (ret := (some .int)) (by decide) rfl ?_
  intro p e s m args below meth c s₁ B hml hv
  obtain ⟨rfl, hsz, hP, hK, hD0, hN⟩ := hv
  have hx := B.exec
  have hb := B.bytes
  have hr := B.returns
  have hts := atoms_spec (ws := wsX7_soLong) B.pre
  have hown : s.vm.findClass RX7 = some m.cls := findClass_of_methodNamed B.named
  have hlocks := B.notSynchronized
  subst hsz
  have hP : va_P D vwCl (maW ad cy g a) s.heap := hP
  have hD : va_D (fun _ => True) (maW ad cy g a) := hD0
  obtain ⟨J47, iJ47, oJ47⟩ : ∃ J : Int32 → Int32 → Prop, (∀ (x5 : Int32) (x6 : Int32), (∀ ls : Array Slot, lv_has ls 7 [(1, .int p0), (2, .int p1), (3, .int p2), (4, .int p3), (5, .int x5), (6, .int x6)] → W p l e (headSpec wsX7_soLong ({ frames := 2, cells := 0, slots := 0, locals := 46 } : Room)).room s m [.ref (ad 0), .int p0, .int p1, .int p2, .int p3].toArray below meth c s.heap [] 0 0 (MQ below (Qpi post) [.ref (ad 0), .int p0, .int p1, .int p2, .int p3].toArray s 0 0 noF) (F0 m 47 ls [])) → J x5 x6) ∧ (∀ (x5 : Int32) (x6 : Int32), J x5 x6 → (∀ ls : Array Slot, lv_has ls 7 [(1, .int p0), (2, .int p1), (3, .int p2), (4, .int p3), (5, .int x5), (6, .int x6)] → W p l e (headSpec wsX7_soLong ({ frames := 2, cells := 0, slots := 0, locals := 46 } : Room)).room s m [.ref (ad 0), .int p0, .int p1, .int p2, .int p3].toArray below meth c s.heap [] 0 0 (MQ below (Qpi post) [.ref (ad 0), .int p0, .int p1, .int p2, .int p3].toArray s 0 0 noF) (F0 m 47 ls []))) := ⟨fun (x5 : Int32) (x6 : Int32) => (∀ ls : Array Slot, lv_has ls 7 [(1, .int p0), (2, .int p1), (3, .int p2), (4, .int p3), (5, .int x5), (6, .int x6)] → W p l e (headSpec wsX7_soLong ({ frames := 2, cells := 0, slots := 0, locals := 46 } : Room)).room s m [.ref (ad 0), .int p0, .int p1, .int p2, .int p3].toArray below meth c s.heap [] 0 0 (MQ below (Qpi post) [.ref (ad 0), .int p0, .int p1, .int p2, .int p3].toArray s 0 0 noF) (F0 m 47 ls [])), fun _ _ h => h, fun _ _ h => h⟩
  have hV := hV J47
  replace hV := hV (by
    intro x5 x6 hV
    refine iJ47 x5 x6 ?_
    intro ls hl
    refine lv_iload hx hb dX7_soLong_47 (lv_at hl 5 rfl) ?_
    refine lv_iload_n hx hb dX7_soLong_49 rfl (lv_at hl 2 rfl) ?_
    refine lv_icmp_gt (tgt := 82) hx hb dX7_soLong_50 (by decide) (fun c_50 => ?_) (fun c_50 => ?_)
    · have hV := hV.1 c_50
      refine lv_iload hx hb dX7_soLong_82 (lv_at hl 3 rfl) ?_
      refine lv_if_ge (tgt := 92) hx hb dX7_soLong_84 (by decide) (fun c_84 => ?_) (fun c_84 => ?_)
      · have hV := hV.1 c_84
        refine lv_bipush (v := (-4 : Int32)) hx hb dX7_soLong_92 (by decide) ?_
        exact W.iret (v := (-4 : Int32)) hx hb hr (fun t ht hW => ⟨_, rfl, hV, ht⟩) (fun _ h => by cases h) dX7_soLong_94
      · have hV := hV.2 c_84
        refine lv_iload hx hb dX7_soLong_87 (lv_at hl 4 rfl) ?_
        refine lv_goto (tgt := 94) hx hb dX7_soLong_89 (by decide) ?_
        exact W.iret (v := x5) hx hb hr (fun t ht hW => ⟨_, rfl, hV, ht⟩) (fun _ h => by cases h) dX7_soLong_94
    · have hV := hV.2 c_50
      refine lv_iload_n hx hb dX7_soLong_53 rfl (lv_at hl 0 rfl) ?_
      refine lv_iload hx hb dX7_soLong_54 (lv_at hl 5 rfl) ?_
      obtain ⟨h_56, hV⟩ := hV
      refine cp_i (va_runS (As := [.int p0, .int x6]) (rest := []) ⟨hx, hb, hml, hown, hts⟩ (spec_X7_roundOf l p0 x6 h_56) (va_cwS 2 hts gX7_soLong_X7_roundOf rfl rfl rfl (by decide +kernel) ⟨Nat.le_of_ble_eq_true rfl, Nat.le_of_ble_eq_true rfl⟩) cp_pre rfl rfl hl.1 rfl (lv_room (Nat.le_of_ble_eq_true rfl)) dX7_soLong_56 ⟨Nat.zero_le _, Nat.zero_le _⟩) (fun r56 q_56 => ?_)
      have hV := hV r56 q_56
      refine lv_iload_n hx hb dX7_soLong_59 rfl (lv_at hl 1 rfl) ?_
      refine lv_icmp_ne (tgt := 76) hx hb dX7_soLong_60 (by decide) (fun c_60 => ?_) (fun c_60 => ?_)
      · have hV := hV.2 c_60
        refine lv_iinc (v := x6 + 1) (lv' := [(6, .int (x6 + 1)), (1, .int p0), (2, .int p1), (3, .int p2), (4, .int p3), (5, .int x5)]) hx hb dX7_soLong_76 hl (k := 5) rfl rfl (by decide) rfl (fun ls hl => ?_)
        refine lv_goto (tgt := 47) hx hb dX7_soLong_79 (by decide) ?_
        exact oJ47 _ _ hV _ (lv_sub hl [1, 2, 3, 4, 5, 0] rfl)
      · have hV := hV.1 c_60
        refine lv_iload hx hb dX7_soLong_63 (lv_at hl 4 rfl) ?_
        refine lv_iload hx hb dX7_soLong_65 (lv_at hl 3 rfl) ?_
        refine lv_icmp_ne (tgt := 73) hx hb dX7_soLong_67 (by decide) (fun c_67 => ?_) (fun c_67 => ?_)
        · have hV := hV.2 c_67
          refine lv_iinc (v := x5 + 1) (lv' := [(5, .int (x5 + 1)), (1, .int p0), (2, .int p1), (3, .int p2), (4, .int p3), (6, .int x6)]) hx hb dX7_soLong_73 hl (k := 4) rfl rfl (by decide) rfl (fun ls hl => ?_)
          refine lv_iinc (v := x6 + 1) (lv' := [(6, .int (x6 + 1)), (5, .int (x5 + 1)), (1, .int p0), (2, .int p1), (3, .int p2), (4, .int p3)]) hx hb dX7_soLong_76 hl (k := 5) rfl rfl (by decide) rfl (fun ls hl => ?_)
          refine lv_goto (tgt := 47) hx hb dX7_soLong_79 (by decide) ?_
          exact oJ47 _ _ hV _ (lv_sub hl [2, 3, 4, 5, 1, 0] rfl)
        · have hV := hV.1 c_67
          refine lv_iload hx hb dX7_soLong_70 (lv_at hl 5 rfl) ?_
          exact W.iret (v := x6) hx hb hr (fun t ht hW => ⟨_, rfl, hV, ht⟩) (fun _ h => by cases h) dX7_soLong_72)
  have hl := lv_entry ([.ref (ad 0), .int p0, .int p1, .int p2, .int p3]) (n := 7) (Nat.le_of_ble_eq_true rfl)
  rw [lg_entry_eq]
  generalize (lg_sl ([.ref (ad 0), .int p0, .int p1, .int p2, .int p3]) ++ List.replicate (7 - (lg_sl ([.ref (ad 0), .int p0, .int p1, .int p2, .int p3])).length) Slot.unset).toArray = ls at hl ⊢
  have hl : lv_has ls 7 [(0, .ref (ad 0)), (1, .int p0), (2, .int p1), (3, .int p2), (4, .int p3)] := hl
  refine lv_iload_n hx hb dX7_soLong_0 rfl (lv_at hl 1 rfl) ?_
  refine cp_i (va_runS (As := [.int p0]) (rest := []) ⟨hx, hb, hml, hown, hts⟩ (spec_X7_isBase l p0) (va_cwS 1 hts gX7_soLong_X7_isBase rfl rfl rfl (by decide +kernel) ⟨Nat.le_of_ble_eq_true rfl, Nat.le_of_ble_eq_true rfl⟩) cp_pre rfl rfl hl.1 rfl (lv_room (Nat.le_of_ble_eq_true rfl)) dX7_soLong_1 ⟨Nat.zero_le _, Nat.zero_le _⟩) (fun r1 q_1 => ?_)
  have hV := hV r1 q_1
  refine lv_if_eq (tgt := 39) hx hb dX7_soLong_4 (by decide) (fun c_4 => ?_) (fun c_4 => ?_)
  · have hV := hV.1 c_4
    refine lv_iconst (v := (-1 : Int32)) hx hb dX7_soLong_39 (by decide) ?_
    exact W.iret (v := (-1 : Int32)) hx hb hr (fun t ht hW => ⟨_, rfl, hV, ht⟩) (fun _ h => by cases h) dX7_soLong_40
  · have hV := hV.2 c_4
    refine lv_iload_n hx hb dX7_soLong_7 rfl (lv_at hl 2 rfl) ?_
    refine lv_i2l (v := p1.toInt64) hx hb dX7_soLong_8 rfl ?_
    refine lv_lconst (v := (0 : Int64)) hx hb dX7_soLong_9 (by decide) ?_
    refine lv_ldc2 (v := (3000 : Int64)) hx hb hown (hts (.constantLong RX7 195 (3000)) (by decide +kernel)) dX7_soLong_10 ?_
    refine cp_i (va_runS (As := [.long p1.toInt64, .long (0 : Int64), .long (3000 : Int64)]) (rest := []) ⟨hx, hb, hml, hown, hts⟩ (spec_X7_in l p1.toInt64 (0 : Int64) (3000 : Int64)) (va_cwS 3 hts gX7_soLong_X7_in rfl rfl rfl (by decide +kernel) ⟨Nat.le_of_ble_eq_true rfl, Nat.le_of_ble_eq_true rfl⟩) cp_pre rfl rfl hl.1 rfl (lv_room (Nat.le_of_ble_eq_true rfl)) dX7_soLong_13 ⟨Nat.zero_le _, Nat.zero_le _⟩) (fun r13 q_13 => ?_)
    have hV := hV r13 q_13
    refine lv_if_eq (tgt := 39) hx hb dX7_soLong_16 (by decide) (fun c_16 => ?_) (fun c_16 => ?_)
    · have hV := hV.1 c_16
      refine lv_iconst (v := (-1 : Int32)) hx hb dX7_soLong_39 (by decide) ?_
      exact W.iret (v := (-1 : Int32)) hx hb hr (fun t ht hW => ⟨_, rfl, hV, ht⟩) (fun _ h => by cases h) dX7_soLong_40
    · have hV := hV.2 c_16
      refine lv_iload_n hx hb dX7_soLong_19 rfl (lv_at hl 3 rfl) ?_
      refine lv_i2l (v := p2.toInt64) hx hb dX7_soLong_20 rfl ?_
      refine lv_ldc2 (v := (2 : Int64)) hx hb hown (hts (.constantLong RX7 56 (2)) (by decide +kernel)) dX7_soLong_21 ?_
      refine lv_ldc2 (v := (3000 : Int64)) hx hb hown (hts (.constantLong RX7 195 (3000)) (by decide +kernel)) dX7_soLong_24 ?_
      refine cp_i (va_runS (As := [.long p2.toInt64, .long (2 : Int64), .long (3000 : Int64)]) (rest := []) ⟨hx, hb, hml, hown, hts⟩ (spec_X7_in l p2.toInt64 (2 : Int64) (3000 : Int64)) (va_cwS 3 hts gX7_soLong_X7_in rfl rfl rfl (by decide +kernel) ⟨Nat.le_of_ble_eq_true rfl, Nat.le_of_ble_eq_true rfl⟩) cp_pre rfl rfl hl.1 rfl (lv_room (Nat.le_of_ble_eq_true rfl)) dX7_soLong_27 ⟨Nat.zero_le _, Nat.zero_le _⟩) (fun r27 q_27 => ?_)
      have hV := hV r27 q_27
      refine lv_if_eq (tgt := 39) hx hb dX7_soLong_30 (by decide) (fun c_30 => ?_) (fun c_30 => ?_)
      · have hV := hV.1 c_30
        refine lv_iconst (v := (-1 : Int32)) hx hb dX7_soLong_39 (by decide) ?_
        exact W.iret (v := (-1 : Int32)) hx hb hr (fun t ht hW => ⟨_, rfl, hV, ht⟩) (fun _ h => by cases h) dX7_soLong_40
      · have hV := hV.2 c_30
        refine lv_iload hx hb dX7_soLong_33 (lv_at hl 4 rfl) ?_
        refine lv_iconst (v := (-1 : Int32)) hx hb dX7_soLong_35 (by decide) ?_
        refine lv_icmp_ge (tgt := 41) hx hb dX7_soLong_36 (by decide) (fun c_36 => ?_) (fun c_36 => ?_)
        · have hV := hV.1 c_36
          refine lv_iconst (v := (0 : Int32)) hx hb dX7_soLong_41 (by decide) ?_
          refine lv_istore (lv' := [(5, .int (0 : Int32)), (0, .ref (ad 0)), (1, .int p0), (2, .int p1), (3, .int p2), (4, .int p3)]) hx hb dX7_soLong_42 hl (by decide) rfl (fun ls hl => ?_)
          refine lv_iconst (v := (2 : Int32)) hx hb dX7_soLong_44 (by decide) ?_
          refine lv_istore (lv' := [(6, .int (2 : Int32)), (5, .int (0 : Int32)), (0, .ref (ad 0)), (1, .int p0), (2, .int p1), (3, .int p2), (4, .int p3)]) hx hb dX7_soLong_45 hl (by decide) rfl (fun ls hl => ?_)
          exact oJ47 _ _ hV _ (lv_sub hl [3, 4, 5, 6, 1, 0] rfl)
        · have hV := hV.2 c_36
          refine lv_iconst (v := (-1 : Int32)) hx hb dX7_soLong_39 (by decide) ?_
          exact W.iret (v := (-1 : Int32)) hx hb hr (fun t ht hW => ⟨_, rfl, hV, ht⟩) (fun _ h => by cases h) dX7_soLong_40
def post_X7_soLong (g : Gs) (a : As) (p0 p1 p2 p3 r : Int32) : Prop := SoAns p0 p1 p2 p3 r
set_option maxRecDepth 4000 in
theorem spec_X7_soLong (l : Launch) (D : va_G) (cy : Nat → ClassId) (ad : Nat → Nat) (sz : Nat) (g : Gs) (a : As) (p0 : Int32) (p1 : Int32) (p2 : Int32) (p3 : Int32) : Met l yX7_soLong wsX7_soLong ({ frames := 2, cells := 0, slots := 0, locals := 46 } : Room) (va_Pc [.ref (ad 0), .int p0, .int p1, .int p2, .int p3] (ArP D cy sz (maW ad cy g a))) (Qpi (post_X7_soLong g a p0 p1 p2 p3)) 0 0 noF := by
  apply met_X7_soLong
  intro J hJ r hr
  unfold post_X7_isBase at hr
  subst hr
  have l0 : (0 : Int64).toInt = 0 := rfl
  have l2 : (2 : Int64).toInt = 2 := rfl
  have l3 : (3000 : Int64).toInt = 3000 := rfl
  have hm1 : (-1 : Int32).toInt = -1 := rfl
  refine ⟨fun h => Or.inl ⟨Or.inl (zb_0 h), rfl⟩, fun h r2 hr2 => ?_⟩
  unfold post_X7_in at hr2
  rw [il_t, l0, l3] at hr2
  subst hr2
  refine ⟨fun h2 => Or.inl ⟨by have := zb_0 h2; omega, rfl⟩, fun h2 r3 hr3 => ?_⟩
  unfold post_X7_in at hr3
  rw [il_t, l2, l3] at hr3
  subst hr3
  refine ⟨fun h3 => Or.inl ⟨by have := zb_0 h3; omega, rfl⟩, fun h3 => ⟨fun h6 => ?_, fun h6 => Or.inl ⟨by rw [i_le, hm1] at h6; omega, rfl⟩⟩⟩
  have hbs : Bs p0 := zb_1 h
  obtain ⟨b1, b2⟩ := id hbs
  have h2 := zb_1 h2
  have h3 := zb_1 h3
  rw [i_le, hm1] at h6
  obtain ⟨b, hb, rfl, hb2⟩ := of_i (x := p0) (by omega)
  obtain ⟨l, hl, rfl, hl2⟩ := of_i (x := p1) (by omega)
  obtain ⟨m, hm, rfl, hm2⟩ := of_i (x := p2) (by omega)
  refine ith_loop (J := J) (post := post_X7_soLong g a (nI b) (nI l) (nI m) p3) (p := SoB b l) (N := m + 1) (lo := 2) (i := p3) (by omega) (by omega) h6 (fb_ct_zero.mpr (fun k hk => cb_f (fun q => by have := q.1; omega))) (fun r hr => Or.inr ⟨⟨hbs, by omega, by omega, by omega, by omega, h6⟩, by rw [tn_nI hb, tn_nI hl, tn_nI hm]; exact hr⟩) (fun f hf c1 c2 => ?_) (fun f k hf hlk hk c1 c2 c3 => ?_)
  · refine hJ _ _ (pk_lt m (m + 1) (fun _ => ⟨fun q => c2 (fun z => ?_), fun q => c1 ?_⟩) (fun h => absurd h (by omega)))
    · rw [i_le, Int32.toInt_zero, z, hm1] at q; omega
    · rw [i_le, Int32.toInt_zero] at q; exact i_m1.mp (by omega)
  · refine hJ _ _ (pk_lt m k (fun h => absurd h (by omega)) (fun _ => ⟨⟨by omega, by rw [nI_toInt (by omega)]; omega, by rw [nI_toInt (by omega)]; omega⟩, fun r hr => ?_⟩))
    obtain ⟨e, e1, e2, rfl⟩ := hr
    rw [tn_nI hb, tn_nI (by omega)] at e1
    rw [tn_nI (by omega)] at e2
    rw [nI_1, nI_1]
    refine pk_eq e l (fun q => ?_) (fun q => c1 (cb_f (fun z => q (e1.one z.2))))
    subst q
    exact ⟨c2 (cb_t ⟨hlk, e1⟩), c3 (cb_t ⟨hlk, e1⟩)⟩
/-- TURNING -/
def TurnP (b n : Nat) : Prop := Pr n ∧ ¬ b % n = 0 ∧ Round b n (n - 1)
def TurnAns (b n k r : Int32) : Prop := ((¬ Bs b ∨ ¬ Dv n ∨ k.toInt < 1 ∨ n.toInt ≤ k.toInt) ∧ r = -1) ∨ ((Bs b ∧ Dv n ∧ 1 ≤ k.toInt ∧ k.toInt < n.toInt) ∧ ((¬ TurnP (tn b) (tn n) ∧ r = -2) ∨ (TurnP (tn b) (tn n) ∧ LogAns (tn n) (tn b % tn n) (tn k) r)))
theorem TurnAns.one {b n k r r' : Int32} (h : TurnAns b n k r) (h' : TurnAns b n k r') : r = r' := by
  rcases h with ⟨h1, h2⟩ | ⟨⟨h1, h2, h3⟩, h4⟩ <;> rcases h' with ⟨k1, k2⟩ | ⟨⟨k1, k2, k3⟩, k4⟩
  · rw [h2, k2]
  · rcases h1 with q | q | q
    · exact absurd k1 q
    · exact absurd k2 q
    · omega
  · rcases k1 with q | q | q
    · exact absurd h1 q
    · exact absurd h2 q
    · omega
  · rcases h4 with ⟨q1, q2⟩ | ⟨q1, q2⟩ <;> rcases k4 with ⟨r1, r2⟩ | ⟨r1, r2⟩
    · rw [q2, r2]
    · exact absurd r1 q1
    · exact absurd q1 r1
    · exact q2.one r2
set_option maxHeartbeats 4000000 in
set_option maxRecDepth 100000 in
theorem met_X6_turning (l : Launch) (D : va_G) (cy : Nat → ClassId) (ad : Nat → Nat) (sz : Nat) (g : Gs) (a : As) (w : Ws) (p0 : Int32) (p1 : Int32) (p2 : Int32) (post : Int32 → Gs → As → Ws → Prop)
  (hV : ∀ r1 : Int32, post_X6_isBase p0 r1 → ((r1 = 0 → post (-1 : Int32) g a w) ∧ (¬ r1 = 0 → ∀ r8 : Int32, post_X6_isDivisor p1 r8 → ((r8 = 0 → post (-1 : Int32) g a w) ∧ (¬ r8 = 0 → ((p2 < (1 : Int32) → post (-1 : Int32) g a w) ∧ (¬ p2 < (1 : Int32) → ((p2 < p1 → pre_X4_isPrime p1 ∧ (∀ r27 : Int32, post_X4_isPrime p1 r27 → ((r27 = 0 → post (-2 : Int32) g a w) ∧ (¬ r27 = 0 → ¬ p1 = 0 ∧ ((((p0 - p0 / p1 * p1) = 0 → post (-2 : Int32) g a w) ∧ (¬ (p0 - p0 / p1 * p1) = 0 → pre_X6_roundOf g a w p0 p1 ∧ (∀ (r42 : Int32) (g42 : Gs) (a42 : As) (w42 : Ws), post_X6_roundOf g a w p0 p1 r42 g42 a42 w42 → ((r42 = (p1 - (1 : Int32)) → pre_X6_leastLog p1 (p0 - p0 / p1 * p1) p2 ∧ (∀ r59 : Int32, post_X6_leastLog p1 (p0 - p0 / p1 * p1) p2 r59 → post r59 g42 a42 w42)) ∧ (¬ r42 = (p1 - (1 : Int32)) → post (-2 : Int32) g42 a42 w42)))))))))) ∧ (¬ p2 < p1 → post (-1 : Int32) g a w))))))))) :
  Met l yX6_turning wsX6_turning ({ frames := 5, cells := 0, slots := 0, locals := 119 } : Room) (va_Pc [.ref (ad 0), .int p0, .int p1, .int p2] (ArP D cy sz (caW ad cy g a w))) (va_Qi (fun (r : Int32) (u : Gs × As × Ws) => post r u.1 u.2.1 u.2.2) (fun u t => va_P D vwCl (caW ad cy u.1 u.2.1 u.2.2) t.heap) (va_A (caW ad cy g a w) sz)) 0 0 (va_A (caW ad cy g a w) sz) := by
  refine Met.ofW (cc := cX6_turning) (maxL := 4) (ret := (some .int)) (by decide) rfl ?_
  intro p e s m args below meth c s₁ B hml hv
  obtain ⟨rfl, hsz, hP, hK, hD0, hN⟩ := hv
  have hx := B.exec
  have hb := B.bytes
  have hr := B.returns
  have hts := atoms_spec (ws := wsX6_turning) B.pre
  have hown : s.vm.findClass RX6 = some m.cls := findClass_of_methodNamed B.named
  have hlocks := B.notSynchronized
  subst hsz
  have hD := hD0.self (sz := s.heap.size)
  have hP : va_P D vwCl (caW ad cy g a w) s.heap := hP
  have hD : va_D (va_A (caW ad cy g a w) s.heap.size) (caW ad cy g a w) := hD
  have hS : va_S (va_A (caW ad cy g a w) s.heap.size) s.heap s.heap [] := va_S.rf
  have hA : ∀ q : Nat, s.heap.size ≤ q → va_A (caW ad cy g a w) s.heap.size q := fun q h => Or.inr h
  have hl := lv_entry ([.ref (ad 0), .int p0, .int p1, .int p2]) (n := 4) (Nat.le_of_ble_eq_true rfl)
  rw [lg_entry_eq]
  generalize (lg_sl ([.ref (ad 0), .int p0, .int p1, .int p2]) ++ List.replicate (4 - (lg_sl ([.ref (ad 0), .int p0, .int p1, .int p2])).length) Slot.unset).toArray = ls at hl ⊢
  have hl : lv_has ls 4 [(0, .ref (ad 0)), (1, .int p0), (2, .int p1), (3, .int p2)] := hl
  refine lv_iload_n hx hb dX6_turning_0 rfl (lv_at hl 1 rfl) ?_
  refine cp_i (va_runS (As := [.int p0]) (rest := []) ⟨hx, hb, hml, hown, hts⟩ (spec_X6_isBase l p0) (va_cwS 1 hts gX6_turning_X6_isBase rfl rfl rfl (by decide +kernel) ⟨Nat.le_of_ble_eq_true rfl, Nat.le_of_ble_eq_true rfl⟩) cp_pre rfl rfl hl.1 rfl (lv_room (Nat.le_of_ble_eq_true rfl)) dX6_turning_1 ⟨Nat.zero_le _, Nat.zero_le _⟩) (fun r1 q_1 => ?_)
  have hV := hV r1 q_1
  refine lv_if_eq (tgt := 24) hx hb dX6_turning_4 (by decide) (fun c_4 => ?_) (fun c_4 => ?_)
  · have hV := hV.1 c_4
    refine lv_iconst (v := (-1 : Int32)) hx hb dX6_turning_24 (by decide) ?_
    exact W.iret (v := (-1 : Int32)) hx hb hr (fun t ht hW => ⟨⟨_, (g, a, w), rfl, hV, ar_heap ht hP⟩, hS.F ht⟩) hS.2.2 dX6_turning_25
  · have hV := hV.2 c_4
    refine lv_iload_n hx hb dX6_turning_7 rfl (lv_at hl 2 rfl) ?_
    refine cp_i (va_runS (As := [.int p1]) (rest := []) ⟨hx, hb, hml, hown, hts⟩ (spec_X6_isDivisor l p1) (va_cwS 1 hts gX6_turning_X6_isDivisor rfl rfl rfl (by decide +kernel) ⟨Nat.le_of_ble_eq_true rfl, Nat.le_of_ble_eq_true rfl⟩) cp_pre rfl rfl hl.1 rfl (lv_room (Nat.le_of_ble_eq_true rfl)) dX6_turning_8 ⟨Nat.zero_le _, Nat.zero_le _⟩) (fun r8 q_8 => ?_)
    have hV := hV r8 q_8
    refine lv_if_eq (tgt := 24) hx hb dX6_turning_11 (by decide) (fun c_11 => ?_) (fun c_11 => ?_)
    · have hV := hV.1 c_11
      refine lv_iconst (v := (-1 : Int32)) hx hb dX6_turning_24 (by decide) ?_
      exact W.iret (v := (-1 : Int32)) hx hb hr (fun t ht hW => ⟨⟨_, (g, a, w), rfl, hV, ar_heap ht hP⟩, hS.F ht⟩) hS.2.2 dX6_turning_25
    · have hV := hV.2 c_11
      refine lv_iload_n hx hb dX6_turning_14 rfl (lv_at hl 3 rfl) ?_
      refine lv_iconst (v := (1 : Int32)) hx hb dX6_turning_15 (by decide) ?_
      refine lv_icmp_lt (tgt := 24) hx hb dX6_turning_16 (by decide) (fun c_16 => ?_) (fun c_16 => ?_)
      · have hV := hV.1 c_16
        refine lv_iconst (v := (-1 : Int32)) hx hb dX6_turning_24 (by decide) ?_
        exact W.iret (v := (-1 : Int32)) hx hb hr (fun t ht hW => ⟨⟨_, (g, a, w), rfl, hV, ar_heap ht hP⟩, hS.F ht⟩) hS.2.2 dX6_turning_25
      · have hV := hV.2 c_16
        refine lv_iload_n hx hb dX6_turning_19 rfl (lv_at hl 3 rfl) ?_
        refine lv_iload_n hx hb dX6_turning_20 rfl (lv_at hl 2 rfl) ?_
        refine lv_icmp_lt (tgt := 26) hx hb dX6_turning_21 (by decide) (fun c_21 => ?_) (fun c_21 => ?_)
        · have hV := hV.1 c_21
          refine lv_iload_n hx hb dX6_turning_26 rfl (lv_at hl 2 rfl) ?_
          obtain ⟨h_27, hV⟩ := hV
          refine cp_i (va_runS (As := [.int p1]) (rest := []) ⟨hx, hb, hml, hown, hts⟩ (spec_X4_isPrime l p1 h_27) (va_cwS 1 hts gX6_turning_X4_isPrime rfl rfl rfl (by decide +kernel) ⟨Nat.le_of_ble_eq_true rfl, Nat.le_of_ble_eq_true rfl⟩) cp_pre rfl rfl hl.1 rfl (lv_room (Nat.le_of_ble_eq_true rfl)) dX6_turning_27 ⟨Nat.zero_le _, Nat.zero_le _⟩) (fun r27 q_27 => ?_)
          have hV := hV r27 q_27
          refine lv_if_eq (tgt := 51) hx hb dX6_turning_30 (by decide) (fun c_30 => ?_) (fun c_30 => ?_)
          · have hV := hV.1 c_30
            refine lv_bipush (v := (-2 : Int32)) hx hb dX6_turning_51 (by decide) ?_
            exact W.iret (v := (-2 : Int32)) hx hb hr (fun t ht hW => ⟨⟨_, (g, a, w), rfl, hV, ar_heap ht hP⟩, hS.F ht⟩) hS.2.2 dX6_turning_53
          · have hV := hV.2 c_30
            refine lv_iload_n hx hb dX6_turning_33 rfl (lv_at hl 1 rfl) ?_
            refine lv_iload_n hx hb dX6_turning_34 rfl (lv_at hl 2 rfl) ?_
            obtain ⟨h_35, hV⟩ := hV
            refine lv_irem hx hb dX6_turning_35 h_35 ?_
            refine lv_if_eq (tgt := 51) hx hb dX6_turning_36 (by decide) (fun c_36 => ?_) (fun c_36 => ?_)
            · have hV := hV.1 c_36
              refine lv_bipush (v := (-2 : Int32)) hx hb dX6_turning_51 (by decide) ?_
              exact W.iret (v := (-2 : Int32)) hx hb hr (fun t ht hW => ⟨⟨_, (g, a, w), rfl, hV, ar_heap ht hP⟩, hS.F ht⟩) hS.2.2 dX6_turning_53
            · have hV := hV.2 c_36
              refine lv_aload_n hx hb dX6_turning_39 rfl (lv_at hl 0 rfl) ?_
              refine lv_iload_n hx hb dX6_turning_40 rfl (lv_at hl 1 rfl) ?_
              refine lv_iload_n hx hb dX6_turning_41 rfl (lv_at hl 2 rfl) ?_
              obtain ⟨h_42, hV⟩ := hV
              refine cw_i (va_runV (As := [.int p0, .int p1]) (rest := []) ⟨hx, hb, hml, hown, hts⟩ (spec_X6_roundOf l D cy ad _ g a w p0 p1 h_42) (cwV 2 hts gX6_turning_X6_roundOf rfl rfl rfl (by decide +kernel) ⟨Nat.le_of_ble_eq_true rfl, Nat.le_of_ble_eq_true rfl⟩) (ar_preV hN hK hP (caD hD) (ci := 5) (q0 := 0) rfl rfl) rfl rfl hl.1 rfl (lv_room (Nat.le_of_ble_eq_true rfl)) dX6_turning_42 ⟨Nat.zero_le _, Nat.zero_le _⟩) hS (caD hD) hA (fun r42 u_42 H locs q_42 hP hS => ?_)
              obtain ⟨g42, a42, w42⟩ := u_42
              have hV := hV r42 g42 a42 w42 q_42
              have hP : va_P D vwCl (caW ad cy g42 a42 w42) H := hP
              refine lv_iload_n hx hb dX6_turning_45 rfl (lv_at hl 2 rfl) ?_
              refine lv_iconst (v := (1 : Int32)) hx hb dX6_turning_46 (by decide) ?_
              refine lv_isub hx hb dX6_turning_47 ?_
              refine lv_icmp_eq (tgt := 54) hx hb dX6_turning_48 (by decide) (fun c_48 => ?_) (fun c_48 => ?_)
              · have hV := hV.1 c_48
                refine lv_iload_n hx hb dX6_turning_54 rfl (lv_at hl 2 rfl) ?_
                refine lv_iload_n hx hb dX6_turning_55 rfl (lv_at hl 1 rfl) ?_
                refine lv_iload_n hx hb dX6_turning_56 rfl (lv_at hl 2 rfl) ?_
                refine lv_irem hx hb dX6_turning_57 h_35 ?_
                refine lv_iload_n hx hb dX6_turning_58 rfl (lv_at hl 3 rfl) ?_
                obtain ⟨h_59, hV⟩ := hV
                refine cp_i (va_runS (As := [.int p1, .int (p0 - p0 / p1 * p1), .int p2]) (rest := []) ⟨hx, hb, hml, hown, hts⟩ (spec_X6_leastLog l p1 (p0 - p0 / p1 * p1) p2 h_59) (va_cwS 3 hts gX6_turning_X6_leastLog rfl rfl rfl (by decide +kernel) ⟨Nat.le_of_ble_eq_true rfl, Nat.le_of_ble_eq_true rfl⟩) cp_pre rfl rfl hl.1 rfl (lv_room (Nat.le_of_ble_eq_true rfl)) dX6_turning_59 ⟨Nat.zero_le _, Nat.zero_le _⟩) (fun r59 q_59 => ?_)
                have hV := hV r59 q_59
                exact W.iret (v := r59) hx hb hr (fun t ht hW => ⟨⟨_, (g42, a42, w42), rfl, hV, ar_heap ht hP⟩, hS.F ht⟩) hS.2.2 dX6_turning_62
              · have hV := hV.2 c_48
                refine lv_bipush (v := (-2 : Int32)) hx hb dX6_turning_51 (by decide) ?_
                exact W.iret (v := (-2 : Int32)) hx hb hr (fun t ht hW => ⟨⟨_, (g42, a42, w42), rfl, hV, ar_heap ht hP⟩, hS.F ht⟩) hS.2.2 dX6_turning_53
        · have hV := hV.2 c_21
          refine lv_iconst (v := (-1 : Int32)) hx hb dX6_turning_24 (by decide) ?_
          exact W.iret (v := (-1 : Int32)) hx hb hr (fun t ht hW => ⟨⟨_, (g, a, w), rfl, hV, ar_heap ht hP⟩, hS.F ht⟩) hS.2.2 dX6_turning_25
def post_X6_turning (g : Gs) (a : As) (w : Ws) (p0 p1 p2 r : Int32) (g' : Gs) (a' : As) (w' : Ws) : Prop := TurnAns p0 p1 p2 r ∧ FS g a w g' a' w'
set_option maxRecDepth 4000 in
theorem spec_X6_turning (l : Launch) (D : va_G) (cy : Nat → ClassId) (ad : Nat → Nat) (sz : Nat) (g : Gs) (a : As) (w : Ws) (p0 : Int32) (p1 : Int32) (p2 : Int32) : Met l yX6_turning wsX6_turning ({ frames := 5, cells := 0, slots := 0, locals := 119 } : Room) (va_Pc [.ref (ad 0), .int p0, .int p1, .int p2] (ArP D cy sz (caW ad cy g a w))) (va_Qi (fun (r : Int32) (u : Gs × As × Ws) => (post_X6_turning g a w p0 p1 p2) r u.1 u.2.1 u.2.2) (fun u t => va_P D vwCl (caW ad cy u.1 u.2.1 u.2.2) t.heap) (va_A (caW ad cy g a w) sz)) 0 0 (va_A (caW ad cy g a w) sz) := by
  apply met_X6_turning
  intro r hr
  unfold post_X6_isBase at hr
  subst hr
  have e1 : (1 : Int32).toInt = 1 := rfl
  refine ⟨fun h => ⟨Or.inl ⟨Or.inl (zb_0 h), rfl⟩, FS.rf⟩, fun h r2 hr2 => ?_⟩
  unfold post_X6_isDivisor at hr2
  subst hr2
  refine ⟨fun h2 => ⟨Or.inl ⟨Or.inr (Or.inl (zb_0 h2)), rfl⟩, FS.rf⟩, fun h2 => ⟨fun h3 => ⟨Or.inl ⟨by rw [i_lt, e1] at h3; omega, rfl⟩, FS.rf⟩, fun h3 => ⟨fun h4 => ?_, fun h4 => ⟨Or.inl ⟨by rw [i_lt] at h4; omega, rfl⟩, FS.rf⟩⟩⟩⟩
  have hbs : Bs p0 := zb_1 h
  have hdv : Dv p1 := zb_1 h2
  obtain ⟨b1, b2⟩ := id hbs
  obtain ⟨d1, d2⟩ := id hdv
  rw [i_lt, e1] at h3
  rw [i_lt] at h4
  have hin : Bs p0 ∧ Dv p1 ∧ 1 ≤ p2.toInt ∧ p2.toInt < p1.toInt := ⟨hbs, hdv, by omega, h4⟩
  obtain ⟨b, hb, rfl, hb2⟩ := of_i (x := p0) (by omega)
  obtain ⟨n, hn, rfl, hn2⟩ := of_i (x := p1) (by omega)
  obtain ⟨k, hk, rfl, hk2⟩ := of_i (x := p2) (by omega)
  have no : ∀ g' a' w', FS g a w g' a' w' → ¬ TurnP b n → post_X6_turning g a w (nI b) (nI n) (nI k) (-2) g' a' w' := fun g' a' w' hf q => ⟨Or.inr ⟨hin, Or.inl ⟨by rw [tn_nI hb, tn_nI hn]; exact q, rfl⟩⟩, hf⟩
  refine ⟨show (nI n).toInt < 1000000 by omega, fun r3 hr3 => ?_⟩
  unfold post_X4_isPrime at hr3
  rw [tn_nI hn] at hr3
  subst hr3
  refine ⟨fun q => no _ _ _ FS.rf (fun z => zb_0 q z.1), fun q => ⟨nI_nz (by omega) hn, ?_⟩⟩
  rw [pk_rem hb (by omega) hn, show nI n - (1 : Int32) = nI (n - 1) from pk_sub (b := 1) (by omega)]
  have hml := Nat.mod_lt b (show 0 < n by omega)
  refine pk_eq (b % n) 0 (fun q2 => no _ _ _ FS.rf (fun z => z.2.1 q2)) (fun q2 => ⟨⟨by omega, by omega, by omega⟩, fun r4 g4 a4 w4 hr4 => ?_⟩)
  obtain ⟨⟨e, e1, e2, rfl⟩, hFS⟩ := hr4
  rw [tn_nI hb, tn_nI hn] at e1
  rw [tn_nI hn] at e2
  refine pk_eq e (n - 1) (fun q3 => ⟨⟨by omega, by rw [nI_toInt (by omega)]; omega, by rw [nI_toInt (by omega)]; omega, by omega, by omega⟩, fun r5 hr5 => ⟨Or.inr ⟨hin, Or.inr ⟨?_, ?_⟩⟩, hFS⟩⟩) (fun q3 => no _ _ _ hFS (fun z => q3 (e1.one z.2.2)))
  · rw [tn_nI hb, tn_nI hn]
    exact ⟨zb_1 q, q2, by rw [← q3]; exact e1⟩
  · unfold post_X6_leastLog at hr5
    rw [tn_nI (show b % n < 2 ^ 31 by omega)] at hr5
    rw [tn_nI hb]
    rw [tn_nI hn] at hr5 ⊢
    exact hr5
theorem turn_ord {b n : Nat} (h : TurnP b n) : IsOrd n b (n - 1) := by
  obtain ⟨hp, hb, t, hB, hr⟩ := h
  have hc : Nat.gcd n b = 1 := pr_cop hp (fun q => hb (Nat.mod_eq_zero_of_dvd q))
  have h0 : Beside b n 0 := ⟨hc, fun j hj => by omega⟩
  have := beside_one hB h0
  subst this
  have hp2 := hp.1
  rcases hr with ⟨q1, -⟩ | ⟨-, q2, -⟩
  · have : n = 1 := q1
    omega
  · exact q2
set_option maxHeartbeats 4000000 in
set_option maxRecDepth 100000 in
theorem met_X7_turning (l : Launch) (D : va_G) (cy : Nat → ClassId) (ad : Nat → Nat) (sz : Nat) (g : Gs) (a : As) (p0 : Int32) (p1 : Int32) (p2 : Int32) (post : Int32 → Prop)
  (hV : ∀ (J62 : Int64 → Int32 → Prop),
    (∀ (x4 : Int64) (x6 : Int32), ((x4 = p2.toInt64 → post x6) ∧ (¬ x4 = p2.toInt64 → ¬ p1.toInt64 = 0 ∧ (J62 ((x4 * p0.toInt64) - (x4 * p0.toInt64) / p1.toInt64 * p1.toInt64) (x6 + 1)))) → J62 x4 x6) →
    ∀ r1 : Int32, post_X7_isBase p0 r1 → ((r1 = 0 → post (-1 : Int32)) ∧ (¬ r1 = 0 → ∀ r8 : Int32, post_X7_isBy p1 r8 → ((r8 = 0 → post (-1 : Int32)) ∧ (¬ r8 = 0 → ∀ r21 : Int32, post_X7_in p2.toInt64 (1 : Int64) ((p1 - (1 : Int32)).toInt64) r21 → ((r21 = 0 → post (-1 : Int32)) ∧ (¬ r21 = 0 → pre_X7_isPrime p1 ∧ (∀ r30 : Int32, post_X7_isPrime p1 r30 → ((r30 = 0 → post (-2 : Int32)) ∧ (¬ r30 = 0 → ¬ p1 = 0 ∧ ((((p0 - p0 / p1 * p1) = 0 → post (-2 : Int32)) ∧ (¬ (p0 - p0 / p1 * p1) = 0 → pre_X7_roundOf p0 p1 ∧ (∀ r44 : Int32, post_X7_roundOf p0 p1 r44 → ((r44 = (p1 - (1 : Int32)) → J62 (1 : Int64) (0 : Int32)) ∧ (¬ r44 = (p1 - (1 : Int32)) → post (-2 : Int32))))))))))))))))) :
  Met l yX7_turning wsX7_turning ({ frames := 2, cells := 0, slots := 0, locals := 46 } : Room) (va_Pc [.ref (ad 0), .int p0, .int p1, .int p2] (ArP D cy sz (maW ad cy g a))) (Qpi post) 0 0 noF := by
  refine Met.ofW (cc := cX7_turning) (maxL := 7) (ret := (some .int)) (by decide) rfl ?_
  intro p e s m args below meth c s₁ B hml hv
  obtain ⟨rfl, hsz, hP, hK, hD0, hN⟩ := hv
  have hx := B.exec
  have hb := B.bytes
  have hr := B.returns
  have hts := atoms_spec (ws := wsX7_turning) B.pre
  have hown : s.vm.findClass RX7 = some m.cls := findClass_of_methodNamed B.named
  have hlocks := B.notSynchronized
  subst hsz
  have hP : va_P D vwCl (maW ad cy g a) s.heap := hP
  have hD : va_D (fun _ => True) (maW ad cy g a) := hD0
  obtain ⟨J62, iJ62, oJ62⟩ : ∃ J : Int64 → Int32 → Prop, (∀ (x4 : Int64) (x6 : Int32), (∀ ls : Array Slot, lv_has ls 7 [(1, .int p0), (2, .int p1), (3, .int p2), (4, .long x4), (6, .int x6)] → W p l e (headSpec wsX7_turning ({ frames := 2, cells := 0, slots := 0, locals := 46 } : Room)).room s m [.ref (ad 0), .int p0, .int p1, .int p2].toArray below meth c s.heap [] 0 0 (MQ below (Qpi post) [.ref (ad 0), .int p0, .int p1, .int p2].toArray s 0 0 noF) (F0 m 62 ls [])) → J x4 x6) ∧ (∀ (x4 : Int64) (x6 : Int32), J x4 x6 → (∀ ls : Array Slot, lv_has ls 7 [(1, .int p0), (2, .int p1), (3, .int p2), (4, .long x4), (6, .int x6)] → W p l e (headSpec wsX7_turning ({ frames := 2, cells := 0, slots := 0, locals := 46 } : Room)).room s m [.ref (ad 0), .int p0, .int p1, .int p2].toArray below meth c s.heap [] 0 0 (MQ below (Qpi post) [.ref (ad 0), .int p0, .int p1, .int p2].toArray s 0 0 noF) (F0 m 62 ls []))) := ⟨fun (x4 : Int64) (x6 : Int32) => (∀ ls : Array Slot, lv_has ls 7 [(1, .int p0), (2, .int p1), (3, .int p2), (4, .long x4), (6, .int x6)] → W p l e (headSpec wsX7_turning ({ frames := 2, cells := 0, slots := 0, locals := 46 } : Room)).room s m [.ref (ad 0), .int p0, .int p1, .int p2].toArray below meth c s.heap [] 0 0 (MQ below (Qpi post) [.ref (ad 0), .int p0, .int p1, .int p2].toArray s 0 0 noF) (F0 m 62 ls [])), fun _ _ h => h, fun _ _ h => h⟩
  have hV := hV J62
  replace hV := hV (by
    intro x4 x6 hV
    refine iJ62 x4 x6 ?_
    intro ls hl
    refine lv_lload hx hb dX7_turning_62 (lv_at hl 3 rfl) ?_
    refine lv_iload_n hx hb dX7_turning_64 rfl (lv_at hl 2 rfl) ?_
    refine lv_i2l (v := p2.toInt64) hx hb dX7_turning_65 rfl ?_
    refine lc_eq (tgt := 86) hx hb dX7_turning_66 dX7_turning_67 (by decide) (fun c_66 => ?_) (fun c_66 => ?_)
    · have hV := hV.1 c_66
      refine lv_iload hx hb dX7_turning_86 (lv_at hl 4 rfl) ?_
      exact W.iret (v := x6) hx hb hr (fun t ht hW => ⟨_, rfl, hV, ht⟩) (fun _ h => by cases h) dX7_turning_88
    · have hV := hV.2 c_66
      refine lv_lload hx hb dX7_turning_70 (lv_at hl 3 rfl) ?_
      refine lv_iload_n hx hb dX7_turning_72 rfl (lv_at hl 0 rfl) ?_
      refine lv_i2l (v := p0.toInt64) hx hb dX7_turning_73 rfl ?_
      refine lv_lmul hx hb dX7_turning_74 ?_
      refine lv_iload_n hx hb dX7_turning_75 rfl (lv_at hl 1 rfl) ?_
      refine lv_i2l (v := p1.toInt64) hx hb dX7_turning_76 rfl ?_
      obtain ⟨h_77, hV⟩ := hV
      refine lv_lrem hx hb dX7_turning_77 h_77 ?_
      refine lv_lstore (lv' := [(4, .long ((x4 * p0.toInt64) - (x4 * p0.toInt64) / p1.toInt64 * p1.toInt64)), (1, .int p0), (2, .int p1), (3, .int p2), (6, .int x6)]) hx hb dX7_turning_78 hl (by decide) rfl (fun ls hl => ?_)
      refine lv_iinc (v := x6 + 1) (lv' := [(6, .int (x6 + 1)), (4, .long ((x4 * p0.toInt64) - (x4 * p0.toInt64) / p1.toInt64 * p1.toInt64)), (1, .int p0), (2, .int p1), (3, .int p2)]) hx hb dX7_turning_80 hl (k := 4) rfl rfl (by decide) rfl (fun ls hl => ?_)
      refine lv_goto (tgt := 62) hx hb dX7_turning_83 (by decide) ?_
      exact oJ62 _ _ hV _ (lv_sub hl [2, 3, 4, 1, 0] rfl))
  have hl := lv_entry ([.ref (ad 0), .int p0, .int p1, .int p2]) (n := 7) (Nat.le_of_ble_eq_true rfl)
  rw [lg_entry_eq]
  generalize (lg_sl ([.ref (ad 0), .int p0, .int p1, .int p2]) ++ List.replicate (7 - (lg_sl ([.ref (ad 0), .int p0, .int p1, .int p2])).length) Slot.unset).toArray = ls at hl ⊢
  have hl : lv_has ls 7 [(0, .ref (ad 0)), (1, .int p0), (2, .int p1), (3, .int p2)] := hl
  refine lv_iload_n hx hb dX7_turning_0 rfl (lv_at hl 1 rfl) ?_
  refine cp_i (va_runS (As := [.int p0]) (rest := []) ⟨hx, hb, hml, hown, hts⟩ (spec_X7_isBase l p0) (va_cwS 1 hts gX7_turning_X7_isBase rfl rfl rfl (by decide +kernel) ⟨Nat.le_of_ble_eq_true rfl, Nat.le_of_ble_eq_true rfl⟩) cp_pre rfl rfl hl.1 rfl (lv_room (Nat.le_of_ble_eq_true rfl)) dX7_turning_1 ⟨Nat.zero_le _, Nat.zero_le _⟩) (fun r1 q_1 => ?_)
  have hV := hV r1 q_1
  refine lv_if_eq (tgt := 27) hx hb dX7_turning_4 (by decide) (fun c_4 => ?_) (fun c_4 => ?_)
  · have hV := hV.1 c_4
    refine lv_iconst (v := (-1 : Int32)) hx hb dX7_turning_27 (by decide) ?_
    exact W.iret (v := (-1 : Int32)) hx hb hr (fun t ht hW => ⟨_, rfl, hV, ht⟩) (fun _ h => by cases h) dX7_turning_28
  · have hV := hV.2 c_4
    refine lv_iload_n hx hb dX7_turning_7 rfl (lv_at hl 2 rfl) ?_
    refine cp_i (va_runS (As := [.int p1]) (rest := []) ⟨hx, hb, hml, hown, hts⟩ (spec_X7_isBy l p1) (va_cwS 1 hts gX7_turning_X7_isBy rfl rfl rfl (by decide +kernel) ⟨Nat.le_of_ble_eq_true rfl, Nat.le_of_ble_eq_true rfl⟩) cp_pre rfl rfl hl.1 rfl (lv_room (Nat.le_of_ble_eq_true rfl)) dX7_turning_8 ⟨Nat.zero_le _, Nat.zero_le _⟩) (fun r8 q_8 => ?_)
    have hV := hV r8 q_8
    refine lv_if_eq (tgt := 27) hx hb dX7_turning_11 (by decide) (fun c_11 => ?_) (fun c_11 => ?_)
    · have hV := hV.1 c_11
      refine lv_iconst (v := (-1 : Int32)) hx hb dX7_turning_27 (by decide) ?_
      exact W.iret (v := (-1 : Int32)) hx hb hr (fun t ht hW => ⟨_, rfl, hV, ht⟩) (fun _ h => by cases h) dX7_turning_28
    · have hV := hV.2 c_11
      refine lv_iload_n hx hb dX7_turning_14 rfl (lv_at hl 3 rfl) ?_
      refine lv_i2l (v := p2.toInt64) hx hb dX7_turning_15 rfl ?_
      refine lv_lconst (v := (1 : Int64)) hx hb dX7_turning_16 (by decide) ?_
      refine lv_iload_n hx hb dX7_turning_17 rfl (lv_at hl 2 rfl) ?_
      refine lv_iconst (v := (1 : Int32)) hx hb dX7_turning_18 (by decide) ?_
      refine lv_isub hx hb dX7_turning_19 ?_
      refine lv_i2l (v := (p1 - (1 : Int32)).toInt64) hx hb dX7_turning_20 rfl ?_
      refine cp_i (va_runS (As := [.long p2.toInt64, .long (1 : Int64), .long ((p1 - (1 : Int32)).toInt64)]) (rest := []) ⟨hx, hb, hml, hown, hts⟩ (spec_X7_in l p2.toInt64 (1 : Int64) ((p1 - (1 : Int32)).toInt64)) (va_cwS 3 hts gX7_turning_X7_in rfl rfl rfl (by decide +kernel) ⟨Nat.le_of_ble_eq_true rfl, Nat.le_of_ble_eq_true rfl⟩) cp_pre rfl rfl hl.1 rfl (lv_room (Nat.le_of_ble_eq_true rfl)) dX7_turning_21 ⟨Nat.zero_le _, Nat.zero_le _⟩) (fun r21 q_21 => ?_)
      have hV := hV r21 q_21
      refine lv_if_ne (tgt := 29) hx hb dX7_turning_24 (by decide) (fun c_24 => ?_) (fun c_24 => ?_)
      · have hV := hV.2 c_24
        refine lv_iload_n hx hb dX7_turning_29 rfl (lv_at hl 2 rfl) ?_
        obtain ⟨h_30, hV⟩ := hV
        refine cp_i (va_runS (As := [.int p1]) (rest := []) ⟨hx, hb, hml, hown, hts⟩ (spec_X7_isPrime l p1 h_30) (va_cwS 1 hts gX7_turning_X7_isPrime rfl rfl rfl (by decide +kernel) ⟨Nat.le_of_ble_eq_true rfl, Nat.le_of_ble_eq_true rfl⟩) cp_pre rfl rfl hl.1 rfl (lv_room (Nat.le_of_ble_eq_true rfl)) dX7_turning_30 ⟨Nat.zero_le _, Nat.zero_le _⟩) (fun r30 q_30 => ?_)
        have hV := hV r30 q_30
        refine lv_if_eq (tgt := 53) hx hb dX7_turning_33 (by decide) (fun c_33 => ?_) (fun c_33 => ?_)
        · have hV := hV.1 c_33
          refine lv_bipush (v := (-2 : Int32)) hx hb dX7_turning_53 (by decide) ?_
          exact W.iret (v := (-2 : Int32)) hx hb hr (fun t ht hW => ⟨_, rfl, hV, ht⟩) (fun _ h => by cases h) dX7_turning_55
        · have hV := hV.2 c_33
          refine lv_iload_n hx hb dX7_turning_36 rfl (lv_at hl 1 rfl) ?_
          refine lv_iload_n hx hb dX7_turning_37 rfl (lv_at hl 2 rfl) ?_
          obtain ⟨h_38, hV⟩ := hV
          refine lv_irem hx hb dX7_turning_38 h_38 ?_
          refine lv_if_eq (tgt := 53) hx hb dX7_turning_39 (by decide) (fun c_39 => ?_) (fun c_39 => ?_)
          · have hV := hV.1 c_39
            refine lv_bipush (v := (-2 : Int32)) hx hb dX7_turning_53 (by decide) ?_
            exact W.iret (v := (-2 : Int32)) hx hb hr (fun t ht hW => ⟨_, rfl, hV, ht⟩) (fun _ h => by cases h) dX7_turning_55
          · have hV := hV.2 c_39
            refine lv_iload_n hx hb dX7_turning_42 rfl (lv_at hl 1 rfl) ?_
            refine lv_iload_n hx hb dX7_turning_43 rfl (lv_at hl 2 rfl) ?_
            obtain ⟨h_44, hV⟩ := hV
            refine cp_i (va_runS (As := [.int p0, .int p1]) (rest := []) ⟨hx, hb, hml, hown, hts⟩ (spec_X7_roundOf l p0 p1 h_44) (va_cwS 2 hts gX7_turning_X7_roundOf rfl rfl rfl (by decide +kernel) ⟨Nat.le_of_ble_eq_true rfl, Nat.le_of_ble_eq_true rfl⟩) cp_pre rfl rfl hl.1 rfl (lv_room (Nat.le_of_ble_eq_true rfl)) dX7_turning_44 ⟨Nat.zero_le _, Nat.zero_le _⟩) (fun r44 q_44 => ?_)
            have hV := hV r44 q_44
            refine lv_iload_n hx hb dX7_turning_47 rfl (lv_at hl 2 rfl) ?_
            refine lv_iconst (v := (1 : Int32)) hx hb dX7_turning_48 (by decide) ?_
            refine lv_isub hx hb dX7_turning_49 ?_
            refine lv_icmp_eq (tgt := 56) hx hb dX7_turning_50 (by decide) (fun c_50 => ?_) (fun c_50 => ?_)
            · have hV := hV.1 c_50
              refine lv_lconst (v := (1 : Int64)) hx hb dX7_turning_56 (by decide) ?_
              refine lv_lstore (lv' := [(4, .long (1 : Int64)), (0, .ref (ad 0)), (1, .int p0), (2, .int p1), (3, .int p2)]) hx hb dX7_turning_57 hl (by decide) rfl (fun ls hl => ?_)
              refine lv_iconst (v := (0 : Int32)) hx hb dX7_turning_59 (by decide) ?_
              refine lv_istore (lv' := [(6, .int (0 : Int32)), (4, .long (1 : Int64)), (0, .ref (ad 0)), (1, .int p0), (2, .int p1), (3, .int p2)]) hx hb dX7_turning_60 hl (by decide) rfl (fun ls hl => ?_)
              exact oJ62 _ _ hV _ (lv_sub hl [3, 4, 5, 1, 0] rfl)
            · have hV := hV.2 c_50
              refine lv_bipush (v := (-2 : Int32)) hx hb dX7_turning_53 (by decide) ?_
              exact W.iret (v := (-2 : Int32)) hx hb hr (fun t ht hW => ⟨_, rfl, hV, ht⟩) (fun _ h => by cases h) dX7_turning_55
      · have hV := hV.1 c_24
        refine lv_iconst (v := (-1 : Int32)) hx hb dX7_turning_27 (by decide) ?_
        exact W.iret (v := (-1 : Int32)) hx hb hr (fun t ht hW => ⟨_, rfl, hV, ht⟩) (fun _ h => by cases h) dX7_turning_28
def post_X7_turning (g : Gs) (a : As) (p0 p1 p2 r : Int32) : Prop := TurnAns p0 p1 p2 r
set_option maxRecDepth 4000 in
theorem spec_X7_turning (l : Launch) (D : va_G) (cy : Nat → ClassId) (ad : Nat → Nat) (sz : Nat) (g : Gs) (a : As) (p0 : Int32) (p1 : Int32) (p2 : Int32) : Met l yX7_turning wsX7_turning ({ frames := 2, cells := 0, slots := 0, locals := 46 } : Room) (va_Pc [.ref (ad 0), .int p0, .int p1, .int p2] (ArP D cy sz (maW ad cy g a))) (Qpi (post_X7_turning g a p0 p1 p2)) 0 0 noF := by
  apply met_X7_turning
  intro J hJ r hr
  unfold post_X7_isBase at hr
  subst hr
  have l1 : (1 : Int64).toInt = 1 := rfl
  refine ⟨fun h => Or.inl ⟨Or.inl (zb_0 h), rfl⟩, fun h r2 hr2 => ?_⟩
  unfold post_X7_isBy at hr2
  subst hr2
  refine ⟨fun h2 => Or.inl ⟨Or.inr (Or.inl (zb_0 h2)), rfl⟩, fun h2 r3 hr3 => ?_⟩
  have hbs : Bs p0 := zb_1 h
  have hdv : Dv p1 := zb_1 h2
  obtain ⟨b1, b2⟩ := id hbs
  obtain ⟨d1, d2⟩ := id hdv
  obtain ⟨b, hb, rfl, hb2⟩ := of_i (x := p0) (by omega)
  obtain ⟨n, hn, rfl, hn2⟩ := of_i (x := p1) (by omega)
  have es : nI n - (1 : Int32) = nI (n - 1) := pk_sub (b := 1) (by omega)
  unfold post_X7_in at hr3
  rw [es, il_t, il_t, l1, nI_toInt (by omega)] at hr3
  subst hr3
  refine ⟨fun h3 => Or.inl ⟨by have := zb_0 h3; omega, rfl⟩, fun h3 => ⟨show (nI n).toInt < 1000000 by omega, fun r4 hr4 => ?_⟩⟩
  have h3 := zb_1 h3
  obtain ⟨k, hk, rfl, hk2⟩ := of_i (x := p2) (by omega)
  have hin : Bs (nI b) ∧ Dv (nI n) ∧ 1 ≤ (nI k).toInt ∧ (nI k).toInt < (nI n).toInt := ⟨hbs, hdv, by omega, by omega⟩
  have no : ¬ TurnP b n → post_X7_turning g a (nI b) (nI n) (nI k) (-2) := fun q => Or.inr ⟨hin, Or.inl ⟨by rw [tn_nI hb, tn_nI hn]; exact q, rfl⟩⟩
  unfold post_X7_isPrime at hr4
  rw [tn_nI hn] at hr4
  subst hr4
  refine ⟨fun q => no (fun z => zb_0 q z.1), fun q => ⟨nI_nz (by omega) hn, ?_⟩⟩
  rw [pk_rem hb (by omega) hn, es]
  have hml := Nat.mod_lt b (show 0 < n by omega)
  refine pk_eq (b % n) 0 (fun q2 => no (fun z => z.2.1 q2)) (fun q2 => ⟨⟨by omega, by omega, by omega⟩, fun r4 hr4 => ?_⟩)
  obtain ⟨e, e1, e2, rfl⟩ := hr4
  rw [tn_nI hb, tn_nI hn] at e1
  rw [tn_nI hn] at e2
  refine pk_eq e (n - 1) (fun q3 => ?_) (fun q3 => no (fun z => q3 (e1.one z.2.2)))
  have hT : TurnP b n := ⟨zb_1 q, q2, by rw [← q3]; exact e1⟩
  have ho := turn_ord hT
  have hU : U n = n - 1 := by
    have := U_pp (t := 1) hT.1 (Nat.le_refl 1)
    rwa [Nat.pow_one, Nat.sub_self, Nat.pow_zero, Nat.one_mul] at this
  have hck : Nat.gcd n k = 1 := pr_cop hT.1 (fun hd => by have := Nat.le_of_dvd (by omega) hd; omega)
  obtain ⟨j0, j1, j2⟩ := ord_onto (by omega) ho hU (show k < n by omega) hck
  obtain ⟨z, z1, z2⟩ := pk_least (fun j => b ^ j % n = k) ⟨j0, j2⟩
  have hzj : z ≤ j0 := Nat.not_lt.mp fun y => z2 j0 y j2
  rw [nI_l hn, nI_l hb, nI_l hk] at hJ
  have key : ∀ (d j : Nat), j + d = z → J (lN (b ^ j % n)) (nI j) := by
    intro d
    induction d with
    | zero =>
      intro j hj
      have : j = z := by omega
      subst this
      refine hJ _ _ (ql_eq (b ^ j % n) k (fun _ => Or.inr ⟨hin, Or.inr ⟨by rw [tn_nI hb, tn_nI hn]; exact hT, Or.inl ⟨j, by rw [tn_nI hn]; omega, ?_, rfl⟩⟩⟩) (fun y => absurd z1 y) rfl rfl (by omega) (by omega))
      rw [tn_nI hb, tn_nI hn, tn_nI hk]
      refine ⟨by rw [← Nat.pow_mod]; exact z1, fun i hi => ?_⟩
      rw [← Nat.pow_mod]
      exact z2 i hi
    | succ d ih =>
      intro j hj
      have hjl := Nat.mod_lt (b ^ j) (show 0 < n by omega)
      refine hJ _ _ (ql_eq (b ^ j % n) k (fun y => absurd y (z2 j (by omega))) (fun _ => ⟨lN_nz (by omega) (by omega), ?_⟩) rfl rfl (by omega) (by omega))
      have hm : b ^ j % n * b ≤ 50000 * 36 := Nat.mul_le_mul (by omega) (by omega)
      rw [lN_mul, pk_lRem (by omega) (by omega) (by omega), nI_1, Nat.mod_mul_mod, ← Nat.pow_succ]
      exact ih (j + 1) (by omega)
  have st := key z 0 (by omega)
  rw [Nat.pow_zero, Nat.mod_eq_of_lt (by omega)] at st
  exact st
