/-! squares -/
/-- the first one that is so -/
def First (p : Nat → Prop) (N : Nat) (r : Int32) : Prop := (∃ x, x < N ∧ p x ∧ (∀ y, y < x → ¬ p y) ∧ r = nI x) ∨ ((∀ x, x < N → ¬ p x) ∧ r = -4)
theorem First.one {p : Nat → Prop} {N : Nat} {r r' : Int32} (h : First p N r) (h' : First p N r') : r = r' := by
  rcases h with ⟨x, h1, h2, h3, h4⟩ | ⟨h1, h2⟩ <;> rcases h' with ⟨y, k1, k2, k3, k4⟩ | ⟨k1, k2⟩
  · rw [h4, k4, fb_first_one h2 h3 k2 k3]
  · exact absurd h2 (k1 x h1)
  · exact absurd k2 (h1 y k1)
  · rw [h2, k2]
theorem First.cong {p q : Nat → Prop} {N : Nat} {r : Int32} (h : First p N r) (e : ∀ x, x < N → (p x ↔ q x)) : First q N r := by
  rcases h with ⟨x, h1, h2, h3, h4⟩ | ⟨h1, h2⟩
  · exact Or.inl ⟨x, h1, (e x h1).mp h2, fun y hy q => h3 y hy ((e y (by omega)).mpr q), h4⟩
  · exact Or.inr ⟨fun x hx q => h1 x hx ((e x hx).mpr q), h2⟩
def rsR (p : Nat → Bool) : Nat → Nat
  | 0 => 0
  | k + 1 => if p k = true then rsR p k + 1 else 0
def rsM (p : Nat → Bool) : Nat → Nat
  | 0 => 0
  | k + 1 => if rsM p k < rsR p (k + 1) then rsR p (k + 1) else rsM p k
def rsB (p : Nat → Bool) : Nat → Nat
  | 0 => 0
  | k + 1 => if rsM p k < rsR p (k + 1) then k + 1 - rsR p (k + 1) else rsB p k
theorem rsR_le {p : Nat → Bool} : ∀ k, rsR p k ≤ k
  | 0 => Nat.le_refl 0
  | k + 1 => by
    have := rsR_le (p := p) k
    unfold rsR
    split <;> omega
theorem rsR_le0 {p : Nat → Bool} (h0 : p 0 = false) : ∀ k, rsR p (k + 1) ≤ k
  | 0 => by unfold rsR; rw [h0]; exact Nat.le_refl 0
  | k + 1 => by
    have := rsR_le0 h0 k
    rw [rsR]
    split <;> omega
theorem rsM_le {p : Nat → Bool} : ∀ k, rsM p k ≤ k
  | 0 => Nat.le_refl 0
  | k + 1 => by
    have := rsM_le (p := p) k
    have := rsR_le (p := p) (k + 1)
    unfold rsM
    split <;> omega
theorem rs_cong {p q : Nat → Bool} : ∀ {n : Nat}, (∀ k, k < n → p k = q k) → rsR p n = rsR q n ∧ rsM p n = rsM q n ∧ rsB p n = rsB q n
  | 0, _ => ⟨rfl, rfl, rfl⟩
  | n + 1, h => by
    obtain ⟨h1, h2, h3⟩ := rs_cong (n := n) (fun k hk => h k (by omega))
    have e : rsR p (n + 1) = rsR q (n + 1) := by rw [rsR, rsR, h n (by omega), h1]
    exact ⟨e, by rw [rsM, rsM, e, h2], by rw [rsB, rsB, e, h2, h3]⟩
/-- squares of units -/
def SqP (n x : Nat) : Prop := ∃ y, y < n ∧ Nat.gcd n y = 1 ∧ y * y % n = x
noncomputable def SqB (n x : Nat) : Bool := cb (SqP n x)
theorem sq_unit {n x : Nat} (h : SqP n x) : Nat.gcd n x = 1 := by
  obtain ⟨y, -, h2, rfl⟩ := h
  rw [cop_mod]
  exact Nat.Coprime.mul_right h2 h2
theorem sq_half {n x : Nat} (hn : 2 ≤ n) : ((∃ y, 1 ≤ y ∧ 2 * y ≤ n ∧ y * y % n = x) ∧ Nat.gcd n x = 1) ↔ SqP n x := by
  constructor
  · rintro ⟨⟨y, y1, y2, rfl⟩, hc⟩
    rw [cop_mod] at hc
    exact ⟨y, by omega, Nat.Coprime.coprime_mul_left_right hc, rfl⟩
  · intro h
    refine ⟨?_, sq_unit h⟩
    obtain ⟨y, y1, y2, rfl⟩ := h
    have hy0 : y ≠ 0 := fun e => by rw [e, Nat.gcd_zero_right] at y2; omega
    by_cases hh : 2 * y ≤ n
    · exact ⟨y, by omega, hh, rfl⟩
    · refine ⟨n - y, by omega, by omega, ?_⟩
      obtain ⟨z, rfl⟩ : ∃ z, n = y + z := ⟨n - y, by omega⟩
      rw [Nat.add_sub_cancel_left]
      have e : z * z + y * (y + z) = y * y + z * (y + z) := by
        rw [Nat.mul_add, Nat.mul_add, Nat.mul_comm z y]; omega
      have e1 : (z * z + y * (y + z)) % (y + z) = z * z % (y + z) := Nat.add_mul_mod_self_right _ _ _
      have e2 : (y * y + z * (y + z)) % (y + z) = y * y % (y + z) := Nat.add_mul_mod_self_right _ _ _
      rw [← e1, e, e2]
def pre_X6_markSquares (g : Gs) (a : As) (w : Ws) (p0 : Int32) : Prop := Dv p0
set_option maxHeartbeats 4000000 in
set_option maxRecDepth 100000 in
theorem met_X6_markSquares (l : Launch) (D : va_G) (cy : Nat → ClassId) (ad : Nat → Nat) (sz : Nat) (g : Gs) (a : As) (w : Ws) (p0 : Int32) (post : Gs → As → Ws → Prop)
  (hV : ∀ (J9 : Int64 → Gs → As → Ws → Prop),
    (∀ (x2 : Int64) (g_ : Gs) (a_ : As) (w_ : Ws), ((p0.toInt64 < ((2 : Int64) * x2) → post g_ a_ w_) ∧ (¬ p0.toInt64 < ((2 : Int64) * x2) → ∀ r28 : Int32, post_X4_rest (x2 * x2) p0 r28 → pre_X3_put g_ a_ w_ r28 ∧ (∀ (g31 : Gs) (a31 : As) (w31 : Ws), post_X3_put g_ a_ w_ r28 g31 a31 w31 → J9 (x2 + (1 : Int64)) g31 a31 w31))) → J9 x2 g_ a_ w_) →
    ∀ (g4 : Gs) (a4 : As) (w4 : Ws), post_X3_wipeAll g a w g4 a4 w4 → J9 (1 : Int64) g4 a4 w4) :
  Met l yX6_markSquares wsX6_markSquares ({ frames := 1, cells := 0, slots := 0, locals := 22 } : Room) (va_Pc [.ref (ad 0), .int p0] (ArP D cy sz (caW ad cy g a w))) (va_Qv (fun (u : Gs × As × Ws) => post u.1 u.2.1 u.2.2) (fun u t => va_P D vwCl (caW ad cy u.1 u.2.1 u.2.2) t.heap) (va_A (caW ad cy g a w) sz)) 0 0 (va_A (caW ad cy g a w) sz) := by
  refine Met.ofW (cc := cX6_markSquares) (maxL := 4) (ret := none) (by decide) rfl ?_
  intro p e s m args below meth c s₁ B hml hv
  obtain ⟨rfl, hsz, hP, hK, hD0, hN⟩ := hv
  have hx := B.exec
  have hb := B.bytes
  have hr := B.returns
  have hts := atoms_spec (ws := wsX6_markSquares) B.pre
  have hown : s.vm.findClass RX6 = some m.cls := findClass_of_methodNamed B.named
  have hlocks := B.notSynchronized
  subst hsz
  have hD := hD0.self (sz := s.heap.size)
  have hP : va_P D vwCl (caW ad cy g a w) s.heap := hP
  have hD : va_D (va_A (caW ad cy g a w) s.heap.size) (caW ad cy g a w) := hD
  have hS : va_S (va_A (caW ad cy g a w) s.heap.size) s.heap s.heap [] := va_S.rf
  have hA : ∀ q : Nat, s.heap.size ≤ q → va_A (caW ad cy g a w) s.heap.size q := fun q h => Or.inr h
  obtain ⟨J9, iJ9, oJ9⟩ : ∃ J : Int64 → Gs → As → Ws → Prop, (∀ (x2 : Int64) (g_ : Gs) (a_ : As) (w_ : Ws), (∀ (H : Heap) (locs : List Loc), va_P D vwCl (caW ad cy g_ a_ w_) H → va_S (va_A (caW ad cy g a w) s.heap.size) s.heap H locs → ∀ ls : Array Slot, lv_has ls 4 [(0, .ref (ad 0)), (1, .int p0), (2, .long x2)] → W p l e (headSpec wsX6_markSquares ({ frames := 1, cells := 0, slots := 0, locals := 22 } : Room)).room s m [.ref (ad 0), .int p0].toArray below meth c H locs 0 0 (MQ below (va_Qv (fun (u : Gs × As × Ws) => post u.1 u.2.1 u.2.2) (fun u t => va_P D vwCl (caW ad cy u.1 u.2.1 u.2.2) t.heap) (va_A (caW ad cy g a w) s.heap.size)) [.ref (ad 0), .int p0].toArray s 0 0 (va_A (caW ad cy g a w) s.heap.size)) (F0 m 9 ls [])) → J x2 g_ a_ w_) ∧ (∀ (x2 : Int64) (g_ : Gs) (a_ : As) (w_ : Ws), J x2 g_ a_ w_ → (∀ (H : Heap) (locs : List Loc), va_P D vwCl (caW ad cy g_ a_ w_) H → va_S (va_A (caW ad cy g a w) s.heap.size) s.heap H locs → ∀ ls : Array Slot, lv_has ls 4 [(0, .ref (ad 0)), (1, .int p0), (2, .long x2)] → W p l e (headSpec wsX6_markSquares ({ frames := 1, cells := 0, slots := 0, locals := 22 } : Room)).room s m [.ref (ad 0), .int p0].toArray below meth c H locs 0 0 (MQ below (va_Qv (fun (u : Gs × As × Ws) => post u.1 u.2.1 u.2.2) (fun u t => va_P D vwCl (caW ad cy u.1 u.2.1 u.2.2) t.heap) (va_A (caW ad cy g a w) s.heap.size)) [.ref (ad 0), .int p0].toArray s 0 0 (va_A (caW ad cy g a w) s.heap.size)) (F0 m 9 ls []))) := ⟨fun (x2 : Int64) (g_ : Gs) (a_ : As) (w_ : Ws) => (∀ (H : Heap) (locs : List Loc), va_P D vwCl (caW ad cy g_ a_ w_) H → va_S (va_A (caW ad cy g a w) s.heap.size) s.heap H locs → ∀ ls : Array Slot, lv_has ls 4 [(0, .ref (ad 0)), (1, .int p0), (2, .long x2)] → W p l e (headSpec wsX6_markSquares ({ frames := 1, cells := 0, slots := 0, locals := 22 } : Room)).room s m [.ref (ad 0), .int p0].toArray below meth c H locs 0 0 (MQ below (va_Qv (fun (u : Gs × As × Ws) => post u.1 u.2.1 u.2.2) (fun u t => va_P D vwCl (caW ad cy u.1 u.2.1 u.2.2) t.heap) (va_A (caW ad cy g a w) s.heap.size)) [.ref (ad 0), .int p0].toArray s 0 0 (va_A (caW ad cy g a w) s.heap.size)) (F0 m 9 ls [])), fun _ _ _ _ h => h, fun _ _ _ _ h => h⟩
  have hV := hV J9
  replace hV := hV (by
    intro x2 g_ a_ w_ hV
    refine iJ9 x2 g_ a_ w_ ?_
    intro H locs hP hS ls hl
    refine lv_ldc2 (v := (2 : Int64)) hx hb hown (hts (.constantLong RX6 286 (2)) (by decide +kernel)) dX6_markSquares_9 ?_
    refine lv_lload_n hx hb dX6_markSquares_12 rfl (lv_at hl 2 rfl) ?_
    refine lv_lmul hx hb dX6_markSquares_13 ?_
    refine lv_iload_n hx hb dX6_markSquares_14 rfl (lv_at hl 1 rfl) ?_
    refine lv_i2l (v := p0.toInt64) hx hb dX6_markSquares_15 rfl ?_
    refine lc_gt (tgt := 41) hx hb dX6_markSquares_16 dX6_markSquares_17 (by decide) (fun c_16 => ?_) (fun c_16 => ?_)
    · have hV := hV.1 c_16
      exact W.vret hx hb hr (fun t ht hW => ⟨⟨(g_, a_, w_), rfl, hV, ar_heap ht hP⟩, hS.F ht⟩) hS.2.2 dX6_markSquares_41
    · have hV := hV.2 c_16
      refine lv_aload_n hx hb dX6_markSquares_20 rfl (lv_at hl 0 rfl) ?_
      refine va_get (D := D) (ci := 5) (v := .ref (ad 7)) (C := RX6) (T := TX6) (N := 10) hx hb hts (by decide +kernel) hown hK hP 0 rfl rfl 2 (by decide) (hts (.fieldLink RX6 22 "PowerRests" "marks" "LPowerRests$Marks;") (by decide +kernel)) (fun _ h9 => h9) rfl dX6_markSquares_21 ?_
      refine lv_lload_n hx hb dX6_markSquares_24 rfl (lv_at hl 2 rfl) ?_
      refine lv_lload_n hx hb dX6_markSquares_25 rfl (lv_at hl 2 rfl) ?_
      refine lv_lmul hx hb dX6_markSquares_26 ?_
      refine lv_iload_n hx hb dX6_markSquares_27 rfl (lv_at hl 1 rfl) ?_
      refine cp_i (va_runS (As := [.long (x2 * x2), .int p0]) (rest := [.ref (ad 7)]) ⟨hx, hb, hml, hown, hts⟩ (spec_X4_rest l (x2 * x2) p0) (va_cwS 2 hts gX6_markSquares_X4_rest rfl rfl rfl (by decide +kernel) ⟨Nat.le_of_ble_eq_true rfl, Nat.le_of_ble_eq_true rfl⟩) cp_pre rfl rfl hl.1 rfl (lv_room (Nat.le_of_ble_eq_true rfl)) dX6_markSquares_28 ⟨Nat.zero_le _, Nat.zero_le _⟩) (fun r28 q_28 => ?_)
      have hV := hV r28 q_28
      obtain ⟨h_31, hV⟩ := hV
      refine cw_v (va_runV (As := [.int r28]) (rest := []) ⟨hx, hb, hml, hown, hts⟩ (spec_X3_put l D cy ad _ g_ a_ w_ r28 h_31) (cwV 1 hts gX6_markSquares_X3_put rfl rfl rfl (by decide +kernel) ⟨Nat.le_of_ble_eq_true rfl, Nat.le_of_ble_eq_true rfl⟩) (ar_preV hN hK hP (caD hD) (ci := 3) (q0 := 7) rfl rfl) rfl rfl hl.1 rfl (lv_room (Nat.le_of_ble_eq_true rfl)) dX6_markSquares_31 ⟨Nat.zero_le _, Nat.zero_le _⟩) hS (caD hD) hA (fun u_31 H locs q_31 hP hS => ?_)
      obtain ⟨g31, a31, w31⟩ := u_31
      have hV := hV g31 a31 w31 q_31
      have hP : va_P D vwCl (caW ad cy g31 a31 w31) H := hP
      refine lv_lload_n hx hb dX6_markSquares_34 rfl (lv_at hl 2 rfl) ?_
      refine lv_lconst (v := (1 : Int64)) hx hb dX6_markSquares_35 (by decide) ?_
      refine lv_ladd hx hb dX6_markSquares_36 ?_
      refine lv_lstore_n (lv' := [(2, .long (x2 + (1 : Int64))), (0, .ref (ad 0)), (1, .int p0)]) hx hb dX6_markSquares_37 rfl hl (by decide) rfl (fun ls hl => ?_)
      refine lv_goto (tgt := 9) hx hb dX6_markSquares_38 (by decide) ?_
      exact oJ9 _ _ _ _ hV _ _ hP hS _ (lv_sub hl [1, 2, 0] rfl))
  have hl := lv_entry ([.ref (ad 0), .int p0]) (n := 4) (Nat.le_of_ble_eq_true rfl)
  rw [lg_entry_eq]
  generalize (lg_sl ([.ref (ad 0), .int p0]) ++ List.replicate (4 - (lg_sl ([.ref (ad 0), .int p0])).length) Slot.unset).toArray = ls at hl ⊢
  have hl : lv_has ls 4 [(0, .ref (ad 0)), (1, .int p0)] := hl
  refine lv_aload_n hx hb dX6_markSquares_0 rfl (lv_at hl 0 rfl) ?_
  refine va_get (D := D) (ci := 5) (v := .ref (ad 7)) (C := RX6) (T := TX6) (N := 10) hx hb hts (by decide +kernel) hown hK hP 0 rfl rfl 2 (by decide) (hts (.fieldLink RX6 22 "PowerRests" "marks" "LPowerRests$Marks;") (by decide +kernel)) (fun _ h9 => h9) rfl dX6_markSquares_1 ?_
  refine cw_v (va_runV (As := []) (rest := []) ⟨hx, hb, hml, hown, hts⟩ (spec_X3_wipeAll l D cy ad _ g a w) (cwV 0 hts gX6_markSquares_X3_wipeAll rfl rfl rfl (by decide +kernel) ⟨Nat.le_of_ble_eq_true rfl, Nat.le_of_ble_eq_true rfl⟩) (ar_preV hN hK hP (caD hD) (ci := 3) (q0 := 7) rfl rfl) rfl rfl hl.1 rfl (lv_room (Nat.le_of_ble_eq_true rfl)) dX6_markSquares_4 ⟨Nat.zero_le _, Nat.zero_le _⟩) hS (caD hD) hA (fun u_4 H locs q_4 hP hS => ?_)
  obtain ⟨g4, a4, w4⟩ := u_4
  have hV := hV g4 a4 w4 q_4
  have hP : va_P D vwCl (caW ad cy g4 a4 w4) H := hP
  refine lv_lconst (v := (1 : Int64)) hx hb dX6_markSquares_7 (by decide) ?_
  refine lv_lstore_n (lv' := [(2, .long (1 : Int64)), (0, .ref (ad 0)), (1, .int p0)]) hx hb dX6_markSquares_8 rfl hl (by decide) rfl (fun ls hl => ?_)
  exact oJ9 _ _ _ _ hV _ _ hP hS _ (lv_sub hl [1, 2, 0] rfl)
def post_X6_markSquares (g : Gs) (a : As) (w : Ws) (p0 : Int32) (g' : Gs) (a' : As) (w' : Ws) : Prop := Marked (fun x => ∃ y, 1 ≤ y ∧ 2 * y ≤ tn p0 ∧ y * y % tn p0 = x) g a w g' a' w'
set_option maxRecDepth 4000 in
theorem spec_X6_markSquares (l : Launch) (D : va_G) (cy : Nat → ClassId) (ad : Nat → Nat) (sz : Nat) (g : Gs) (a : As) (w : Ws) (p0 : Int32) (hpre : pre_X6_markSquares g a w p0) : Met l yX6_markSquares wsX6_markSquares ({ frames := 1, cells := 0, slots := 0, locals := 22 } : Room) (va_Pc [.ref (ad 0), .int p0] (ArP D cy sz (caW ad cy g a w))) (va_Qv (fun (u : Gs × As × Ws) => (post_X6_markSquares g a w p0) u.1 u.2.1 u.2.2) (fun u t => va_P D vwCl (caW ad cy u.1 u.2.1 u.2.2) t.heap) (va_A (caW ad cy g a w) sz)) 0 0 (va_A (caW ad cy g a w) sz) := by
  apply met_X6_markSquares
  intro J hJ
  obtain ⟨d1, d2⟩ := id (show Dv p0 from hpre)
  obtain ⟨n, hn, rfl, hn2⟩ := of_i (x := p0) (by omega)
  have tnn : tn (nI n) = n := tn_nI hn
  rintro g1 a1 w1 ⟨rfl, rfl, f0, rfl, hf0⟩
  rw [nI_l hn] at hJ
  have key : ∀ (d k : Nat) (f : Nat → Int64), k + d = n / 2 + 1 → 1 ≤ k → (∀ x, x < 50000 → (mB f x = true ↔ ∃ y, 1 ≤ y ∧ y < k ∧ y * y % n = x)) → J (lN k) g1 a1 (va_up w 8 f) := by
    intro d
    induction d with
    | zero =>
      intro k f hk hk1 hf
      refine hJ _ _ _ _ ?_
      rw [show (2 : Int64) = lN 2 from rfl, lN_mul]
      refine ql_lt n (2 * k) (fun _ => ⟨rfl, rfl, f, rfl, fun x hx => ?_⟩) (fun h => absurd h (by omega))
      rw [tnn, hf x hx]
      constructor
      · rintro ⟨y, y1, y2, y3⟩
        exact ⟨y, y1, by omega, y3⟩
      · rintro ⟨y, y1, y2, y3⟩
        exact ⟨y, y1, by omega, y3⟩
    | succ d ih =>
      intro k f hk hk1 hf
      refine hJ _ _ _ _ ?_
      have hkk : k * k < 2 ^ 62 := Nat.lt_of_le_of_lt (Nat.mul_le_mul (show k ≤ 50000 by omega) (show k ≤ 50000 by omega)) (by decide)
      have hml := Nat.mod_lt (k * k) (show 0 < n by omega)
      rw [show (2 : Int64) = lN 2 from rfl, lN_mul, lN_mul]
      refine ql_lt n (2 * k) (fun h => absurd h (by omega)) (fun _ r hr => ?_)
      have hr := rest_eq hr (by omega) (by omega) hn
      subst hr
      refine ⟨⟨by rw [nI_toInt (by omega)]; omega, by rw [nI_toInt (by omega)]; omega⟩, fun g3 a3 w3 hp3 => ?_⟩
      obtain ⟨e1, e2, f3, e3, hf3⟩ := hp3
      rw [e1, e2, e3, up_up, lN_1]
      rw [up_0, tn_nI (by omega)] at hf3
      refine ih (k + 1) f3 (by omega) (by omega) (fun x hx => ?_)
      rw [hf3 x, Bool.or_eq_true, decide_eq_true_iff, hf x hx]
      constructor
      · rintro (⟨y, y1, y2, y3⟩ | ex)
        · exact ⟨y, y1, by omega, y3⟩
        · exact ⟨k, hk1, by omega, ex.symm⟩
      · rintro ⟨y, y1, y2, y3⟩
        by_cases ey : y = k
        · subst ey; exact Or.inr y3.symm
        · exact Or.inl ⟨y, y1, by omega, y3⟩
  exact key (n / 2) 1 f0 (by omega) (by omega) (fun x hx => by
    rw [hf0 x hx]
    exact ⟨fun q => Bool.noConfusion q, fun ⟨y, y1, y2, _⟩ => by omega⟩)
def pre_X6_firstNoSquare (g : Gs) (a : As) (w : Ws) (p0 : Int32) : Prop := Dv p0 ∧ Fac 0 (tn p0) g a
set_option maxHeartbeats 4000000 in
set_option maxRecDepth 100000 in
theorem met_X6_firstNoSquare (l : Launch) (D : va_G) (cy : Nat → ClassId) (ad : Nat → Nat) (sz : Nat) (g : Gs) (a : As) (w : Ws) (p0 : Int32) (post : Int32 → Prop)
  (hV : ∀ (J2 : Int32 → Prop),
    (∀ (x2 : Int32), ((p0 ≤ x2 → post (-4 : Int32)) ∧ (¬ p0 ≤ x2 → pre_X3_has g a w x2 ∧ (∀ r12 : Int32, post_X3_has g a w x2 r12 → ((r12 = 0 → pre_X0_sharesWith 0 g a w x2 ∧ (∀ r23 : Int32, post_X0_sharesWith 0 g a w x2 r23 → ((r23 = 0 → post x2) ∧ (¬ r23 = 0 → J2 (x2 + 1))))) ∧ (¬ r12 = 0 → J2 (x2 + 1)))))) → J2 x2) →
    J2 (1 : Int32)) :
  Met l yX6_firstNoSquare wsX6_firstNoSquare ({ frames := 2, cells := 0, slots := 0, locals := 44 } : Room) (va_Pc [.ref (ad 0), .int p0] (ArP D cy sz (caW ad cy g a w))) (Qpi post) 0 0 noF := by
  refine Met.ofW (cc := cX6_firstNoSquare) (maxL := 3) (ret := (some .int)) (by decide) rfl ?_
  intro p e s m args below meth c s₁ B hml hv
  obtain ⟨rfl, hsz, hP, hK, hD0, hN⟩ := hv
  have hx := B.exec
  have hb := B.bytes
  have hr := B.returns
  have hts := atoms_spec (ws := wsX6_firstNoSquare) B.pre
  have hown : s.vm.findClass RX6 = some m.cls := findClass_of_methodNamed B.named
  have hlocks := B.notSynchronized
  subst hsz
  have hP : va_P D vwCl (caW ad cy g a w) s.heap := hP
  have hD : va_D (fun _ => True) (caW ad cy g a w) := hD0
  obtain ⟨J2, iJ2, oJ2⟩ : ∃ J : Int32 → Prop, (∀ (x2 : Int32), (∀ ls : Array Slot, lv_has ls 3 [(0, .ref (ad 0)), (1, .int p0), (2, .int x2)] → W p l e (headSpec wsX6_firstNoSquare ({ frames := 2, cells := 0, slots := 0, locals := 44 } : Room)).room s m [.ref (ad 0), .int p0].toArray below meth c s.heap [] 0 0 (MQ below (Qpi post) [.ref (ad 0), .int p0].toArray s 0 0 noF) (F0 m 2 ls [])) → J x2) ∧ (∀ (x2 : Int32), J x2 → (∀ ls : Array Slot, lv_has ls 3 [(0, .ref (ad 0)), (1, .int p0), (2, .int x2)] → W p l e (headSpec wsX6_firstNoSquare ({ frames := 2, cells := 0, slots := 0, locals := 44 } : Room)).room s m [.ref (ad 0), .int p0].toArray below meth c s.heap [] 0 0 (MQ below (Qpi post) [.ref (ad 0), .int p0].toArray s 0 0 noF) (F0 m 2 ls []))) := ⟨fun (x2 : Int32) => (∀ ls : Array Slot, lv_has ls 3 [(0, .ref (ad 0)), (1, .int p0), (2, .int x2)] → W p l e (headSpec wsX6_firstNoSquare ({ frames := 2, cells := 0, slots := 0, locals := 44 } : Room)).room s m [.ref (ad 0), .int p0].toArray below meth c s.heap [] 0 0 (MQ below (Qpi post) [.ref (ad 0), .int p0].toArray s 0 0 noF) (F0 m 2 ls [])), fun _ h => h, fun _ h => h⟩
  have hV := hV J2
  replace hV := hV (by
    intro x2 hV
    refine iJ2 x2 ?_
    intro ls hl
    refine lv_iload_n hx hb dX6_firstNoSquare_2 rfl (lv_at hl 2 rfl) ?_
    refine lv_iload_n hx hb dX6_firstNoSquare_3 rfl (lv_at hl 1 rfl) ?_
    refine lv_icmp_ge (tgt := 37) hx hb dX6_firstNoSquare_4 (by decide) (fun c_4 => ?_) (fun c_4 => ?_)
    · have hV := hV.1 c_4
      refine lv_bipush (v := (-4 : Int32)) hx hb dX6_firstNoSquare_37 (by decide) ?_
      exact W.iret (v := (-4 : Int32)) hx hb hr (fun t ht hW => ⟨_, rfl, hV, ht⟩) (fun _ h => by cases h) dX6_firstNoSquare_39
    · have hV := hV.2 c_4
      refine lv_aload_n hx hb dX6_firstNoSquare_7 rfl (lv_at hl 0 rfl) ?_
      refine va_get (D := D) (ci := 5) (v := .ref (ad 7)) (C := RX6) (T := TX6) (N := 10) hx hb hts (by decide +kernel) hown hK hP 0 rfl rfl 2 (by decide) (hts (.fieldLink RX6 22 "PowerRests" "marks" "LPowerRests$Marks;") (by decide +kernel)) (fun _ h9 => h9) rfl dX6_firstNoSquare_8 ?_
      refine lv_iload_n hx hb dX6_firstNoSquare_11 rfl (lv_at hl 2 rfl) ?_
      obtain ⟨h_12, hV⟩ := hV
      refine cp_i (va_runV (As := [.int x2]) (rest := []) ⟨hx, hb, hml, hown, hts⟩ (spec_X3_has l D cy ad s.heap.size g a w x2 h_12) (cwV 1 hts gX6_firstNoSquare_X3_has rfl rfl rfl (by decide +kernel) ⟨Nat.le_of_ble_eq_true rfl, Nat.le_of_ble_eq_true rfl⟩) (ar_preV hN hK hP hD (ci := 3) (q0 := 7) rfl rfl) rfl rfl hl.1 rfl (lv_room (Nat.le_of_ble_eq_true rfl)) dX6_firstNoSquare_12 ⟨Nat.zero_le _, Nat.zero_le _⟩) (fun r12 q_12 => ?_)
      have hV := hV r12 q_12
      refine lv_if_ne (tgt := 31) hx hb dX6_firstNoSquare_15 (by decide) (fun c_15 => ?_) (fun c_15 => ?_)
      · have hV := hV.2 c_15
        refine lv_iinc (v := x2 + 1) (lv' := [(2, .int (x2 + 1)), (0, .ref (ad 0)), (1, .int p0)]) hx hb dX6_firstNoSquare_31 hl (k := 2) rfl rfl (by decide) rfl (fun ls hl => ?_)
        refine lv_goto (tgt := 2) hx hb dX6_firstNoSquare_34 (by decide) ?_
        exact oJ2 _ hV _ (lv_sub hl [1, 2, 0] rfl)
      · have hV := hV.1 c_15
        refine lv_aload_n hx hb dX6_firstNoSquare_18 rfl (lv_at hl 0 rfl) ?_
        refine va_get (D := D) (ci := 5) (v := .ref (ad 1)) (C := RX6) (T := TX6) (N := 10) hx hb hts (by decide +kernel) hown hK hP 0 rfl rfl 0 (by decide) (hts (.fieldLink RX6 10 "PowerRests" "ofN" "LPowerRests$Factors;") (by decide +kernel)) (fun _ h9 => h9) rfl dX6_firstNoSquare_19 ?_
        refine lv_iload_n hx hb dX6_firstNoSquare_22 rfl (lv_at hl 2 rfl) ?_
        obtain ⟨h_23, hV⟩ := hV
        refine cp_i (va_runV (As := [.int x2]) (rest := []) ⟨hx, hb, hml, hown, hts⟩ (spec_X0_sharesWith l 0 (by decide) D cy ad s.heap.size g a w x2 h_23) (cwV 1 hts gX6_firstNoSquare_X0_sharesWith rfl rfl rfl (by decide +kernel) ⟨Nat.le_of_ble_eq_true rfl, Nat.le_of_ble_eq_true rfl⟩) (ar_preV hN hK hP hD (ci := 0) (q0 := 1) rfl rfl) rfl rfl hl.1 rfl (lv_room (Nat.le_of_ble_eq_true rfl)) dX6_firstNoSquare_23 ⟨Nat.zero_le _, Nat.zero_le _⟩) (fun r23 q_23 => ?_)
        have hV := hV r23 q_23
        refine lv_if_ne (tgt := 31) hx hb dX6_firstNoSquare_26 (by decide) (fun c_26 => ?_) (fun c_26 => ?_)
        · have hV := hV.2 c_26
          refine lv_iinc (v := x2 + 1) (lv' := [(2, .int (x2 + 1)), (0, .ref (ad 0)), (1, .int p0)]) hx hb dX6_firstNoSquare_31 hl (k := 2) rfl rfl (by decide) rfl (fun ls hl => ?_)
          refine lv_goto (tgt := 2) hx hb dX6_firstNoSquare_34 (by decide) ?_
          exact oJ2 _ hV _ (lv_sub hl [1, 2, 0] rfl)
        · have hV := hV.1 c_26
          refine lv_iload_n hx hb dX6_firstNoSquare_29 rfl (lv_at hl 2 rfl) ?_
          exact W.iret (v := x2) hx hb hr (fun t ht hW => ⟨_, rfl, hV, ht⟩) (fun _ h => by cases h) dX6_firstNoSquare_30)
  have hl := lv_entry ([.ref (ad 0), .int p0]) (n := 3) (Nat.le_of_ble_eq_true rfl)
  rw [lg_entry_eq]
  generalize (lg_sl ([.ref (ad 0), .int p0]) ++ List.replicate (3 - (lg_sl ([.ref (ad 0), .int p0])).length) Slot.unset).toArray = ls at hl ⊢
  have hl : lv_has ls 3 [(0, .ref (ad 0)), (1, .int p0)] := hl
  refine lv_iconst (v := (1 : Int32)) hx hb dX6_firstNoSquare_0 (by decide) ?_
  refine lv_istore_n (lv' := [(2, .int (1 : Int32)), (0, .ref (ad 0)), (1, .int p0)]) hx hb dX6_firstNoSquare_1 rfl hl (by decide) rfl (fun ls hl => ?_)
  exact oJ2 _ hV _ (lv_sub hl [1, 2, 0] rfl)
def post_X6_firstNoSquare (g : Gs) (a : As) (w : Ws) (p0 r : Int32) : Prop := First (fun x => ¬ mB (w 8) x = true ∧ Nat.gcd (tn p0) x = 1) (tn p0) r
set_option maxRecDepth 4000 in
theorem spec_X6_firstNoSquare (l : Launch) (D : va_G) (cy : Nat → ClassId) (ad : Nat → Nat) (sz : Nat) (g : Gs) (a : As) (w : Ws) (p0 : Int32) (hpre : pre_X6_firstNoSquare g a w p0) : Met l yX6_firstNoSquare wsX6_firstNoSquare ({ frames := 2, cells := 0, slots := 0, locals := 44 } : Room) (va_Pc [.ref (ad 0), .int p0] (ArP D cy sz (caW ad cy g a w))) (Qpi (post_X6_firstNoSquare g a w p0)) 0 0 noF := by
  apply met_X6_firstNoSquare
  intro J hJ
  obtain ⟨⟨d1, d2⟩, hF⟩ := hpre
  obtain ⟨n, hn, rfl, hn2⟩ := of_i (x := p0) (by omega)
  have tnn : tn (nI n) = n := tn_nI hn
  rw [tnn] at hF
  unfold post_X6_firstNoSquare at hJ
  rw [tnn] at hJ
  have key : ∀ (d k : Nat), k + d = n → 1 ≤ k → (∀ y, y < k → ¬ (¬ mB (w 8) y = true ∧ Nat.gcd n y = 1)) → J (nI k) := by
    intro d
    induction d with
    | zero =>
      intro k hk hk1 hi
      have : k = n := by omega
      subst this
      exact hJ _ (pk_le k k (fun _ => Or.inr ⟨hi, rfl⟩) (fun h => absurd h (by omega)))
    | succ d ih =>
      intro k hk hk1 hi
      have next : ¬ (¬ mB (w 8) k = true ∧ Nat.gcd n k = 1) → J (nI k + 1) := fun q => by
        rw [nI_1]
        refine ih (k + 1) (by omega) (by omega) (fun y hy => ?_)
        by_cases e : y = k
        · subst e; exact q
        · exact hi y (by omega)
      refine hJ _ (pk_le n k (fun h => absurd h (by omega)) (fun _ => ⟨⟨by rw [nI_toInt (by omega)]; omega, by rw [nI_toInt (by omega)]; omega⟩, fun r hr => ?_⟩))
      unfold post_X3_has at hr
      rw [tn_nI (by omega)] at hr
      subst hr
      refine ⟨fun h => ⟨⟨by rw [nI_toInt (by omega)]; omega, n, hF⟩, fun r2 hr2 => ?_⟩, fun h => next (fun q => q.1 (zb_1 h))⟩
      have h : ¬ mB (w 8) k = true := zb_0 h
      unfold post_X0_sharesWith at hr2
      rw [tn_nI (by omega), zb_c (fac_shares hF.1)] at hr2
      subst hr2
      exact ⟨fun h2 => Or.inl ⟨k, by omega, ⟨h, Classical.not_not.mp (zb_0 h2)⟩, hi, rfl⟩, fun h2 => next (fun q => zb_1 h2 q.2)⟩
  refine key (n - 1) 1 (by omega) (by omega) (fun y hy q => ?_)
  have : y = 0 := by omega
  subst this
  have := q.2
  rw [Nat.gcd_zero_right] at this
  omega
def pre_X6_runsOfSquares (g : Gs) (a : As) (w : Ws) (p0 p1 : Int32) : Prop := Dv p0 ∧ Fac 0 (tn p0) g a
set_option maxHeartbeats 4000000 in
set_option maxRecDepth 100000 in
theorem met_X6_runsOfSquares (l : Launch) (D : va_G) (cy : Nat → ClassId) (ad : Nat → Nat) (sz : Nat) (g : Gs) (a : As) (w : Ws) (p0 : Int32) (p1 : Int32) (post : Int32 → Prop)
  (hV : ∀ (J14 : Int32 → Int32 → Int32 → Int32 → Int32 → Prop),
    (∀ (x3 : Int32) (x4 : Int32) (x5 : Int32) (x6 : Int32) (x7 : Int32), ((p0 ≤ x7 → ((p1 = 0 → post x3) ∧ (¬ p1 = 0 → ((p1 = (1 : Int32) → post x5) ∧ (¬ p1 = (1 : Int32) → post x6))))) ∧ (¬ p0 ≤ x7 → pre_X3_has g a w x7 ∧ (∀ r26 : Int32, post_X3_has g a w x7 r26 → ((r26 = 0 → (((0 : Int32) ≤ x5 → J14 x3 (0 : Int32) x5 x6 (x7 + 1)) ∧ (¬ (0 : Int32) ≤ x5 → J14 x3 (0 : Int32) (0 : Int32) ((x7 - (0 : Int32)) + (1 : Int32)) (x7 + 1)))) ∧ (¬ r26 = 0 → pre_X0_sharesWith 0 g a w x7 ∧ (∀ r38 : Int32, post_X0_sharesWith 0 g a w x7 r38 → ((r38 = 0 → (((x4 + 1) ≤ x5 → J14 (x3 + 1) (x4 + 1) x5 x6 (x7 + 1)) ∧ (¬ (x4 + 1) ≤ x5 → J14 (x3 + 1) (x4 + 1) (x4 + 1) ((x7 - (x4 + 1)) + (1 : Int32)) (x7 + 1)))) ∧ (¬ r38 = 0 → (((0 : Int32) ≤ x5 → J14 x3 (0 : Int32) x5 x6 (x7 + 1)) ∧ (¬ (0 : Int32) ≤ x5 → J14 x3 (0 : Int32) (0 : Int32) ((x7 - (0 : Int32)) + (1 : Int32)) (x7 + 1))))))))))) → J14 x3 x4 x5 x6 x7) →
    J14 (0 : Int32) (0 : Int32) (0 : Int32) (0 : Int32) (1 : Int32)) :
  Met l yX6_runsOfSquares wsX6_runsOfSquares ({ frames := 2, cells := 0, slots := 0, locals := 44 } : Room) (va_Pc [.ref (ad 0), .int p0, .int p1] (ArP D cy sz (caW ad cy g a w))) (Qpi post) 0 0 noF := by
  refine Met.ofW (cc := cX6_runsOfSquares) (maxL := 8) (ret := (some .int)) (by decide) rfl ?_
  intro p e s m args below meth c s₁ B hml hv
  obtain ⟨rfl, hsz, hP, hK, hD0, hN⟩ := hv
  have hx := B.exec
  have hb := B.bytes
  have hr := B.returns
  have hts := atoms_spec (ws := wsX6_runsOfSquares) B.pre
  have hown : s.vm.findClass RX6 = some m.cls := findClass_of_methodNamed B.named
  have hlocks := B.notSynchronized
  subst hsz
  have hP : va_P D vwCl (caW ad cy g a w) s.heap := hP
  have hD : va_D (fun _ => True) (caW ad cy g a w) := hD0
  obtain ⟨J14, iJ14, oJ14⟩ : ∃ J : Int32 → Int32 → Int32 → Int32 → Int32 → Prop, (∀ (x3 : Int32) (x4 : Int32) (x5 : Int32) (x6 : Int32) (x7 : Int32), (∀ ls : Array Slot, lv_has ls 8 [(0, .ref (ad 0)), (1, .int p0), (2, .int p1), (3, .int x3), (4, .int x4), (5, .int x5), (6, .int x6), (7, .int x7)] → W p l e (headSpec wsX6_runsOfSquares ({ frames := 2, cells := 0, slots := 0, locals := 44 } : Room)).room s m [.ref (ad 0), .int p0, .int p1].toArray below meth c s.heap [] 0 0 (MQ below (Qpi post) [.ref (ad 0), .int p0, .int p1].toArray s 0 0 noF) (F0 m 14 ls [])) → J x3 x4 x5 x6 x7) ∧ (∀ (x3 : Int32) (x4 : Int32) (x5 : Int32) (x6 : Int32) (x7 : Int32), J x3 x4 x5 x6 x7 → (∀ ls : Array Slot, lv_has ls 8 [(0, .ref (ad 0)), (1, .int p0), (2, .int p1), (3, .int x3), (4, .int x4), (5, .int x5), (6, .int x6), (7, .int x7)] → W p l e (headSpec wsX6_runsOfSquares ({ frames := 2, cells := 0, slots := 0, locals := 44 } : Room)).room s m [.ref (ad 0), .int p0, .int p1].toArray below meth c s.heap [] 0 0 (MQ below (Qpi post) [.ref (ad 0), .int p0, .int p1].toArray s 0 0 noF) (F0 m 14 ls []))) := ⟨fun (x3 : Int32) (x4 : Int32) (x5 : Int32) (x6 : Int32) (x7 : Int32) => (∀ ls : Array Slot, lv_has ls 8 [(0, .ref (ad 0)), (1, .int p0), (2, .int p1), (3, .int x3), (4, .int x4), (5, .int x5), (6, .int x6), (7, .int x7)] → W p l e (headSpec wsX6_runsOfSquares ({ frames := 2, cells := 0, slots := 0, locals := 44 } : Room)).room s m [.ref (ad 0), .int p0, .int p1].toArray below meth c s.heap [] 0 0 (MQ below (Qpi post) [.ref (ad 0), .int p0, .int p1].toArray s 0 0 noF) (F0 m 14 ls [])), fun _ _ _ _ _ h => h, fun _ _ _ _ _ h => h⟩
  have hV := hV J14
  replace hV := hV (by
    intro x3 x4 x5 x6 x7 hV
    refine iJ14 x3 x4 x5 x6 x7 ?_
    intro ls hl
    refine lv_iload hx hb dX6_runsOfSquares_14 (lv_at hl 7 rfl) ?_
    refine lv_iload_n hx hb dX6_runsOfSquares_16 rfl (lv_at hl 1 rfl) ?_
    refine lv_icmp_ge (tgt := 82) hx hb dX6_runsOfSquares_17 (by decide) (fun c_17 => ?_) (fun c_17 => ?_)
    · have hV := hV.1 c_17
      refine lv_iload_n hx hb dX6_runsOfSquares_82 rfl (lv_at hl 2 rfl) ?_
      refine lv_if_ne (tgt := 88) hx hb dX6_runsOfSquares_83 (by decide) (fun c_83 => ?_) (fun c_83 => ?_)
      · have hV := hV.2 c_83
        refine lv_iload_n hx hb dX6_runsOfSquares_88 rfl (lv_at hl 2 rfl) ?_
        refine lv_iconst (v := (1 : Int32)) hx hb dX6_runsOfSquares_89 (by decide) ?_
        refine lv_icmp_ne (tgt := 98) hx hb dX6_runsOfSquares_90 (by decide) (fun c_90 => ?_) (fun c_90 => ?_)
        · have hV := hV.2 c_90
          refine lv_iload hx hb dX6_runsOfSquares_98 (lv_at hl 6 rfl) ?_
          exact W.iret (v := x6) hx hb hr (fun t ht hW => ⟨_, rfl, hV, ht⟩) (fun _ h => by cases h) dX6_runsOfSquares_100
        · have hV := hV.1 c_90
          refine lv_iload hx hb dX6_runsOfSquares_93 (lv_at hl 5 rfl) ?_
          refine lv_goto (tgt := 100) hx hb dX6_runsOfSquares_95 (by decide) ?_
          exact W.iret (v := x5) hx hb hr (fun t ht hW => ⟨_, rfl, hV, ht⟩) (fun _ h => by cases h) dX6_runsOfSquares_100
      · have hV := hV.1 c_83
        refine lv_iload_n hx hb dX6_runsOfSquares_86 rfl (lv_at hl 3 rfl) ?_
        exact W.iret (v := x3) hx hb hr (fun t ht hW => ⟨_, rfl, hV, ht⟩) (fun _ h => by cases h) dX6_runsOfSquares_87
    · have hV := hV.2 c_17
      refine lv_aload_n hx hb dX6_runsOfSquares_20 rfl (lv_at hl 0 rfl) ?_
      refine va_get (D := D) (ci := 5) (v := .ref (ad 7)) (C := RX6) (T := TX6) (N := 10) hx hb hts (by decide +kernel) hown hK hP 0 rfl rfl 2 (by decide) (hts (.fieldLink RX6 22 "PowerRests" "marks" "LPowerRests$Marks;") (by decide +kernel)) (fun _ h9 => h9) rfl dX6_runsOfSquares_21 ?_
      refine lv_iload hx hb dX6_runsOfSquares_24 (lv_at hl 7 rfl) ?_
      obtain ⟨h_26, hV⟩ := hV
      refine cp_i (va_runV (As := [.int x7]) (rest := []) ⟨hx, hb, hml, hown, hts⟩ (spec_X3_has l D cy ad s.heap.size g a w x7 h_26) (cwV 1 hts gX6_runsOfSquares_X3_has rfl rfl rfl (by decide +kernel) ⟨Nat.le_of_ble_eq_true rfl, Nat.le_of_ble_eq_true rfl⟩) (ar_preV hN hK hP hD (ci := 3) (q0 := 7) rfl rfl) rfl rfl hl.1 rfl (lv_room (Nat.le_of_ble_eq_true rfl)) dX6_runsOfSquares_26 ⟨Nat.zero_le _, Nat.zero_le _⟩) (fun r26 q_26 => ?_)
      have hV := hV r26 q_26
      refine lv_if_eq (tgt := 53) hx hb dX6_runsOfSquares_29 (by decide) (fun c_29 => ?_) (fun c_29 => ?_)
      · have hV := hV.1 c_29
        refine lv_iconst (v := (0 : Int32)) hx hb dX6_runsOfSquares_53 (by decide) ?_
        refine lv_istore (lv' := [(4, .int (0 : Int32)), (0, .ref (ad 0)), (1, .int p0), (2, .int p1), (3, .int x3), (5, .int x5), (6, .int x6), (7, .int x7)]) hx hb dX6_runsOfSquares_54 hl (by decide) rfl (fun ls hl => ?_)
        refine lv_iload hx hb dX6_runsOfSquares_56 (lv_at hl 0 rfl) ?_
        refine lv_iload hx hb dX6_runsOfSquares_58 (lv_at hl 5 rfl) ?_
        refine lv_icmp_le (tgt := 76) hx hb dX6_runsOfSquares_60 (by decide) (fun c_60 => ?_) (fun c_60 => ?_)
        · have hV := hV.1 c_60
          refine lv_iinc (v := x7 + 1) (lv' := [(7, .int (x7 + 1)), (4, .int (0 : Int32)), (0, .ref (ad 0)), (1, .int p0), (2, .int p1), (3, .int x3), (5, .int x5), (6, .int x6)]) hx hb dX6_runsOfSquares_76 hl (k := 7) rfl rfl (by decide) rfl (fun ls hl => ?_)
          refine lv_goto (tgt := 14) hx hb dX6_runsOfSquares_79 (by decide) ?_
          exact oJ14 _ _ _ _ _ hV _ (lv_sub hl [2, 3, 4, 5, 1, 6, 7, 0] rfl)
        · have hV := hV.2 c_60
          refine lv_iload hx hb dX6_runsOfSquares_63 (lv_at hl 0 rfl) ?_
          refine lv_istore (lv' := [(5, .int (0 : Int32)), (4, .int (0 : Int32)), (0, .ref (ad 0)), (1, .int p0), (2, .int p1), (3, .int x3), (6, .int x6), (7, .int x7)]) hx hb dX6_runsOfSquares_65 hl (by decide) rfl (fun ls hl => ?_)
          refine lv_iload hx hb dX6_runsOfSquares_67 (lv_at hl 7 rfl) ?_
          refine lv_iload hx hb dX6_runsOfSquares_69 (lv_at hl 1 rfl) ?_
          refine lv_isub hx hb dX6_runsOfSquares_71 ?_
          refine lv_iconst (v := (1 : Int32)) hx hb dX6_runsOfSquares_72 (by decide) ?_
          refine lv_iadd hx hb dX6_runsOfSquares_73 ?_
          refine lv_istore (lv' := [(6, .int ((x7 - (0 : Int32)) + (1 : Int32))), (5, .int (0 : Int32)), (4, .int (0 : Int32)), (0, .ref (ad 0)), (1, .int p0), (2, .int p1), (3, .int x3), (7, .int x7)]) hx hb dX6_runsOfSquares_74 hl (by decide) rfl (fun ls hl => ?_)
          refine lv_iinc (v := x7 + 1) (lv' := [(7, .int (x7 + 1)), (6, .int ((x7 - (0 : Int32)) + (1 : Int32))), (5, .int (0 : Int32)), (4, .int (0 : Int32)), (0, .ref (ad 0)), (1, .int p0), (2, .int p1), (3, .int x3)]) hx hb dX6_runsOfSquares_76 hl (k := 7) rfl rfl (by decide) rfl (fun ls hl => ?_)
          refine lv_goto (tgt := 14) hx hb dX6_runsOfSquares_79 (by decide) ?_
          exact oJ14 _ _ _ _ _ hV _ (lv_sub hl [4, 5, 6, 7, 3, 2, 1, 0] rfl)
      · have hV := hV.2 c_29
        refine lv_aload_n hx hb dX6_runsOfSquares_32 rfl (lv_at hl 0 rfl) ?_
        refine va_get (D := D) (ci := 5) (v := .ref (ad 1)) (C := RX6) (T := TX6) (N := 10) hx hb hts (by decide +kernel) hown hK hP 0 rfl rfl 0 (by decide) (hts (.fieldLink RX6 10 "PowerRests" "ofN" "LPowerRests$Factors;") (by decide +kernel)) (fun _ h9 => h9) rfl dX6_runsOfSquares_33 ?_
        refine lv_iload hx hb dX6_runsOfSquares_36 (lv_at hl 7 rfl) ?_
        obtain ⟨h_38, hV⟩ := hV
        refine cp_i (va_runV (As := [.int x7]) (rest := []) ⟨hx, hb, hml, hown, hts⟩ (spec_X0_sharesWith l 0 (by decide) D cy ad s.heap.size g a w x7 h_38) (cwV 1 hts gX6_runsOfSquares_X0_sharesWith rfl rfl rfl (by decide +kernel) ⟨Nat.le_of_ble_eq_true rfl, Nat.le_of_ble_eq_true rfl⟩) (ar_preV hN hK hP hD (ci := 0) (q0 := 1) rfl rfl) rfl rfl hl.1 rfl (lv_room (Nat.le_of_ble_eq_true rfl)) dX6_runsOfSquares_38 ⟨Nat.zero_le _, Nat.zero_le _⟩) (fun r38 q_38 => ?_)
        have hV := hV r38 q_38
        refine lv_if_ne (tgt := 53) hx hb dX6_runsOfSquares_41 (by decide) (fun c_41 => ?_) (fun c_41 => ?_)
        · have hV := hV.2 c_41
          refine lv_iconst (v := (0 : Int32)) hx hb dX6_runsOfSquares_53 (by decide) ?_
          refine lv_istore (lv' := [(4, .int (0 : Int32)), (0, .ref (ad 0)), (1, .int p0), (2, .int p1), (3, .int x3), (5, .int x5), (6, .int x6), (7, .int x7)]) hx hb dX6_runsOfSquares_54 hl (by decide) rfl (fun ls hl => ?_)
          refine lv_iload hx hb dX6_runsOfSquares_56 (lv_at hl 0 rfl) ?_
          refine lv_iload hx hb dX6_runsOfSquares_58 (lv_at hl 5 rfl) ?_
          refine lv_icmp_le (tgt := 76) hx hb dX6_runsOfSquares_60 (by decide) (fun c_60 => ?_) (fun c_60 => ?_)
          · have hV := hV.1 c_60
            refine lv_iinc (v := x7 + 1) (lv' := [(7, .int (x7 + 1)), (4, .int (0 : Int32)), (0, .ref (ad 0)), (1, .int p0), (2, .int p1), (3, .int x3), (5, .int x5), (6, .int x6)]) hx hb dX6_runsOfSquares_76 hl (k := 7) rfl rfl (by decide) rfl (fun ls hl => ?_)
            refine lv_goto (tgt := 14) hx hb dX6_runsOfSquares_79 (by decide) ?_
            exact oJ14 _ _ _ _ _ hV _ (lv_sub hl [2, 3, 4, 5, 1, 6, 7, 0] rfl)
          · have hV := hV.2 c_60
            refine lv_iload hx hb dX6_runsOfSquares_63 (lv_at hl 0 rfl) ?_
            refine lv_istore (lv' := [(5, .int (0 : Int32)), (4, .int (0 : Int32)), (0, .ref (ad 0)), (1, .int p0), (2, .int p1), (3, .int x3), (6, .int x6), (7, .int x7)]) hx hb dX6_runsOfSquares_65 hl (by decide) rfl (fun ls hl => ?_)
            refine lv_iload hx hb dX6_runsOfSquares_67 (lv_at hl 7 rfl) ?_
            refine lv_iload hx hb dX6_runsOfSquares_69 (lv_at hl 1 rfl) ?_
            refine lv_isub hx hb dX6_runsOfSquares_71 ?_
            refine lv_iconst (v := (1 : Int32)) hx hb dX6_runsOfSquares_72 (by decide) ?_
            refine lv_iadd hx hb dX6_runsOfSquares_73 ?_
            refine lv_istore (lv' := [(6, .int ((x7 - (0 : Int32)) + (1 : Int32))), (5, .int (0 : Int32)), (4, .int (0 : Int32)), (0, .ref (ad 0)), (1, .int p0), (2, .int p1), (3, .int x3), (7, .int x7)]) hx hb dX6_runsOfSquares_74 hl (by decide) rfl (fun ls hl => ?_)
            refine lv_iinc (v := x7 + 1) (lv' := [(7, .int (x7 + 1)), (6, .int ((x7 - (0 : Int32)) + (1 : Int32))), (5, .int (0 : Int32)), (4, .int (0 : Int32)), (0, .ref (ad 0)), (1, .int p0), (2, .int p1), (3, .int x3)]) hx hb dX6_runsOfSquares_76 hl (k := 7) rfl rfl (by decide) rfl (fun ls hl => ?_)
            refine lv_goto (tgt := 14) hx hb dX6_runsOfSquares_79 (by decide) ?_
            exact oJ14 _ _ _ _ _ hV _ (lv_sub hl [4, 5, 6, 7, 3, 2, 1, 0] rfl)
        · have hV := hV.1 c_41
          refine lv_iinc (v := x3 + 1) (lv' := [(3, .int (x3 + 1)), (0, .ref (ad 0)), (1, .int p0), (2, .int p1), (4, .int x4), (5, .int x5), (6, .int x6), (7, .int x7)]) hx hb dX6_runsOfSquares_44 hl (k := 3) rfl rfl (by decide) rfl (fun ls hl => ?_)
          refine lv_iinc (v := x4 + 1) (lv' := [(4, .int (x4 + 1)), (3, .int (x3 + 1)), (0, .ref (ad 0)), (1, .int p0), (2, .int p1), (5, .int x5), (6, .int x6), (7, .int x7)]) hx hb dX6_runsOfSquares_47 hl (k := 4) rfl rfl (by decide) rfl (fun ls hl => ?_)
          refine lv_goto (tgt := 56) hx hb dX6_runsOfSquares_50 (by decide) ?_
          refine lv_iload hx hb dX6_runsOfSquares_56 (lv_at hl 0 rfl) ?_
          refine lv_iload hx hb dX6_runsOfSquares_58 (lv_at hl 5 rfl) ?_
          refine lv_icmp_le (tgt := 76) hx hb dX6_runsOfSquares_60 (by decide) (fun c_60 => ?_) (fun c_60 => ?_)
          · have hV := hV.1 c_60
            refine lv_iinc (v := x7 + 1) (lv' := [(7, .int (x7 + 1)), (4, .int (x4 + 1)), (3, .int (x3 + 1)), (0, .ref (ad 0)), (1, .int p0), (2, .int p1), (5, .int x5), (6, .int x6)]) hx hb dX6_runsOfSquares_76 hl (k := 7) rfl rfl (by decide) rfl (fun ls hl => ?_)
            refine lv_goto (tgt := 14) hx hb dX6_runsOfSquares_79 (by decide) ?_
            exact oJ14 _ _ _ _ _ hV _ (lv_sub hl [3, 4, 5, 2, 1, 6, 7, 0] rfl)
          · have hV := hV.2 c_60
            refine lv_iload hx hb dX6_runsOfSquares_63 (lv_at hl 0 rfl) ?_
            refine lv_istore (lv' := [(5, .int (x4 + 1)), (4, .int (x4 + 1)), (3, .int (x3 + 1)), (0, .ref (ad 0)), (1, .int p0), (2, .int p1), (6, .int x6), (7, .int x7)]) hx hb dX6_runsOfSquares_65 hl (by decide) rfl (fun ls hl => ?_)
            refine lv_iload hx hb dX6_runsOfSquares_67 (lv_at hl 7 rfl) ?_
            refine lv_iload hx hb dX6_runsOfSquares_69 (lv_at hl 1 rfl) ?_
            refine lv_isub hx hb dX6_runsOfSquares_71 ?_
            refine lv_iconst (v := (1 : Int32)) hx hb dX6_runsOfSquares_72 (by decide) ?_
            refine lv_iadd hx hb dX6_runsOfSquares_73 ?_
            refine lv_istore (lv' := [(6, .int ((x7 - (x4 + 1)) + (1 : Int32))), (5, .int (x4 + 1)), (4, .int (x4 + 1)), (3, .int (x3 + 1)), (0, .ref (ad 0)), (1, .int p0), (2, .int p1), (7, .int x7)]) hx hb dX6_runsOfSquares_74 hl (by decide) rfl (fun ls hl => ?_)
            refine lv_iinc (v := x7 + 1) (lv' := [(7, .int (x7 + 1)), (6, .int ((x7 - (x4 + 1)) + (1 : Int32))), (5, .int (x4 + 1)), (4, .int (x4 + 1)), (3, .int (x3 + 1)), (0, .ref (ad 0)), (1, .int p0), (2, .int p1)]) hx hb dX6_runsOfSquares_76 hl (k := 7) rfl rfl (by decide) rfl (fun ls hl => ?_)
            refine lv_goto (tgt := 14) hx hb dX6_runsOfSquares_79 (by decide) ?_
            exact oJ14 _ _ _ _ _ hV _ (lv_sub hl [5, 6, 7, 4, 3, 2, 1, 0] rfl))
  have hl := lv_entry ([.ref (ad 0), .int p0, .int p1]) (n := 8) (Nat.le_of_ble_eq_true rfl)
  rw [lg_entry_eq]
  generalize (lg_sl ([.ref (ad 0), .int p0, .int p1]) ++ List.replicate (8 - (lg_sl ([.ref (ad 0), .int p0, .int p1])).length) Slot.unset).toArray = ls at hl ⊢
  have hl : lv_has ls 8 [(0, .ref (ad 0)), (1, .int p0), (2, .int p1)] := hl
  refine lv_iconst (v := (0 : Int32)) hx hb dX6_runsOfSquares_0 (by decide) ?_
  refine lv_istore_n (lv' := [(3, .int (0 : Int32)), (0, .ref (ad 0)), (1, .int p0), (2, .int p1)]) hx hb dX6_runsOfSquares_1 rfl hl (by decide) rfl (fun ls hl => ?_)
  refine lv_iconst (v := (0 : Int32)) hx hb dX6_runsOfSquares_2 (by decide) ?_
  refine lv_istore (lv' := [(4, .int (0 : Int32)), (3, .int (0 : Int32)), (0, .ref (ad 0)), (1, .int p0), (2, .int p1)]) hx hb dX6_runsOfSquares_3 hl (by decide) rfl (fun ls hl => ?_)
  refine lv_iconst (v := (0 : Int32)) hx hb dX6_runsOfSquares_5 (by decide) ?_
  refine lv_istore (lv' := [(5, .int (0 : Int32)), (4, .int (0 : Int32)), (3, .int (0 : Int32)), (0, .ref (ad 0)), (1, .int p0), (2, .int p1)]) hx hb dX6_runsOfSquares_6 hl (by decide) rfl (fun ls hl => ?_)
  refine lv_iconst (v := (0 : Int32)) hx hb dX6_runsOfSquares_8 (by decide) ?_
  refine lv_istore (lv' := [(6, .int (0 : Int32)), (5, .int (0 : Int32)), (4, .int (0 : Int32)), (3, .int (0 : Int32)), (0, .ref (ad 0)), (1, .int p0), (2, .int p1)]) hx hb dX6_runsOfSquares_9 hl (by decide) rfl (fun ls hl => ?_)
  refine lv_iconst (v := (1 : Int32)) hx hb dX6_runsOfSquares_11 (by decide) ?_
  refine lv_istore (lv' := [(7, .int (1 : Int32)), (6, .int (0 : Int32)), (5, .int (0 : Int32)), (4, .int (0 : Int32)), (3, .int (0 : Int32)), (0, .ref (ad 0)), (1, .int p0), (2, .int p1)]) hx hb dX6_runsOfSquares_12 hl (by decide) rfl (fun ls hl => ?_)
  exact oJ14 _ _ _ _ _ hV _ (lv_sub hl [5, 6, 7, 4, 3, 2, 1, 0] rfl)
/-- marked units -/
noncomputable def muB (n : Nat) (w : Ws) (x : Nat) : Bool := cb (mB (w 8) x = true ∧ Nat.gcd n x = 1)
def RunAns (B : Nat → Bool) (n : Nat) (what r : Int32) : Prop := (what = 0 → r = nI (fb_ct B n)) ∧ (what = 1 → r = nI (rsM B n)) ∧ (what = 2 → r = nI (rsB B n))
def post_X6_runsOfSquares (g : Gs) (a : As) (w : Ws) (p0 p1 r : Int32) : Prop := RunAns (muB (tn p0) w) (tn p0) p1 r
set_option maxRecDepth 4000 in
theorem spec_X6_runsOfSquares (l : Launch) (D : va_G) (cy : Nat → ClassId) (ad : Nat → Nat) (sz : Nat) (g : Gs) (a : As) (w : Ws) (p0 : Int32) (p1 : Int32) (hpre : pre_X6_runsOfSquares g a w p0 p1) : Met l yX6_runsOfSquares wsX6_runsOfSquares ({ frames := 2, cells := 0, slots := 0, locals := 44 } : Room) (va_Pc [.ref (ad 0), .int p0, .int p1] (ArP D cy sz (caW ad cy g a w))) (Qpi (post_X6_runsOfSquares g a w p0 p1)) 0 0 noF := by
  apply met_X6_runsOfSquares
  intro J hJ
  obtain ⟨⟨d1, d2⟩, hF⟩ := hpre
  obtain ⟨n, hn, rfl, hn2⟩ := of_i (x := p0) (by omega)
  have tnn : tn (nI n) = n := tn_nI hn
  rw [tnn] at hF
  unfold post_X6_runsOfSquares at hJ
  rw [tnn] at hJ
  generalize hB : muB n w = B at hJ
  have hBx : ∀ x, B x = cb (mB (w 8) x = true ∧ Nat.gcd n x = 1) := fun x => by rw [← hB]; rfl
  have hB0 : B 0 = false := by
    rw [hBx]
    exact cb_f (fun q => by have := q.2; rw [Nat.gcd_zero_right] at this; omega)
  have i0 : (1 : Int32) = 0 → False := by decide
  have i1 : (2 : Int32) = 0 → False := by decide
  have i2 : (2 : Int32) = 1 → False := by decide
  have key : ∀ (d k : Nat), k + d = n → 1 ≤ k → J (nI (fb_ct B k)) (nI (rsR B k)) (nI (rsM B k)) (nI (rsB B k)) (nI k) := by
    intro d
    induction d with
    | zero =>
      intro k hk hk1
      have : k = n := by omega
      subst this
      refine hJ _ _ _ _ _ (pk_le k k (fun _ => ⟨fun h => ⟨fun _ => rfl, fun h2 => absurd (h2.symm.trans h) i0, fun h2 => absurd (h2.symm.trans h) i1⟩, fun h => ⟨fun h2 => ⟨fun h3 => absurd h3 h, fun _ => rfl, fun h3 => absurd (h3.symm.trans h2) i2⟩, fun h2 => ⟨fun h3 => absurd h3 h, fun h3 => absurd h3 h2, fun _ => rfl⟩⟩⟩) (fun h => absurd h (by omega)))
    | succ d ih =>
      intro k hk hk1
      have hR := rsR_le (p := B) k
      have hR1 := rsR_le0 hB0 k
      have hM := rsM_le (p := B) k
      have nx := ih (k + 1) (by omega) (by omega)
      have no : B k = false → ((0 : Int32) ≤ nI (rsM B k) → J (nI (fb_ct B k)) 0 (nI (rsM B k)) (nI (rsB B k)) (nI k + 1)) ∧ (¬ (0 : Int32) ≤ nI (rsM B k) → J (nI (fb_ct B k)) 0 0 (nI k - 0 + 1) (nI k + 1)) := fun q => by
        refine ⟨fun _ => ?_, fun h => absurd (nI_pos' (by omega)) h⟩
        have e1 : rsR B (k + 1) = 0 := by rw [rsR, q]; rfl
        rw [fb_ct_succ, q, rsM, rsB, e1, if_neg (Nat.not_lt_zero _), if_neg (Nat.not_lt_zero _)] at nx
        rw [nI_1]
        exact nx
      refine hJ _ _ _ _ _ (pk_le n k (fun h => absurd h (by omega)) (fun _ => ⟨⟨by rw [nI_toInt (by omega)]; omega, by rw [nI_toInt (by omega)]; omega⟩, fun r hr => ?_⟩))
      unfold post_X3_has at hr
      rw [tn_nI (by omega)] at hr
      subst hr
      refine ⟨fun h => no (by rw [hBx]; exact cb_f (fun q => zb_0 h q.1)), fun h => ⟨⟨by rw [nI_toInt (by omega)]; omega, n, hF⟩, fun r2 hr2 => ?_⟩⟩
      have h := zb_1 h
      unfold post_X0_sharesWith at hr2
      rw [tn_nI (by omega), zb_c (fac_shares hF.1)] at hr2
      subst hr2
      refine ⟨fun h2 => ?_, fun h2 => no (by rw [hBx]; exact cb_f (fun q => zb_1 h2 q.2))⟩
      have q : B k = true := by rw [hBx]; exact cb_t ⟨h, Classical.not_not.mp (zb_0 h2)⟩
      have e1 : rsR B (k + 1) = rsR B k + 1 := by rw [rsR, if_pos q]
      rw [fb_ct_succ, if_pos q, rsM, rsB, e1] at nx
      rw [nI_1 (rsR B k)]
      refine pk_le (rsR B k + 1) (rsM B k) (fun h3 => ?_) (fun h3 => ?_)
      · rw [if_neg (by omega), if_neg (by omega)] at nx
        rw [nI_1, nI_1]
        exact nx
      · rw [if_pos h3, if_pos h3] at nx
        rw [nI_1, nI_1 k, pk_sub (by omega), nI_1, show k - (rsR B k + 1) + 1 = k + 1 - (rsR B k + 1) by omega]
        exact nx
  have st := key (n - 1) 1 (by omega) (by omega)
  have e1 : rsR B 1 = 0 := by rw [rsR, hB0]; rfl
  rw [fb_ct_succ, hB0, rsM, rsB, e1] at st
  exact st
/-- SQUARES -/
def SquaresAns (n what r : Int32) : Prop := ((¬ Dv n ∨ what.toInt < 0 ∨ 3 < what.toInt) ∧ r = -1) ∨ ((Dv n ∧ 0 ≤ what.toInt ∧ what.toInt ≤ 3) ∧ RunAns (SqB (tn n)) (tn n) what r ∧ (what = 3 → First (fun x => ¬ SqP (tn n) x ∧ Nat.gcd (tn n) x = 1) (tn n) r))
theorem what3 {x : Int32} (h0 : 0 ≤ x.toInt) (h3 : x.toInt ≤ 3) : x = 0 ∨ x = 1 ∨ x = 2 ∨ x = 3 := by
  rw [i_eq, i_eq, i_eq, i_eq]
  have e0 : (0 : Int32).toInt = 0 := rfl
  have e1 : (1 : Int32).toInt = 1 := rfl
  have e2 : (2 : Int32).toInt = 2 := rfl
  have e3 : (3 : Int32).toInt = 3 := rfl
  omega
theorem SquaresAns.one {n what r r' : Int32} (h : SquaresAns n what r) (h' : SquaresAns n what r') : r = r' := by
  rcases h with ⟨h1, h2⟩ | ⟨h1, h2, h3⟩ <;> rcases h' with ⟨k1, k2⟩ | ⟨k1, k2, k3⟩
  · rw [h2, k2]
  · rcases h1 with q | q
    · exact absurd k1.1 q
    · have := k1.2; omega
  · rcases k1 with q | q
    · exact absurd h1.1 q
    · have := h1.2; omega
  · rcases what3 h1.2.1 h1.2.2 with q | q | q | q
    · rw [h2.1 q, k2.1 q]
    · rw [h2.2.1 q, k2.2.1 q]
    · rw [h2.2.2 q, k2.2.2 q]
    · exact (h3 q).one (k3 q)
theorem RunAns.cong {B C : Nat → Bool} {n : Nat} {what r : Int32} (h : RunAns B n what r) (e : ∀ k, k < n → B k = C k) : RunAns C n what r := by
  obtain ⟨-, e2, e3⟩ := rs_cong e
  unfold RunAns at *
  rwa [fb_ct_cong e, e2, e3] at h
set_option maxHeartbeats 4000000 in
set_option maxRecDepth 100000 in
theorem met_X6_squares (l : Launch) (D : va_G) (cy : Nat → ClassId) (ad : Nat → Nat) (sz : Nat) (g : Gs) (a : As) (w : Ws) (p0 : Int32) (p1 : Int32) (post : Int32 → Gs → As → Ws → Prop)
  (hV : ∀ r1 : Int32, post_X6_isDivisor p0 r1 → ((r1 = 0 → post (-1 : Int32) g a w) ∧ (¬ r1 = 0 → ((p1 < 0 → post (-1 : Int32) g a w) ∧ (¬ p1 < 0 → ((p1 ≤ (3 : Int32) → pre_X0_split 0 g a w p0 ∧ (∀ (g23 : Gs) (a23 : As) (w23 : Ws), post_X0_split 0 g a w p0 g23 a23 w23 → pre_X6_markSquares g23 a23 w23 p0 ∧ (∀ (g28 : Gs) (a28 : As) (w28 : Ws), post_X6_markSquares g23 a23 w23 p0 g28 a28 w28 → ((p1 = (3 : Int32) → pre_X6_firstNoSquare g28 a28 w28 p0 ∧ (∀ r38 : Int32, post_X6_firstNoSquare g28 a28 w28 p0 r38 → post r38 g28 a28 w28)) ∧ (¬ p1 = (3 : Int32) → pre_X6_runsOfSquares g28 a28 w28 p0 p1 ∧ (∀ r47 : Int32, post_X6_runsOfSquares g28 a28 w28 p0 p1 r47 → post r47 g28 a28 w28)))))) ∧ (¬ p1 ≤ (3 : Int32) → post (-1 : Int32) g a w))))))) :
  Met l yX6_squares wsX6_squares ({ frames := 3, cells := 0, slots := 0, locals := 71 } : Room) (va_Pc [.ref (ad 0), .int p0, .int p1] (ArP D cy sz (caW ad cy g a w))) (va_Qi (fun (r : Int32) (u : Gs × As × Ws) => post r u.1 u.2.1 u.2.2) (fun u t => va_P D vwCl (caW ad cy u.1 u.2.1 u.2.2) t.heap) (va_A (caW ad cy g a w) sz)) 0 0 (va_A (caW ad cy g a w) sz) := by
  refine Met.ofW (cc := cX6_squares) (maxL := 3) (ret := (some .int)) (by decide) rfl ?_
  intro p e s m args below meth c s₁ B hml hv
  obtain ⟨rfl, hsz, hP, hK, hD0, hN⟩ := hv
  have hx := B.exec
  have hb := B.bytes
  have hr := B.returns
  have hts := atoms_spec (ws := wsX6_squares) B.pre
  have hown : s.vm.findClass RX6 = some m.cls := findClass_of_methodNamed B.named
  have hlocks := B.notSynchronized
  subst hsz
  have hD := hD0.self (sz := s.heap.size)
  have hP : va_P D vwCl (caW ad cy g a w) s.heap := hP
  have hD : va_D (va_A (caW ad cy g a w) s.heap.size) (caW ad cy g a w) := hD
  have hS : va_S (va_A (caW ad cy g a w) s.heap.size) s.heap s.heap [] := va_S.rf
  have hA : ∀ q : Nat, s.heap.size ≤ q → va_A (caW ad cy g a w) s.heap.size q := fun q h => Or.inr h
  have hl := lv_entry ([.ref (ad 0), .int p0, .int p1]) (n := 3) (Nat.le_of_ble_eq_true rfl)
  rw [lg_entry_eq]
  generalize (lg_sl ([.ref (ad 0), .int p0, .int p1]) ++ List.replicate (3 - (lg_sl ([.ref (ad 0), .int p0, .int p1])).length) Slot.unset).toArray = ls at hl ⊢
  have hl : lv_has ls 3 [(0, .ref (ad 0)), (1, .int p0), (2, .int p1)] := hl
  refine lv_iload_n hx hb dX6_squares_0 rfl (lv_at hl 1 rfl) ?_
  refine cp_i (va_runS (As := [.int p0]) (rest := []) ⟨hx, hb, hml, hown, hts⟩ (spec_X6_isDivisor l p0) (va_cwS 1 hts gX6_squares_X6_isDivisor rfl rfl rfl (by decide +kernel) ⟨Nat.le_of_ble_eq_true rfl, Nat.le_of_ble_eq_true rfl⟩) cp_pre rfl rfl hl.1 rfl (lv_room (Nat.le_of_ble_eq_true rfl)) dX6_squares_1 ⟨Nat.zero_le _, Nat.zero_le _⟩) (fun r1 q_1 => ?_)
  have hV := hV r1 q_1
  refine lv_if_eq (tgt := 16) hx hb dX6_squares_4 (by decide) (fun c_4 => ?_) (fun c_4 => ?_)
  · have hV := hV.1 c_4
    refine lv_iconst (v := (-1 : Int32)) hx hb dX6_squares_16 (by decide) ?_
    exact W.iret (v := (-1 : Int32)) hx hb hr (fun t ht hW => ⟨⟨_, (g, a, w), rfl, hV, ar_heap ht hP⟩, hS.F ht⟩) hS.2.2 dX6_squares_17
  · have hV := hV.2 c_4
    refine lv_iload_n hx hb dX6_squares_7 rfl (lv_at hl 2 rfl) ?_
    refine lv_if_lt (tgt := 16) hx hb dX6_squares_8 (by decide) (fun c_8 => ?_) (fun c_8 => ?_)
    · have hV := hV.1 c_8
      refine lv_iconst (v := (-1 : Int32)) hx hb dX6_squares_16 (by decide) ?_
      exact W.iret (v := (-1 : Int32)) hx hb hr (fun t ht hW => ⟨⟨_, (g, a, w), rfl, hV, ar_heap ht hP⟩, hS.F ht⟩) hS.2.2 dX6_squares_17
    · have hV := hV.2 c_8
      refine lv_iload_n hx hb dX6_squares_11 rfl (lv_at hl 2 rfl) ?_
      refine lv_iconst (v := (3 : Int32)) hx hb dX6_squares_12 (by decide) ?_
      refine lv_icmp_le (tgt := 18) hx hb dX6_squares_13 (by decide) (fun c_13 => ?_) (fun c_13 => ?_)
      · have hV := hV.1 c_13
        refine lv_aload_n hx hb dX6_squares_18 rfl (lv_at hl 0 rfl) ?_
        refine va_get (D := D) (ci := 5) (v := .ref (ad 1)) (C := RX6) (T := TX6) (N := 10) hx hb hts (by decide +kernel) hown hK hP 0 rfl rfl 0 (by decide) (hts (.fieldLink RX6 10 "PowerRests" "ofN" "LPowerRests$Factors;") (by decide +kernel)) (fun _ h9 => h9) rfl dX6_squares_19 ?_
        refine lv_iload_n hx hb dX6_squares_22 rfl (lv_at hl 1 rfl) ?_
        obtain ⟨h_23, hV⟩ := hV
        refine cw_v (va_runV (As := [.int p0]) (rest := []) ⟨hx, hb, hml, hown, hts⟩ (spec_X0_split l 0 (by decide) D cy ad _ g a w p0 h_23) (cwV 1 hts gX6_squares_X0_split rfl rfl rfl (by decide +kernel) ⟨Nat.le_of_ble_eq_true rfl, Nat.le_of_ble_eq_true rfl⟩) (ar_preV hN hK hP (caD hD) (ci := 0) (q0 := 1) rfl rfl) rfl rfl hl.1 rfl (lv_room (Nat.le_of_ble_eq_true rfl)) dX6_squares_23 ⟨Nat.zero_le _, Nat.zero_le _⟩) hS (caD hD) hA (fun u_23 H locs q_23 hP hS => ?_)
        obtain ⟨g23, a23, w23⟩ := u_23
        have hV := hV g23 a23 w23 q_23
        have hP : va_P D vwCl (caW ad cy g23 a23 w23) H := hP
        refine lv_aload_n hx hb dX6_squares_26 rfl (lv_at hl 0 rfl) ?_
        refine lv_iload_n hx hb dX6_squares_27 rfl (lv_at hl 1 rfl) ?_
        obtain ⟨h_28, hV⟩ := hV
        refine cw_v (va_runV (As := [.int p0]) (rest := []) ⟨hx, hb, hml, hown, hts⟩ (spec_X6_markSquares l D cy ad _ g23 a23 w23 p0 h_28) (cwV 1 hts gX6_squares_X6_markSquares rfl rfl rfl (by decide +kernel) ⟨Nat.le_of_ble_eq_true rfl, Nat.le_of_ble_eq_true rfl⟩) (ar_preV hN hK hP (caD hD) (ci := 5) (q0 := 0) rfl rfl) rfl rfl hl.1 rfl (lv_room (Nat.le_of_ble_eq_true rfl)) dX6_squares_28 ⟨Nat.zero_le _, Nat.zero_le _⟩) hS (caD hD) hA (fun u_28 H locs q_28 hP hS => ?_)
        obtain ⟨g28, a28, w28⟩ := u_28
        have hV := hV g28 a28 w28 q_28
        have hP : va_P D vwCl (caW ad cy g28 a28 w28) H := hP
        refine lv_iload_n hx hb dX6_squares_31 rfl (lv_at hl 2 rfl) ?_
        refine lv_iconst (v := (3 : Int32)) hx hb dX6_squares_32 (by decide) ?_
        refine lv_icmp_ne (tgt := 44) hx hb dX6_squares_33 (by decide) (fun c_33 => ?_) (fun c_33 => ?_)
        · have hV := hV.2 c_33
          refine lv_aload_n hx hb dX6_squares_44 rfl (lv_at hl 0 rfl) ?_
          refine lv_iload_n hx hb dX6_squares_45 rfl (lv_at hl 1 rfl) ?_
          refine lv_iload_n hx hb dX6_squares_46 rfl (lv_at hl 2 rfl) ?_
          obtain ⟨h_47, hV⟩ := hV
          refine cp_i (va_runV (As := [.int p0, .int p1]) (rest := []) ⟨hx, hb, hml, hown, hts⟩ (spec_X6_runsOfSquares l D cy ad _ g28 a28 w28 p0 p1 h_47) (cwV 2 hts gX6_squares_X6_runsOfSquares rfl rfl rfl (by decide +kernel) ⟨Nat.le_of_ble_eq_true rfl, Nat.le_of_ble_eq_true rfl⟩) (ar_preV hN hK hP (caD hD) (ci := 5) (q0 := 0) rfl rfl) rfl rfl hl.1 rfl (lv_room (Nat.le_of_ble_eq_true rfl)) dX6_squares_47 ⟨Nat.zero_le _, Nat.zero_le _⟩) (fun r47 q_47 => ?_)
          have hV := hV r47 q_47
          exact W.iret (v := r47) hx hb hr (fun t ht hW => ⟨⟨_, (g28, a28, w28), rfl, hV, ar_heap ht hP⟩, hS.F ht⟩) hS.2.2 dX6_squares_50
        · have hV := hV.1 c_33
          refine lv_aload_n hx hb dX6_squares_36 rfl (lv_at hl 0 rfl) ?_
          refine lv_iload_n hx hb dX6_squares_37 rfl (lv_at hl 1 rfl) ?_
          obtain ⟨h_38, hV⟩ := hV
          refine cp_i (va_runV (As := [.int p0]) (rest := []) ⟨hx, hb, hml, hown, hts⟩ (spec_X6_firstNoSquare l D cy ad _ g28 a28 w28 p0 h_38) (cwV 1 hts gX6_squares_X6_firstNoSquare rfl rfl rfl (by decide +kernel) ⟨Nat.le_of_ble_eq_true rfl, Nat.le_of_ble_eq_true rfl⟩) (ar_preV hN hK hP (caD hD) (ci := 5) (q0 := 0) rfl rfl) rfl rfl hl.1 rfl (lv_room (Nat.le_of_ble_eq_true rfl)) dX6_squares_38 ⟨Nat.zero_le _, Nat.zero_le _⟩) (fun r38 q_38 => ?_)
          have hV := hV r38 q_38
          refine lv_goto (tgt := 50) hx hb dX6_squares_41 (by decide) ?_
          exact W.iret (v := r38) hx hb hr (fun t ht hW => ⟨⟨_, (g28, a28, w28), rfl, hV, ar_heap ht hP⟩, hS.F ht⟩) hS.2.2 dX6_squares_50
      · have hV := hV.2 c_13
        refine lv_iconst (v := (-1 : Int32)) hx hb dX6_squares_16 (by decide) ?_
        exact W.iret (v := (-1 : Int32)) hx hb hr (fun t ht hW => ⟨⟨_, (g, a, w), rfl, hV, ar_heap ht hP⟩, hS.F ht⟩) hS.2.2 dX6_squares_17
def post_X6_squares (g : Gs) (a : As) (w : Ws) (p0 p1 r : Int32) (g' : Gs) (a' : As) (w' : Ws) : Prop := SquaresAns p0 p1 r ∧ MS g a w g' a' w'
theorem fac0_keep {n : Nat} {g g' : Gs} {a a' : As} (h : Fac 0 n g a) (e1 : g' 0 = g 0) (e2 : a' 0 = a 0) (e3 : a' 2 = a 2) : Fac 0 n g' a' := by
  unfold Fac PP TT at *
  show FacF n (fun i => tn (a' 0 i)) (fun i => tn (a' 2 i)) (tn (g' 0)) ∧ n ≤ 100000 ∧ g' 0 = nI (tn (g' 0)) ∧ ∀ i, i < tn (g' 0) → a' 0 i = nI (tn (a' 0 i)) ∧ a' 2 i = nI (tn (a' 2 i))
  rw [e1, e2, e3]
  exact h
set_option maxRecDepth 4000 in
theorem spec_X6_squares (l : Launch) (D : va_G) (cy : Nat → ClassId) (ad : Nat → Nat) (sz : Nat) (g : Gs) (a : As) (w : Ws) (p0 : Int32) (p1 : Int32) : Met l yX6_squares wsX6_squares ({ frames := 3, cells := 0, slots := 0, locals := 71 } : Room) (va_Pc [.ref (ad 0), .int p0, .int p1] (ArP D cy sz (caW ad cy g a w))) (va_Qi (fun (r : Int32) (u : Gs × As × Ws) => (post_X6_squares g a w p0 p1) r u.1 u.2.1 u.2.2) (fun u t => va_P D vwCl (caW ad cy u.1 u.2.1 u.2.2) t.heap) (va_A (caW ad cy g a w) sz)) 0 0 (va_A (caW ad cy g a w) sz) := by
  apply met_X6_squares
  intro r hr
  unfold post_X6_isDivisor at hr
  subst hr
  have e0 : (0 : Int32).toInt = 0 := rfl
  have e3 : (3 : Int32).toInt = 3 := rfl
  refine ⟨fun h => ⟨Or.inl ⟨Or.inl (zb_0 h), rfl⟩, MS.rf⟩, fun h => ⟨fun h2 => ⟨Or.inl ⟨Or.inr (Or.inl (by rw [i_lt, e0] at h2; exact h2)), rfl⟩, MS.rf⟩, fun h2 => ⟨fun h3 => ?_, fun h3 => ⟨Or.inl ⟨Or.inr (Or.inr (by rw [i_le, e3] at h3; omega)), rfl⟩, MS.rf⟩⟩⟩⟩
  have hdv : Dv p0 := zb_1 h
  obtain ⟨d1, d2⟩ := id hdv
  rw [i_lt, e0] at h2
  rw [i_le, e3] at h3
  obtain ⟨n, hn, rfl, hn2⟩ := of_i (x := p0) (by omega)
  have tnn : tn (nI n) = n := tn_nI hn
  refine ⟨⟨by omega, by omega⟩, fun g1 a1 w1 hsp => ⟨hdv, fun g2 a2 w2 hmk => ?_⟩⟩
  have hF1 : Fac 0 n g1 a1 := by have := hsp.2.1 (by rw [tnn]; omega); rwa [tnn] at this
  have hFS := split_FS (by decide) hsp
  have hMS := Marked.ms hFS hmk
  have hF2 : Fac 0 n g2 a2 := by
    rw [hmk.1, hmk.2.1]
    exact hF1
  have hS : ∀ x, x < n → ((mB (w2 8) x = true ∧ Nat.gcd n x = 1) ↔ SqP n x) := fun x hx => by
    have h1 := hmk.has (x := x) (by omega)
    rw [tnn] at h1
    rw [h1]
    exact sq_half (by omega)
  refine ⟨fun h4 => ⟨⟨hdv, by rw [tnn]; exact hF2⟩, fun r2 hr2 => ⟨Or.inr ⟨⟨hdv, by omega, h3⟩, ?_, fun _ => ?_⟩, hMS⟩⟩, fun h4 => ⟨⟨hdv, by rw [tnn]; exact hF2⟩, fun r2 hr2 => ⟨Or.inr ⟨⟨hdv, by omega, h3⟩, ?_, fun q => absurd q h4⟩, hMS⟩⟩⟩
  · subst h4
    exact ⟨fun q => absurd q (by decide), fun q => absurd q (by decide), fun q => absurd q (by decide)⟩
  · rw [tnn]
    unfold post_X6_firstNoSquare at hr2
    rw [tnn] at hr2
    refine hr2.cong (fun x hx => ?_)
    rw [← hS x hx]
    constructor
    · rintro ⟨q1, q2⟩
      exact ⟨fun z => q1 z.1, q2⟩
    · rintro ⟨q1, q2⟩
      exact ⟨fun z => q1 ⟨z, q2⟩, q2⟩
  · rw [tnn]
    unfold post_X6_runsOfSquares at hr2
    rw [tnn] at hr2
    exact hr2.cong (fun x hx => cb_iff (hS x hx))
