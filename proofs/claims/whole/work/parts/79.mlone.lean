/-! needless items, lone sets, the reference -/
theorem LdM.ks {g : Gs} {a : As} (h : LdM g a) {a' : As} (hk : ∀ j, j < 9 → a' j = a j) : LdM g a' ∧ mH a' = mH a := by
  have e : ∀ j, j < 9 → ∀ i, a' j i = a j i := fun j hj i => by rw [hk j hj]
  have e1 : ∀ k, ml a' k = ml a k := fun k => by show tn (a' 1 k) = tn (a 1 k); rw [hk 1 (by decide)]
  have e2 : ∀ k, mf a' k = mf a k := fun k => by show tn (a' 2 k) = tn (a 2 k); rw [hk 2 (by decide)]
  have e3 : ∀ k, ms a' k = ms a k := fun k => by show tn (a' 3 k) = tn (a 3 k); rw [hk 3 (by decide)]
  have e4 : ∀ k, mb a' k = mb a k := fun k => by show tn (a' 4 k) = tn (a 4 k); rw [hk 4 (by decide)]
  refine ⟨⟨h.1, h.2.1, fun k hk2 => ?_⟩, ?_⟩
  · rw [e1, e2, e3, e4, hk 1 (by decide), hk 2 (by decide), hk 3 (by decide), hk 4 (by decide)]
    exact h.2.2 k hk2
  · funext k x
    unfold mH
    rw [e1, e2, e3, e4]
/-- which sets of failing items are seen -/
def Seen (n : Nat) (H : Nat → Nat → Bool) (P s : Nat) : Prop := ∃ x, x < P ∧ flS H x n = s
def pre_X7_looksAll (g : Gs) (a : As) : Prop := LdM g a
set_option maxHeartbeats 4000000 in
set_option maxRecDepth 100000 in
theorem met_X7_looksAll (l : Launch) (D : va_G) (cy : Nat → ClassId) (ad : Nat → Nat) (sz : Nat) (g : Gs) (a : As) (post : Gs → As → Prop)
  (hV : ∀ (J2 : Int32 → Gs → As → Prop) (J24 : Int32 → Gs → As → Prop),
    (∀ (x1 : Int32) (g_ : Gs) (a_ : As), (((256 : Int32) ≤ x1 → J24 (0 : Int32) g_ a_) ∧ (¬ (256 : Int32) ≤ x1 → vp_in x1 256 ∧ (J2 (x1 + 1) g_ (va_up a_ 11 (upd (a_ 11) x1.toNatClampNeg (vp_nar .boolean (0 : Int32))))))) → J2 x1 g_ a_) →
    (∀ (x1 : Int32) (g_ : Gs) (a_ : As), (((g_ 3) ≤ x1 → post g_ a_) ∧ (¬ (g_ 3) ≤ x1 → pre_X7_fails g_ a_ x1 ∧ (∀ r38 : Int32, post_X7_fails g_ a_ x1 r38 → vp_in r38 256 ∧ (J24 (x1 + 1) g_ (va_up a_ 11 (upd (a_ 11) r38.toNatClampNeg (vp_nar .boolean (1 : Int32)))))))) → J24 x1 g_ a_) →
    J2 (0 : Int32) g a) :
  Met l yX7_looksAll wsX7_looksAll ({ frames := 3, cells := 0, slots := 0, locals := 76 } : Room) (va_Pc [.ref (ad 0)] (ArP D cy sz (maW ad cy g a))) (va_Qv (fun (u : Gs × As) => post u.1 u.2) (fun u t => va_P D vwCl (maW ad cy u.1 u.2) t.heap) (va_A (maW ad cy g a) sz)) 0 0 (va_A (maW ad cy g a) sz) := by
  refine Met.ofW (cc := cX7_looksAll) (maxL := 2) (ret := none) (by decide) rfl ?_
  intro p e s m args below meth c s₁ B hml hv
  obtain ⟨rfl, hsz, hP, hK, hD0, hN⟩ := hv
  have hx := B.exec
  have hb := B.bytes
  have hr := B.returns
  have hts := atoms_spec (ws := wsX7_looksAll) B.pre
  have hown : s.vm.findClass RX7 = some m.cls := findClass_of_methodNamed B.named
  have hlocks := B.notSynchronized
  subst hsz
  have hD := hD0.self (sz := s.heap.size)
  have hP : va_P D vwCl (maW ad cy g a) s.heap := hP
  have hD : va_D (va_A (maW ad cy g a) s.heap.size) (maW ad cy g a) := hD
  have hS : va_S (va_A (maW ad cy g a) s.heap.size) s.heap s.heap [] := va_S.rf
  have hA : ∀ q : Nat, s.heap.size ≤ q → va_A (maW ad cy g a) s.heap.size q := fun q h => Or.inr h
  obtain ⟨J2, iJ2, oJ2⟩ : ∃ J : Int32 → Gs → As → Prop, (∀ (x1 : Int32) (g_ : Gs) (a_ : As), (∀ (H : Heap) (locs : List Loc), va_P D vwCl (maW ad cy g_ a_) H → va_S (va_A (maW ad cy g a) s.heap.size) s.heap H locs → ∀ ls : Array Slot, lv_has ls 2 [(0, .ref (ad 0)), (1, .int x1)] → W p l e (headSpec wsX7_looksAll ({ frames := 3, cells := 0, slots := 0, locals := 76 } : Room)).room s m [.ref (ad 0)].toArray below meth c H locs 0 0 (MQ below (va_Qv (fun (u : Gs × As) => post u.1 u.2) (fun u t => va_P D vwCl (maW ad cy u.1 u.2) t.heap) (va_A (maW ad cy g a) s.heap.size)) [.ref (ad 0)].toArray s 0 0 (va_A (maW ad cy g a) s.heap.size)) (F0 m 2 ls [])) → J x1 g_ a_) ∧ (∀ (x1 : Int32) (g_ : Gs) (a_ : As), J x1 g_ a_ → (∀ (H : Heap) (locs : List Loc), va_P D vwCl (maW ad cy g_ a_) H → va_S (va_A (maW ad cy g a) s.heap.size) s.heap H locs → ∀ ls : Array Slot, lv_has ls 2 [(0, .ref (ad 0)), (1, .int x1)] → W p l e (headSpec wsX7_looksAll ({ frames := 3, cells := 0, slots := 0, locals := 76 } : Room)).room s m [.ref (ad 0)].toArray below meth c H locs 0 0 (MQ below (va_Qv (fun (u : Gs × As) => post u.1 u.2) (fun u t => va_P D vwCl (maW ad cy u.1 u.2) t.heap) (va_A (maW ad cy g a) s.heap.size)) [.ref (ad 0)].toArray s 0 0 (va_A (maW ad cy g a) s.heap.size)) (F0 m 2 ls []))) := ⟨fun (x1 : Int32) (g_ : Gs) (a_ : As) => (∀ (H : Heap) (locs : List Loc), va_P D vwCl (maW ad cy g_ a_) H → va_S (va_A (maW ad cy g a) s.heap.size) s.heap H locs → ∀ ls : Array Slot, lv_has ls 2 [(0, .ref (ad 0)), (1, .int x1)] → W p l e (headSpec wsX7_looksAll ({ frames := 3, cells := 0, slots := 0, locals := 76 } : Room)).room s m [.ref (ad 0)].toArray below meth c H locs 0 0 (MQ below (va_Qv (fun (u : Gs × As) => post u.1 u.2) (fun u t => va_P D vwCl (maW ad cy u.1 u.2) t.heap) (va_A (maW ad cy g a) s.heap.size)) [.ref (ad 0)].toArray s 0 0 (va_A (maW ad cy g a) s.heap.size)) (F0 m 2 ls [])), fun _ _ _ h => h, fun _ _ _ h => h⟩
  obtain ⟨J24, iJ24, oJ24⟩ : ∃ J : Int32 → Gs → As → Prop, (∀ (x1 : Int32) (g_ : Gs) (a_ : As), (∀ (H : Heap) (locs : List Loc), va_P D vwCl (maW ad cy g_ a_) H → va_S (va_A (maW ad cy g a) s.heap.size) s.heap H locs → ∀ ls : Array Slot, lv_has ls 2 [(0, .ref (ad 0)), (1, .int x1)] → W p l e (headSpec wsX7_looksAll ({ frames := 3, cells := 0, slots := 0, locals := 76 } : Room)).room s m [.ref (ad 0)].toArray below meth c H locs 0 0 (MQ below (va_Qv (fun (u : Gs × As) => post u.1 u.2) (fun u t => va_P D vwCl (maW ad cy u.1 u.2) t.heap) (va_A (maW ad cy g a) s.heap.size)) [.ref (ad 0)].toArray s 0 0 (va_A (maW ad cy g a) s.heap.size)) (F0 m 24 ls [])) → J x1 g_ a_) ∧ (∀ (x1 : Int32) (g_ : Gs) (a_ : As), J x1 g_ a_ → (∀ (H : Heap) (locs : List Loc), va_P D vwCl (maW ad cy g_ a_) H → va_S (va_A (maW ad cy g a) s.heap.size) s.heap H locs → ∀ ls : Array Slot, lv_has ls 2 [(0, .ref (ad 0)), (1, .int x1)] → W p l e (headSpec wsX7_looksAll ({ frames := 3, cells := 0, slots := 0, locals := 76 } : Room)).room s m [.ref (ad 0)].toArray below meth c H locs 0 0 (MQ below (va_Qv (fun (u : Gs × As) => post u.1 u.2) (fun u t => va_P D vwCl (maW ad cy u.1 u.2) t.heap) (va_A (maW ad cy g a) s.heap.size)) [.ref (ad 0)].toArray s 0 0 (va_A (maW ad cy g a) s.heap.size)) (F0 m 24 ls []))) := ⟨fun (x1 : Int32) (g_ : Gs) (a_ : As) => (∀ (H : Heap) (locs : List Loc), va_P D vwCl (maW ad cy g_ a_) H → va_S (va_A (maW ad cy g a) s.heap.size) s.heap H locs → ∀ ls : Array Slot, lv_has ls 2 [(0, .ref (ad 0)), (1, .int x1)] → W p l e (headSpec wsX7_looksAll ({ frames := 3, cells := 0, slots := 0, locals := 76 } : Room)).room s m [.ref (ad 0)].toArray below meth c H locs 0 0 (MQ below (va_Qv (fun (u : Gs × As) => post u.1 u.2) (fun u t => va_P D vwCl (maW ad cy u.1 u.2) t.heap) (va_A (maW ad cy g a) s.heap.size)) [.ref (ad 0)].toArray s 0 0 (va_A (maW ad cy g a) s.heap.size)) (F0 m 24 ls [])), fun _ _ _ h => h, fun _ _ _ h => h⟩
  have hV := hV J2 J24
  replace hV := hV (by
    intro x1 g_ a_ hV
    refine iJ2 x1 g_ a_ ?_
    intro H locs hP hS ls hl
    refine lv_iload_n hx hb dX7_looksAll_2 rfl (lv_at hl 1 rfl) ?_
    refine lv_sipush (v := (256 : Int32)) hx hb dX7_looksAll_3 (by decide) ?_
    refine lv_icmp_ge (tgt := 22) hx hb dX7_looksAll_6 (by decide) (fun c_6 => ?_) (fun c_6 => ?_)
    · have hV := hV.1 c_6
      refine lv_iconst (v := (0 : Int32)) hx hb dX7_looksAll_22 (by decide) ?_
      refine lv_istore_n (lv' := [(1, .int (0 : Int32)), (0, .ref (ad 0))]) hx hb dX7_looksAll_23 rfl hl (by decide) rfl (fun ls hl => ?_)
      exact oJ24 _ _ _ hV _ _ hP hS _ (lv_sub hl [1, 0] rfl)
    · have hV := hV.2 c_6
      refine lv_aload_n hx hb dX7_looksAll_9 rfl (lv_at hl 0 rfl) ?_
      refine va_get (D := D) (ci := 6) (v := .ref (ad 12)) (C := RX7) (T := TX7) (N := 18) hx hb hts (by decide +kernel) hown hK hP 0 rfl rfl 16 (by decide) (hts (.fieldLink RX7 50 "PowerRestsModel" "seen" "[Z") (by decide +kernel)) (fun _ h9 => h9) rfl dX7_looksAll_10 ?_
      refine lv_iload_n hx hb dX7_looksAll_13 rfl (lv_at hl 1 rfl) ?_
      refine lv_iconst (v := (0 : Int32)) hx hb dX7_looksAll_14 (by decide) ?_
      obtain ⟨h_15, hV⟩ := hV
      refine va_zast (f := (a_ 11)) hx hb hK hP (maD hD) hS 12 1 rfl rfl h_15 dX7_looksAll_15 (fun H locs hP _ hS => ?_)
      have hP : va_P D vwCl (maW ad cy g_ (va_up a_ 11 (upd (a_ 11) x1.toNatClampNeg (vp_nar .boolean (0 : Int32))))) H := hP
      refine lv_iinc (v := x1 + 1) (lv' := [(1, .int (x1 + 1)), (0, .ref (ad 0))]) hx hb dX7_looksAll_16 hl (k := 1) rfl rfl (by decide) rfl (fun ls hl => ?_)
      refine lv_goto (tgt := 2) hx hb dX7_looksAll_19 (by decide) ?_
      exact oJ2 _ _ _ hV _ _ hP hS _ (lv_sub hl [1, 0] rfl))
  replace hV := hV (by
    intro x1 g_ a_ hV
    refine iJ24 x1 g_ a_ ?_
    intro H locs hP hS ls hl
    refine lv_iload_n hx hb dX7_looksAll_24 rfl (lv_at hl 1 rfl) ?_
    refine lv_aload_n hx hb dX7_looksAll_25 rfl (lv_at hl 0 rfl) ?_
    refine va_get (D := D) (ci := 6) (v := .int (g_ 3)) (C := RX7) (T := TX7) (N := 18) hx hb hts (by decide +kernel) hown hK hP 0 rfl rfl 4 (by decide) (hts (.fieldLink RX7 13 "PowerRestsModel" "period" "I") (by decide +kernel)) (fun _ h9 => h9) rfl dX7_looksAll_26 ?_
    refine lv_icmp_ge (tgt := 49) hx hb dX7_looksAll_29 (by decide) (fun c_29 => ?_) (fun c_29 => ?_)
    · have hV := hV.1 c_29
      exact W.vret hx hb hr (fun t ht hW => ⟨⟨(g_, a_), rfl, hV, ar_heap ht hP⟩, hS.F ht⟩) hS.2.2 dX7_looksAll_49
    · have hV := hV.2 c_29
      refine lv_aload_n hx hb dX7_looksAll_32 rfl (lv_at hl 0 rfl) ?_
      refine va_get (D := D) (ci := 6) (v := .ref (ad 12)) (C := RX7) (T := TX7) (N := 18) hx hb hts (by decide +kernel) hown hK hP 0 rfl rfl 16 (by decide) (hts (.fieldLink RX7 50 "PowerRestsModel" "seen" "[Z") (by decide +kernel)) (fun _ h9 => h9) rfl dX7_looksAll_33 ?_
      refine lv_aload_n hx hb dX7_looksAll_36 rfl (lv_at hl 0 rfl) ?_
      refine lv_iload_n hx hb dX7_looksAll_37 rfl (lv_at hl 1 rfl) ?_
      obtain ⟨h_38, hV⟩ := hV
      refine cp_i (va_runV (As := [.int x1]) (rest := [.ref (ad 12)]) ⟨hx, hb, hml, hown, hts⟩ (spec_X7_fails l D cy ad _ g_ a_ x1 h_38) (cwV 1 hts gX7_looksAll_X7_fails rfl rfl rfl (by decide +kernel) ⟨Nat.le_of_ble_eq_true rfl, Nat.le_of_ble_eq_true rfl⟩) (ar_preV hN hK hP (maD hD) (ci := 6) (q0 := 0) rfl rfl) rfl rfl hl.1 rfl (lv_room (Nat.le_of_ble_eq_true rfl)) dX7_looksAll_38 ⟨Nat.zero_le _, Nat.zero_le _⟩) (fun r38 q_38 => ?_)
      have hV := hV r38 q_38
      refine lv_iconst (v := (1 : Int32)) hx hb dX7_looksAll_41 (by decide) ?_
      obtain ⟨h_42, hV⟩ := hV
      refine va_zast (f := (a_ 11)) hx hb hK hP (maD hD) hS 12 1 rfl rfl h_42 dX7_looksAll_42 (fun H locs hP _ hS => ?_)
      have hP : va_P D vwCl (maW ad cy g_ (va_up a_ 11 (upd (a_ 11) r38.toNatClampNeg (vp_nar .boolean (1 : Int32))))) H := hP
      refine lv_iinc (v := x1 + 1) (lv' := [(1, .int (x1 + 1)), (0, .ref (ad 0))]) hx hb dX7_looksAll_43 hl (k := 1) rfl rfl (by decide) rfl (fun ls hl => ?_)
      refine lv_goto (tgt := 24) hx hb dX7_looksAll_46 (by decide) ?_
      exact oJ24 _ _ _ hV _ _ hP hS _ (lv_sub hl [1, 0] rfl))
  have hl := lv_entry ([.ref (ad 0)]) (n := 2) (Nat.le_of_ble_eq_true rfl)
  rw [lg_entry_eq]
  generalize (lg_sl ([.ref (ad 0)]) ++ List.replicate (2 - (lg_sl ([.ref (ad 0)])).length) Slot.unset).toArray = ls at hl ⊢
  have hl : lv_has ls 2 [(0, .ref (ad 0))] := hl
  refine lv_iconst (v := (0 : Int32)) hx hb dX7_looksAll_0 (by decide) ?_
  refine lv_istore_n (lv' := [(1, .int (0 : Int32)), (0, .ref (ad 0))]) hx hb dX7_looksAll_1 rfl hl (by decide) rfl (fun ls hl => ?_)
  exact oJ2 _ _ _ hV _ _ hP hS _ (lv_sub hl [1, 0] rfl)
def post_X7_looksAll (g : Gs) (a : As) (g' : Gs) (a' : As) : Prop := g' = g ∧ ∃ f, a' = va_up a 11 f ∧ ∀ s, s < 256 → f s = zb (Seen (mN g) (mH a) (mP g) s)
set_option maxRecDepth 4000 in
theorem spec_X7_looksAll (l : Launch) (D : va_G) (cy : Nat → ClassId) (ad : Nat → Nat) (sz : Nat) (g : Gs) (a : As) (hpre : pre_X7_looksAll g a) : Met l yX7_looksAll wsX7_looksAll ({ frames := 3, cells := 0, slots := 0, locals := 76 } : Room) (va_Pc [.ref (ad 0)] (ArP D cy sz (maW ad cy g a))) (va_Qv (fun (u : Gs × As) => (post_X7_looksAll g a) u.1 u.2) (fun u t => va_P D vwCl (maW ad cy u.1 u.2) t.heap) (va_A (maW ad cy g a) sz)) 0 0 (va_A (maW ad cy g a) sz) := by
  apply met_X7_looksAll
  intro J2 J24 h2 h24
  have hLd : LdM g a := hpre
  obtain ⟨hP1, hP2, hg3⟩ := hLd.2.1
  have nar0 : vp_nar .boolean (0 : Int32) = 0 := rfl
  have nar1 : vp_nar .boolean (1 : Int32) = 1 := rfl
  rw [nar0] at h2
  simp only [nar1] at h24
  have fill : ∀ (d k : Nat) (f : Nat → Int32), k + d = mP g → (∀ s, s < 256 → f s = zb (Seen (mN g) (mH a) k s)) → J24 (nI k) g (va_up a 11 f) := by
    intro d
    induction d with
    | zero =>
      intro k f hk hf
      refine h24 _ _ _ ?_
      rw [hg3]
      refine pk_le (mP g) k (fun _ => ⟨rfl, f, rfl, ?_⟩) (fun h => absurd h (by omega)) rfl rfl (by omega) (by omega)
      rw [show mP g = k by omega]; exact hf
    | succ d ih =>
      intro k f hk hf
      refine h24 _ _ _ ?_
      obtain ⟨hL2, eH⟩ := hLd.ks (a' := va_up a 11 f) (fun j hj => up_n _ _ (by omega))
      have hfl := fl_b hLd k
      rw [hg3]
      refine pk_le (mP g) k (fun h => absurd h (by omega)) (fun _ => ⟨⟨hL2, by rw [nI_toInt (by omega)]; omega⟩, fun r hr => ?_⟩) rfl rfl (by omega) (by omega)
      unfold post_X7_fails at hr
      rw [tn_nI (by omega), eH] at hr
      subst hr
      refine ⟨vp_in_nI hfl (by omega), ?_⟩
      rw [up_up, up_0, nI_1, show (nI (flS (mH a) k (mN g))).toNatClampNeg = flS (mH a) k (mN g) from tn_nI (by omega)]
      refine ih (k + 1) _ (by omega) (fun s hs => ?_)
      by_cases z : s = flS (mH a) k (mN g)
      · rw [z, pk_us]
        exact (zb_t ⟨k, by omega, rfl⟩).symm
      · rw [pk_un z, hf s hs]
        refine zb_c ⟨fun ⟨x, x1, x2⟩ => ⟨x, by omega, x2⟩, fun ⟨x, x1, x2⟩ => ⟨x, ?_, x2⟩⟩
        have : x ≠ k := fun y => z (by rw [← x2, y])
        omega
  have wipe : ∀ (d k : Nat) (f : Nat → Int32), k + d = 256 → (∀ s, s < k → f s = 0) → J2 (nI k) g (va_up a 11 f) := by
    intro d
    induction d with
    | zero =>
      intro k f hk hf
      refine h2 _ _ _ (pk_le 256 k (fun _ => fill (mP g) 0 f (by omega) (fun s hs => ?_)) (fun h => absurd h (by omega)))
      rw [hf s (by omega)]
      exact (zb_f (fun ⟨x, x1, _⟩ => absurd x1 (Nat.not_lt_zero x))).symm
    | succ d ih =>
      intro k f hk hf
      refine h2 _ _ _ (pk_le 256 k (fun h => absurd h (by omega)) (fun _ => ⟨vp_in_nI (by omega) (by omega), ?_⟩))
      rw [up_up, up_0, nI_1, show (nI k).toNatClampNeg = k from tn_nI (by omega)]
      refine ih (k + 1) _ (by omega) (fun s hs => ?_)
      by_cases z : s = k
      · rw [z, pk_us]
      · rw [pk_un z]; exact hf s (by omega)
  have := wipe 256 0 (a 11) (by omega) (fun s hs => by omega)
  rw [up_id] at this
  exact this
theorem seen_only {n : Nat} {H : Nat → Nat → Bool} {P k : Nat} (hP : 1 ≤ P) (h : Per n H P) (hk : k < n) : Ndl n H k ↔ ¬ Seen n H P (2 ^ k) := by
  constructor
  · rintro hN ⟨x, hx, he⟩
    have hb := fun j => flS_bit H x n j
    rw [he] at hb
    have h1 := hN x (fun j hj hjk => by
      have := hb j
      rw [Nat.testBit_two_pow, decide_eq_true hj, Bool.true_and, decide_eq_false (fun z => hjk z.symm)] at this
      cases hc : H j x
      · rw [hc] at this; exact Bool.noConfusion this
      · rfl)
    have := hb k
    rw [Nat.testBit_two_pow, decide_eq_true rfl, decide_eq_true hk, h1] at this
    exact Bool.noConfusion this
  · intro hs x hx
    cases hc : H k x
    · exfalso
      refine hs ⟨x % P, Nat.mod_lt x (by omega), ?_⟩
      have hm : ∀ j, j < n → H j (x % P) = H j x := fun j hj => h j hj _ _ (Nat.mod_mod x P)
      apply Nat.eq_of_testBit_eq
      intro j
      rw [flS_bit, Nat.testBit_two_pow]
      by_cases z : j < n
      · rw [decide_eq_true z, Bool.true_and, hm j z]
        by_cases y : j = k
        · rw [y, hc, decide_eq_true rfl]; rfl
        · rw [hx j z y, decide_eq_false (fun q => y q.symm)]; rfl
      · rw [decide_eq_false z, decide_eq_false (show ¬ k = j by omega)]; rfl
    · rfl
def pre_X7_needless (g : Gs) (a : As) (p0 : Int32) : Prop := LdM g a
set_option maxHeartbeats 4000000 in
set_option maxRecDepth 100000 in
theorem met_X7_needless (l : Launch) (D : va_G) (cy : Nat → ClassId) (ad : Nat → Nat) (sz : Nat) (g : Gs) (a : As) (p0 : Int32) (post : Int32 → Gs → As → Prop)
  (hV : ∀ r10 : Int32, post_X7_in p0.toInt64 (0 : Int64) (((g 2) - (1 : Int32)).toInt64) r10 → ((r10 = 0 → post (-1 : Int32) g a) ∧ (¬ r10 = 0 → pre_X7_looksAll g a ∧ (∀ (g19 : Gs) (a19 : As), post_X7_looksAll g a g19 a19 → vp_in ((1 : Int32) <<< (p0 &&& 31)) 256 ∧ (((((a19 11) ((1 : Int32) <<< (p0 &&& 31)).toNatClampNeg) = 0 → post (1 : Int32) g19 a19) ∧ (¬ ((a19 11) ((1 : Int32) <<< (p0 &&& 31)).toNatClampNeg) = 0 → post (0 : Int32) g19 a19))))))) :
  Met l yX7_needless wsX7_needless ({ frames := 4, cells := 0, slots := 0, locals := 97 } : Room) (va_Pc [.ref (ad 0), .int p0] (ArP D cy sz (maW ad cy g a))) (va_Qi (fun (r : Int32) (u : Gs × As) => post r u.1 u.2) (fun u t => va_P D vwCl (maW ad cy u.1 u.2) t.heap) (va_A (maW ad cy g a) sz)) 0 0 (va_A (maW ad cy g a) sz) := by
  refine Met.ofW (cc := cX7_needless) (maxL := 2) (ret := (some .int)) (by decide) rfl ?_
  intro p e s m args below meth c s₁ B hml hv
  obtain ⟨rfl, hsz, hP, hK, hD0, hN⟩ := hv
  have hx := B.exec
  have hb := B.bytes
  have hr := B.returns
  have hts := atoms_spec (ws := wsX7_needless) B.pre
  have hown : s.vm.findClass RX7 = some m.cls := findClass_of_methodNamed B.named
  have hlocks := B.notSynchronized
  subst hsz
  have hD := hD0.self (sz := s.heap.size)
  have hP : va_P D vwCl (maW ad cy g a) s.heap := hP
  have hD : va_D (va_A (maW ad cy g a) s.heap.size) (maW ad cy g a) := hD
  have hS : va_S (va_A (maW ad cy g a) s.heap.size) s.heap s.heap [] := va_S.rf
  have hA : ∀ q : Nat, s.heap.size ≤ q → va_A (maW ad cy g a) s.heap.size q := fun q h => Or.inr h
  have hl := lv_entry ([.ref (ad 0), .int p0]) (n := 2) (Nat.le_of_ble_eq_true rfl)
  rw [lg_entry_eq]
  generalize (lg_sl ([.ref (ad 0), .int p0]) ++ List.replicate (2 - (lg_sl ([.ref (ad 0), .int p0])).length) Slot.unset).toArray = ls at hl ⊢
  have hl : lv_has ls 2 [(0, .ref (ad 0)), (1, .int p0)] := hl
  refine lv_iload_n hx hb dX7_needless_0 rfl (lv_at hl 1 rfl) ?_
  refine lv_i2l (v := p0.toInt64) hx hb dX7_needless_1 rfl ?_
  refine lv_lconst (v := (0 : Int64)) hx hb dX7_needless_2 (by decide) ?_
  refine lv_aload_n hx hb dX7_needless_3 rfl (lv_at hl 0 rfl) ?_
  refine va_get (D := D) (ci := 6) (v := .int (g 2)) (C := RX7) (T := TX7) (N := 18) hx hb hts (by decide +kernel) hown hK hP 0 rfl rfl 3 (by decide) (hts (.fieldLink RX7 137 "PowerRestsModel" "items" "I") (by decide +kernel)) (fun _ h9 => h9) rfl dX7_needless_4 ?_
  refine lv_iconst (v := (1 : Int32)) hx hb dX7_needless_7 (by decide) ?_
  refine lv_isub hx hb dX7_needless_8 ?_
  refine lv_i2l (v := ((g 2) - (1 : Int32)).toInt64) hx hb dX7_needless_9 rfl ?_
  refine cp_i (va_runS (As := [.long p0.toInt64, .long (0 : Int64), .long (((g 2) - (1 : Int32)).toInt64)]) (rest := []) ⟨hx, hb, hml, hown, hts⟩ (spec_X7_in l p0.toInt64 (0 : Int64) (((g 2) - (1 : Int32)).toInt64)) (va_cwS 3 hts gX7_needless_X7_in rfl rfl rfl (by decide +kernel) ⟨Nat.le_of_ble_eq_true rfl, Nat.le_of_ble_eq_true rfl⟩) cp_pre rfl rfl hl.1 rfl (lv_room (Nat.le_of_ble_eq_true rfl)) dX7_needless_10 ⟨Nat.zero_le _, Nat.zero_le _⟩) (fun r10 q_10 => ?_)
  have hV := hV r10 q_10
  refine lv_if_ne (tgt := 18) hx hb dX7_needless_13 (by decide) (fun c_13 => ?_) (fun c_13 => ?_)
  · have hV := hV.2 c_13
    refine lv_aload_n hx hb dX7_needless_18 rfl (lv_at hl 0 rfl) ?_
    obtain ⟨h_19, hV⟩ := hV
    refine cw_v (va_runV (As := []) (rest := []) ⟨hx, hb, hml, hown, hts⟩ (spec_X7_looksAll l D cy ad _ g a h_19) (cwV 0 hts gX7_needless_X7_looksAll rfl rfl rfl (by decide +kernel) ⟨Nat.le_of_ble_eq_true rfl, Nat.le_of_ble_eq_true rfl⟩) (ar_preV hN hK hP (maD hD) (ci := 6) (q0 := 0) rfl rfl) rfl rfl hl.1 rfl (lv_room (Nat.le_of_ble_eq_true rfl)) dX7_needless_19 ⟨Nat.zero_le _, Nat.zero_le _⟩) hS (maD hD) hA (fun u_19 H locs q_19 hP hS => ?_)
    obtain ⟨g19, a19⟩ := u_19
    have hV := hV g19 a19 q_19
    have hP : va_P D vwCl (maW ad cy g19 a19) H := hP
    refine lv_aload_n hx hb dX7_needless_22 rfl (lv_at hl 0 rfl) ?_
    refine va_get (D := D) (ci := 6) (v := .ref (ad 12)) (C := RX7) (T := TX7) (N := 18) hx hb hts (by decide +kernel) hown hK hP 0 rfl rfl 16 (by decide) (hts (.fieldLink RX7 50 "PowerRestsModel" "seen" "[Z") (by decide +kernel)) (fun _ h9 => h9) rfl dX7_needless_23 ?_
    refine lv_iconst (v := (1 : Int32)) hx hb dX7_needless_26 (by decide) ?_
    refine lv_iload_n hx hb dX7_needless_27 rfl (lv_at hl 1 rfl) ?_
    refine lv_ishl hx hb dX7_needless_28 ?_
    obtain ⟨h_29, hV⟩ := hV
    refine va_zald (f := (a19 11)) hx hb hK hP 12 1 rfl rfl h_29 dX7_needless_29 ?_
    refine lv_if_eq (tgt := 37) hx hb dX7_needless_30 (by decide) (fun c_30 => ?_) (fun c_30 => ?_)
    · have hV := hV.1 c_30
      refine lv_iconst (v := (1 : Int32)) hx hb dX7_needless_37 (by decide) ?_
      exact W.iret (v := (1 : Int32)) hx hb hr (fun t ht hW => ⟨⟨_, (g19, a19), rfl, hV, ar_heap ht hP⟩, hS.F ht⟩) hS.2.2 dX7_needless_38
    · have hV := hV.2 c_30
      refine lv_iconst (v := (0 : Int32)) hx hb dX7_needless_33 (by decide) ?_
      refine lv_goto (tgt := 38) hx hb dX7_needless_34 (by decide) ?_
      exact W.iret (v := (0 : Int32)) hx hb hr (fun t ht hW => ⟨⟨_, (g19, a19), rfl, hV, ar_heap ht hP⟩, hS.F ht⟩) hS.2.2 dX7_needless_38
  · have hV := hV.1 c_13
    refine lv_iconst (v := (-1 : Int32)) hx hb dX7_needless_16 (by decide) ?_
    exact W.iret (v := (-1 : Int32)) hx hb hr (fun t ht hW => ⟨⟨_, (g, a), rfl, hV, ar_heap ht hP⟩, hS.F ht⟩) hS.2.2 dX7_needless_17
def post_X7_needless (g : Gs) (a : As) (p0 r : Int32) (g' : Gs) (a' : As) : Prop := NdAns (mN g) (mH a) p0 r ∧ KS g a g' a'
set_option maxRecDepth 4000 in
theorem spec_X7_needless (l : Launch) (D : va_G) (cy : Nat → ClassId) (ad : Nat → Nat) (sz : Nat) (g : Gs) (a : As) (p0 : Int32) (hpre : pre_X7_needless g a p0) : Met l yX7_needless wsX7_needless ({ frames := 4, cells := 0, slots := 0, locals := 97 } : Room) (va_Pc [.ref (ad 0), .int p0] (ArP D cy sz (maW ad cy g a))) (va_Qi (fun (r : Int32) (u : Gs × As) => (post_X7_needless g a p0) r u.1 u.2) (fun u t => va_P D vwCl (maW ad cy u.1 u.2) t.heap) (va_A (maW ad cy g a) sz)) 0 0 (va_A (maW ad cy g a) sz) := by
  apply met_X7_needless
  intro r10 h10
  have hLd : LdM g a := hpre
  obtain ⟨hn8, hg2⟩ := hLd.1
  have l0 : (0 : Int64).toInt = 0 := rfl
  have e2 : ((g 2) - 1 : Int32).toInt = (mN g : Int) - 1 := by
    rw [hg2]
    exact pk_sub_toInt (b := 1) (by omega) (by omega)
  unfold post_X7_in at h10
  rw [il_t, il_t, l0, e2] at h10
  subst h10
  refine ⟨fun h => ⟨Or.inl ⟨fun z => zb_0 h ⟨by omega, by omega⟩, rfl⟩, KS.rf⟩, fun h => ⟨hLd, fun g1 a1 h1 => ?_⟩⟩
  have hin := zb_1 h
  obtain ⟨k, hk, rfl, hk2⟩ := of_i hin.1
  obtain ⟨rfl, f, rfl, hf⟩ := h1
  have h2k : 2 ^ k < 256 := by
    have : 2 ^ k ≤ 2 ^ 7 := Nat.pow_le_pow_right (by decide) (by omega)
    omega
  rw [shl_1 (by omega), up_0, show (nI (2 ^ k)).toNatClampNeg = 2 ^ k from tn_nI (by omega), hf _ h2k]
  have hs := seen_only hLd.2.1.1 hLd.per (k := k) (by omega)
  have tnk : tn (nI k) = k := tn_nI hk
  refine ⟨vp_in_nI h2k (by omega), fun z => ⟨Or.inr ⟨⟨by omega, by omega⟩, ?_⟩, KS.up (by decide) _⟩, fun z => ⟨Or.inr ⟨⟨by omega, by omega⟩, ?_⟩, KS.up (by decide) _⟩⟩
  · rw [tnk]; exact (zb_t (hs.mpr (zb_0 z))).symm
  · rw [tnk]; exact (zb_f (fun y => hs.mp y (zb_1 z))).symm
def pre_X7_many (p0 : Int32) : Prop := ∃ S, S < 256 ∧ p0 = nI S
set_option maxHeartbeats 4000000 in
set_option maxRecDepth 100000 in
theorem met_X7_many (l : Launch) (p0 : Int32) (post : Int32 → Prop)
  (hV : ∀ (J4 : Int32 → Int32 → Prop),
    (∀ (x1 : Int32) (x2 : Int32), (((8 : Int32) ≤ x2 → post x1) ∧ (¬ (8 : Int32) ≤ x2 → J4 (x1 + ((p0 >>> (x2 &&& 31)) &&& (1 : Int32))) (x2 + 1))) → J4 x1 x2) →
    J4 (0 : Int32) (0 : Int32)) :
  Met l yX7_many wsX7_many ({ frames := 0, cells := 0, slots := 0, locals := 0 } : Room) (va_Pc [.int p0] (fun _ => True)) (Qpi post) 0 0 noF := by
  refine Met.ofW (cc := cX7_many) (maxL := 3) (ret := (some .int)) (by decide) rfl ?_
  intro p e s m args below meth c s₁ B hml hv
  obtain ⟨rfl, -⟩ := hv
  have hx := B.exec
  have hb := B.bytes
  have hr := B.returns
  have hts := atoms_spec (ws := wsX7_many) B.pre
  have hown : s.vm.findClass RX7 = some m.cls := findClass_of_methodNamed B.named
  have hlocks := B.notSynchronized
  obtain ⟨J4, iJ4, oJ4⟩ : ∃ J : Int32 → Int32 → Prop, (∀ (x1 : Int32) (x2 : Int32), (∀ ls : Array Slot, lv_has ls 3 [(0, .int p0), (1, .int x1), (2, .int x2)] → W p l e (headSpec wsX7_many ({ frames := 0, cells := 0, slots := 0, locals := 0 } : Room)).room s m [.int p0].toArray below meth c s.heap [] 0 0 (MQ below (Qpi post) [.int p0].toArray s 0 0 noF) (F0 m 4 ls [])) → J x1 x2) ∧ (∀ (x1 : Int32) (x2 : Int32), J x1 x2 → (∀ ls : Array Slot, lv_has ls 3 [(0, .int p0), (1, .int x1), (2, .int x2)] → W p l e (headSpec wsX7_many ({ frames := 0, cells := 0, slots := 0, locals := 0 } : Room)).room s m [.int p0].toArray below meth c s.heap [] 0 0 (MQ below (Qpi post) [.int p0].toArray s 0 0 noF) (F0 m 4 ls []))) := ⟨fun (x1 : Int32) (x2 : Int32) => (∀ ls : Array Slot, lv_has ls 3 [(0, .int p0), (1, .int x1), (2, .int x2)] → W p l e (headSpec wsX7_many ({ frames := 0, cells := 0, slots := 0, locals := 0 } : Room)).room s m [.int p0].toArray below meth c s.heap [] 0 0 (MQ below (Qpi post) [.int p0].toArray s 0 0 noF) (F0 m 4 ls [])), fun _ _ h => h, fun _ _ h => h⟩
  have hV := hV J4
  replace hV := hV (by
    intro x1 x2 hV
    refine iJ4 x1 x2 ?_
    intro ls hl
    refine lv_iload_n hx hb dX7_many_4 rfl (lv_at hl 2 rfl) ?_
    refine lv_bipush (v := (8 : Int32)) hx hb dX7_many_5 (by decide) ?_
    refine lv_icmp_ge (tgt := 24) hx hb dX7_many_7 (by decide) (fun c_7 => ?_) (fun c_7 => ?_)
    · have hV := hV.1 c_7
      refine lv_iload_n hx hb dX7_many_24 rfl (lv_at hl 1 rfl) ?_
      exact W.iret (v := x1) hx hb hr (fun t ht hW => ⟨_, rfl, hV, ht⟩) (fun _ h => by cases h) dX7_many_25
    · have hV := hV.2 c_7
      refine lv_iload_n hx hb dX7_many_10 rfl (lv_at hl 1 rfl) ?_
      refine lv_iload_n hx hb dX7_many_11 rfl (lv_at hl 0 rfl) ?_
      refine lv_iload_n hx hb dX7_many_12 rfl (lv_at hl 2 rfl) ?_
      refine lv_ishr hx hb dX7_many_13 ?_
      refine lv_iconst (v := (1 : Int32)) hx hb dX7_many_14 (by decide) ?_
      refine lv_iand hx hb dX7_many_15 ?_
      refine lv_iadd hx hb dX7_many_16 ?_
      refine lv_istore_n (lv' := [(1, .int (x1 + ((p0 >>> (x2 &&& 31)) &&& (1 : Int32)))), (0, .int p0), (2, .int x2)]) hx hb dX7_many_17 rfl hl (by decide) rfl (fun ls hl => ?_)
      refine lv_iinc (v := x2 + 1) (lv' := [(2, .int (x2 + 1)), (1, .int (x1 + ((p0 >>> (x2 &&& 31)) &&& (1 : Int32)))), (0, .int p0)]) hx hb dX7_many_18 hl (k := 2) rfl rfl (by decide) rfl (fun ls hl => ?_)
      refine lv_goto (tgt := 4) hx hb dX7_many_21 (by decide) ?_
      exact oJ4 _ _ hV _ (lv_sub hl [2, 1, 0] rfl))
  have hl := lv_entry ([.int p0]) (n := 3) (Nat.le_of_ble_eq_true rfl)
  rw [lg_entry_eq]
  generalize (lg_sl ([.int p0]) ++ List.replicate (3 - (lg_sl ([.int p0])).length) Slot.unset).toArray = ls at hl ⊢
  have hl : lv_has ls 3 [(0, .int p0)] := hl
  refine lv_iconst (v := (0 : Int32)) hx hb dX7_many_0 (by decide) ?_
  refine lv_istore_n (lv' := [(1, .int (0 : Int32)), (0, .int p0)]) hx hb dX7_many_1 rfl hl (by decide) rfl (fun ls hl => ?_)
  refine lv_iconst (v := (0 : Int32)) hx hb dX7_many_2 (by decide) ?_
  refine lv_istore_n (lv' := [(2, .int (0 : Int32)), (1, .int (0 : Int32)), (0, .int p0)]) hx hb dX7_many_3 rfl hl (by decide) rfl (fun ls hl => ?_)
  exact oJ4 _ _ hV _ (lv_sub hl [2, 1, 0] rfl)
def post_X7_many (p0 r : Int32) : Prop := r = nI (pcB (tn p0))
theorem bit_1 : ∀ S, S < 256 → ∀ k, k < 8 → (nI S >>> (nI k &&& 31)) &&& 1 = nI (if S.testBit k then 1 else 0) := by decide +kernel
set_option maxRecDepth 4000 in
theorem spec_X7_many (l : Launch) (p0 : Int32) (hpre : pre_X7_many p0) : Met l yX7_many wsX7_many ({ frames := 0, cells := 0, slots := 0, locals := 0 } : Room) (va_Pc [.int p0] (fun _ => True)) (Qpi (post_X7_many p0)) 0 0 noF := by
  apply met_X7_many
  intro J hJ
  obtain ⟨S, hS, rfl⟩ := hpre
  have tnS : tn (nI S) = S := tn_nI (by omega)
  have key : ∀ (d k : Nat), k + d = 8 → J (nI (fb_ct (fun j => S.testBit j) k)) (nI k) := by
    intro d
    induction d with
    | zero =>
      intro k hk
      have : k = 8 := by omega
      subst this
      exact hJ _ _ (pk_le 8 8 (fun _ => by unfold post_X7_many; rw [tnS]; rfl) (fun h => absurd h (by omega)))
    | succ d ih =>
      intro k hk
      refine hJ _ _ (pk_le 8 k (fun h => absurd h (by omega)) (fun _ => ?_))
      rw [bit_1 S hS k (by omega), nI_add, nI_1, ← fb_ct_succ]
      exact ih (k + 1) (by omega)
  exact key 8 0 (by omega)
theorem emp_seen {n : Nat} {H : Nat → Nat → Bool} {P S : Nat} (hP : 1 ≤ P) (h : Per n H P) (hn : n ≤ 8) : Emp n H S ↔ ∀ f, f < 256 → Seen n H P f → ¬ f &&& S = 0 := by
  have h2 := two_le hn
  constructor
  · rintro hE f hf ⟨x, hx, rfl⟩ hz
    have := hE x
    rw [show AsB n H S x = true from cb_t (fun k hk hs => ?_)] at this
    · exact Bool.noConfusion this
    · have hb : (flS H x n &&& S).testBit k = false := by rw [hz, Nat.zero_testBit]
      rw [Nat.testBit_and, flS_bit, decide_eq_true hk, hs, Bool.true_and, Bool.and_true] at hb
      cases hc : H k x
      · rw [hc] at hb; exact Bool.noConfusion hb
      · rfl
  · intro hE x
    refine cb_f (fun hall => ?_)
    have hlt := flS_lt H (x % P) n
    refine hE (flS H (x % P) n) (by omega) ⟨x % P, Nat.mod_lt x (by omega), rfl⟩ ?_
    apply Nat.eq_of_testBit_eq
    intro j
    rw [Nat.testBit_and, flS_bit, Nat.zero_testBit]
    by_cases z : j < n
    · rw [h j z (x % P) x (Nat.mod_mod x P)]
      cases hs : S.testBit j
      · rw [Bool.and_false]
      · rw [hall j z hs, Bool.not_true, Bool.and_false, Bool.false_and]
    · rw [decide_eq_false z, Bool.false_and, Bool.false_and]
def pre_X7_lone (g : Gs) (a : As) : Prop := LdM g a
set_option maxHeartbeats 4000000 in
set_option maxRecDepth 100000 in
theorem met_X7_lone (l : Launch) (D : va_G) (cy : Nat → ClassId) (ad : Nat → Nat) (sz : Nat) (g : Gs) (a : As) (post : Int32 → Gs → As → Prop)
  (hV : ∀ (J9 : Int32 → Int32 → Gs → As → Prop) (J43 : Int32 → Int32 → Int32 → Int32 → Gs → As → Prop),
    (∀ (x1 : Int32) (x2 : Int32) (g_ : Gs) (a_ : As), ((((1 : Int32) <<< ((g_ 2) &&& 31)) ≤ x2 → post x1 g_ a_) ∧ (¬ ((1 : Int32) <<< ((g_ 2) &&& 31)) ≤ x2 → ((x1 < 0 → J43 x1 x2 (1 : Int32) (0 : Int32) g_ a_) ∧ (¬ x1 < 0 → pre_X7_many x2 ∧ (∀ r24 : Int32, post_X7_many x2 r24 → pre_X7_many x1 ∧ (∀ r28 : Int32, post_X7_many x1 r28 → ((r28 ≤ r24 → J43 x1 x2 (0 : Int32) (0 : Int32) g_ a_) ∧ (¬ r28 ≤ r24 → J43 x1 x2 (1 : Int32) (0 : Int32) g_ a_)))))))) → J9 x1 x2 g_ a_) →
    (∀ (x1 : Int32) (x2 : Int32) (x3 : Int32) (x4 : Int32) (g_ : Gs) (a_ : As), (((256 : Int32) ≤ x4 → ((x3 = 0 → J9 x1 (x2 + 1) g_ a_) ∧ (¬ x3 = 0 → J9 x2 (x2 + 1) g_ a_))) ∧ (¬ (256 : Int32) ≤ x4 → ((x3 = 0 → ((x3 = 0 → J9 x1 (x2 + 1) g_ a_) ∧ (¬ x3 = 0 → J9 x2 (x2 + 1) g_ a_))) ∧ (¬ x3 = 0 → vp_in x4 256 ∧ (((((a_ 11) x4.toNatClampNeg) = 0 → J43 x1 x2 (1 : Int32) (x4 + 1) g_ a_) ∧ (¬ ((a_ 11) x4.toNatClampNeg) = 0 → (((x4 &&& x2) = 0 → J43 x1 x2 (0 : Int32) (x4 + 1) g_ a_) ∧ (¬ (x4 &&& x2) = 0 → J43 x1 x2 (1 : Int32) (x4 + 1) g_ a_))))))))) → J43 x1 x2 x3 x4 g_ a_) →
    pre_X7_looksAll g a ∧ (∀ (g1 : Gs) (a1 : As), post_X7_looksAll g a g1 a1 → J9 (-4 : Int32) (0 : Int32) g1 a1)) :
  Met l yX7_lone wsX7_lone ({ frames := 4, cells := 0, slots := 0, locals := 97 } : Room) (va_Pc [.ref (ad 0)] (ArP D cy sz (maW ad cy g a))) (va_Qi (fun (r : Int32) (u : Gs × As) => post r u.1 u.2) (fun u t => va_P D vwCl (maW ad cy u.1 u.2) t.heap) (va_A (maW ad cy g a) sz)) 0 0 (va_A (maW ad cy g a) sz) := by
  refine Met.ofW (cc := cX7_lone) (maxL := 5) (ret := (some .int)) (by decide) rfl ?_
  intro p e s m args below meth c s₁ B hml hv
  obtain ⟨rfl, hsz, hP, hK, hD0, hN⟩ := hv
  have hx := B.exec
  have hb := B.bytes
  have hr := B.returns
  have hts := atoms_spec (ws := wsX7_lone) B.pre
  have hown : s.vm.findClass RX7 = some m.cls := findClass_of_methodNamed B.named
  have hlocks := B.notSynchronized
  subst hsz
  have hD := hD0.self (sz := s.heap.size)
  have hP : va_P D vwCl (maW ad cy g a) s.heap := hP
  have hD : va_D (va_A (maW ad cy g a) s.heap.size) (maW ad cy g a) := hD
  have hS : va_S (va_A (maW ad cy g a) s.heap.size) s.heap s.heap [] := va_S.rf
  have hA : ∀ q : Nat, s.heap.size ≤ q → va_A (maW ad cy g a) s.heap.size q := fun q h => Or.inr h
  obtain ⟨J9, iJ9, oJ9⟩ : ∃ J : Int32 → Int32 → Gs → As → Prop, (∀ (x1 : Int32) (x2 : Int32) (g_ : Gs) (a_ : As), (∀ (H : Heap) (locs : List Loc), va_P D vwCl (maW ad cy g_ a_) H → va_S (va_A (maW ad cy g a) s.heap.size) s.heap H locs → ∀ ls : Array Slot, lv_has ls 5 [(0, .ref (ad 0)), (1, .int x1), (2, .int x2)] → W p l e (headSpec wsX7_lone ({ frames := 4, cells := 0, slots := 0, locals := 97 } : Room)).room s m [.ref (ad 0)].toArray below meth c H locs 0 0 (MQ below (va_Qi (fun (r : Int32) (u : Gs × As) => post r u.1 u.2) (fun u t => va_P D vwCl (maW ad cy u.1 u.2) t.heap) (va_A (maW ad cy g a) s.heap.size)) [.ref (ad 0)].toArray s 0 0 (va_A (maW ad cy g a) s.heap.size)) (F0 m 9 ls [])) → J x1 x2 g_ a_) ∧ (∀ (x1 : Int32) (x2 : Int32) (g_ : Gs) (a_ : As), J x1 x2 g_ a_ → (∀ (H : Heap) (locs : List Loc), va_P D vwCl (maW ad cy g_ a_) H → va_S (va_A (maW ad cy g a) s.heap.size) s.heap H locs → ∀ ls : Array Slot, lv_has ls 5 [(0, .ref (ad 0)), (1, .int x1), (2, .int x2)] → W p l e (headSpec wsX7_lone ({ frames := 4, cells := 0, slots := 0, locals := 97 } : Room)).room s m [.ref (ad 0)].toArray below meth c H locs 0 0 (MQ below (va_Qi (fun (r : Int32) (u : Gs × As) => post r u.1 u.2) (fun u t => va_P D vwCl (maW ad cy u.1 u.2) t.heap) (va_A (maW ad cy g a) s.heap.size)) [.ref (ad 0)].toArray s 0 0 (va_A (maW ad cy g a) s.heap.size)) (F0 m 9 ls []))) := ⟨fun (x1 : Int32) (x2 : Int32) (g_ : Gs) (a_ : As) => (∀ (H : Heap) (locs : List Loc), va_P D vwCl (maW ad cy g_ a_) H → va_S (va_A (maW ad cy g a) s.heap.size) s.heap H locs → ∀ ls : Array Slot, lv_has ls 5 [(0, .ref (ad 0)), (1, .int x1), (2, .int x2)] → W p l e (headSpec wsX7_lone ({ frames := 4, cells := 0, slots := 0, locals := 97 } : Room)).room s m [.ref (ad 0)].toArray below meth c H locs 0 0 (MQ below (va_Qi (fun (r : Int32) (u : Gs × As) => post r u.1 u.2) (fun u t => va_P D vwCl (maW ad cy u.1 u.2) t.heap) (va_A (maW ad cy g a) s.heap.size)) [.ref (ad 0)].toArray s 0 0 (va_A (maW ad cy g a) s.heap.size)) (F0 m 9 ls [])), fun _ _ _ _ h => h, fun _ _ _ _ h => h⟩
  obtain ⟨J43, iJ43, oJ43⟩ : ∃ J : Int32 → Int32 → Int32 → Int32 → Gs → As → Prop, (∀ (x1 : Int32) (x2 : Int32) (x3 : Int32) (x4 : Int32) (g_ : Gs) (a_ : As), (∀ (H : Heap) (locs : List Loc), va_P D vwCl (maW ad cy g_ a_) H → va_S (va_A (maW ad cy g a) s.heap.size) s.heap H locs → ∀ ls : Array Slot, lv_has ls 5 [(0, .ref (ad 0)), (1, .int x1), (2, .int x2), (3, .int x3), (4, .int x4)] → W p l e (headSpec wsX7_lone ({ frames := 4, cells := 0, slots := 0, locals := 97 } : Room)).room s m [.ref (ad 0)].toArray below meth c H locs 0 0 (MQ below (va_Qi (fun (r : Int32) (u : Gs × As) => post r u.1 u.2) (fun u t => va_P D vwCl (maW ad cy u.1 u.2) t.heap) (va_A (maW ad cy g a) s.heap.size)) [.ref (ad 0)].toArray s 0 0 (va_A (maW ad cy g a) s.heap.size)) (F0 m 43 ls [])) → J x1 x2 x3 x4 g_ a_) ∧ (∀ (x1 : Int32) (x2 : Int32) (x3 : Int32) (x4 : Int32) (g_ : Gs) (a_ : As), J x1 x2 x3 x4 g_ a_ → (∀ (H : Heap) (locs : List Loc), va_P D vwCl (maW ad cy g_ a_) H → va_S (va_A (maW ad cy g a) s.heap.size) s.heap H locs → ∀ ls : Array Slot, lv_has ls 5 [(0, .ref (ad 0)), (1, .int x1), (2, .int x2), (3, .int x3), (4, .int x4)] → W p l e (headSpec wsX7_lone ({ frames := 4, cells := 0, slots := 0, locals := 97 } : Room)).room s m [.ref (ad 0)].toArray below meth c H locs 0 0 (MQ below (va_Qi (fun (r : Int32) (u : Gs × As) => post r u.1 u.2) (fun u t => va_P D vwCl (maW ad cy u.1 u.2) t.heap) (va_A (maW ad cy g a) s.heap.size)) [.ref (ad 0)].toArray s 0 0 (va_A (maW ad cy g a) s.heap.size)) (F0 m 43 ls []))) := ⟨fun (x1 : Int32) (x2 : Int32) (x3 : Int32) (x4 : Int32) (g_ : Gs) (a_ : As) => (∀ (H : Heap) (locs : List Loc), va_P D vwCl (maW ad cy g_ a_) H → va_S (va_A (maW ad cy g a) s.heap.size) s.heap H locs → ∀ ls : Array Slot, lv_has ls 5 [(0, .ref (ad 0)), (1, .int x1), (2, .int x2), (3, .int x3), (4, .int x4)] → W p l e (headSpec wsX7_lone ({ frames := 4, cells := 0, slots := 0, locals := 97 } : Room)).room s m [.ref (ad 0)].toArray below meth c H locs 0 0 (MQ below (va_Qi (fun (r : Int32) (u : Gs × As) => post r u.1 u.2) (fun u t => va_P D vwCl (maW ad cy u.1 u.2) t.heap) (va_A (maW ad cy g a) s.heap.size)) [.ref (ad 0)].toArray s 0 0 (va_A (maW ad cy g a) s.heap.size)) (F0 m 43 ls [])), fun _ _ _ _ _ _ h => h, fun _ _ _ _ _ _ h => h⟩
  have hV := hV J9 J43
  replace hV := hV (by
    intro x1 x2 g_ a_ hV
    refine iJ9 x1 x2 g_ a_ ?_
    intro H locs hP hS ls hl
    refine lv_iload_n hx hb dX7_lone_9 rfl (lv_at hl 2 rfl) ?_
    refine lv_iconst (v := (1 : Int32)) hx hb dX7_lone_10 (by decide) ?_
    refine lv_aload_n hx hb dX7_lone_11 rfl (lv_at hl 0 rfl) ?_
    refine va_get (D := D) (ci := 6) (v := .int (g_ 2)) (C := RX7) (T := TX7) (N := 18) hx hb hts (by decide +kernel) hown hK hP 0 rfl rfl 3 (by decide) (hts (.fieldLink RX7 137 "PowerRestsModel" "items" "I") (by decide +kernel)) (fun _ h9 => h9) rfl dX7_lone_12 ?_
    refine lv_ishl hx hb dX7_lone_15 ?_
    refine lv_icmp_ge (tgt := 100) hx hb dX7_lone_16 (by decide) (fun c_16 => ?_) (fun c_16 => ?_)
    · have hV := hV.1 c_16
      refine lv_iload_n hx hb dX7_lone_100 rfl (lv_at hl 1 rfl) ?_
      exact W.iret (v := x1) hx hb hr (fun t ht hW => ⟨⟨_, (g_, a_), rfl, hV, ar_heap ht hP⟩, hS.F ht⟩) hS.2.2 dX7_lone_101
    · have hV := hV.2 c_16
      refine lv_iload_n hx hb dX7_lone_19 rfl (lv_at hl 1 rfl) ?_
      refine lv_if_lt (tgt := 34) hx hb dX7_lone_20 (by decide) (fun c_20 => ?_) (fun c_20 => ?_)
      · have hV := hV.1 c_20
        refine lv_iconst (v := (1 : Int32)) hx hb dX7_lone_34 (by decide) ?_
        refine lv_goto (tgt := 39) hx hb dX7_lone_35 (by decide) ?_
        refine lv_istore_n (lv' := [(3, .int (1 : Int32)), (0, .ref (ad 0)), (1, .int x1), (2, .int x2)]) hx hb dX7_lone_39 rfl hl (by decide) rfl (fun ls hl => ?_)
        refine lv_iconst (v := (0 : Int32)) hx hb dX7_lone_40 (by decide) ?_
        refine lv_istore (lv' := [(4, .int (0 : Int32)), (3, .int (1 : Int32)), (0, .ref (ad 0)), (1, .int x1), (2, .int x2)]) hx hb dX7_lone_41 hl (by decide) rfl (fun ls hl => ?_)
        exact oJ43 _ _ _ _ _ _ hV _ _ hP hS _ (lv_sub hl [2, 3, 4, 1, 0] rfl)
      · have hV := hV.2 c_20
        refine lv_iload_n hx hb dX7_lone_23 rfl (lv_at hl 2 rfl) ?_
        obtain ⟨h_24, hV⟩ := hV
        refine cp_i (va_runS (As := [.int x2]) (rest := []) ⟨hx, hb, hml, hown, hts⟩ (spec_X7_many l x2 h_24) (va_cwS 1 hts gX7_lone_X7_many rfl rfl rfl (by decide +kernel) ⟨Nat.le_of_ble_eq_true rfl, Nat.le_of_ble_eq_true rfl⟩) cp_pre rfl rfl hl.1 rfl (lv_room (Nat.le_of_ble_eq_true rfl)) dX7_lone_24 ⟨Nat.zero_le _, Nat.zero_le _⟩) (fun r24 q_24 => ?_)
        have hV := hV r24 q_24
        refine lv_iload_n hx hb dX7_lone_27 rfl (lv_at hl 1 rfl) ?_
        obtain ⟨h_28, hV⟩ := hV
        refine cp_i (va_runS (As := [.int x1]) (rest := [.int r24]) ⟨hx, hb, hml, hown, hts⟩ (spec_X7_many l x1 h_28) (va_cwS 1 hts gX7_lone_X7_many rfl rfl rfl (by decide +kernel) ⟨Nat.le_of_ble_eq_true rfl, Nat.le_of_ble_eq_true rfl⟩) cp_pre rfl rfl hl.1 rfl (lv_room (Nat.le_of_ble_eq_true rfl)) dX7_lone_28 ⟨Nat.zero_le _, Nat.zero_le _⟩) (fun r28 q_28 => ?_)
        have hV := hV r28 q_28
        refine lv_icmp_ge (tgt := 38) hx hb dX7_lone_31 (by decide) (fun c_31 => ?_) (fun c_31 => ?_)
        · have hV := hV.1 c_31
          refine lv_iconst (v := (0 : Int32)) hx hb dX7_lone_38 (by decide) ?_
          refine lv_istore_n (lv' := [(3, .int (0 : Int32)), (0, .ref (ad 0)), (1, .int x1), (2, .int x2)]) hx hb dX7_lone_39 rfl hl (by decide) rfl (fun ls hl => ?_)
          refine lv_iconst (v := (0 : Int32)) hx hb dX7_lone_40 (by decide) ?_
          refine lv_istore (lv' := [(4, .int (0 : Int32)), (3, .int (0 : Int32)), (0, .ref (ad 0)), (1, .int x1), (2, .int x2)]) hx hb dX7_lone_41 hl (by decide) rfl (fun ls hl => ?_)
          exact oJ43 _ _ _ _ _ _ hV _ _ hP hS _ (lv_sub hl [2, 3, 4, 1, 0] rfl)
        · have hV := hV.2 c_31
          refine lv_iconst (v := (1 : Int32)) hx hb dX7_lone_34 (by decide) ?_
          refine lv_goto (tgt := 39) hx hb dX7_lone_35 (by decide) ?_
          refine lv_istore_n (lv' := [(3, .int (1 : Int32)), (0, .ref (ad 0)), (1, .int x1), (2, .int x2)]) hx hb dX7_lone_39 rfl hl (by decide) rfl (fun ls hl => ?_)
          refine lv_iconst (v := (0 : Int32)) hx hb dX7_lone_40 (by decide) ?_
          refine lv_istore (lv' := [(4, .int (0 : Int32)), (3, .int (1 : Int32)), (0, .ref (ad 0)), (1, .int x1), (2, .int x2)]) hx hb dX7_lone_41 hl (by decide) rfl (fun ls hl => ?_)
          exact oJ43 _ _ _ _ _ _ hV _ _ hP hS _ (lv_sub hl [2, 3, 4, 1, 0] rfl))
  replace hV := hV (by
    intro x1 x2 x3 x4 g_ a_ hV
    refine iJ43 x1 x2 x3 x4 g_ a_ ?_
    intro H locs hP hS ls hl
    refine lv_iload hx hb dX7_lone_43 (lv_at hl 4 rfl) ?_
    refine lv_sipush (v := (256 : Int32)) hx hb dX7_lone_45 (by decide) ?_
    refine lv_icmp_ge (tgt := 84) hx hb dX7_lone_48 (by decide) (fun c_48 => ?_) (fun c_48 => ?_)
    · have hV := hV.1 c_48
      refine lv_iload_n hx hb dX7_lone_84 rfl (lv_at hl 3 rfl) ?_
      refine lv_if_eq (tgt := 92) hx hb dX7_lone_85 (by decide) (fun c_85 => ?_) (fun c_85 => ?_)
      · have hV := hV.1 c_85
        refine lv_iload_n hx hb dX7_lone_92 rfl (lv_at hl 1 rfl) ?_
        refine lv_istore_n (lv' := [(1, .int x1), (0, .ref (ad 0)), (2, .int x2), (3, .int x3), (4, .int x4)]) hx hb dX7_lone_93 rfl hl (by decide) rfl (fun ls hl => ?_)
        refine lv_iinc (v := x2 + 1) (lv' := [(2, .int (x2 + 1)), (1, .int x1), (0, .ref (ad 0)), (3, .int x3), (4, .int x4)]) hx hb dX7_lone_94 hl (k := 2) rfl rfl (by decide) rfl (fun ls hl => ?_)
        refine lv_goto (tgt := 9) hx hb dX7_lone_97 (by decide) ?_
        exact oJ9 _ _ _ _ hV _ _ hP hS _ (lv_sub hl [2, 1, 0] rfl)
      · have hV := hV.2 c_85
        refine lv_iload_n hx hb dX7_lone_88 rfl (lv_at hl 2 rfl) ?_
        refine lv_goto (tgt := 93) hx hb dX7_lone_89 (by decide) ?_
        refine lv_istore_n (lv' := [(1, .int x2), (0, .ref (ad 0)), (2, .int x2), (3, .int x3), (4, .int x4)]) hx hb dX7_lone_93 rfl hl (by decide) rfl (fun ls hl => ?_)
        refine lv_iinc (v := x2 + 1) (lv' := [(2, .int (x2 + 1)), (1, .int x2), (0, .ref (ad 0)), (3, .int x3), (4, .int x4)]) hx hb dX7_lone_94 hl (k := 2) rfl rfl (by decide) rfl (fun ls hl => ?_)
        refine lv_goto (tgt := 9) hx hb dX7_lone_97 (by decide) ?_
        exact oJ9 _ _ _ _ hV _ _ hP hS _ (lv_sub hl [2, 1, 0] rfl)
    · have hV := hV.2 c_48
      refine lv_iload_n hx hb dX7_lone_51 rfl (lv_at hl 3 rfl) ?_
      refine lv_if_eq (tgt := 84) hx hb dX7_lone_52 (by decide) (fun c_52 => ?_) (fun c_52 => ?_)
      · have hV := hV.1 c_52
        refine lv_iload_n hx hb dX7_lone_84 rfl (lv_at hl 3 rfl) ?_
        refine lv_if_eq (tgt := 92) hx hb dX7_lone_85 (by decide) (fun c_85 => ?_) (fun c_85 => ?_)
        · have hV := hV.1 c_85
          refine lv_iload_n hx hb dX7_lone_92 rfl (lv_at hl 1 rfl) ?_
          refine lv_istore_n (lv' := [(1, .int x1), (0, .ref (ad 0)), (2, .int x2), (3, .int x3), (4, .int x4)]) hx hb dX7_lone_93 rfl hl (by decide) rfl (fun ls hl => ?_)
          refine lv_iinc (v := x2 + 1) (lv' := [(2, .int (x2 + 1)), (1, .int x1), (0, .ref (ad 0)), (3, .int x3), (4, .int x4)]) hx hb dX7_lone_94 hl (k := 2) rfl rfl (by decide) rfl (fun ls hl => ?_)
          refine lv_goto (tgt := 9) hx hb dX7_lone_97 (by decide) ?_
          exact oJ9 _ _ _ _ hV _ _ hP hS _ (lv_sub hl [2, 1, 0] rfl)
        · have hV := hV.2 c_85
          refine lv_iload_n hx hb dX7_lone_88 rfl (lv_at hl 2 rfl) ?_
          refine lv_goto (tgt := 93) hx hb dX7_lone_89 (by decide) ?_
          refine lv_istore_n (lv' := [(1, .int x2), (0, .ref (ad 0)), (2, .int x2), (3, .int x3), (4, .int x4)]) hx hb dX7_lone_93 rfl hl (by decide) rfl (fun ls hl => ?_)
          refine lv_iinc (v := x2 + 1) (lv' := [(2, .int (x2 + 1)), (1, .int x2), (0, .ref (ad 0)), (3, .int x3), (4, .int x4)]) hx hb dX7_lone_94 hl (k := 2) rfl rfl (by decide) rfl (fun ls hl => ?_)
          refine lv_goto (tgt := 9) hx hb dX7_lone_97 (by decide) ?_
          exact oJ9 _ _ _ _ hV _ _ hP hS _ (lv_sub hl [2, 1, 0] rfl)
      · have hV := hV.2 c_52
        refine lv_aload_n hx hb dX7_lone_55 rfl (lv_at hl 0 rfl) ?_
        refine va_get (D := D) (ci := 6) (v := .ref (ad 12)) (C := RX7) (T := TX7) (N := 18) hx hb hts (by decide +kernel) hown hK hP 0 rfl rfl 16 (by decide) (hts (.fieldLink RX7 50 "PowerRestsModel" "seen" "[Z") (by decide +kernel)) (fun _ h9 => h9) rfl dX7_lone_56 ?_
        refine lv_iload hx hb dX7_lone_59 (lv_at hl 4 rfl) ?_
        obtain ⟨h_61, hV⟩ := hV
        refine va_zald (f := (a_ 11)) hx hb hK hP 12 1 rfl rfl h_61 dX7_lone_61 ?_
        refine lv_if_eq (tgt := 72) hx hb dX7_lone_62 (by decide) (fun c_62 => ?_) (fun c_62 => ?_)
        · have hV := hV.1 c_62
          refine lv_iconst (v := (1 : Int32)) hx hb dX7_lone_72 (by decide) ?_
          refine lv_goto (tgt := 77) hx hb dX7_lone_73 (by decide) ?_
          refine lv_istore_n (lv' := [(3, .int (1 : Int32)), (0, .ref (ad 0)), (1, .int x1), (2, .int x2), (4, .int x4)]) hx hb dX7_lone_77 rfl hl (by decide) rfl (fun ls hl => ?_)
          refine lv_iinc (v := x4 + 1) (lv' := [(4, .int (x4 + 1)), (3, .int (1 : Int32)), (0, .ref (ad 0)), (1, .int x1), (2, .int x2)]) hx hb dX7_lone_78 hl (k := 4) rfl rfl (by decide) rfl (fun ls hl => ?_)
          refine lv_goto (tgt := 43) hx hb dX7_lone_81 (by decide) ?_
          exact oJ43 _ _ _ _ _ _ hV _ _ hP hS _ (lv_sub hl [2, 3, 4, 1, 0] rfl)
        · have hV := hV.2 c_62
          refine lv_iload hx hb dX7_lone_65 (lv_at hl 4 rfl) ?_
          refine lv_iload_n hx hb dX7_lone_67 rfl (lv_at hl 2 rfl) ?_
          refine lv_iand hx hb dX7_lone_68 ?_
          refine lv_if_eq (tgt := 76) hx hb dX7_lone_69 (by decide) (fun c_69 => ?_) (fun c_69 => ?_)
          · have hV := hV.1 c_69
            refine lv_iconst (v := (0 : Int32)) hx hb dX7_lone_76 (by decide) ?_
            refine lv_istore_n (lv' := [(3, .int (0 : Int32)), (0, .ref (ad 0)), (1, .int x1), (2, .int x2), (4, .int x4)]) hx hb dX7_lone_77 rfl hl (by decide) rfl (fun ls hl => ?_)
            refine lv_iinc (v := x4 + 1) (lv' := [(4, .int (x4 + 1)), (3, .int (0 : Int32)), (0, .ref (ad 0)), (1, .int x1), (2, .int x2)]) hx hb dX7_lone_78 hl (k := 4) rfl rfl (by decide) rfl (fun ls hl => ?_)
            refine lv_goto (tgt := 43) hx hb dX7_lone_81 (by decide) ?_
            exact oJ43 _ _ _ _ _ _ hV _ _ hP hS _ (lv_sub hl [2, 3, 4, 1, 0] rfl)
          · have hV := hV.2 c_69
            refine lv_iconst (v := (1 : Int32)) hx hb dX7_lone_72 (by decide) ?_
            refine lv_goto (tgt := 77) hx hb dX7_lone_73 (by decide) ?_
            refine lv_istore_n (lv' := [(3, .int (1 : Int32)), (0, .ref (ad 0)), (1, .int x1), (2, .int x2), (4, .int x4)]) hx hb dX7_lone_77 rfl hl (by decide) rfl (fun ls hl => ?_)
            refine lv_iinc (v := x4 + 1) (lv' := [(4, .int (x4 + 1)), (3, .int (1 : Int32)), (0, .ref (ad 0)), (1, .int x1), (2, .int x2)]) hx hb dX7_lone_78 hl (k := 4) rfl rfl (by decide) rfl (fun ls hl => ?_)
            refine lv_goto (tgt := 43) hx hb dX7_lone_81 (by decide) ?_
            exact oJ43 _ _ _ _ _ _ hV _ _ hP hS _ (lv_sub hl [2, 3, 4, 1, 0] rfl))
  have hl := lv_entry ([.ref (ad 0)]) (n := 5) (Nat.le_of_ble_eq_true rfl)
  rw [lg_entry_eq]
  generalize (lg_sl ([.ref (ad 0)]) ++ List.replicate (5 - (lg_sl ([.ref (ad 0)])).length) Slot.unset).toArray = ls at hl ⊢
  have hl : lv_has ls 5 [(0, .ref (ad 0))] := hl
  refine lv_aload_n hx hb dX7_lone_0 rfl (lv_at hl 0 rfl) ?_
  obtain ⟨h_1, hV⟩ := hV
  refine cw_v (va_runV (As := []) (rest := []) ⟨hx, hb, hml, hown, hts⟩ (spec_X7_looksAll l D cy ad _ g a h_1) (cwV 0 hts gX7_lone_X7_looksAll rfl rfl rfl (by decide +kernel) ⟨Nat.le_of_ble_eq_true rfl, Nat.le_of_ble_eq_true rfl⟩) (ar_preV hN hK hP (maD hD) (ci := 6) (q0 := 0) rfl rfl) rfl rfl hl.1 rfl (lv_room (Nat.le_of_ble_eq_true rfl)) dX7_lone_1 ⟨Nat.zero_le _, Nat.zero_le _⟩) hS (maD hD) hA (fun u_1 H locs q_1 hP hS => ?_)
  obtain ⟨g1, a1⟩ := u_1
  have hV := hV g1 a1 q_1
  have hP : va_P D vwCl (maW ad cy g1 a1) H := hP
  refine lv_bipush (v := (-4 : Int32)) hx hb dX7_lone_4 (by decide) ?_
  refine lv_istore_n (lv' := [(1, .int (-4 : Int32)), (0, .ref (ad 0))]) hx hb dX7_lone_6 rfl hl (by decide) rfl (fun ls hl => ?_)
  refine lv_iconst (v := (0 : Int32)) hx hb dX7_lone_7 (by decide) ?_
  refine lv_istore_n (lv' := [(2, .int (0 : Int32)), (1, .int (-4 : Int32)), (0, .ref (ad 0))]) hx hb dX7_lone_8 rfl hl (by decide) rfl (fun ls hl => ?_)
  exact oJ9 _ _ _ _ hV _ _ hP hS _ (lv_sub hl [2, 1, 0] rfl)
def post_X7_lone (g : Gs) (a : As) (r : Int32) (g' : Gs) (a' : As) : Prop := LoneAns (mN g) (mH a) r ∧ KS g a g' a'
set_option maxRecDepth 4000 in
theorem spec_X7_lone (l : Launch) (D : va_G) (cy : Nat → ClassId) (ad : Nat → Nat) (sz : Nat) (g : Gs) (a : As) (hpre : pre_X7_lone g a) : Met l yX7_lone wsX7_lone ({ frames := 4, cells := 0, slots := 0, locals := 97 } : Room) (va_Pc [.ref (ad 0)] (ArP D cy sz (maW ad cy g a))) (va_Qi (fun (r : Int32) (u : Gs × As) => (post_X7_lone g a) r u.1 u.2) (fun u t => va_P D vwCl (maW ad cy u.1 u.2) t.heap) (va_A (maW ad cy g a) sz)) 0 0 (va_A (maW ad cy g a) sz) := by
  apply met_X7_lone
  intro J9 J43 h9 h43
  have hLd : LdM g a := hpre
  have hper := hLd.per
  obtain ⟨hn8, hg2⟩ := hLd.1
  obtain ⟨hP1, hP2, hg3⟩ := hLd.2.1
  have h2n := two_le hn8
  have h2p := Nat.two_pow_pos (mN g)
  refine ⟨hLd, fun g1 a1 h1 => ?_⟩
  obtain ⟨rfl, f, rfl, hf⟩ := h1
  have hKS : KS g1 a g1 (va_up a 11 f) := KS.up (by decide) _
  have u11 : (va_up a 11 f) 11 = f := up_0 _ _ _
  generalize va_up a 11 f = a1 at *
  have es := fun S => emp_seen (S := S) hP1 hper hn8
  -- the best of the sets below s
  have best : ∃ Bst : Int32 → Nat → Prop, Bst = (fun x s => (x = -4 ∧ ∀ S', S' < s → ¬ Emp (mN g1) (mH a) S') ∨ ∃ B, x = nI B ∧ B < s ∧ Emp (mN g1) (mH a) B ∧ ∀ S', S' < s → Emp (mN g1) (mH a) S' → pcB B < pcB S' ∨ (pcB B = pcB S' ∧ B ≤ S')) := ⟨_, rfl⟩
  obtain ⟨Bst, hB⟩ := best
  have key : ∀ (d s : Nat) (x : Int32), s + d = 2 ^ mN g1 → Bst x s → J9 x (nI s) g1 a1 := by
    intro d
    induction d with
    | zero =>
      intro s x hs hb
      have : s = 2 ^ mN g1 := by omega
      refine h9 _ _ _ _ ?_
      rw [hg2, shl_1 (by omega)]
      refine pk_le (2 ^ mN g1) s (fun _ => ⟨?_, hKS⟩) (fun h => absurd h (by omega)) rfl rfl (by omega) (by omega)
      rw [hB] at hb
      subst this
      rcases hb with ⟨b1, b2⟩ | ⟨B, b1, b2, b3, b4⟩
      · exact Or.inl ⟨fun ⟨S, q1, q2⟩ => b2 S q1 q2, b1⟩
      · exact Or.inr ⟨B, b2, b3, b4, b1⟩
    | succ d ih =>
      intro s x hs hb
      have hs256 : s < 256 := by omega
      -- keep what was best
      have keep : (∀ B, B < s → x = nI B → Emp (mN g1) (mH a) s → pcB B ≤ pcB s) → (x = -4 → ¬ Emp (mN g1) (mH a) s) → J9 x (nI s + 1) g1 a1 := fun h1 h2 => by
        rw [nI_1]
        refine ih (s + 1) x (by omega) ?_
        rw [hB] at hb ⊢
        rcases hb with ⟨b1, b2⟩ | ⟨B, b1, b2, b3, b4⟩
        · refine Or.inl ⟨b1, fun S' hS' => ?_⟩
          by_cases z : S' = s
          · rw [z]; exact h2 b1
          · exact b2 S' (by omega)
        · refine Or.inr ⟨B, b1, by omega, b3, fun S' hS' hE => ?_⟩
          by_cases z : S' = s
          · subst z
            have := h1 B b2 b1 hE
            omega
          · exact b4 S' (by omega) hE
      -- take the new one
      have take : Emp (mN g1) (mH a) s → (∀ B, B < s → x = nI B → pcB s < pcB B) → J9 (nI s) (nI s + 1) g1 a1 := fun hE h1 => by
        rw [nI_1]
        refine ih (s + 1) (nI s) (by omega) ?_
        rw [hB] at hb ⊢
        refine Or.inr ⟨s, rfl, by omega, hE, fun S' hS' hE' => ?_⟩
        by_cases z : S' = s
        · subst z; exact Or.inr ⟨rfl, Nat.le_refl _⟩
        · rcases hb with ⟨b1, b2⟩ | ⟨B, b1, b2, b3, b4⟩
          · exact absurd hE' (b2 S' (by omega))
          · have h5 := h1 B b2 b1
            have h6 := b4 S' (by omega) hE'
            omega
      -- out of the race
      have out : ∀ k, k ≤ 256 → J9 x (nI s + 1) g1 a1 → J43 x (nI s) 0 (nI k) g1 a1 := fun k hk h => by
        refine h43 _ _ _ _ _ _ (pk_le 256 k (fun _ => ⟨fun _ => h, fun z => absurd rfl z⟩) (fun _ => ⟨fun _ => ⟨fun _ => h, fun z => absurd rfl z⟩, fun z => absurd rfl z⟩))
      have race : (∀ B, B < s → x = nI B → pcB s < pcB B) → ∀ (e k : Nat), k + e = 256 → (∀ q, q < k → Seen (mN g1) (mH a) (mP g1) q → ¬ q &&& s = 0) → J43 x (nI s) 1 (nI k) g1 a1 := by
        intro hlt e
        induction e with
        | zero =>
          intro k hk hq
          refine h43 _ _ _ _ _ _ (pk_le 256 k (fun _ => ⟨fun z => absurd z (by decide), fun _ => take ((es s).mpr (fun q h1 h2 => hq q (by omega) h2)) hlt⟩) (fun h => absurd h (by omega)))
        | succ e ihe =>
          intro k hk hq
          refine h43 _ _ _ _ _ _ (pk_le 256 k (fun h => absurd h (by omega)) (fun _ => ⟨fun z => absurd z (by decide), fun _ => ⟨vp_in_nI (by omega) (by omega), ?_⟩⟩))
          rw [u11, show (nI k).toNatClampNeg = k from tn_nI (by omega), hf k (by omega), nx_and, nI_1]
          have more : (Seen (mN g1) (mH a) (mP g1) k → ¬ k &&& s = 0) → J43 x (nI s) 1 (nI (k + 1)) g1 a1 := fun h => ihe (k + 1) (by omega) (fun q h1 h2 => by
            by_cases z : q = k
            · subst z; exact h h2
            · exact hq q (by omega) h2)
          refine ⟨fun z => more (fun y => absurd y (zb_0 z)), fun z => ?_⟩
          have hand : k &&& s < 256 := Nat.and_lt_two_pow (n := 8) k hs256
          refine pk_eq (k &&& s) 0 (fun y => out (k + 1) (by omega) ?_) (fun y => more (fun _ => y)) rfl rfl (by omega) (by omega)
          have hne : ¬ Emp (mN g1) (mH a) s := fun hE => (es s).mp hE k (by omega) (zb_1 z) y
          exact keep (fun B _ _ hE => absurd hE hne) (fun _ => hne)
      refine h9 _ _ _ _ ?_
      rw [hg2, shl_1 (by omega)]
      refine pk_le (2 ^ mN g1) s (fun h => absurd h (by omega)) (fun _ => ?_) rfl rfl (by omega) (by omega)
      have hb' := hb
      rw [hB] at hb'
      have m4 : ∀ k : Nat, k < 1000 → ¬ nI k = -4 := fun k hk z => by
        rw [i_eq, nI_toInt (by omega)] at z
        have : (-4 : Int32).toInt = -4 := rfl
        omega
      rcases hb' with ⟨b1, b2⟩ | ⟨B, b1, b2, b3, b4⟩
      · refine ⟨fun _ => race (fun B hBs hx => ?_) 256 0 (by omega) (fun q hq => by omega), fun z => absurd (by rw [b1]; decide) z⟩
        exact absurd (hx.symm.trans b1) (m4 B (by omega))
      · refine ⟨fun z => absurd z (by rw [b1]; exact nI_pos (by omega)), fun _ => ⟨⟨s, hs256, rfl⟩, fun r24 h24 => ⟨⟨B, by omega, b1⟩, fun r28 h28 => ?_⟩⟩⟩
        unfold post_X7_many at h24 h28
        rw [tn_nI (by omega)] at h24
        rw [b1, tn_nI (by omega)] at h28
        have p1 := (pc_all s hs256).2.1
        have p2 := (pc_all B (by omega)).2.1
        rw [h24, h28]
        have same : ∀ B', B' < s → x = nI B' → B' = B := fun B' h1 h2 => (nI_eq (by omega) (by omega)).mp (h2.symm.trans b1)
        refine pk_le (pcB B) (pcB s) (fun hle => out 0 (by omega) (keep (fun B' h1 h2 _ => by rw [same B' h1 h2]; exact hle) (fun hx => absurd (b1.symm.trans hx) (m4 B (by omega))))) (fun hlt => race (fun B' h1 h2 => by rw [same B' h1 h2]; exact hlt) 256 0 (by omega) (fun q hq => by omega)) rfl rfl (by omega) (by omega)
  exact key (2 ^ mN g1) 0 (-4) (by omega) (by rw [hB]; exact Or.inl ⟨rfl, fun S' h => by omega⟩)
