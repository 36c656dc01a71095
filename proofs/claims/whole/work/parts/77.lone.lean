/-! needless items, lone sets, the class -/
def Ndl (n : Nat) (H : Nat → Nat → Bool) (k : Nat) : Prop := ∀ x, (∀ j, j < n → ¬ j = k → H j x = true) → H k x = true
def Emp (n : Nat) (H : Nat → Nat → Bool) (S : Nat) : Prop := ∀ x, AsB n H S x = false
theorem oth : ∀ n, n < 9 → ∀ k, k < n → (nI (2 ^ n - 1) &&& (((1 : Int32) <<< (nI k &&& 31)) ^^^ (-1)) = nI (2 ^ n - 1 - 2 ^ k) ∧ 2 ^ n - 1 - 2 ^ k < 256 ∧ ∀ j, j < 8 → (2 ^ n - 1 - 2 ^ k).testBit j = (decide (j < n) && !decide (j = k))) := by decide +kernel
theorem ndl_iff {n k : Nat} {H : Nat → Nat → Bool} (hn : n ≤ 8) (hk : k < n) : Ndl n H k ↔ ∀ x, AsB n H (2 ^ n - 1 - 2 ^ k) x = LfB n H x := by
  obtain ⟨-, -, ho⟩ := oth n (by omega) k hk
  have ob : ∀ j, j < n → ((2 ^ n - 1 - 2 ^ k).testBit j = true ↔ ¬ j = k) := fun j hj => by
    rw [ho j (by omega), decide_eq_true hj, Bool.true_and]
    by_cases z : j = k
    · rw [decide_eq_true z]; exact ⟨fun y => Bool.noConfusion y, fun y => absurd z y⟩
    · rw [decide_eq_false z]; exact ⟨fun _ => z, fun _ => rfl⟩
  constructor
  · intro h x
    refine cb_iff ⟨fun z j hj => ?_, fun z j hj _ => z j hj⟩
    by_cases y : j = k
    · rw [y]; exact h x (fun i hi hik => z i hi ((ob i hi).mpr hik))
    · exact z j hj ((ob j hj).mpr y)
  · intro h x hx
    have : LfB n H x = true := by rw [← h x]; exact cb_t (fun j hj hs => hx j hj ((ob j hj).mp hs))
    exact cb_of this k hk
def pre_X2_saysNothingNew (g : Gs) (a : As) (w : Ws) (p0 : Int32) : Prop := LdF g a w ∧ ∃ k, k < cN g ∧ p0 = nI k
set_option maxHeartbeats 4000000 in
set_option maxRecDepth 100000 in
theorem met_X2_saysNothingNew (l : Launch) (D : va_G) (cy : Nat → ClassId) (ad : Nat → Nat) (sz : Nat) (g : Gs) (a : As) (w : Ws) (p0 : Int32) (post : Int32 → Prop)
  (hV : ∀ (J13 : Int32 → Int32 → Prop),
    (∀ (x2 : Int32) (x3 : Int32), (((g 10) ≤ ((64 : Int32) * x3) → post (1 : Int32)) ∧ (¬ (g 10) ≤ ((64 : Int32) * x3) → pre_X2_wordOf g a w x3.toInt64 x2 ∧ (∀ r28 : Int64, post_X2_wordOf g a w x3.toInt64 x2 r28 → pre_X2_all g a w ∧ (∀ r35 : Int32, post_X2_all g a w r35 → pre_X2_wordOf g a w x3.toInt64 r35 ∧ (∀ r38 : Int64, post_X2_wordOf g a w x3.toInt64 r35 r38 → ((r28 = r38 → J13 x2 (x3 + 1)) ∧ (¬ r28 = r38 → post (0 : Int32)))))))) → J13 x2 x3) →
    pre_X2_all g a w ∧ (∀ r1 : Int32, post_X2_all g a w r1 → J13 (r1 &&& (((1 : Int32) <<< (p0 &&& 31)) ^^^ (-1 : Int32))) (0 : Int32))) :
  Met l yX2_saysNothingNew wsX2_saysNothingNew ({ frames := 2, cells := 0, slots := 0, locals := 48 } : Room) (va_Pc [.ref (ad 12), .int p0] (ArP D cy sz (caW ad cy g a w))) (Qpi post) 0 0 noF := by
  refine Met.ofW (cc := cX2_saysNothingNew) (maxL := 4) (ret := (some .boolean)) (by decide) rfl ?_
  intro p e s m args below meth c s₁ B hml hv
  obtain ⟨rfl, hsz, hP, hK, hD0, hN⟩ := hv
  have hx := B.exec
  have hb := B.bytes
  have hr := B.returns
  have hts := atoms_spec (ws := wsX2_saysNothingNew) B.pre
  have hown : s.vm.findClass RX2 = some m.cls := findClass_of_methodNamed B.named
  have hlocks := B.notSynchronized
  subst hsz
  have hP : va_P D vwCl (caW ad cy g a w) s.heap := hP
  have hD : va_D (fun _ => True) (caW ad cy g a w) := hD0
  obtain ⟨J13, iJ13, oJ13⟩ : ∃ J : Int32 → Int32 → Prop, (∀ (x2 : Int32) (x3 : Int32), (∀ ls : Array Slot, lv_has ls 4 [(0, .ref (ad 12)), (2, .int x2), (3, .int x3)] → W p l e (headSpec wsX2_saysNothingNew ({ frames := 2, cells := 0, slots := 0, locals := 48 } : Room)).room s m [.ref (ad 12), .int p0].toArray below meth c s.heap [] 0 0 (MQ below (Qpi post) [.ref (ad 12), .int p0].toArray s 0 0 noF) (F0 m 13 ls [])) → J x2 x3) ∧ (∀ (x2 : Int32) (x3 : Int32), J x2 x3 → (∀ ls : Array Slot, lv_has ls 4 [(0, .ref (ad 12)), (2, .int x2), (3, .int x3)] → W p l e (headSpec wsX2_saysNothingNew ({ frames := 2, cells := 0, slots := 0, locals := 48 } : Room)).room s m [.ref (ad 12), .int p0].toArray below meth c s.heap [] 0 0 (MQ below (Qpi post) [.ref (ad 12), .int p0].toArray s 0 0 noF) (F0 m 13 ls []))) := ⟨fun (x2 : Int32) (x3 : Int32) => (∀ ls : Array Slot, lv_has ls 4 [(0, .ref (ad 12)), (2, .int x2), (3, .int x3)] → W p l e (headSpec wsX2_saysNothingNew ({ frames := 2, cells := 0, slots := 0, locals := 48 } : Room)).room s m [.ref (ad 12), .int p0].toArray below meth c s.heap [] 0 0 (MQ below (Qpi post) [.ref (ad 12), .int p0].toArray s 0 0 noF) (F0 m 13 ls [])), fun _ _ h => h, fun _ _ h => h⟩
  have hV := hV J13
  replace hV := hV (by
    intro x2 x3 hV
    refine iJ13 x2 x3 ?_
    intro ls hl
    refine lv_bipush (v := (64 : Int32)) hx hb dX2_saysNothingNew_13 (by decide) ?_
    refine lv_iload_n hx hb dX2_saysNothingNew_15 rfl (lv_at hl 2 rfl) ?_
    refine lv_imul hx hb dX2_saysNothingNew_16 ?_
    refine lv_aload_n hx hb dX2_saysNothingNew_17 rfl (lv_at hl 0 rfl) ?_
    refine va_get (D := D) (ci := 2) (v := .int (g 10)) (C := RX2) (T := TX2) (N := 6) hx hb hts (by decide +kernel) hown hK hP 12 rfl rfl 4 (by decide) (hts (.fieldLink RX2 24 "PowerRests$Laid" "period" "I") (by decide +kernel)) (fun _ h9 => h9) rfl dX2_saysNothingNew_18 ?_
    refine lv_icmp_ge (tgt := 53) hx hb dX2_saysNothingNew_21 (by decide) (fun c_21 => ?_) (fun c_21 => ?_)
    · have hV := hV.1 c_21
      refine lv_iconst (v := (1 : Int32)) hx hb dX2_saysNothingNew_53 (by decide) ?_
      exact W.zret (v := (1 : Int32)) hx hb hr rfl (fun t ht hW => ⟨_, rfl, hV, ht⟩) (fun _ h => by cases h) dX2_saysNothingNew_54
    · have hV := hV.2 c_21
      refine lv_aload_n hx hb dX2_saysNothingNew_24 rfl (lv_at hl 0 rfl) ?_
      refine lv_iload_n hx hb dX2_saysNothingNew_25 rfl (lv_at hl 2 rfl) ?_
      refine lv_i2l (v := x3.toInt64) hx hb dX2_saysNothingNew_26 rfl ?_
      refine lv_iload_n hx hb dX2_saysNothingNew_27 rfl (lv_at hl 1 rfl) ?_
      obtain ⟨h_28, hV⟩ := hV
      refine cp_l (va_runV (As := [.long x3.toInt64, .int x2]) (rest := []) ⟨hx, hb, hml, hown, hts⟩ (spec_X2_wordOf l D cy ad s.heap.size g a w x3.toInt64 x2 h_28) (cwV 2 hts gX2_saysNothingNew_X2_wordOf rfl rfl rfl (by decide +kernel) ⟨Nat.le_of_ble_eq_true rfl, Nat.le_of_ble_eq_true rfl⟩) (ar_preV hN hK hP hD (ci := 2) (q0 := 12) rfl rfl) rfl rfl hl.1 rfl (lv_room (Nat.le_of_ble_eq_true rfl)) dX2_saysNothingNew_28 ⟨Nat.zero_le _, Nat.zero_le _⟩) (fun r28 q_28 => ?_)
      have hV := hV r28 q_28
      refine lv_aload_n hx hb dX2_saysNothingNew_31 rfl (lv_at hl 0 rfl) ?_
      refine lv_iload_n hx hb dX2_saysNothingNew_32 rfl (lv_at hl 2 rfl) ?_
      refine lv_i2l (v := x3.toInt64) hx hb dX2_saysNothingNew_33 rfl ?_
      refine lv_aload_n hx hb dX2_saysNothingNew_34 rfl (lv_at hl 0 rfl) ?_
      obtain ⟨h_35, hV⟩ := hV
      refine cp_i (va_runV (As := []) (rest := [.long x3.toInt64, .ref (ad 12), .long r28]) ⟨hx, hb, hml, hown, hts⟩ (spec_X2_all l D cy ad s.heap.size g a w h_35) (cwV 0 hts gX2_saysNothingNew_X2_all rfl rfl rfl (by decide +kernel) ⟨Nat.le_of_ble_eq_true rfl, Nat.le_of_ble_eq_true rfl⟩) (ar_preV hN hK hP hD (ci := 2) (q0 := 12) rfl rfl) rfl rfl hl.1 rfl (lv_room (Nat.le_of_ble_eq_true rfl)) dX2_saysNothingNew_35 ⟨Nat.zero_le _, Nat.zero_le _⟩) (fun r35 q_35 => ?_)
      have hV := hV r35 q_35
      obtain ⟨h_38, hV⟩ := hV
      refine cp_l (va_runV (As := [.long x3.toInt64, .int r35]) (rest := [.long r28]) ⟨hx, hb, hml, hown, hts⟩ (spec_X2_wordOf l D cy ad s.heap.size g a w x3.toInt64 r35 h_38) (cwV 2 hts gX2_saysNothingNew_X2_wordOf rfl rfl rfl (by decide +kernel) ⟨Nat.le_of_ble_eq_true rfl, Nat.le_of_ble_eq_true rfl⟩) (ar_preV hN hK hP hD (ci := 2) (q0 := 12) rfl rfl) rfl rfl hl.1 rfl (lv_room (Nat.le_of_ble_eq_true rfl)) dX2_saysNothingNew_38 ⟨Nat.zero_le _, Nat.zero_le _⟩) (fun r38 q_38 => ?_)
      have hV := hV r38 q_38
      refine lc_eq (tgt := 47) hx hb dX2_saysNothingNew_41 dX2_saysNothingNew_42 (by decide) (fun c_41 => ?_) (fun c_41 => ?_)
      · have hV := hV.1 c_41
        refine lv_iinc (v := x3 + 1) (lv' := [(3, .int (x3 + 1)), (0, .ref (ad 12)), (2, .int x2)]) hx hb dX2_saysNothingNew_47 hl (k := 2) rfl rfl (by decide) rfl (fun ls hl => ?_)
        refine lv_goto (tgt := 13) hx hb dX2_saysNothingNew_50 (by decide) ?_
        exact oJ13 _ _ hV _ (lv_sub hl [1, 2, 0] rfl)
      · have hV := hV.2 c_41
        refine lv_iconst (v := (0 : Int32)) hx hb dX2_saysNothingNew_45 (by decide) ?_
        exact W.zret (v := (0 : Int32)) hx hb hr rfl (fun t ht hW => ⟨_, rfl, hV, ht⟩) (fun _ h => by cases h) dX2_saysNothingNew_46)
  have hl := lv_entry ([.ref (ad 12), .int p0]) (n := 4) (Nat.le_of_ble_eq_true rfl)
  rw [lg_entry_eq]
  generalize (lg_sl ([.ref (ad 12), .int p0]) ++ List.replicate (4 - (lg_sl ([.ref (ad 12), .int p0])).length) Slot.unset).toArray = ls at hl ⊢
  have hl : lv_has ls 4 [(0, .ref (ad 12)), (1, .int p0)] := hl
  refine lv_aload_n hx hb dX2_saysNothingNew_0 rfl (lv_at hl 0 rfl) ?_
  obtain ⟨h_1, hV⟩ := hV
  refine cp_i (va_runV (As := []) (rest := []) ⟨hx, hb, hml, hown, hts⟩ (spec_X2_all l D cy ad s.heap.size g a w h_1) (cwV 0 hts gX2_saysNothingNew_X2_all rfl rfl rfl (by decide +kernel) ⟨Nat.le_of_ble_eq_true rfl, Nat.le_of_ble_eq_true rfl⟩) (ar_preV hN hK hP hD (ci := 2) (q0 := 12) rfl rfl) rfl rfl hl.1 rfl (lv_room (Nat.le_of_ble_eq_true rfl)) dX2_saysNothingNew_1 ⟨Nat.zero_le _, Nat.zero_le _⟩) (fun r1 q_1 => ?_)
  have hV := hV r1 q_1
  refine lv_iconst (v := (1 : Int32)) hx hb dX2_saysNothingNew_4 (by decide) ?_
  refine lv_iload_n hx hb dX2_saysNothingNew_5 rfl (lv_at hl 1 rfl) ?_
  refine lv_ishl hx hb dX2_saysNothingNew_6 ?_
  refine lv_iconst (v := (-1 : Int32)) hx hb dX2_saysNothingNew_7 (by decide) ?_
  refine lv_ixor hx hb dX2_saysNothingNew_8 ?_
  refine lv_iand hx hb dX2_saysNothingNew_9 ?_
  refine lv_istore_n (lv' := [(2, .int (r1 &&& (((1 : Int32) <<< (p0 &&& 31)) ^^^ (-1 : Int32)))), (0, .ref (ad 12)), (1, .int p0)]) hx hb dX2_saysNothingNew_10 rfl hl (by decide) rfl (fun ls hl => ?_)
  refine lv_iconst (v := (0 : Int32)) hx hb dX2_saysNothingNew_11 (by decide) ?_
  refine lv_istore_n (lv' := [(3, .int (0 : Int32)), (2, .int (r1 &&& (((1 : Int32) <<< (p0 &&& 31)) ^^^ (-1 : Int32)))), (0, .ref (ad 12)), (1, .int p0)]) hx hb dX2_saysNothingNew_12 rfl hl (by decide) rfl (fun ls hl => ?_)
  exact oJ13 _ _ hV _ (lv_sub hl [2, 1, 0] rfl)
def post_X2_saysNothingNew (g : Gs) (a : As) (w : Ws) (p0 r : Int32) : Prop := r = zb (Ndl (cN g) (cH a w) (tn p0))
set_option maxRecDepth 4000 in
theorem spec_X2_saysNothingNew (l : Launch) (D : va_G) (cy : Nat → ClassId) (ad : Nat → Nat) (sz : Nat) (g : Gs) (a : As) (w : Ws) (p0 : Int32) (hpre : pre_X2_saysNothingNew g a w p0) : Met l yX2_saysNothingNew wsX2_saysNothingNew ({ frames := 2, cells := 0, slots := 0, locals := 48 } : Room) (va_Pc [.ref (ad 12), .int p0] (ArP D cy sz (caW ad cy g a w))) (Qpi (post_X2_saysNothingNew g a w p0)) 0 0 noF := by
  apply met_X2_saysNothingNew
  intro J hJ
  obtain ⟨hLdF, k, hk, rfl⟩ := hpre
  have hper := hLdF.per
  obtain ⟨hLd, ⟨hP1, hP2, hg10⟩, hdv, hg11⟩ := hLdF
  have hn8 := hLd.1.1
  obtain ⟨o1, o2, -⟩ := oth (cN g) (by omega) k hk
  have tnk : tn (nI k) = k := tn_nI (by omega)
  have good : ∀ r, r = zb (∀ x, AsB (cN g) (cH a w) (2 ^ cN g - 1 - 2 ^ k) x = LfB (cN g) (cH a w) x) → post_X2_saysNothingNew g a w (nI k) r := fun r h => by unfold post_X2_saysNothingNew; rw [tnk, zb_c (ndl_iff hn8 hk)]; exact h
  rw [hg10] at hJ
  refine ⟨hLd.1, fun r1 h1 => ?_⟩
  have e1 : r1 = nI (2 ^ cN g - 1) := h1
  rw [e1, o1]
  have key : ∀ (d b : Nat), b + d = (cP g + 63) / 64 → (∀ x, x < 64 * b → AsB (cN g) (cH a w) (2 ^ cN g - 1 - 2 ^ k) x = LfB (cN g) (cH a w) x) → J (nI (2 ^ cN g - 1 - 2 ^ k)) (nI b) := by
    intro d
    induction d with
    | zero =>
      intro b hb hx
      refine hJ _ _ (pk_le (cP g) (64 * b) (fun _ => good _ (zb_t (fun x => ?_)).symm) (fun h => absurd h (by omega)) rfl (pk_mul 64 b) (by omega) (by omega))
      have hm := Nat.mod_lt x (show 0 < cP g by omega)
      have e : x % cP g = (x % cP g) % cP g := (Nat.mod_mod _ _).symm
      rw [AsB_mod hper _ e, LfB_mod hper e]
      exact hx _ (by omega)
    | succ d ih =>
      intro b hb hx
      refine hJ _ _ (pk_le (cP g) (64 * b) (fun h => absurd h (by omega)) (fun _ => ?_) rfl (pk_mul 64 b) (by omega) (by omega))
      rw [nI_l (by omega)]
      refine ⟨⟨hLd, by rw [pk_lT (by omega)]; omega, _, o2, rfl⟩, fun r28 h28 => ⟨hLd.1, fun r35 h35 => ⟨wd_pre hLd (by omega) h35, fun r38 h38 => ?_⟩⟩⟩
      have hw := wd_all hLd (by omega) h35 h38
      have hv : ∀ j, j < 64 → wB r28 j = AsB (cN g) (cH a w) (2 ^ cN g - 1 - 2 ^ k) (64 * b + j) := fun j hj => by
        have := h28 j hj
        rwa [tn_nI (by omega), tl_lN (by omega)] at this
      refine ⟨fun he => ?_, fun he => good _ (zb_f (fun hall => he (wB_ext (fun j hj => ?_)))).symm⟩
      · rw [nI_1]
        refine ih (b + 1) (by omega) (fun x hx2 => ?_)
        by_cases z : x < 64 * b
        · exact hx x z
        · have h3 := hv (x - 64 * b) (by omega)
          have h4 := hw (x - 64 * b) (by omega)
          rw [he, h4, show 64 * b + (x - 64 * b) = x by omega] at h3
          exact h3.symm
      · rw [hv j hj, hw j hj]; exact hall _
  exact key ((cP g + 63) / 64) 0 (by omega) (fun x hx => by omega)
def pre_X2_periodOf (g : Gs) (a : As) (w : Ws) (p0 : Int32) : Prop := LdF g a w ∧ ∃ S, S < 256 ∧ p0 = nI S
set_option maxHeartbeats 4000000 in
set_option maxRecDepth 100000 in
theorem met_X2_periodOf (l : Launch) (D : va_G) (cy : Nat → ClassId) (ad : Nat → Nat) (sz : Nat) (g : Gs) (a : As) (w : Ws) (p0 : Int32) (post : Int32 → Prop)
  (hV : ∀ (J4 : Int32 → Int32 → Prop),
    (∀ (x2 : Int32) (x3 : Int32), (((g 9) ≤ x3 → post x2) ∧ (¬ (g 9) ≤ x3 → ((((p0 >>> (x3 &&& 31)) &&& (1 : Int32)) = (1 : Int32) → vp_in x3 8 ∧ (pre_X4_commonMultiple x2 ((a 6) x3.toNatClampNeg) ∧ (∀ r28 : Int32, post_X4_commonMultiple x2 ((a 6) x3.toNatClampNeg) r28 → J4 r28 (x3 + 1)))) ∧ (¬ ((p0 >>> (x3 &&& 31)) &&& (1 : Int32)) = (1 : Int32) → J4 x2 (x3 + 1))))) → J4 x2 x3) →
    J4 (1 : Int32) (0 : Int32)) :
  Met l yX2_periodOf wsX2_periodOf ({ frames := 2, cells := 0, slots := 0, locals := 47 } : Room) (va_Pc [.ref (ad 12), .int p0] (ArP D cy sz (caW ad cy g a w))) (Qpi post) 0 0 noF := by
  refine Met.ofW (cc := cX2_periodOf) (maxL := 4) (ret := (some .int)) (by decide) rfl ?_
  intro p e s m args below meth c s₁ B hml hv
  obtain ⟨rfl, hsz, hP, hK, hD0, hN⟩ := hv
  have hx := B.exec
  have hb := B.bytes
  have hr := B.returns
  have hts := atoms_spec (ws := wsX2_periodOf) B.pre
  have hown : s.vm.findClass RX2 = some m.cls := findClass_of_methodNamed B.named
  have hlocks := B.notSynchronized
  subst hsz
  have hP : va_P D vwCl (caW ad cy g a w) s.heap := hP
  have hD : va_D (fun _ => True) (caW ad cy g a w) := hD0
  obtain ⟨J4, iJ4, oJ4⟩ : ∃ J : Int32 → Int32 → Prop, (∀ (x2 : Int32) (x3 : Int32), (∀ ls : Array Slot, lv_has ls 4 [(0, .ref (ad 12)), (1, .int p0), (2, .int x2), (3, .int x3)] → W p l e (headSpec wsX2_periodOf ({ frames := 2, cells := 0, slots := 0, locals := 47 } : Room)).room s m [.ref (ad 12), .int p0].toArray below meth c s.heap [] 0 0 (MQ below (Qpi post) [.ref (ad 12), .int p0].toArray s 0 0 noF) (F0 m 4 ls [])) → J x2 x3) ∧ (∀ (x2 : Int32) (x3 : Int32), J x2 x3 → (∀ ls : Array Slot, lv_has ls 4 [(0, .ref (ad 12)), (1, .int p0), (2, .int x2), (3, .int x3)] → W p l e (headSpec wsX2_periodOf ({ frames := 2, cells := 0, slots := 0, locals := 47 } : Room)).room s m [.ref (ad 12), .int p0].toArray below meth c s.heap [] 0 0 (MQ below (Qpi post) [.ref (ad 12), .int p0].toArray s 0 0 noF) (F0 m 4 ls []))) := ⟨fun (x2 : Int32) (x3 : Int32) => (∀ ls : Array Slot, lv_has ls 4 [(0, .ref (ad 12)), (1, .int p0), (2, .int x2), (3, .int x3)] → W p l e (headSpec wsX2_periodOf ({ frames := 2, cells := 0, slots := 0, locals := 47 } : Room)).room s m [.ref (ad 12), .int p0].toArray below meth c s.heap [] 0 0 (MQ below (Qpi post) [.ref (ad 12), .int p0].toArray s 0 0 noF) (F0 m 4 ls [])), fun _ _ h => h, fun _ _ h => h⟩
  have hV := hV J4
  replace hV := hV (by
    intro x2 x3 hV
    refine iJ4 x2 x3 ?_
    intro ls hl
    refine lv_iload_n hx hb dX2_periodOf_4 rfl (lv_at hl 3 rfl) ?_
    refine lv_aload_n hx hb dX2_periodOf_5 rfl (lv_at hl 0 rfl) ?_
    refine va_get (D := D) (ci := 2) (v := .int (g 9)) (C := RX2) (T := TX2) (N := 6) hx hb hts (by decide +kernel) hown hK hP 12 rfl rfl 3 (by decide) (hts (.fieldLink RX2 31 "PowerRests$Laid" "items" "I") (by decide +kernel)) (fun _ h9 => h9) rfl dX2_periodOf_6 ?_
    refine lv_icmp_ge (tgt := 38) hx hb dX2_periodOf_9 (by decide) (fun c_9 => ?_) (fun c_9 => ?_)
    · have hV := hV.1 c_9
      refine lv_iload_n hx hb dX2_periodOf_38 rfl (lv_at hl 2 rfl) ?_
      exact W.iret (v := x2) hx hb hr (fun t ht hW => ⟨_, rfl, hV, ht⟩) (fun _ h => by cases h) dX2_periodOf_39
    · have hV := hV.2 c_9
      refine lv_iload_n hx hb dX2_periodOf_12 rfl (lv_at hl 1 rfl) ?_
      refine lv_iload_n hx hb dX2_periodOf_13 rfl (lv_at hl 3 rfl) ?_
      refine lv_ishr hx hb dX2_periodOf_14 ?_
      refine lv_iconst (v := (1 : Int32)) hx hb dX2_periodOf_15 (by decide) ?_
      refine lv_iand hx hb dX2_periodOf_16 ?_
      refine lv_iconst (v := (1 : Int32)) hx hb dX2_periodOf_17 (by decide) ?_
      refine lv_icmp_ne (tgt := 32) hx hb dX2_periodOf_18 (by decide) (fun c_18 => ?_) (fun c_18 => ?_)
      · have hV := hV.2 c_18
        refine lv_iinc (v := x3 + 1) (lv' := [(3, .int (x3 + 1)), (0, .ref (ad 12)), (1, .int p0), (2, .int x2)]) hx hb dX2_periodOf_32 hl (k := 3) rfl rfl (by decide) rfl (fun ls hl => ?_)
        refine lv_goto (tgt := 4) hx hb dX2_periodOf_35 (by decide) ?_
        exact oJ4 _ _ hV _ (lv_sub hl [1, 2, 3, 0] rfl)
      · have hV := hV.1 c_18
        refine lv_iload_n hx hb dX2_periodOf_21 rfl (lv_at hl 2 rfl) ?_
        refine lv_aload_n hx hb dX2_periodOf_22 rfl (lv_at hl 0 rfl) ?_
        refine va_get (D := D) (ci := 2) (v := .ref (ad 14)) (C := RX2) (T := TX2) (N := 6) hx hb hts (by decide +kernel) hown hK hP 12 rfl rfl 1 (by decide) (hts (.fieldLink RX2 16 "PowerRests$Laid" "divisors" "[I") (by decide +kernel)) (fun _ h9 => h9) rfl dX2_periodOf_23 ?_
        refine lv_iload_n hx hb dX2_periodOf_26 rfl (lv_at hl 3 rfl) ?_
        obtain ⟨h_27, hV⟩ := hV
        refine va_iald (f := (a 6)) hx hb hK hP 14 0 rfl rfl h_27 dX2_periodOf_27 ?_
        obtain ⟨h_28, hV⟩ := hV
        refine cp_i (va_runS (As := [.int x2, .int ((a 6) x3.toNatClampNeg)]) (rest := []) ⟨hx, hb, hml, hown, hts⟩ (spec_X4_commonMultiple l x2 ((a 6) x3.toNatClampNeg) h_28) (va_cwS 2 hts gX2_periodOf_X4_commonMultiple rfl rfl rfl (by decide +kernel) ⟨Nat.le_of_ble_eq_true rfl, Nat.le_of_ble_eq_true rfl⟩) cp_pre rfl rfl hl.1 rfl (lv_room (Nat.le_of_ble_eq_true rfl)) dX2_periodOf_28 ⟨Nat.zero_le _, Nat.zero_le _⟩) (fun r28 q_28 => ?_)
        have hV := hV r28 q_28
        refine lv_istore_n (lv' := [(2, .int r28), (0, .ref (ad 12)), (1, .int p0), (3, .int x3)]) hx hb dX2_periodOf_31 rfl hl (by decide) rfl (fun ls hl => ?_)
        refine lv_iinc (v := x3 + 1) (lv' := [(3, .int (x3 + 1)), (2, .int r28), (0, .ref (ad 12)), (1, .int p0)]) hx hb dX2_periodOf_32 hl (k := 3) rfl rfl (by decide) rfl (fun ls hl => ?_)
        refine lv_goto (tgt := 4) hx hb dX2_periodOf_35 (by decide) ?_
        exact oJ4 _ _ hV _ (lv_sub hl [2, 3, 1, 0] rfl))
  have hl := lv_entry ([.ref (ad 12), .int p0]) (n := 4) (Nat.le_of_ble_eq_true rfl)
  rw [lg_entry_eq]
  generalize (lg_sl ([.ref (ad 12), .int p0]) ++ List.replicate (4 - (lg_sl ([.ref (ad 12), .int p0])).length) Slot.unset).toArray = ls at hl ⊢
  have hl : lv_has ls 4 [(0, .ref (ad 12)), (1, .int p0)] := hl
  refine lv_iconst (v := (1 : Int32)) hx hb dX2_periodOf_0 (by decide) ?_
  refine lv_istore_n (lv' := [(2, .int (1 : Int32)), (0, .ref (ad 12)), (1, .int p0)]) hx hb dX2_periodOf_1 rfl hl (by decide) rfl (fun ls hl => ?_)
  refine lv_iconst (v := (0 : Int32)) hx hb dX2_periodOf_2 (by decide) ?_
  refine lv_istore_n (lv' := [(3, .int (0 : Int32)), (2, .int (1 : Int32)), (0, .ref (ad 12)), (1, .int p0)]) hx hb dX2_periodOf_3 rfl hl (by decide) rfl (fun ls hl => ?_)
  exact oJ4 _ _ hV _ (lv_sub hl [2, 3, 1, 0] rfl)
def post_X2_periodOf (g : Gs) (a : As) (w : Ws) (p0 r : Int32) : Prop := ∃ Q, 1 ≤ Q ∧ Q ∣ cP g ∧ (∀ k, k < cN g → (tn p0).testBit k = true → cB a k ∣ Q) ∧ r = nI Q
set_option maxRecDepth 4000 in
theorem spec_X2_periodOf (l : Launch) (D : va_G) (cy : Nat → ClassId) (ad : Nat → Nat) (sz : Nat) (g : Gs) (a : As) (w : Ws) (p0 : Int32) (hpre : pre_X2_periodOf g a w p0) : Met l yX2_periodOf wsX2_periodOf ({ frames := 2, cells := 0, slots := 0, locals := 47 } : Room) (va_Pc [.ref (ad 12), .int p0] (ArP D cy sz (caW ad cy g a w))) (Qpi (post_X2_periodOf g a w p0)) 0 0 noF := by
  apply met_X2_periodOf
  intro J hJ
  obtain ⟨⟨hLd, ⟨hP1, hP2, hg10⟩, hdv, hg11⟩, S, hS, rfl⟩ := hpre
  have tnS : tn (nI S) = S := tn_nI (by omega)
  obtain ⟨hn8, hg9⟩ := hLd.1
  rw [hg9] at hJ
  have good : ∀ Q, 1 ≤ Q → Q ∣ cP g → (∀ k, k < cN g → S.testBit k = true → cB a k ∣ Q) → post_X2_periodOf g a w (nI S) (nI Q) := fun Q h1 h2 h3 => ⟨Q, h1, h2, by rw [tnS]; exact h3, rfl⟩
  have key : ∀ (d k Q : Nat), k + d = cN g → 1 ≤ Q → Q ∣ cP g → (∀ i, i < k → S.testBit i = true → cB a i ∣ Q) → J (nI Q) (nI k) := by
    intro d
    induction d with
    | zero =>
      intro k Q hk h1 h2 h3
      exact hJ _ _ (pk_le (cN g) k (fun _ => good Q h1 h2 (fun i hi => h3 i (by omega))) (fun h => absurd h (by omega)))
    | succ d ih =>
      intro k Q hk h1 h2 h3
      obtain ⟨⟨b1, b2⟩, hb, -⟩ := hLd.2 k (by omega)
      have hQ := Nat.le_of_dvd hP1 h2
      have hQb := Nat.lcm_dvd h2 (hdv k (by omega))
      have hQl := Nat.le_of_dvd hP1 hQb
      refine hJ _ _ (pk_le (cN g) k (fun h => absurd h (by omega)) (fun _ => ?_))
      rw [bit_i hS (by omega), show (nI k).toNatClampNeg = k from tn_nI (by omega), hb, nI_1]
      refine ⟨fun ht => ⟨vp_in_nI (by omega) (by omega), ⟨by rw [nI_toInt (by omega)]; omega, by rw [nI_toInt (by omega)]; omega, by rw [tn_nI (by omega), tn_nI (by omega)]; omega⟩, fun r hr => ?_⟩, fun ht => ih (k + 1) Q (by omega) h1 h2 (fun i hi hs => ?_)⟩
      · unfold post_X4_commonMultiple at hr
        rw [tn_nI (by omega), tn_nI (by omega)] at hr
        rw [hr]
        refine ih (k + 1) _ (by omega) (Nat.lcm_pos h1 (by omega)) hQb (fun i hi hs => ?_)
        by_cases z : i = k
        · rw [z]; exact Nat.dvd_lcm_right _ _
        · exact Nat.dvd_trans (h3 i (by omega) hs) (Nat.dvd_lcm_left _ _)
      · by_cases z : i = k
        · rw [z] at hs; exact absurd hs ht
        · exact h3 i (by omega) hs
  exact key (cN g) 0 1 (by omega) (by omega) (Nat.one_dvd _) (fun i hi => by omega)
def pre_X2_leavesNothing (g : Gs) (a : As) (w : Ws) (p0 : Int32) : Prop := LdF g a w ∧ ∃ S, S < 256 ∧ p0 = nI S
set_option maxHeartbeats 4000000 in
set_option maxRecDepth 100000 in
theorem met_X2_leavesNothing (l : Launch) (D : va_G) (cy : Nat → ClassId) (ad : Nat → Nat) (sz : Nat) (g : Gs) (a : As) (w : Ws) (p0 : Int32) (post : Int32 → Prop)
  (hV : ∀ (J8 : Int32 → Int32 → Prop),
    (∀ (x2 : Int32) (x3 : Int32), ((x2 ≤ ((64 : Int32) * x3) → post (1 : Int32)) ∧ (¬ x2 ≤ ((64 : Int32) * x3) → pre_X2_wordOf g a w x3.toInt64 p0 ∧ (∀ r20 : Int64, post_X2_wordOf g a w x3.toInt64 p0 r20 → ((r20 = (0 : Int64) → J8 x2 (x3 + 1)) ∧ (¬ r20 = (0 : Int64) → post (0 : Int32)))))) → J8 x2 x3) →
    pre_X2_periodOf g a w p0 ∧ (∀ r2 : Int32, post_X2_periodOf g a w p0 r2 → J8 r2 (0 : Int32))) :
  Met l yX2_leavesNothing wsX2_leavesNothing ({ frames := 3, cells := 0, slots := 0, locals := 70 } : Room) (va_Pc [.ref (ad 12), .int p0] (ArP D cy sz (caW ad cy g a w))) (Qpi post) 0 0 noF := by
  refine Met.ofW (cc := cX2_leavesNothing) (maxL := 4) (ret := (some .boolean)) (by decide) rfl ?_
  intro p e s m args below meth c s₁ B hml hv
  obtain ⟨rfl, hsz, hP, hK, hD0, hN⟩ := hv
  have hx := B.exec
  have hb := B.bytes
  have hr := B.returns
  have hts := atoms_spec (ws := wsX2_leavesNothing) B.pre
  have hown : s.vm.findClass RX2 = some m.cls := findClass_of_methodNamed B.named
  have hlocks := B.notSynchronized
  subst hsz
  have hP : va_P D vwCl (caW ad cy g a w) s.heap := hP
  have hD : va_D (fun _ => True) (caW ad cy g a w) := hD0
  obtain ⟨J8, iJ8, oJ8⟩ : ∃ J : Int32 → Int32 → Prop, (∀ (x2 : Int32) (x3 : Int32), (∀ ls : Array Slot, lv_has ls 4 [(0, .ref (ad 12)), (1, .int p0), (2, .int x2), (3, .int x3)] → W p l e (headSpec wsX2_leavesNothing ({ frames := 3, cells := 0, slots := 0, locals := 70 } : Room)).room s m [.ref (ad 12), .int p0].toArray below meth c s.heap [] 0 0 (MQ below (Qpi post) [.ref (ad 12), .int p0].toArray s 0 0 noF) (F0 m 8 ls [])) → J x2 x3) ∧ (∀ (x2 : Int32) (x3 : Int32), J x2 x3 → (∀ ls : Array Slot, lv_has ls 4 [(0, .ref (ad 12)), (1, .int p0), (2, .int x2), (3, .int x3)] → W p l e (headSpec wsX2_leavesNothing ({ frames := 3, cells := 0, slots := 0, locals := 70 } : Room)).room s m [.ref (ad 12), .int p0].toArray below meth c s.heap [] 0 0 (MQ below (Qpi post) [.ref (ad 12), .int p0].toArray s 0 0 noF) (F0 m 8 ls []))) := ⟨fun (x2 : Int32) (x3 : Int32) => (∀ ls : Array Slot, lv_has ls 4 [(0, .ref (ad 12)), (1, .int p0), (2, .int x2), (3, .int x3)] → W p l e (headSpec wsX2_leavesNothing ({ frames := 3, cells := 0, slots := 0, locals := 70 } : Room)).room s m [.ref (ad 12), .int p0].toArray below meth c s.heap [] 0 0 (MQ below (Qpi post) [.ref (ad 12), .int p0].toArray s 0 0 noF) (F0 m 8 ls [])), fun _ _ h => h, fun _ _ h => h⟩
  have hV := hV J8
  replace hV := hV (by
    intro x2 x3 hV
    refine iJ8 x2 x3 ?_
    intro ls hl
    refine lv_bipush (v := (64 : Int32)) hx hb dX2_leavesNothing_8 (by decide) ?_
    refine lv_iload_n hx hb dX2_leavesNothing_10 rfl (lv_at hl 3 rfl) ?_
    refine lv_imul hx hb dX2_leavesNothing_11 ?_
    refine lv_iload_n hx hb dX2_leavesNothing_12 rfl (lv_at hl 2 rfl) ?_
    refine lv_icmp_ge (tgt := 36) hx hb dX2_leavesNothing_13 (by decide) (fun c_13 => ?_) (fun c_13 => ?_)
    · have hV := hV.1 c_13
      refine lv_iconst (v := (1 : Int32)) hx hb dX2_leavesNothing_36 (by decide) ?_
      exact W.zret (v := (1 : Int32)) hx hb hr rfl (fun t ht hW => ⟨_, rfl, hV, ht⟩) (fun _ h => by cases h) dX2_leavesNothing_37
    · have hV := hV.2 c_13
      refine lv_aload_n hx hb dX2_leavesNothing_16 rfl (lv_at hl 0 rfl) ?_
      refine lv_iload_n hx hb dX2_leavesNothing_17 rfl (lv_at hl 3 rfl) ?_
      refine lv_i2l (v := x3.toInt64) hx hb dX2_leavesNothing_18 rfl ?_
      refine lv_iload_n hx hb dX2_leavesNothing_19 rfl (lv_at hl 1 rfl) ?_
      obtain ⟨h_20, hV⟩ := hV
      refine cp_l (va_runV (As := [.long x3.toInt64, .int p0]) (rest := []) ⟨hx, hb, hml, hown, hts⟩ (spec_X2_wordOf l D cy ad s.heap.size g a w x3.toInt64 p0 h_20) (cwV 2 hts gX2_leavesNothing_X2_wordOf rfl rfl rfl (by decide +kernel) ⟨Nat.le_of_ble_eq_true rfl, Nat.le_of_ble_eq_true rfl⟩) (ar_preV hN hK hP hD (ci := 2) (q0 := 12) rfl rfl) rfl rfl hl.1 rfl (lv_room (Nat.le_of_ble_eq_true rfl)) dX2_leavesNothing_20 ⟨Nat.zero_le _, Nat.zero_le _⟩) (fun r20 q_20 => ?_)
      have hV := hV r20 q_20
      refine lv_lconst (v := (0 : Int64)) hx hb dX2_leavesNothing_23 (by decide) ?_
      refine lc_eq (tgt := 30) hx hb dX2_leavesNothing_24 dX2_leavesNothing_25 (by decide) (fun c_24 => ?_) (fun c_24 => ?_)
      · have hV := hV.1 c_24
        refine lv_iinc (v := x3 + 1) (lv' := [(3, .int (x3 + 1)), (0, .ref (ad 12)), (1, .int p0), (2, .int x2)]) hx hb dX2_leavesNothing_30 hl (k := 3) rfl rfl (by decide) rfl (fun ls hl => ?_)
        refine lv_goto (tgt := 8) hx hb dX2_leavesNothing_33 (by decide) ?_
        exact oJ8 _ _ hV _ (lv_sub hl [1, 2, 3, 0] rfl)
      · have hV := hV.2 c_24
        refine lv_iconst (v := (0 : Int32)) hx hb dX2_leavesNothing_28 (by decide) ?_
        exact W.zret (v := (0 : Int32)) hx hb hr rfl (fun t ht hW => ⟨_, rfl, hV, ht⟩) (fun _ h => by cases h) dX2_leavesNothing_29)
  have hl := lv_entry ([.ref (ad 12), .int p0]) (n := 4) (Nat.le_of_ble_eq_true rfl)
  rw [lg_entry_eq]
  generalize (lg_sl ([.ref (ad 12), .int p0]) ++ List.replicate (4 - (lg_sl ([.ref (ad 12), .int p0])).length) Slot.unset).toArray = ls at hl ⊢
  have hl : lv_has ls 4 [(0, .ref (ad 12)), (1, .int p0)] := hl
  refine lv_aload_n hx hb dX2_leavesNothing_0 rfl (lv_at hl 0 rfl) ?_
  refine lv_iload_n hx hb dX2_leavesNothing_1 rfl (lv_at hl 1 rfl) ?_
  obtain ⟨h_2, hV⟩ := hV
  refine cp_i (va_runV (As := [.int p0]) (rest := []) ⟨hx, hb, hml, hown, hts⟩ (spec_X2_periodOf l D cy ad s.heap.size g a w p0 h_2) (cwV 1 hts gX2_leavesNothing_X2_periodOf rfl rfl rfl (by decide +kernel) ⟨Nat.le_of_ble_eq_true rfl, Nat.le_of_ble_eq_true rfl⟩) (ar_preV hN hK hP hD (ci := 2) (q0 := 12) rfl rfl) rfl rfl hl.1 rfl (lv_room (Nat.le_of_ble_eq_true rfl)) dX2_leavesNothing_2 ⟨Nat.zero_le _, Nat.zero_le _⟩) (fun r2 q_2 => ?_)
  have hV := hV r2 q_2
  refine lv_istore_n (lv' := [(2, .int r2), (0, .ref (ad 12)), (1, .int p0)]) hx hb dX2_leavesNothing_5 rfl hl (by decide) rfl (fun ls hl => ?_)
  refine lv_iconst (v := (0 : Int32)) hx hb dX2_leavesNothing_6 (by decide) ?_
  refine lv_istore_n (lv' := [(3, .int (0 : Int32)), (2, .int r2), (0, .ref (ad 12)), (1, .int p0)]) hx hb dX2_leavesNothing_7 rfl hl (by decide) rfl (fun ls hl => ?_)
  exact oJ8 _ _ hV _ (lv_sub hl [2, 3, 1, 0] rfl)
def post_X2_leavesNothing (g : Gs) (a : As) (w : Ws) (p0 r : Int32) : Prop := r = zb (Emp (cN g) (cH a w) (tn p0))
set_option maxRecDepth 4000 in
theorem spec_X2_leavesNothing (l : Launch) (D : va_G) (cy : Nat → ClassId) (ad : Nat → Nat) (sz : Nat) (g : Gs) (a : As) (w : Ws) (p0 : Int32) (hpre : pre_X2_leavesNothing g a w p0) : Met l yX2_leavesNothing wsX2_leavesNothing ({ frames := 3, cells := 0, slots := 0, locals := 70 } : Room) (va_Pc [.ref (ad 12), .int p0] (ArP D cy sz (caW ad cy g a w))) (Qpi (post_X2_leavesNothing g a w p0)) 0 0 noF := by
  apply met_X2_leavesNothing
  intro J hJ
  obtain ⟨hLdF, S, hS, rfl⟩ := hpre
  refine ⟨⟨hLdF, S, hS, rfl⟩, fun r hr => ?_⟩
  obtain ⟨hLd, ⟨hP1, hP2, hg10⟩, hdv, hg11⟩ := hLdF
  have tnS : tn (nI S) = S := tn_nI (by omega)
  obtain ⟨Q, hQ1, hQP, hQd, rfl⟩ := hr
  rw [tnS] at hQd
  have hQ := Nat.le_of_dvd hP1 hQP
  have good : ∀ r, r = zb (Emp (cN g) (cH a w) S) → post_X2_leavesNothing g a w (nI S) r := fun r h => by unfold post_X2_leavesNothing; rw [tnS]; exact h
  have key : ∀ (d b : Nat), b + d = (Q + 63) / 64 → (∀ x, x < 64 * b → AsB (cN g) (cH a w) S x = false) → J (nI Q) (nI b) := by
    intro d
    induction d with
    | zero =>
      intro b hb hx
      refine hJ _ _ (pk_le Q (64 * b) (fun _ => good _ (zb_t (fun x => ?_)).symm) (fun h => absurd h (by omega)) rfl (pk_mul 64 b) (by omega) (by omega))
      have hm := Nat.mod_lt x (show 0 < Q by omega)
      rw [← hx (x % Q) (by omega)]
      refine cb_iff ⟨fun z k hk hs => ?_, fun z k hk hs => ?_⟩
      · rw [(hLd.2 k hk).2.2 (x % Q) x (by rw [Nat.mod_mod_of_dvd _ (hQd k hk hs)])]; exact z k hk hs
      · rw [(hLd.2 k hk).2.2 x (x % Q) (by rw [Nat.mod_mod_of_dvd _ (hQd k hk hs)])]; exact z k hk hs
    | succ d ih =>
      intro b hb hx
      refine hJ _ _ (pk_le Q (64 * b) (fun h => absurd h (by omega)) (fun _ => ?_) rfl (pk_mul 64 b) (by omega) (by omega))
      rw [nI_l (by omega)]
      refine ⟨⟨hLd, by rw [pk_lT (by omega)]; omega, S, hS, rfl⟩, fun r28 h28 => ?_⟩
      have hv : ∀ j, j < 64 → wB r28 j = AsB (cN g) (cH a w) S (64 * b + j) := fun j hj => by
        have := h28 j hj
        rwa [tnS, tl_lN (by omega)] at this
      refine ⟨fun he => ?_, fun he => good _ (zb_f (fun hall => he (wB_nz.mpr (fun j hj => by rw [hv j hj]; exact hall _)))).symm⟩
      rw [nI_1]
      refine ih (b + 1) (by omega) (fun x hx2 => ?_)
      by_cases z : x < 64 * b
      · exact hx x z
      · have h3 := hv (x - 64 * b) (by omega)
        rw [(wB_nz.mp he) _ (by omega), show 64 * b + (x - 64 * b) = x by omega] at h3
        exact h3.symm
  exact key ((Q + 63) / 64) 0 (by omega) (fun x hx => by omega)
theorem pcB_n : ∀ n, n < 9 → pcB (2 ^ n - 1) = n ∧ ∀ S, S < 2 ^ n → pcB S ≤ n := by decide +kernel
theorem pcB_0 : ∀ S, S < 256 → pcB S = 0 → S = 0 := by decide +kernel
def LoneAns (n : Nat) (H : Nat → Nat → Bool) (r : Int32) : Prop := ((¬ ∃ S, S < 2 ^ n ∧ Emp n H S) ∧ r = -4) ∨ ∃ S, S < 2 ^ n ∧ Emp n H S ∧ (∀ S', S' < 2 ^ n → Emp n H S' → pcB S < pcB S' ∨ (pcB S = pcB S' ∧ S ≤ S')) ∧ r = nI S
theorem LoneAns.one {n : Nat} {H : Nat → Nat → Bool} {r r' : Int32} (h : LoneAns n H r) (h' : LoneAns n H r') : r = r' := by
  rcases h with ⟨h1, h2⟩ | ⟨S, h1, h2, h3, h4⟩ <;> rcases h' with ⟨k1, k2⟩ | ⟨S', k1, k2, k3, k4⟩
  · rw [h2, k2]
  · exact absurd ⟨S', k1, k2⟩ h1
  · exact absurd ⟨S, h1, h2⟩ k1
  · have a1 := h3 S' k1 k2
    have a2 := k3 S h1 h2
    rw [h4, k4, show S = S' by omega]
theorem emp_0 {n : Nat} {H : Nat → Nat → Bool} : ¬ Emp n H 0 := fun h => by
  have := h 0
  rw [show AsB n H 0 0 = true from cb_t (fun k _ hs => by rw [Nat.zero_testBit] at hs; exact Bool.noConfusion hs)] at this
  exact Bool.noConfusion this
def pre_X2_leastEmptySet (g : Gs) (a : As) (w : Ws) : Prop := LdF g a w
set_option maxHeartbeats 4000000 in
set_option maxRecDepth 100000 in
theorem met_X2_leastEmptySet (l : Launch) (D : va_G) (cy : Nat → ClassId) (ad : Nat → Nat) (sz : Nat) (g : Gs) (a : As) (w : Ws) (post : Int32 → Prop)
  (hV : ∀ (J12 : Int32 → Prop) (J22 : Int32 → Int32 → Prop),
    (∀ (x1 : Int32), (((g 9) < x1 → post (-4 : Int32)) ∧ (¬ (g 9) < x1 → J22 x1 (1 : Int32))) → J12 x1) →
    (∀ (x1 : Int32) (x2 : Int32), pre_X2_all g a w ∧ (∀ r24 : Int32, post_X2_all g a w r24 → ((r24 < x2 → J12 (x1 + 1)) ∧ (¬ r24 < x2 → ∀ r31 : Int32, post_J6_bitCount_0f7a4 x2 r31 → ((r31 = x1 → pre_X2_leavesNothing g a w x2 ∧ (∀ r40 : Int32, post_X2_leavesNothing g a w x2 r40 → ((r40 = 0 → J22 x1 (x2 + 1)) ∧ (¬ r40 = 0 → post x2)))) ∧ (¬ r31 = x1 → J22 x1 (x2 + 1)))))) → J22 x1 x2) →
    (((g 11) ≤ 0 → J12 (1 : Int32)) ∧ (¬ (g 11) ≤ 0 → post (-4 : Int32)))) :
  Met l yX2_leastEmptySet wsX2_leastEmptySet ({ frames := 4, cells := 0, slots := 0, locals := 93 } : Room) (va_Pc [.ref (ad 12)] (ArP D cy sz (caW ad cy g a w))) (Qpi post) 0 0 noF := by
  refine Met.ofW (cc := cX2_leastEmptySet) (maxL := 3) (ret := (some .int)) (by decide) rfl ?_
  intro p e s m args below meth c s₁ B hml hv
  obtain ⟨rfl, hsz, hP, hK, hD0, hN⟩ := hv
  have hx := B.exec
  have hb := B.bytes
  have hr := B.returns
  have hts := atoms_spec (ws := wsX2_leastEmptySet) B.pre
  have hown : s.vm.findClass RX2 = some m.cls := findClass_of_methodNamed B.named
  have hlocks := B.notSynchronized
  subst hsz
  have hP : va_P D vwCl (caW ad cy g a w) s.heap := hP
  have hD : va_D (fun _ => True) (caW ad cy g a w) := hD0
  obtain ⟨J12, iJ12, oJ12⟩ : ∃ J : Int32 → Prop, (∀ (x1 : Int32), (∀ ls : Array Slot, lv_has ls 3 [(0, .ref (ad 12)), (1, .int x1)] → W p l e (headSpec wsX2_leastEmptySet ({ frames := 4, cells := 0, slots := 0, locals := 93 } : Room)).room s m [.ref (ad 12)].toArray below meth c s.heap [] 0 0 (MQ below (Qpi post) [.ref (ad 12)].toArray s 0 0 noF) (F0 m 12 ls [])) → J x1) ∧ (∀ (x1 : Int32), J x1 → (∀ ls : Array Slot, lv_has ls 3 [(0, .ref (ad 12)), (1, .int x1)] → W p l e (headSpec wsX2_leastEmptySet ({ frames := 4, cells := 0, slots := 0, locals := 93 } : Room)).room s m [.ref (ad 12)].toArray below meth c s.heap [] 0 0 (MQ below (Qpi post) [.ref (ad 12)].toArray s 0 0 noF) (F0 m 12 ls []))) := ⟨fun (x1 : Int32) => (∀ ls : Array Slot, lv_has ls 3 [(0, .ref (ad 12)), (1, .int x1)] → W p l e (headSpec wsX2_leastEmptySet ({ frames := 4, cells := 0, slots := 0, locals := 93 } : Room)).room s m [.ref (ad 12)].toArray below meth c s.heap [] 0 0 (MQ below (Qpi post) [.ref (ad 12)].toArray s 0 0 noF) (F0 m 12 ls [])), fun _ h => h, fun _ h => h⟩
  obtain ⟨J22, iJ22, oJ22⟩ : ∃ J : Int32 → Int32 → Prop, (∀ (x1 : Int32) (x2 : Int32), (∀ ls : Array Slot, lv_has ls 3 [(0, .ref (ad 12)), (1, .int x1), (2, .int x2)] → W p l e (headSpec wsX2_leastEmptySet ({ frames := 4, cells := 0, slots := 0, locals := 93 } : Room)).room s m [.ref (ad 12)].toArray below meth c s.heap [] 0 0 (MQ below (Qpi post) [.ref (ad 12)].toArray s 0 0 noF) (F0 m 22 ls [])) → J x1 x2) ∧ (∀ (x1 : Int32) (x2 : Int32), J x1 x2 → (∀ ls : Array Slot, lv_has ls 3 [(0, .ref (ad 12)), (1, .int x1), (2, .int x2)] → W p l e (headSpec wsX2_leastEmptySet ({ frames := 4, cells := 0, slots := 0, locals := 93 } : Room)).room s m [.ref (ad 12)].toArray below meth c s.heap [] 0 0 (MQ below (Qpi post) [.ref (ad 12)].toArray s 0 0 noF) (F0 m 22 ls []))) := ⟨fun (x1 : Int32) (x2 : Int32) => (∀ ls : Array Slot, lv_has ls 3 [(0, .ref (ad 12)), (1, .int x1), (2, .int x2)] → W p l e (headSpec wsX2_leastEmptySet ({ frames := 4, cells := 0, slots := 0, locals := 93 } : Room)).room s m [.ref (ad 12)].toArray below meth c s.heap [] 0 0 (MQ below (Qpi post) [.ref (ad 12)].toArray s 0 0 noF) (F0 m 22 ls [])), fun _ _ h => h, fun _ _ h => h⟩
  have hV := hV J12 J22
  replace hV := hV (by
    intro x1 hV
    refine iJ12 x1 ?_
    intro ls hl
    refine lv_iload_n hx hb dX2_leastEmptySet_12 rfl (lv_at hl 1 rfl) ?_
    refine lv_aload_n hx hb dX2_leastEmptySet_13 rfl (lv_at hl 0 rfl) ?_
    refine va_get (D := D) (ci := 2) (v := .int (g 9)) (C := RX2) (T := TX2) (N := 6) hx hb hts (by decide +kernel) hown hK hP 12 rfl rfl 3 (by decide) (hts (.fieldLink RX2 31 "PowerRests$Laid" "items" "I") (by decide +kernel)) (fun _ h9 => h9) rfl dX2_leastEmptySet_14 ?_
    refine lv_icmp_gt (tgt := 60) hx hb dX2_leastEmptySet_17 (by decide) (fun c_17 => ?_) (fun c_17 => ?_)
    · have hV := hV.1 c_17
      refine lv_bipush (v := (-4 : Int32)) hx hb dX2_leastEmptySet_60 (by decide) ?_
      exact W.iret (v := (-4 : Int32)) hx hb hr (fun t ht hW => ⟨_, rfl, hV, ht⟩) (fun _ h => by cases h) dX2_leastEmptySet_62
    · have hV := hV.2 c_17
      refine lv_iconst (v := (1 : Int32)) hx hb dX2_leastEmptySet_20 (by decide) ?_
      refine lv_istore_n (lv' := [(2, .int (1 : Int32)), (0, .ref (ad 12)), (1, .int x1)]) hx hb dX2_leastEmptySet_21 rfl hl (by decide) rfl (fun ls hl => ?_)
      exact oJ22 _ _ hV _ (lv_sub hl [1, 2, 0] rfl))
  replace hV := hV (by
    intro x1 x2 hV
    refine iJ22 x1 x2 ?_
    intro ls hl
    refine lv_iload_n hx hb dX2_leastEmptySet_22 rfl (lv_at hl 2 rfl) ?_
    refine lv_aload_n hx hb dX2_leastEmptySet_23 rfl (lv_at hl 0 rfl) ?_
    obtain ⟨h_24, hV⟩ := hV
    refine cp_i (va_runV (As := []) (rest := [.int x2]) ⟨hx, hb, hml, hown, hts⟩ (spec_X2_all l D cy ad s.heap.size g a w h_24) (cwV 0 hts gX2_leastEmptySet_X2_all rfl rfl rfl (by decide +kernel) ⟨Nat.le_of_ble_eq_true rfl, Nat.le_of_ble_eq_true rfl⟩) (ar_preV hN hK hP hD (ci := 2) (q0 := 12) rfl rfl) rfl rfl hl.1 rfl (lv_room (Nat.le_of_ble_eq_true rfl)) dX2_leastEmptySet_24 ⟨Nat.zero_le _, Nat.zero_le _⟩) (fun r24 q_24 => ?_)
    have hV := hV r24 q_24
    refine lv_icmp_gt (tgt := 54) hx hb dX2_leastEmptySet_27 (by decide) (fun c_27 => ?_) (fun c_27 => ?_)
    · have hV := hV.1 c_27
      refine lv_iinc (v := x1 + 1) (lv' := [(1, .int (x1 + 1)), (0, .ref (ad 12)), (2, .int x2)]) hx hb dX2_leastEmptySet_54 hl (k := 1) rfl rfl (by decide) rfl (fun ls hl => ?_)
      refine lv_goto (tgt := 12) hx hb dX2_leastEmptySet_57 (by decide) ?_
      exact oJ12 _ hV _ (lv_sub hl [1, 0] rfl)
    · have hV := hV.2 c_27
      refine lv_iload_n hx hb dX2_leastEmptySet_30 rfl (lv_at hl 2 rfl) ?_
      refine cp_i (va_runS (As := [.int x2]) (rest := []) ⟨hx, hb, hml, hown, hts⟩ (spec_J6_bitCount_0f7a4 l x2) (va_cwS 1 hts gX2_leastEmptySet_J6_bitCount_0f7a4 rfl rfl rfl (by decide +kernel) ⟨Nat.le_of_ble_eq_true rfl, Nat.le_of_ble_eq_true rfl⟩) cp_pre rfl rfl hl.1 rfl (lv_room (Nat.le_of_ble_eq_true rfl)) dX2_leastEmptySet_31 ⟨Nat.zero_le _, Nat.zero_le _⟩) (fun r31 q_31 => ?_)
      have hV := hV r31 q_31
      refine lv_iload_n hx hb dX2_leastEmptySet_34 rfl (lv_at hl 1 rfl) ?_
      refine lv_icmp_ne (tgt := 48) hx hb dX2_leastEmptySet_35 (by decide) (fun c_35 => ?_) (fun c_35 => ?_)
      · have hV := hV.2 c_35
        refine lv_iinc (v := x2 + 1) (lv' := [(2, .int (x2 + 1)), (0, .ref (ad 12)), (1, .int x1)]) hx hb dX2_leastEmptySet_48 hl (k := 2) rfl rfl (by decide) rfl (fun ls hl => ?_)
        refine lv_goto (tgt := 22) hx hb dX2_leastEmptySet_51 (by decide) ?_
        exact oJ22 _ _ hV _ (lv_sub hl [1, 2, 0] rfl)
      · have hV := hV.1 c_35
        refine lv_aload_n hx hb dX2_leastEmptySet_38 rfl (lv_at hl 0 rfl) ?_
        refine lv_iload_n hx hb dX2_leastEmptySet_39 rfl (lv_at hl 2 rfl) ?_
        obtain ⟨h_40, hV⟩ := hV
        refine cp_i (va_runV (As := [.int x2]) (rest := []) ⟨hx, hb, hml, hown, hts⟩ (spec_X2_leavesNothing l D cy ad s.heap.size g a w x2 h_40) (cwV 1 hts gX2_leastEmptySet_X2_leavesNothing rfl rfl rfl (by decide +kernel) ⟨Nat.le_of_ble_eq_true rfl, Nat.le_of_ble_eq_true rfl⟩) (ar_preV hN hK hP hD (ci := 2) (q0 := 12) rfl rfl) rfl rfl hl.1 rfl (lv_room (Nat.le_of_ble_eq_true rfl)) dX2_leastEmptySet_40 ⟨Nat.zero_le _, Nat.zero_le _⟩) (fun r40 q_40 => ?_)
        have hV := hV r40 q_40
        refine lv_if_eq (tgt := 48) hx hb dX2_leastEmptySet_43 (by decide) (fun c_43 => ?_) (fun c_43 => ?_)
        · have hV := hV.1 c_43
          refine lv_iinc (v := x2 + 1) (lv' := [(2, .int (x2 + 1)), (0, .ref (ad 12)), (1, .int x1)]) hx hb dX2_leastEmptySet_48 hl (k := 2) rfl rfl (by decide) rfl (fun ls hl => ?_)
          refine lv_goto (tgt := 22) hx hb dX2_leastEmptySet_51 (by decide) ?_
          exact oJ22 _ _ hV _ (lv_sub hl [1, 2, 0] rfl)
        · have hV := hV.2 c_43
          refine lv_iload_n hx hb dX2_leastEmptySet_46 rfl (lv_at hl 2 rfl) ?_
          exact W.iret (v := x2) hx hb hr (fun t ht hW => ⟨_, rfl, hV, ht⟩) (fun _ h => by cases h) dX2_leastEmptySet_47)
  have hl := lv_entry ([.ref (ad 12)]) (n := 3) (Nat.le_of_ble_eq_true rfl)
  rw [lg_entry_eq]
  generalize (lg_sl ([.ref (ad 12)]) ++ List.replicate (3 - (lg_sl ([.ref (ad 12)])).length) Slot.unset).toArray = ls at hl ⊢
  have hl : lv_has ls 3 [(0, .ref (ad 12))] := hl
  refine lv_aload_n hx hb dX2_leastEmptySet_0 rfl (lv_at hl 0 rfl) ?_
  refine va_get (D := D) (ci := 2) (v := .int (g 11)) (C := RX2) (T := TX2) (N := 6) hx hb hts (by decide +kernel) hown hK hP 12 rfl rfl 5 (by decide) (hts (.fieldLink RX2 28 "PowerRests$Laid" "leftMany" "I") (by decide +kernel)) (fun _ h9 => h9) rfl dX2_leastEmptySet_1 ?_
  refine lv_if_le (tgt := 10) hx hb dX2_leastEmptySet_4 (by decide) (fun c_4 => ?_) (fun c_4 => ?_)
  · have hV := hV.1 c_4
    refine lv_iconst (v := (1 : Int32)) hx hb dX2_leastEmptySet_10 (by decide) ?_
    refine lv_istore_n (lv' := [(1, .int (1 : Int32)), (0, .ref (ad 12))]) hx hb dX2_leastEmptySet_11 rfl hl (by decide) rfl (fun ls hl => ?_)
    exact oJ12 _ hV _ (lv_sub hl [1, 0] rfl)
  · have hV := hV.2 c_4
    refine lv_bipush (v := (-4 : Int32)) hx hb dX2_leastEmptySet_7 (by decide) ?_
    exact W.iret (v := (-4 : Int32)) hx hb hr (fun t ht hW => ⟨_, rfl, hV, ht⟩) (fun _ h => by cases h) dX2_leastEmptySet_9
def post_X2_leastEmptySet (g : Gs) (a : As) (w : Ws) (r : Int32) : Prop := LoneAns (cN g) (cH a w) r
set_option maxRecDepth 4000 in
theorem spec_X2_leastEmptySet (l : Launch) (D : va_G) (cy : Nat → ClassId) (ad : Nat → Nat) (sz : Nat) (g : Gs) (a : As) (w : Ws) (hpre : pre_X2_leastEmptySet g a w) : Met l yX2_leastEmptySet wsX2_leastEmptySet ({ frames := 4, cells := 0, slots := 0, locals := 93 } : Room) (va_Pc [.ref (ad 12)] (ArP D cy sz (caW ad cy g a w))) (Qpi (post_X2_leastEmptySet g a w)) 0 0 noF := by
  apply met_X2_leastEmptySet
  intro J12 J22 h12 h22
  have hLdF : LdF g a w := hpre
  have hper := hLdF.per
  obtain ⟨hLd, ⟨hP1, hP2, hg10⟩, hdv, hg11⟩ := id hLdF
  obtain ⟨hn8, hg9⟩ := hLd.1
  have hcl := fb_ct_le (LfB (cN g) (cH a w)) (cP g)
  rw [hg11]
  rw [hg9] at h12
  have h2n := two_le hn8
  have h2p := Nat.two_pow_pos (cN g)
  refine pk_le _ 0 (fun hc => ?_) (fun hc => ?_) rfl rfl (by omega) (by omega)
  · have hemp : ∀ x, LfB (cN g) (cH a w) x = false := fun x => by
      have hm := Nat.mod_lt x (show 0 < cP g by omega)
      rw [LfB_mod hper (Nat.mod_mod x (cP g)).symm]
      exact (fb_ct_zero.mp (by omega)) _ hm
    have hfull : Emp (cN g) (cH a w) (2 ^ cN g - 1) := fun x => by rw [AsB_all]; exact hemp x
    have hpf := (pcB_n (cN g) (by omega)).1
    have sizes : ∀ (e z : Nat), z + e = cN g + 1 → 1 ≤ z → (∀ S', S' < 2 ^ cN g → Emp (cN g) (cH a w) S' → z ≤ pcB S') → J12 (nI z) := by
      intro e
      induction e with
      | zero =>
        intro z hz hz1 hinv
        have := hinv _ (by omega) hfull
        omega
      | succ e ihe =>
        intro z hz hz1 hinv
        refine h12 _ (pk_lt (cN g) z (fun h => absurd h (by omega)) (fun _ => ?_))
        have inner : ∀ (d s : Nat), s + d = 2 ^ cN g → 1 ≤ s → (∀ S', S' < 2 ^ cN g → Emp (cN g) (cH a w) S' → z < pcB S' ∨ (z = pcB S' ∧ s ≤ S')) → J22 (nI z) (nI s) := by
          intro d
          induction d with
          | zero =>
            intro s hs h1 hin
            refine h22 _ _ ⟨hLd.1, fun r24 h24 => ?_⟩
            rw [show r24 = nI (2 ^ cN g - 1) from h24, nI_1]
            refine pk_lt (2 ^ cN g - 1) s (fun _ => ihe (z + 1) (by omega) (by omega) (fun S' h2 h3 => ?_)) (fun h => absurd h (by omega))
            have := hin S' h2 h3
            omega
          | succ d ih =>
            intro s hs h1 hin
            refine h22 _ _ ⟨hLd.1, fun r24 h24 => ?_⟩
            rw [show r24 = nI (2 ^ cN g - 1) from h24]
            refine pk_lt (2 ^ cN g - 1) s (fun h => absurd h (by omega)) (fun _ r31 h31 => ?_)
            have e31 := h31 s (by omega) rfl
            have hps := (pcB_n (cN g) (by omega)).2 s (by omega)
            rw [e31]
            have next : (¬ (Emp (cN g) (cH a w) s ∧ pcB s = z)) → J22 (nI z) (nI s + 1) := fun hne => by
              rw [nI_1]
              refine ih (s + 1) (by omega) (by omega) (fun S' h2 h3 => ?_)
              rcases hin S' h2 h3 with y | ⟨y1, y2⟩
              · exact Or.inl y
              · have : S' ≠ s := fun q => by subst q; exact hne ⟨h3, y1.symm⟩
                exact Or.inr ⟨y1, by omega⟩
            refine pk_eq (pcB s) z (fun he => ⟨⟨hLdF, s, by omega, rfl⟩, fun r40 h40 => ?_⟩) (fun he => next (fun q => he q.2)) rfl rfl (by omega) (by omega)
            unfold post_X2_leavesNothing at h40
            rw [tn_nI (by omega)] at h40
            subst h40
            refine ⟨fun y => next (fun q => zb_0 y q.1), fun y => Or.inr ⟨s, by omega, zb_1 y, fun S' h2 h3 => ?_, rfl⟩⟩
            have := hin S' h2 h3
            omega
        refine inner (2 ^ cN g - 1) 1 (by omega) (by omega) (fun S' h2 h3 => ?_)
        have h4 := hinv S' h2 h3
        have h5 : S' ≠ 0 := fun q => by subst q; exact emp_0 h3
        omega
    refine sizes (cN g) 1 (by omega) (by omega) (fun S' h2 h3 => ?_)
    exact Nat.pos_of_ne_zero (fun q => by
      have := pcB_0 S' (by omega) q
      subst this
      exact emp_0 h3)
  · obtain ⟨x, hx, hL⟩ := fb_ct_pos.mp hc
    refine Or.inl ⟨fun ⟨S, hS, hE⟩ => ?_, rfl⟩
    have := hE x
    rw [show AsB (cN g) (cH a w) S x = true from cb_t (fun k hk _ => cb_of hL k hk)] at this
    exact Bool.noConfusion this
set_option maxHeartbeats 4000000 in
set_option maxRecDepth 100000 in
theorem met_X6_left (l : Launch) (D : va_G) (cy : Nat → ClassId) (ad : Nat → Nat) (sz : Nat) (g : Gs) (a : As) (w : Ws) (post : Int32 → Prop)
  (hV : post (g 11)) :
  Met l yX6_left wsX6_left ({ frames := 0, cells := 0, slots := 0, locals := 0 } : Room) (va_Pc [.ref (ad 0)] (ArP D cy sz (caW ad cy g a w))) (Qpi post) 0 0 noF := by
  refine Met.ofW (cc := cX6_left) (maxL := 1) (ret := (some .int)) (by decide) rfl ?_
  intro p e s m args below meth c s₁ B hml hv
  obtain ⟨rfl, hsz, hP, hK, hD0, hN⟩ := hv
  have hx := B.exec
  have hb := B.bytes
  have hr := B.returns
  have hts := atoms_spec (ws := wsX6_left) B.pre
  have hown : s.vm.findClass RX6 = some m.cls := findClass_of_methodNamed B.named
  have hlocks := B.notSynchronized
  subst hsz
  have hP : va_P D vwCl (caW ad cy g a w) s.heap := hP
  have hD : va_D (fun _ => True) (caW ad cy g a w) := hD0
  have hl := lv_entry ([.ref (ad 0)]) (n := 1) (Nat.le_of_ble_eq_true rfl)
  rw [lg_entry_eq]
  generalize (lg_sl ([.ref (ad 0)]) ++ List.replicate (1 - (lg_sl ([.ref (ad 0)])).length) Slot.unset).toArray = ls at hl ⊢
  have hl : lv_has ls 1 [(0, .ref (ad 0))] := hl
  refine lv_aload_n hx hb dX6_left_0 rfl (lv_at hl 0 rfl) ?_
  refine va_get (D := D) (ci := 5) (v := .ref (ad 12)) (C := RX6) (T := TX6) (N := 10) hx hb hts (by decide +kernel) hown hK hP 0 rfl rfl 5 (by decide) (hts (.fieldLink RX6 43 "PowerRests" "laid" "LPowerRests$Laid;") (by decide +kernel)) (fun _ h9 => h9) rfl dX6_left_1 ?_
  refine va_getN (D := D) (ci := 2) (v := .int (g 11)) (C := RX2) (T := TX2) (N := 6) hx hb hts (by decide +kernel) hown hK hP 12 rfl rfl 5 (by decide) (hN.use 5 (q := (RX6, 162, RX2, "leftMany", "I")) rfl) (fun _ h9 => h9) rfl dX6_left_4 ?_
  exact W.iret (v := (g 11)) hx hb hr (fun t ht hW => ⟨_, rfl, hV, ht⟩) (fun _ h => by cases h) dX6_left_7
def post_X6_left (g : Gs) (a : As) (w : Ws) (r : Int32) : Prop := r = g 11
set_option maxRecDepth 4000 in
theorem spec_X6_left (l : Launch) (D : va_G) (cy : Nat → ClassId) (ad : Nat → Nat) (sz : Nat) (g : Gs) (a : As) (w : Ws) : Met l yX6_left wsX6_left ({ frames := 0, cells := 0, slots := 0, locals := 0 } : Room) (va_Pc [.ref (ad 0)] (ArP D cy sz (caW ad cy g a w))) (Qpi (post_X6_left g a w)) 0 0 noF := by
  apply met_X6_left
  exact rfl
/-- ITH -/
def IthLAns (n : Nat) (H : Nat → Nat → Bool) (P : Nat) (i r : Int64) : Prop := (¬ (0 ≤ i.toInt ∧ i.toInt ≤ 1000000000) ∧ r = -1) ∨ ((0 ≤ i.toInt ∧ i.toInt ≤ 1000000000) ∧ LeftAt n H P (tl i) r)
theorem IthLAns.one {n : Nat} {H : Nat → Nat → Bool} {P : Nat} {i r r' : Int64} (h : IthLAns n H P i r) (h' : IthLAns n H P i r') : r = r' := by
  rcases h with ⟨h1, h2⟩ | ⟨h1, h2⟩ <;> rcases h' with ⟨k1, k2⟩ | ⟨k1, k2⟩
  · rw [h2, k2]
  · exact absurd k1 h1
  · exact absurd h1 k1
  · exact h2.one k2
def pre_X6_ith (g : Gs) (a : As) (w : Ws) (p0 : Int64) : Prop := LdF g a w
set_option maxHeartbeats 4000000 in
set_option maxRecDepth 100000 in
theorem met_X6_ith (l : Launch) (D : va_G) (cy : Nat → ClassId) (ad : Nat → Nat) (sz : Nat) (g : Gs) (a : As) (w : Ws) (p0 : Int64) (post : Int64 → Prop)
  (hV : ((p0 < (0 : Int64) → post (-1 : Int64)) ∧ (¬ p0 < (0 : Int64) → ((p0 ≤ (1000000000 : Int64) → pre_X2_leftAt g a w p0 ∧ (∀ r23 : Int64, post_X2_leftAt g a w p0 r23 → post r23)) ∧ (¬ p0 ≤ (1000000000 : Int64) → post (-1 : Int64)))))) :
  Met l yX6_ith wsX6_ith ({ frames := 4, cells := 0, slots := 0, locals := 96 } : Room) (va_Pc [.ref (ad 0), .long p0] (ArP D cy sz (caW ad cy g a w))) (Qpl post) 0 0 noF := by
  refine Met.ofW (cc := cX6_ith) (maxL := 3) (ret := (some .long)) (by decide) rfl ?_
  intro p e s m args below meth c s₁ B hml hv
  obtain ⟨rfl, hsz, hP, hK, hD0, hN⟩ := hv
  have hx := B.exec
  have hb := B.bytes
  have hr := B.returns
  have hts := atoms_spec (ws := wsX6_ith) B.pre
  have hown : s.vm.findClass RX6 = some m.cls := findClass_of_methodNamed B.named
  have hlocks := B.notSynchronized
  subst hsz
  have hP : va_P D vwCl (caW ad cy g a w) s.heap := hP
  have hD : va_D (fun _ => True) (caW ad cy g a w) := hD0
  have hl := lv_entry ([.ref (ad 0), .long p0]) (n := 3) (Nat.le_of_ble_eq_true rfl)
  rw [lg_entry_eq]
  generalize (lg_sl ([.ref (ad 0), .long p0]) ++ List.replicate (3 - (lg_sl ([.ref (ad 0), .long p0])).length) Slot.unset).toArray = ls at hl ⊢
  have hl : lv_has ls 3 [(0, .ref (ad 0)), (1, .long p0)] := hl
  refine lv_lload_n hx hb dX6_ith_0 rfl (lv_at hl 1 rfl) ?_
  refine lv_lconst (v := (0 : Int64)) hx hb dX6_ith_1 (by decide) ?_
  refine lc_lt (tgt := 14) hx hb dX6_ith_2 dX6_ith_3 (by decide) (fun c_2 => ?_) (fun c_2 => ?_)
  · have hV := hV.1 c_2
    refine lv_ldc2 (v := (-1 : Int64)) hx hb hown (hts (.constantLong RX6 167 (-1)) (by decide +kernel)) dX6_ith_14 ?_
    exact W.lret (v := (-1 : Int64)) hx hb hr (fun t ht hW => ⟨_, rfl, hV, ht⟩) (fun _ h => by cases h) dX6_ith_17
  · have hV := hV.2 c_2
    refine lv_lload_n hx hb dX6_ith_6 rfl (lv_at hl 1 rfl) ?_
    refine lv_ldc2 (v := (1000000000 : Int64)) hx hb hown (hts (.constantLong RX6 165 (1000000000)) (by decide +kernel)) dX6_ith_7 ?_
    refine lc_le (tgt := 18) hx hb dX6_ith_10 dX6_ith_11 (by decide) (fun c_10 => ?_) (fun c_10 => ?_)
    · have hV := hV.1 c_10
      refine lv_aload_n hx hb dX6_ith_18 rfl (lv_at hl 0 rfl) ?_
      refine va_get (D := D) (ci := 5) (v := .ref (ad 12)) (C := RX6) (T := TX6) (N := 10) hx hb hts (by decide +kernel) hown hK hP 0 rfl rfl 5 (by decide) (hts (.fieldLink RX6 43 "PowerRests" "laid" "LPowerRests$Laid;") (by decide +kernel)) (fun _ h9 => h9) rfl dX6_ith_19 ?_
      refine lv_lload_n hx hb dX6_ith_22 rfl (lv_at hl 1 rfl) ?_
      obtain ⟨h_23, hV⟩ := hV
      refine cp_l (va_runV (As := [.long p0]) (rest := []) ⟨hx, hb, hml, hown, hts⟩ (spec_X2_leftAt l D cy ad s.heap.size g a w p0 h_23) (cwV 1 hts gX6_ith_X2_leftAt rfl rfl rfl (by decide +kernel) ⟨Nat.le_of_ble_eq_true rfl, Nat.le_of_ble_eq_true rfl⟩) (ar_preV hN hK hP hD (ci := 2) (q0 := 12) rfl rfl) rfl rfl hl.1 rfl (lv_room (Nat.le_of_ble_eq_true rfl)) dX6_ith_23 ⟨Nat.zero_le _, Nat.zero_le _⟩) (fun r23 q_23 => ?_)
      have hV := hV r23 q_23
      exact W.lret (v := r23) hx hb hr (fun t ht hW => ⟨_, rfl, hV, ht⟩) (fun _ h => by cases h) dX6_ith_26
    · have hV := hV.2 c_10
      refine lv_ldc2 (v := (-1 : Int64)) hx hb hown (hts (.constantLong RX6 167 (-1)) (by decide +kernel)) dX6_ith_14 ?_
      exact W.lret (v := (-1 : Int64)) hx hb hr (fun t ht hW => ⟨_, rfl, hV, ht⟩) (fun _ h => by cases h) dX6_ith_17
def post_X6_ith (g : Gs) (a : As) (w : Ws) (p0 r : Int64) : Prop := IthLAns (cN g) (cH a w) (cP g) p0 r
set_option maxRecDepth 4000 in
theorem spec_X6_ith (l : Launch) (D : va_G) (cy : Nat → ClassId) (ad : Nat → Nat) (sz : Nat) (g : Gs) (a : As) (w : Ws) (p0 : Int64) (hpre : pre_X6_ith g a w p0) : Met l yX6_ith wsX6_ith ({ frames := 4, cells := 0, slots := 0, locals := 96 } : Room) (va_Pc [.ref (ad 0), .long p0] (ArP D cy sz (caW ad cy g a w))) (Qpl (post_X6_ith g a w p0)) 0 0 noF := by
  apply met_X6_ith
  have l0 : (0 : Int64).toInt = 0 := rfl
  have l9 : (1000000000 : Int64).toInt = 1000000000 := rfl
  have hL : LdF g a w := hpre
  refine ⟨fun h => Or.inl ⟨by rw [l_lt, l0] at h; omega, rfl⟩, fun h => ⟨fun h2 => ?_, fun h2 => Or.inl ⟨by rw [l_le, l9] at h2; omega, rfl⟩⟩⟩
  rw [l_lt, l0] at h
  rw [l_le, l9] at h2
  exact ⟨⟨hL, by omega, by omega⟩, fun r hr => Or.inr ⟨⟨by omega, by omega⟩, hr⟩⟩
/-- FROM -/
def FroAns (n : Nat) (H : Nat → Nat → Bool) (P : Nat) (i r : Int64) : Prop := (¬ (0 ≤ i.toInt ∧ i.toInt ≤ 1000000000000000) ∧ r = -1) ∨ ((0 ≤ i.toInt ∧ i.toInt ≤ 1000000000000000) ∧ FromAns n H P (tl i) r)
theorem FroAns.one {n : Nat} {H : Nat → Nat → Bool} {P : Nat} {i r r' : Int64} (h : FroAns n H P i r) (h' : FroAns n H P i r') : r = r' := by
  rcases h with ⟨h1, h2⟩ | ⟨h1, h2⟩ <;> rcases h' with ⟨k1, k2⟩ | ⟨k1, k2⟩
  · rw [h2, k2]
  · exact absurd k1 h1
  · exact absurd h1 k1
  · exact h2.one k2
def pre_X6_from (g : Gs) (a : As) (w : Ws) (p0 : Int64) : Prop := LdF g a w
set_option maxHeartbeats 4000000 in
set_option maxRecDepth 100000 in
theorem met_X6_from (l : Launch) (D : va_G) (cy : Nat → ClassId) (ad : Nat → Nat) (sz : Nat) (g : Gs) (a : As) (w : Ws) (p0 : Int64) (post : Int64 → Prop)
  (hV : ((p0 < (0 : Int64) → post (-1 : Int64)) ∧ (¬ p0 < (0 : Int64) → ((p0 ≤ (1000000000000000 : Int64) → pre_X2_leastFrom g a w p0 ∧ (∀ r23 : Int64, post_X2_leastFrom g a w p0 r23 → post r23)) ∧ (¬ p0 ≤ (1000000000000000 : Int64) → post (-1 : Int64)))))) :
  Met l yX6_from wsX6_from ({ frames := 3, cells := 0, slots := 0, locals := 75 } : Room) (va_Pc [.ref (ad 0), .long p0] (ArP D cy sz (caW ad cy g a w))) (Qpl post) 0 0 noF := by
  refine Met.ofW (cc := cX6_from) (maxL := 3) (ret := (some .long)) (by decide) rfl ?_
  intro p e s m args below meth c s₁ B hml hv
  obtain ⟨rfl, hsz, hP, hK, hD0, hN⟩ := hv
  have hx := B.exec
  have hb := B.bytes
  have hr := B.returns
  have hts := atoms_spec (ws := wsX6_from) B.pre
  have hown : s.vm.findClass RX6 = some m.cls := findClass_of_methodNamed B.named
  have hlocks := B.notSynchronized
  subst hsz
  have hP : va_P D vwCl (caW ad cy g a w) s.heap := hP
  have hD : va_D (fun _ => True) (caW ad cy g a w) := hD0
  have hl := lv_entry ([.ref (ad 0), .long p0]) (n := 3) (Nat.le_of_ble_eq_true rfl)
  rw [lg_entry_eq]
  generalize (lg_sl ([.ref (ad 0), .long p0]) ++ List.replicate (3 - (lg_sl ([.ref (ad 0), .long p0])).length) Slot.unset).toArray = ls at hl ⊢
  have hl : lv_has ls 3 [(0, .ref (ad 0)), (1, .long p0)] := hl
  refine lv_lload_n hx hb dX6_from_0 rfl (lv_at hl 1 rfl) ?_
  refine lv_lconst (v := (0 : Int64)) hx hb dX6_from_1 (by decide) ?_
  refine lc_lt (tgt := 14) hx hb dX6_from_2 dX6_from_3 (by decide) (fun c_2 => ?_) (fun c_2 => ?_)
  · have hV := hV.1 c_2
    refine lv_ldc2 (v := (-1 : Int64)) hx hb hown (hts (.constantLong RX6 167 (-1)) (by decide +kernel)) dX6_from_14 ?_
    exact W.lret (v := (-1 : Int64)) hx hb hr (fun t ht hW => ⟨_, rfl, hV, ht⟩) (fun _ h => by cases h) dX6_from_17
  · have hV := hV.2 c_2
    refine lv_lload_n hx hb dX6_from_6 rfl (lv_at hl 1 rfl) ?_
    refine lv_ldc2 (v := (1000000000000000 : Int64)) hx hb hown (hts (.constantLong RX6 173 (1000000000000000)) (by decide +kernel)) dX6_from_7 ?_
    refine lc_le (tgt := 18) hx hb dX6_from_10 dX6_from_11 (by decide) (fun c_10 => ?_) (fun c_10 => ?_)
    · have hV := hV.1 c_10
      refine lv_aload_n hx hb dX6_from_18 rfl (lv_at hl 0 rfl) ?_
      refine va_get (D := D) (ci := 5) (v := .ref (ad 12)) (C := RX6) (T := TX6) (N := 10) hx hb hts (by decide +kernel) hown hK hP 0 rfl rfl 5 (by decide) (hts (.fieldLink RX6 43 "PowerRests" "laid" "LPowerRests$Laid;") (by decide +kernel)) (fun _ h9 => h9) rfl dX6_from_19 ?_
      refine lv_lload_n hx hb dX6_from_22 rfl (lv_at hl 1 rfl) ?_
      obtain ⟨h_23, hV⟩ := hV
      refine cp_l (va_runV (As := [.long p0]) (rest := []) ⟨hx, hb, hml, hown, hts⟩ (spec_X2_leastFrom l D cy ad s.heap.size g a w p0 h_23) (cwV 1 hts gX6_from_X2_leastFrom rfl rfl rfl (by decide +kernel) ⟨Nat.le_of_ble_eq_true rfl, Nat.le_of_ble_eq_true rfl⟩) (ar_preV hN hK hP hD (ci := 2) (q0 := 12) rfl rfl) rfl rfl hl.1 rfl (lv_room (Nat.le_of_ble_eq_true rfl)) dX6_from_23 ⟨Nat.zero_le _, Nat.zero_le _⟩) (fun r23 q_23 => ?_)
      have hV := hV r23 q_23
      exact W.lret (v := r23) hx hb hr (fun t ht hW => ⟨_, rfl, hV, ht⟩) (fun _ h => by cases h) dX6_from_26
    · have hV := hV.2 c_10
      refine lv_ldc2 (v := (-1 : Int64)) hx hb hown (hts (.constantLong RX6 167 (-1)) (by decide +kernel)) dX6_from_14 ?_
      exact W.lret (v := (-1 : Int64)) hx hb hr (fun t ht hW => ⟨_, rfl, hV, ht⟩) (fun _ h => by cases h) dX6_from_17
def post_X6_from (g : Gs) (a : As) (w : Ws) (p0 r : Int64) : Prop := FroAns (cN g) (cH a w) (cP g) p0 r
set_option maxRecDepth 4000 in
theorem spec_X6_from (l : Launch) (D : va_G) (cy : Nat → ClassId) (ad : Nat → Nat) (sz : Nat) (g : Gs) (a : As) (w : Ws) (p0 : Int64) (hpre : pre_X6_from g a w p0) : Met l yX6_from wsX6_from ({ frames := 3, cells := 0, slots := 0, locals := 75 } : Room) (va_Pc [.ref (ad 0), .long p0] (ArP D cy sz (caW ad cy g a w))) (Qpl (post_X6_from g a w p0)) 0 0 noF := by
  apply met_X6_from
  have l0 : (0 : Int64).toInt = 0 := rfl
  have l9 : (1000000000000000 : Int64).toInt = 1000000000000000 := rfl
  have hL : LdF g a w := hpre
  refine ⟨fun h => Or.inl ⟨by rw [l_lt, l0] at h; omega, rfl⟩, fun h => ⟨fun h2 => ?_, fun h2 => Or.inl ⟨by rw [l_le, l9] at h2; omega, rfl⟩⟩⟩
  rw [l_lt, l0] at h
  rw [l_le, l9] at h2
  exact ⟨⟨hL, by omega, by omega⟩, fun r hr => Or.inr ⟨⟨by omega, by omega⟩, hr⟩⟩
/-- NEEDLESS -/
def NdAns (n : Nat) (H : Nat → Nat → Bool) (k r : Int32) : Prop := (¬ (0 ≤ k.toInt ∧ k.toInt < n) ∧ r = -1) ∨ ((0 ≤ k.toInt ∧ k.toInt < n) ∧ r = zb (Ndl n H (tn k)))
theorem NdAns.one {n : Nat} {H : Nat → Nat → Bool} {k r r' : Int32} (h : NdAns n H k r) (h' : NdAns n H k r') : r = r' := by
  rcases h with ⟨h1, h2⟩ | ⟨h1, h2⟩ <;> rcases h' with ⟨k1, k2⟩ | ⟨k1, k2⟩
  · rw [h2, k2]
  · exact absurd k1 h1
  · exact absurd h1 k1
  · rw [h2, k2]
def pre_X6_needless (g : Gs) (a : As) (w : Ws) (p0 : Int32) : Prop := LdF g a w
set_option maxHeartbeats 4000000 in
set_option maxRecDepth 100000 in
theorem met_X6_needless (l : Launch) (D : va_G) (cy : Nat → ClassId) (ad : Nat → Nat) (sz : Nat) (g : Gs) (a : As) (w : Ws) (p0 : Int32) (post : Int32 → Prop)
  (hV : ((p0 < 0 → post (-1 : Int32)) ∧ (¬ p0 < 0 → ((p0 < (g 9) → pre_X2_saysNothingNew g a w p0 ∧ (∀ r22 : Int32, post_X2_saysNothingNew g a w p0 r22 → ((r22 = 0 → post (0 : Int32)) ∧ (¬ r22 = 0 → post (1 : Int32))))) ∧ (¬ p0 < (g 9) → post (-1 : Int32)))))) :
  Met l yX6_needless wsX6_needless ({ frames := 3, cells := 0, slots := 0, locals := 71 } : Room) (va_Pc [.ref (ad 0), .int p0] (ArP D cy sz (caW ad cy g a w))) (Qpi post) 0 0 noF := by
  refine Met.ofW (cc := cX6_needless) (maxL := 2) (ret := (some .int)) (by decide) rfl ?_
  intro p e s m args below meth c s₁ B hml hv
  obtain ⟨rfl, hsz, hP, hK, hD0, hN⟩ := hv
  have hx := B.exec
  have hb := B.bytes
  have hr := B.returns
  have hts := atoms_spec (ws := wsX6_needless) B.pre
  have hown : s.vm.findClass RX6 = some m.cls := findClass_of_methodNamed B.named
  have hlocks := B.notSynchronized
  subst hsz
  have hP : va_P D vwCl (caW ad cy g a w) s.heap := hP
  have hD : va_D (fun _ => True) (caW ad cy g a w) := hD0
  have hl := lv_entry ([.ref (ad 0), .int p0]) (n := 2) (Nat.le_of_ble_eq_true rfl)
  rw [lg_entry_eq]
  generalize (lg_sl ([.ref (ad 0), .int p0]) ++ List.replicate (2 - (lg_sl ([.ref (ad 0), .int p0])).length) Slot.unset).toArray = ls at hl ⊢
  have hl : lv_has ls 2 [(0, .ref (ad 0)), (1, .int p0)] := hl
  refine lv_iload_n hx hb dX6_needless_0 rfl (lv_at hl 1 rfl) ?_
  refine lv_if_lt (tgt := 15) hx hb dX6_needless_1 (by decide) (fun c_1 => ?_) (fun c_1 => ?_)
  · have hV := hV.1 c_1
    refine lv_iconst (v := (-1 : Int32)) hx hb dX6_needless_15 (by decide) ?_
    exact W.iret (v := (-1 : Int32)) hx hb hr (fun t ht hW => ⟨_, rfl, hV, ht⟩) (fun _ h => by cases h) dX6_needless_16
  · have hV := hV.2 c_1
    refine lv_iload_n hx hb dX6_needless_4 rfl (lv_at hl 1 rfl) ?_
    refine lv_aload_n hx hb dX6_needless_5 rfl (lv_at hl 0 rfl) ?_
    refine va_get (D := D) (ci := 5) (v := .ref (ad 12)) (C := RX6) (T := TX6) (N := 10) hx hb hts (by decide +kernel) hown hK hP 0 rfl rfl 5 (by decide) (hts (.fieldLink RX6 43 "PowerRests" "laid" "LPowerRests$Laid;") (by decide +kernel)) (fun _ h9 => h9) rfl dX6_needless_6 ?_
    refine va_getN (D := D) (ci := 2) (v := .int (g 9)) (C := RX2) (T := TX2) (N := 6) hx hb hts (by decide +kernel) hown hK hP 12 rfl rfl 3 (by decide) (hN.use 6 (q := (RX6, 178, RX2, "items", "I")) rfl) (fun _ h9 => h9) rfl dX6_needless_9 ?_
    refine lv_icmp_lt (tgt := 17) hx hb dX6_needless_12 (by decide) (fun c_12 => ?_) (fun c_12 => ?_)
    · have hV := hV.1 c_12
      refine lv_aload_n hx hb dX6_needless_17 rfl (lv_at hl 0 rfl) ?_
      refine va_get (D := D) (ci := 5) (v := .ref (ad 12)) (C := RX6) (T := TX6) (N := 10) hx hb hts (by decide +kernel) hown hK hP 0 rfl rfl 5 (by decide) (hts (.fieldLink RX6 43 "PowerRests" "laid" "LPowerRests$Laid;") (by decide +kernel)) (fun _ h9 => h9) rfl dX6_needless_18 ?_
      refine lv_iload_n hx hb dX6_needless_21 rfl (lv_at hl 1 rfl) ?_
      obtain ⟨h_22, hV⟩ := hV
      refine cp_i (va_runV (As := [.int p0]) (rest := []) ⟨hx, hb, hml, hown, hts⟩ (spec_X2_saysNothingNew l D cy ad s.heap.size g a w p0 h_22) (cwV 1 hts gX6_needless_X2_saysNothingNew rfl rfl rfl (by decide +kernel) ⟨Nat.le_of_ble_eq_true rfl, Nat.le_of_ble_eq_true rfl⟩) (ar_preV hN hK hP hD (ci := 2) (q0 := 12) rfl rfl) rfl rfl hl.1 rfl (lv_room (Nat.le_of_ble_eq_true rfl)) dX6_needless_22 ⟨Nat.zero_le _, Nat.zero_le _⟩) (fun r22 q_22 => ?_)
      have hV := hV r22 q_22
      refine lv_if_eq (tgt := 32) hx hb dX6_needless_25 (by decide) (fun c_25 => ?_) (fun c_25 => ?_)
      · have hV := hV.1 c_25
        refine lv_iconst (v := (0 : Int32)) hx hb dX6_needless_32 (by decide) ?_
        exact W.iret (v := (0 : Int32)) hx hb hr (fun t ht hW => ⟨_, rfl, hV, ht⟩) (fun _ h => by cases h) dX6_needless_33
      · have hV := hV.2 c_25
        refine lv_iconst (v := (1 : Int32)) hx hb dX6_needless_28 (by decide) ?_
        refine lv_goto (tgt := 33) hx hb dX6_needless_29 (by decide) ?_
        exact W.iret (v := (1 : Int32)) hx hb hr (fun t ht hW => ⟨_, rfl, hV, ht⟩) (fun _ h => by cases h) dX6_needless_33
    · have hV := hV.2 c_12
      refine lv_iconst (v := (-1 : Int32)) hx hb dX6_needless_15 (by decide) ?_
      exact W.iret (v := (-1 : Int32)) hx hb hr (fun t ht hW => ⟨_, rfl, hV, ht⟩) (fun _ h => by cases h) dX6_needless_16
def post_X6_needless (g : Gs) (a : As) (w : Ws) (p0 r : Int32) : Prop := NdAns (cN g) (cH a w) p0 r
set_option maxRecDepth 4000 in
theorem spec_X6_needless (l : Launch) (D : va_G) (cy : Nat → ClassId) (ad : Nat → Nat) (sz : Nat) (g : Gs) (a : As) (w : Ws) (p0 : Int32) (hpre : pre_X6_needless g a w p0) : Met l yX6_needless wsX6_needless ({ frames := 3, cells := 0, slots := 0, locals := 71 } : Room) (va_Pc [.ref (ad 0), .int p0] (ArP D cy sz (caW ad cy g a w))) (Qpi (post_X6_needless g a w p0)) 0 0 noF := by
  apply met_X6_needless
  have hL : LdF g a w := hpre
  obtain ⟨hn8, hg9⟩ := hL.1.1
  have e9 : (g 9).toInt = cN g := by rw [hg9, nI_toInt (by omega)]
  refine ⟨fun h => Or.inl ⟨by rw [i_lt, Int32.toInt_zero] at h; omega, rfl⟩, fun h => ⟨fun h2 => ?_, fun h2 => Or.inl ⟨by rw [i_lt, e9] at h2; omega, rfl⟩⟩⟩
  rw [i_lt, Int32.toInt_zero] at h
  rw [i_lt, e9] at h2
  obtain ⟨k, hk, rfl, hk2⟩ := of_i (x := p0) (by omega)
  refine ⟨⟨hL, k, by omega, rfl⟩, fun r hr => ?_⟩
  unfold post_X2_saysNothingNew at hr
  subst hr
  exact ⟨fun z => Or.inr ⟨⟨by omega, by omega⟩, (zb_f (zb_0 z)).symm⟩, fun z => Or.inr ⟨⟨by omega, by omega⟩, (zb_t (zb_1 z)).symm⟩⟩
def pre_X6_lone (g : Gs) (a : As) (w : Ws) : Prop := LdF g a w
set_option maxHeartbeats 4000000 in
set_option maxRecDepth 100000 in
theorem met_X6_lone (l : Launch) (D : va_G) (cy : Nat → ClassId) (ad : Nat → Nat) (sz : Nat) (g : Gs) (a : As) (w : Ws) (post : Int32 → Prop)
  (hV : pre_X2_leastEmptySet g a w ∧ (∀ r4 : Int32, post_X2_leastEmptySet g a w r4 → post r4)) :
  Met l yX6_lone wsX6_lone ({ frames := 5, cells := 0, slots := 0, locals := 115 } : Room) (va_Pc [.ref (ad 0)] (ArP D cy sz (caW ad cy g a w))) (Qpi post) 0 0 noF := by
  refine Met.ofW (cc := cX6_lone) (maxL := 1) (ret := (some .int)) (by decide) rfl ?_
  intro p e s m args below meth c s₁ B hml hv
  obtain ⟨rfl, hsz, hP, hK, hD0, hN⟩ := hv
  have hx := B.exec
  have hb := B.bytes
  have hr := B.returns
  have hts := atoms_spec (ws := wsX6_lone) B.pre
  have hown : s.vm.findClass RX6 = some m.cls := findClass_of_methodNamed B.named
  have hlocks := B.notSynchronized
  subst hsz
  have hP : va_P D vwCl (caW ad cy g a w) s.heap := hP
  have hD : va_D (fun _ => True) (caW ad cy g a w) := hD0
  have hl := lv_entry ([.ref (ad 0)]) (n := 1) (Nat.le_of_ble_eq_true rfl)
  rw [lg_entry_eq]
  generalize (lg_sl ([.ref (ad 0)]) ++ List.replicate (1 - (lg_sl ([.ref (ad 0)])).length) Slot.unset).toArray = ls at hl ⊢
  have hl : lv_has ls 1 [(0, .ref (ad 0))] := hl
  refine lv_aload_n hx hb dX6_lone_0 rfl (lv_at hl 0 rfl) ?_
  refine va_get (D := D) (ci := 5) (v := .ref (ad 12)) (C := RX6) (T := TX6) (N := 10) hx hb hts (by decide +kernel) hown hK hP 0 rfl rfl 5 (by decide) (hts (.fieldLink RX6 43 "PowerRests" "laid" "LPowerRests$Laid;") (by decide +kernel)) (fun _ h9 => h9) rfl dX6_lone_1 ?_
  obtain ⟨h_4, hV⟩ := hV
  refine cp_i (va_runV (As := []) (rest := []) ⟨hx, hb, hml, hown, hts⟩ (spec_X2_leastEmptySet l D cy ad s.heap.size g a w h_4) (cwV 0 hts gX6_lone_X2_leastEmptySet rfl rfl rfl (by decide +kernel) ⟨Nat.le_of_ble_eq_true rfl, Nat.le_of_ble_eq_true rfl⟩) (ar_preV hN hK hP hD (ci := 2) (q0 := 12) rfl rfl) rfl rfl hl.1 rfl (lv_room (Nat.le_of_ble_eq_true rfl)) dX6_lone_4 ⟨Nat.zero_le _, Nat.zero_le _⟩) (fun r4 q_4 => ?_)
  have hV := hV r4 q_4
  exact W.iret (v := r4) hx hb hr (fun t ht hW => ⟨_, rfl, hV, ht⟩) (fun _ h => by cases h) dX6_lone_7
def post_X6_lone (g : Gs) (a : As) (w : Ws) (r : Int32) : Prop := LoneAns (cN g) (cH a w) r
set_option maxRecDepth 4000 in
theorem spec_X6_lone (l : Launch) (D : va_G) (cy : Nat → ClassId) (ad : Nat → Nat) (sz : Nat) (g : Gs) (a : As) (w : Ws) (hpre : pre_X6_lone g a w) : Met l yX6_lone wsX6_lone ({ frames := 5, cells := 0, slots := 0, locals := 115 } : Room) (va_Pc [.ref (ad 0)] (ArP D cy sz (caW ad cy g a w))) (Qpi (post_X6_lone g a w)) 0 0 noF := by
  apply met_X6_lone
  exact ⟨hpre, fun r hr => hr⟩
