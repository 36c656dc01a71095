/-! lay, the class -/
abbrev cP (g : Gs) : Nat := tn (g 10)
def LdF (g : Gs) (a : As) (w : Ws) : Prop := LdC g a w ∧ (1 ≤ cP g ∧ cP g ≤ 2000000 ∧ g 10 = nI (cP g)) ∧ (∀ k, k < cN g → cB a k ∣ cP g) ∧ g 11 = nI (fb_ct (LfB (cN g) (cH a w)) (cP g))
theorem blk_mod (q r b : Nat) : (64 * (q % b) + r) % b = (64 * q + r) % b := by
  rw [Nat.add_mod, Nat.mul_mod, Nat.mod_mod, ← Nat.mul_mod, ← Nat.add_mod]
/-- the rows hold the first n items -/
def RowC (T : Nat → Nat) (L n : Nat) (a : As) (w : Ws) : Prop := ∀ i, i < n → a 6 i = nI (xb T L i) ∧ ∀ q, q < xb T L i → ∀ j, j < 64 → wB (w i q) j = cb (Hold (xl T L i) (xf T L i) (xs T L i) (xb T L i) (64 * q + j))
theorem RowC.h {T : Nat → Nat} {L n : Nat} {a : As} {w : Ws} (h : RowC T L n a w) {k : Nat} (hk : k < n) (hb : 2 ≤ xb T L k ∧ xb T L k ≤ 200) : cB a k = xb T L k ∧ ∀ x, cH a w k x = cb (Hold (xl T L k) (xf T L k) (xs T L k) (xb T L k) x) := by
  obtain ⟨h1, h2⟩ := h k hk
  have e : cB a k = xb T L k := by show tn (a 6 k) = _; rw [h1]; exact tn_nI (by omega)
  refine ⟨e, fun x => ?_⟩
  unfold cH
  rw [e, h2 _ (Nat.mod_lt _ (by omega)) _ (Nat.mod_lt _ (by decide))]
  refine cb_iff (Hold_mod ?_)
  rw [blk_mod]
  congr 1
  omega
def LayC (T : Nat → Nat) (L : Nat) (g : Gs) (a : As) (w : Ws) (r : Int32) (g' : Gs) (a' : As) (w' : Ws) : Prop := ((¬ ∃ n, LayOk T L n) ∧ r = -2 ∧ RdK g g' ∧ a' = a ∧ w' = w) ∨ ∃ n, LayOk T L n ∧ r = nI (lcmF (xb T L) n) ∧ cN g' = n ∧ cP g' = lcmF (xb T L) n ∧ LdF g' a' w' ∧ (∀ k, k < n → ∀ x, cH a' w' k x = cb (Hold (xl T L k) (xf T L k) (xs T L k) (xb T L k) x)) ∧ (∀ i, i < 4 ∨ 12 ≤ i → g' i = g i) ∧ ∀ j, j ≠ 6 → j ≠ 7 → a' j = a j
def pre_X6_lay (g : Gs) (a : As) (w : Ws) : Prop := OkC g a
set_option maxHeartbeats 4000000 in
set_option maxRecDepth 100000 in
theorem met_X6_lay (l : Launch) (D : va_G) (cy : Nat → ClassId) (ad : Nat → Nat) (sz : Nat) (g : Gs) (a : As) (w : Ws) (post : Int32 → Gs → As → Ws → Prop)
  (hV : ∀ (J37 : Int32 → Int32 → Int32 → Gs → As → Ws → Prop),
    (∀ (x1 : Int32) (x2 : Int32) (x3 : Int32) (g_ : Gs) (a_ : As) (w_ : Ws), (((8 : Int32) ≤ x3 → pre_X2_close g_ a_ w_ x1 ∧ (∀ (g88 : Gs) (a88 : As) (w88 : Ws), post_X2_close g_ a_ w_ x1 g88 a88 w88 → post x1 g88 a88 w88)) ∧ (¬ (8 : Int32) ≤ x3 → pre_X1_read g_ a_ w_ x2 ∧ (∀ (r52 : Int32) (g52 : Gs) (a52 : As) (w52 : Ws), post_X1_read g_ a_ w_ x2 r52 g52 a52 w52 → ((r52 = 0 → pre_X2_close g52 a52 w52 x1 ∧ (∀ (g88 : Gs) (a88 : As) (w88 : Ws), post_X2_close g52 a52 w52 x1 g88 a88 w88 → post x1 g88 a88 w88)) ∧ (¬ r52 = 0 → pre_X2_add g52 a52 w52 ∧ (∀ (g66 : Gs) (a66 : As) (w66 : Ws), post_X2_add g52 a52 w52 g66 a66 w66 → J37 x1 (g66 8) (x3 + 1) g66 a66 w66)))))) → J37 x1 x2 x3 g_ a_ w_) →
    pre_X6_fault g a w ∧ (∀ (r1 : Int32) (g1 : Gs) (a1 : As) (w1 : Ws), post_X6_fault g a w r1 g1 a1 w1 → ((r1 = (-4 : Int32) → pre_X6_periodOfText g1 a1 w1 ∧ (∀ (r13 : Int32) (g13 : Gs) (a13 : As) (w13 : Ws), post_X6_periodOfText g1 a1 w1 r13 g13 a13 w13 → ((r13 ≤ (2000000 : Int32) → ∀ (g30 : Gs) (a30 : As) (w30 : Ws), post_X2_clear g13 a13 w13 g30 a30 w30 → J37 r13 (0 : Int32) (0 : Int32) g30 a30 w30) ∧ (¬ r13 ≤ (2000000 : Int32) → post (-2 : Int32) g13 a13 w13)))) ∧ (¬ r1 = (-4 : Int32) → post (-2 : Int32) g1 a1 w1)))) :
  Met l yX6_lay wsX6_lay ({ frames := 4, cells := 0, slots := 0, locals := 91 } : Room) (va_Pc [.ref (ad 0)] (ArP D cy sz (caW ad cy g a w))) (va_Qi (fun (r : Int32) (u : Gs × As × Ws) => post r u.1 u.2.1 u.2.2) (fun u t => va_P D vwCl (caW ad cy u.1 u.2.1 u.2.2) t.heap) (va_A (caW ad cy g a w) sz)) 0 0 (va_A (caW ad cy g a w) sz) := by
  refine Met.ofW (cc := cX6_lay) (maxL := 4) (ret := (some .int)) (by decide) rfl ?_
  intro p e s m args below meth c s₁ B hml hv
  obtain ⟨rfl, hsz, hP, hK, hD0, hN⟩ := hv
  have hx := B.exec
  have hb := B.bytes
  have hr := B.returns
  have hts := atoms_spec (ws := wsX6_lay) B.pre
  have hown : s.vm.findClass RX6 = some m.cls := findClass_of_methodNamed B.named
  have hlocks := B.notSynchronized
  subst hsz
  have hD := hD0.self (sz := s.heap.size)
  have hP : va_P D vwCl (caW ad cy g a w) s.heap := hP
  have hD : va_D (va_A (caW ad cy g a w) s.heap.size) (caW ad cy g a w) := hD
  have hS : va_S (va_A (caW ad cy g a w) s.heap.size) s.heap s.heap [] := va_S.rf
  have hA : ∀ q : Nat, s.heap.size ≤ q → va_A (caW ad cy g a w) s.heap.size q := fun q h => Or.inr h
  obtain ⟨J37, iJ37, oJ37⟩ : ∃ J : Int32 → Int32 → Int32 → Gs → As → Ws → Prop, (∀ (x1 : Int32) (x2 : Int32) (x3 : Int32) (g_ : Gs) (a_ : As) (w_ : Ws), (∀ (H : Heap) (locs : List Loc), va_P D vwCl (caW ad cy g_ a_ w_) H → va_S (va_A (caW ad cy g a w) s.heap.size) s.heap H locs → ∀ ls : Array Slot, lv_has ls 4 [(0, .ref (ad 0)), (1, .int x1), (2, .int x2), (3, .int x3)] → W p l e (headSpec wsX6_lay ({ frames := 4, cells := 0, slots := 0, locals := 91 } : Room)).room s m [.ref (ad 0)].toArray below meth c H locs 0 0 (MQ below (va_Qi (fun (r : Int32) (u : Gs × As × Ws) => post r u.1 u.2.1 u.2.2) (fun u t => va_P D vwCl (caW ad cy u.1 u.2.1 u.2.2) t.heap) (va_A (caW ad cy g a w) s.heap.size)) [.ref (ad 0)].toArray s 0 0 (va_A (caW ad cy g a w) s.heap.size)) (F0 m 37 ls [])) → J x1 x2 x3 g_ a_ w_) ∧ (∀ (x1 : Int32) (x2 : Int32) (x3 : Int32) (g_ : Gs) (a_ : As) (w_ : Ws), J x1 x2 x3 g_ a_ w_ → (∀ (H : Heap) (locs : List Loc), va_P D vwCl (caW ad cy g_ a_ w_) H → va_S (va_A (caW ad cy g a w) s.heap.size) s.heap H locs → ∀ ls : Array Slot, lv_has ls 4 [(0, .ref (ad 0)), (1, .int x1), (2, .int x2), (3, .int x3)] → W p l e (headSpec wsX6_lay ({ frames := 4, cells := 0, slots := 0, locals := 91 } : Room)).room s m [.ref (ad 0)].toArray below meth c H locs 0 0 (MQ below (va_Qi (fun (r : Int32) (u : Gs × As × Ws) => post r u.1 u.2.1 u.2.2) (fun u t => va_P D vwCl (caW ad cy u.1 u.2.1 u.2.2) t.heap) (va_A (caW ad cy g a w) s.heap.size)) [.ref (ad 0)].toArray s 0 0 (va_A (caW ad cy g a w) s.heap.size)) (F0 m 37 ls []))) := ⟨fun (x1 : Int32) (x2 : Int32) (x3 : Int32) (g_ : Gs) (a_ : As) (w_ : Ws) => (∀ (H : Heap) (locs : List Loc), va_P D vwCl (caW ad cy g_ a_ w_) H → va_S (va_A (caW ad cy g a w) s.heap.size) s.heap H locs → ∀ ls : Array Slot, lv_has ls 4 [(0, .ref (ad 0)), (1, .int x1), (2, .int x2), (3, .int x3)] → W p l e (headSpec wsX6_lay ({ frames := 4, cells := 0, slots := 0, locals := 91 } : Room)).room s m [.ref (ad 0)].toArray below meth c H locs 0 0 (MQ below (va_Qi (fun (r : Int32) (u : Gs × As × Ws) => post r u.1 u.2.1 u.2.2) (fun u t => va_P D vwCl (caW ad cy u.1 u.2.1 u.2.2) t.heap) (va_A (caW ad cy g a w) s.heap.size)) [.ref (ad 0)].toArray s 0 0 (va_A (caW ad cy g a w) s.heap.size)) (F0 m 37 ls [])), fun _ _ _ _ _ _ h => h, fun _ _ _ _ _ _ h => h⟩
  have hV := hV J37
  replace hV := hV (by
    intro x1 x2 x3 g_ a_ w_ hV
    refine iJ37 x1 x2 x3 g_ a_ w_ ?_
    intro H locs hP hS ls hl
    refine lv_iload_n hx hb dX6_lay_37 rfl (lv_at hl 3 rfl) ?_
    refine lv_bipush (v := (8 : Int32)) hx hb dX6_lay_38 (by decide) ?_
    refine lv_icmp_ge (tgt := 83) hx hb dX6_lay_40 (by decide) (fun c_40 => ?_) (fun c_40 => ?_)
    · have hV := hV.1 c_40
      refine lv_aload_n hx hb dX6_lay_83 rfl (lv_at hl 0 rfl) ?_
      refine va_get (D := D) (ci := 5) (v := .ref (ad 12)) (C := RX6) (T := TX6) (N := 10) hx hb hts (by decide +kernel) hown hK hP 0 rfl rfl 5 (by decide) (hts (.fieldLink RX6 43 "PowerRests" "laid" "LPowerRests$Laid;") (by decide +kernel)) (fun _ h9 => h9) rfl dX6_lay_84 ?_
      refine lv_iload_n hx hb dX6_lay_87 rfl (lv_at hl 1 rfl) ?_
      obtain ⟨h_88, hV⟩ := hV
      refine cw_v (va_runV (As := [.int x1]) (rest := []) ⟨hx, hb, hml, hown, hts⟩ (spec_X2_close l D cy ad _ g_ a_ w_ x1 h_88) (cwV 1 hts gX6_lay_X2_close rfl rfl rfl (by decide +kernel) ⟨Nat.le_of_ble_eq_true rfl, Nat.le_of_ble_eq_true rfl⟩) (ar_preV hN hK hP (caD hD) (ci := 2) (q0 := 12) rfl rfl) rfl rfl hl.1 rfl (lv_room (Nat.le_of_ble_eq_true rfl)) dX6_lay_88 ⟨Nat.zero_le _, Nat.zero_le _⟩) hS (caD hD) hA (fun u_88 H locs q_88 hP hS => ?_)
      obtain ⟨g88, a88, w88⟩ := u_88
      have hV := hV g88 a88 w88 q_88
      have hP : va_P D vwCl (caW ad cy g88 a88 w88) H := hP
      refine lv_iload_n hx hb dX6_lay_91 rfl (lv_at hl 1 rfl) ?_
      exact W.iret (v := x1) hx hb hr (fun t ht hW => ⟨⟨_, (g88, a88, w88), rfl, hV, ar_heap ht hP⟩, hS.F ht⟩) hS.2.2 dX6_lay_92
    · have hV := hV.2 c_40
      refine lv_aload_n hx hb dX6_lay_43 rfl (lv_at hl 0 rfl) ?_
      refine va_get (D := D) (ci := 5) (v := .ref (ad 11)) (C := RX6) (T := TX6) (N := 10) hx hb hts (by decide +kernel) hown hK hP 0 rfl rfl 4 (by decide) (hts (.fieldLink RX6 36 "PowerRests" "reader" "LPowerRests$Item;") (by decide +kernel)) (fun _ h9 => h9) rfl dX6_lay_44 ?_
      refine lv_aload_n hx hb dX6_lay_47 rfl (lv_at hl 0 rfl) ?_
      refine va_get (D := D) (ci := 5) (v := .ref (ad 9)) (C := RX6) (T := TX6) (N := 10) hx hb hts (by decide +kernel) hown hK hP 0 rfl rfl 3 (by decide) (hts (.fieldLink RX6 29 "PowerRests" "text" "LPowerRests$Text;") (by decide +kernel)) (fun _ h9 => h9) rfl dX6_lay_48 ?_
      refine lv_iload_n hx hb dX6_lay_51 rfl (lv_at hl 2 rfl) ?_
      obtain ⟨h_52, hV⟩ := hV
      refine cw_i (va_runV (As := [.ref (ad 9), .int x2]) (rest := []) ⟨hx, hb, hml, hown, hts⟩ (spec_X1_read l D cy ad _ g_ a_ w_ x2 h_52) (cwV 2 hts gX6_lay_X1_read rfl rfl rfl (by decide +kernel) ⟨Nat.le_of_ble_eq_true rfl, Nat.le_of_ble_eq_true rfl⟩) (ar_preV hN hK hP (caD hD) (ci := 1) (q0 := 11) rfl rfl) rfl rfl hl.1 rfl (lv_room (Nat.le_of_ble_eq_true rfl)) dX6_lay_52 ⟨Nat.zero_le _, Nat.zero_le _⟩) hS (caD hD) hA (fun r52 u_52 H locs q_52 hP hS => ?_)
      obtain ⟨g52, a52, w52⟩ := u_52
      have hV := hV r52 g52 a52 w52 q_52
      have hP : va_P D vwCl (caW ad cy g52 a52 w52) H := hP
      refine lv_if_eq (tgt := 83) hx hb dX6_lay_55 (by decide) (fun c_55 => ?_) (fun c_55 => ?_)
      · have hV := hV.1 c_55
        refine lv_aload_n hx hb dX6_lay_83 rfl (lv_at hl 0 rfl) ?_
        refine va_get (D := D) (ci := 5) (v := .ref (ad 12)) (C := RX6) (T := TX6) (N := 10) hx hb hts (by decide +kernel) hown hK hP 0 rfl rfl 5 (by decide) (hts (.fieldLink RX6 43 "PowerRests" "laid" "LPowerRests$Laid;") (by decide +kernel)) (fun _ h9 => h9) rfl dX6_lay_84 ?_
        refine lv_iload_n hx hb dX6_lay_87 rfl (lv_at hl 1 rfl) ?_
        obtain ⟨h_88, hV⟩ := hV
        refine cw_v (va_runV (As := [.int x1]) (rest := []) ⟨hx, hb, hml, hown, hts⟩ (spec_X2_close l D cy ad _ g52 a52 w52 x1 h_88) (cwV 1 hts gX6_lay_X2_close rfl rfl rfl (by decide +kernel) ⟨Nat.le_of_ble_eq_true rfl, Nat.le_of_ble_eq_true rfl⟩) (ar_preV hN hK hP (caD hD) (ci := 2) (q0 := 12) rfl rfl) rfl rfl hl.1 rfl (lv_room (Nat.le_of_ble_eq_true rfl)) dX6_lay_88 ⟨Nat.zero_le _, Nat.zero_le _⟩) hS (caD hD) hA (fun u_88 H locs q_88 hP hS => ?_)
        obtain ⟨g88, a88, w88⟩ := u_88
        have hV := hV g88 a88 w88 q_88
        have hP : va_P D vwCl (caW ad cy g88 a88 w88) H := hP
        refine lv_iload_n hx hb dX6_lay_91 rfl (lv_at hl 1 rfl) ?_
        exact W.iret (v := x1) hx hb hr (fun t ht hW => ⟨⟨_, (g88, a88, w88), rfl, hV, ar_heap ht hP⟩, hS.F ht⟩) hS.2.2 dX6_lay_92
      · have hV := hV.2 c_55
        refine lv_aload_n hx hb dX6_lay_58 rfl (lv_at hl 0 rfl) ?_
        refine va_get (D := D) (ci := 5) (v := .ref (ad 12)) (C := RX6) (T := TX6) (N := 10) hx hb hts (by decide +kernel) hown hK hP 0 rfl rfl 5 (by decide) (hts (.fieldLink RX6 43 "PowerRests" "laid" "LPowerRests$Laid;") (by decide +kernel)) (fun _ h9 => h9) rfl dX6_lay_59 ?_
        refine lv_aload_n hx hb dX6_lay_62 rfl (lv_at hl 0 rfl) ?_
        refine va_get (D := D) (ci := 5) (v := .ref (ad 11)) (C := RX6) (T := TX6) (N := 10) hx hb hts (by decide +kernel) hown hK hP 0 rfl rfl 4 (by decide) (hts (.fieldLink RX6 36 "PowerRests" "reader" "LPowerRests$Item;") (by decide +kernel)) (fun _ h9 => h9) rfl dX6_lay_63 ?_
        obtain ⟨h_66, hV⟩ := hV
        refine cw_v (va_runV (As := [.ref (ad 11)]) (rest := []) ⟨hx, hb, hml, hown, hts⟩ (spec_X2_add l D cy ad _ g52 a52 w52 h_66) (cwV 1 hts gX6_lay_X2_add rfl rfl rfl (by decide +kernel) ⟨Nat.le_of_ble_eq_true rfl, Nat.le_of_ble_eq_true rfl⟩) (ar_preV hN hK hP (caD hD) (ci := 2) (q0 := 12) rfl rfl) rfl rfl hl.1 rfl (lv_room (Nat.le_of_ble_eq_true rfl)) dX6_lay_66 ⟨Nat.zero_le _, Nat.zero_le _⟩) hS (caD hD) hA (fun u_66 H locs q_66 hP hS => ?_)
        obtain ⟨g66, a66, w66⟩ := u_66
        have hV := hV g66 a66 w66 q_66
        have hP : va_P D vwCl (caW ad cy g66 a66 w66) H := hP
        refine lv_aload_n hx hb dX6_lay_69 rfl (lv_at hl 0 rfl) ?_
        refine va_get (D := D) (ci := 5) (v := .ref (ad 11)) (C := RX6) (T := TX6) (N := 10) hx hb hts (by decide +kernel) hown hK hP 0 rfl rfl 4 (by decide) (hts (.fieldLink RX6 36 "PowerRests" "reader" "LPowerRests$Item;") (by decide +kernel)) (fun _ h9 => h9) rfl dX6_lay_70 ?_
        refine va_getN (D := D) (ci := 1) (v := .int (g66 8)) (C := RX1) (T := TX1) (N := 5) hx hb hts (by decide +kernel) hown hK hP 11 rfl rfl 4 (by decide) (hN.use 4 (q := (RX6, 142, RX1, "end", "I")) rfl) (fun _ h9 => h9) rfl dX6_lay_73 ?_
        refine lv_istore_n (lv' := [(2, .int (g66 8)), (0, .ref (ad 0)), (1, .int x1), (3, .int x3)]) hx hb dX6_lay_76 rfl hl (by decide) rfl (fun ls hl => ?_)
        refine lv_iinc (v := x3 + 1) (lv' := [(3, .int (x3 + 1)), (2, .int (g66 8)), (0, .ref (ad 0)), (1, .int x1)]) hx hb dX6_lay_77 hl (k := 3) rfl rfl (by decide) rfl (fun ls hl => ?_)
        refine lv_goto (tgt := 37) hx hb dX6_lay_80 (by decide) ?_
        exact oJ37 _ _ _ _ _ _ hV _ _ hP hS _ (lv_sub hl [2, 3, 1, 0] rfl))
  have hl := lv_entry ([.ref (ad 0)]) (n := 4) (Nat.le_of_ble_eq_true rfl)
  rw [lg_entry_eq]
  generalize (lg_sl ([.ref (ad 0)]) ++ List.replicate (4 - (lg_sl ([.ref (ad 0)])).length) Slot.unset).toArray = ls at hl ⊢
  have hl : lv_has ls 4 [(0, .ref (ad 0))] := hl
  refine lv_aload_n hx hb dX6_lay_0 rfl (lv_at hl 0 rfl) ?_
  obtain ⟨h_1, hV⟩ := hV
  refine cw_i (va_runV (As := []) (rest := []) ⟨hx, hb, hml, hown, hts⟩ (spec_X6_fault l D cy ad _ g a w h_1) (cwV 0 hts gX6_lay_X6_fault rfl rfl rfl (by decide +kernel) ⟨Nat.le_of_ble_eq_true rfl, Nat.le_of_ble_eq_true rfl⟩) (ar_preV hN hK hP (caD hD) (ci := 5) (q0 := 0) rfl rfl) rfl rfl hl.1 rfl (lv_room (Nat.le_of_ble_eq_true rfl)) dX6_lay_1 ⟨Nat.zero_le _, Nat.zero_le _⟩) hS (caD hD) hA (fun r1 u_1 H locs q_1 hP hS => ?_)
  obtain ⟨g1, a1, w1⟩ := u_1
  have hV := hV r1 g1 a1 w1 q_1
  have hP : va_P D vwCl (caW ad cy g1 a1 w1) H := hP
  refine lv_bipush (v := (-4 : Int32)) hx hb dX6_lay_4 (by decide) ?_
  refine lv_icmp_eq (tgt := 12) hx hb dX6_lay_6 (by decide) (fun c_6 => ?_) (fun c_6 => ?_)
  · have hV := hV.1 c_6
    refine lv_aload_n hx hb dX6_lay_12 rfl (lv_at hl 0 rfl) ?_
    obtain ⟨h_13, hV⟩ := hV
    refine cw_i (va_runV (As := []) (rest := []) ⟨hx, hb, hml, hown, hts⟩ (spec_X6_periodOfText l D cy ad _ g1 a1 w1 h_13) (cwV 0 hts gX6_lay_X6_periodOfText rfl rfl rfl (by decide +kernel) ⟨Nat.le_of_ble_eq_true rfl, Nat.le_of_ble_eq_true rfl⟩) (ar_preV hN hK hP (caD hD) (ci := 5) (q0 := 0) rfl rfl) rfl rfl hl.1 rfl (lv_room (Nat.le_of_ble_eq_true rfl)) dX6_lay_13 ⟨Nat.zero_le _, Nat.zero_le _⟩) hS (caD hD) hA (fun r13 u_13 H locs q_13 hP hS => ?_)
    obtain ⟨g13, a13, w13⟩ := u_13
    have hV := hV r13 g13 a13 w13 q_13
    have hP : va_P D vwCl (caW ad cy g13 a13 w13) H := hP
    refine lv_istore_n (lv' := [(1, .int r13), (0, .ref (ad 0))]) hx hb dX6_lay_16 rfl hl (by decide) rfl (fun ls hl => ?_)
    refine lv_iload_n hx hb dX6_lay_17 rfl (lv_at hl 0 rfl) ?_
    refine lv_ldc (v := (2000000 : Int32)) hx hb hown (hts (.constant RX6 151 (2000000)) (by decide +kernel)) dX6_lay_18 ?_
    refine lv_icmp_le (tgt := 26) hx hb dX6_lay_20 (by decide) (fun c_20 => ?_) (fun c_20 => ?_)
    · have hV := hV.1 c_20
      refine lv_aload_n hx hb dX6_lay_26 rfl (lv_at hl 1 rfl) ?_
      refine va_get (D := D) (ci := 5) (v := .ref (ad 12)) (C := RX6) (T := TX6) (N := 10) hx hb hts (by decide +kernel) hown hK hP 0 rfl rfl 5 (by decide) (hts (.fieldLink RX6 43 "PowerRests" "laid" "LPowerRests$Laid;") (by decide +kernel)) (fun _ h9 => h9) rfl dX6_lay_27 ?_
      refine cw_v (va_runV (As := []) (rest := []) ⟨hx, hb, hml, hown, hts⟩ (spec_X2_clear l D cy ad _ g13 a13 w13) (cwV 0 hts gX6_lay_X2_clear rfl rfl rfl (by decide +kernel) ⟨Nat.le_of_ble_eq_true rfl, Nat.le_of_ble_eq_true rfl⟩) (ar_preV hN hK hP (caD hD) (ci := 2) (q0 := 12) rfl rfl) rfl rfl hl.1 rfl (lv_room (Nat.le_of_ble_eq_true rfl)) dX6_lay_30 ⟨Nat.zero_le _, Nat.zero_le _⟩) hS (caD hD) hA (fun u_30 H locs q_30 hP hS => ?_)
      obtain ⟨g30, a30, w30⟩ := u_30
      have hV := hV g30 a30 w30 q_30
      have hP : va_P D vwCl (caW ad cy g30 a30 w30) H := hP
      refine lv_iconst (v := (0 : Int32)) hx hb dX6_lay_33 (by decide) ?_
      refine lv_istore_n (lv' := [(2, .int (0 : Int32)), (1, .int r13), (0, .ref (ad 0))]) hx hb dX6_lay_34 rfl hl (by decide) rfl (fun ls hl => ?_)
      refine lv_iconst (v := (0 : Int32)) hx hb dX6_lay_35 (by decide) ?_
      refine lv_istore_n (lv' := [(3, .int (0 : Int32)), (2, .int (0 : Int32)), (1, .int r13), (0, .ref (ad 0))]) hx hb dX6_lay_36 rfl hl (by decide) rfl (fun ls hl => ?_)
      exact oJ37 _ _ _ _ _ _ hV _ _ hP hS _ (lv_sub hl [3, 2, 1, 0] rfl)
    · have hV := hV.2 c_20
      refine lv_bipush (v := (-2 : Int32)) hx hb dX6_lay_23 (by decide) ?_
      exact W.iret (v := (-2 : Int32)) hx hb hr (fun t ht hW => ⟨⟨_, (g13, a13, w13), rfl, hV, ar_heap ht hP⟩, hS.F ht⟩) hS.2.2 dX6_lay_25
  · have hV := hV.2 c_6
    refine lv_bipush (v := (-2 : Int32)) hx hb dX6_lay_9 (by decide) ?_
    exact W.iret (v := (-2 : Int32)) hx hb hr (fun t ht hW => ⟨⟨_, (g1, a1, w1), rfl, hV, ar_heap ht hP⟩, hS.F ht⟩) hS.2.2 dX6_lay_11
def post_X6_lay (g : Gs) (a : As) (w : Ws) (r : Int32) (g' : Gs) (a' : As) (w' : Ws) : Prop := LayC (cT a) (cL g) g a w r g' a' w'
set_option maxRecDepth 4000 in
theorem spec_X6_lay (l : Launch) (D : va_G) (cy : Nat → ClassId) (ad : Nat → Nat) (sz : Nat) (g : Gs) (a : As) (w : Ws) (hpre : pre_X6_lay g a w) : Met l yX6_lay wsX6_lay ({ frames := 4, cells := 0, slots := 0, locals := 91 } : Room) (va_Pc [.ref (ad 0)] (ArP D cy sz (caW ad cy g a w))) (va_Qi (fun (r : Int32) (u : Gs × As × Ws) => (post_X6_lay g a w) r u.1 u.2.1 u.2.2) (fun u t => va_P D vwCl (caW ad cy u.1 u.2.1 u.2.2) t.heap) (va_A (caW ad cy g a w) sz)) 0 0 (va_A (caW ad cy g a w) sz) := by
  apply met_X6_lay
  intro J hJ
  have hO : OkC g a := hpre
  have hL := hO.1
  refine ⟨hO, fun r1 g1 a1 w1 h1 => ?_⟩
  obtain ⟨⟨rfl, rfl, hr1⟩, hF⟩ := h1
  have hfr := hF.right hL
  have no : ∀ g', (¬ ∃ n, LayOk (cT a1) (cL g) n) → RdK g g' → post_X6_lay g a1 w1 (-2) g' a1 w1 := fun g' h k => Or.inl ⟨h, rfl, k, rfl, rfl⟩
  refine ⟨fun h4 => ?_, fun h4 => no g1 (fun ⟨n, hn⟩ => h4 (hfr.mpr ⟨n, hn.1⟩)) hr1⟩
  have eL1 : cL g1 = cL g := by show tn (g1 3) = tn (g 3); rw [hr1 3 (by omega)]
  obtain ⟨n0, hR0⟩ := hfr.mp h4
  refine ⟨⟨hO.up hr1, n0, by rw [eL1]; exact hR0⟩, fun r13 g13 a13 w13 h13 => ?_⟩
  obtain ⟨⟨rfl, rfl, hr13⟩, n, P, hR, rfl, hP4, hPi, hPe⟩ := h13
  rw [eL1] at hR hPi hPe
  have hr2 : RdK g g13 := hr1.tr hr13
  refine pk_le P 2000000 (fun hle => ?_) (fun hgt => no g13 (fun ⟨n', hn'⟩ => ?_) hr2) rfl rfl (by omega) (by omega)
  rotate_left
  · have := hn'.1.1.one hR.1
    subst this
    have := hPi.mpr hn'.2
    omega
  have hPl := hPe hle
  have hok : LayOk (cT a13) (cL g) n := ⟨hR, hPi.mp hle⟩
  obtain ⟨⟨hn8, hall, hstop⟩, hend⟩ := id hR
  have hb : ∀ i, i < n → 2 ≤ xb (cT a13) (cL g) i ∧ xb (cT a13) (cL g) i ≤ 200 := fun i hi => by
    have := (hall i hi).it.b
    omega
  have hP1 : 1 ≤ P := by rw [hPl]; exact lcmF_pos (fun i hi => by have := hb i hi; omega)
  intro g30 a30 w30 h30
  obtain ⟨rfl, rfl, rfl⟩ := h30
  -- closing
  have fin : ∀ (gz : Gs) (az : As) (wz : Ws), (∀ i, i < 4 ∨ 10 ≤ i → gz i = g i) → gz 9 = nI n → (∀ j, j ≠ 6 → j ≠ 7 → az j = a30 j) → RowC (cT a30) (cL g) n az wz → pre_X2_close gz az wz (nI P) ∧ ∀ g88 a88 w88, post_X2_close gz az wz (nI P) g88 a88 w88 → post_X6_lay g a30 w30 (nI P) g88 a88 w88 := by
    intro gz az wz hg h9 ha hrow
    have eN : cN gz = n := by show tn (gz 9) = n; rw [h9]; exact tn_nI (by omega)
    have hLd : LdC gz az wz := by
      refine ⟨by rw [eN]; exact ⟨hn8, h9⟩, fun k hk => ?_⟩
      rw [eN] at hk
      obtain ⟨e1, e2⟩ := hrow.h hk (hb k hk)
      rw [e1]
      exact ⟨hb k hk, (hrow k hk).1, fun x y hxy => by rw [e2 x, e2 y]; exact cb_iff (Hold_mod hxy)⟩
    refine ⟨⟨hLd, by rw [nI_toInt (by omega)]; omega, by rw [nI_toInt (by omega)]; omega⟩, fun g88 a88 w88 h88 => ?_⟩
    obtain ⟨rfl, rfl, rfl⟩ := h88
    rw [eN, tn_nI (by omega)]
    have e10 : (va_up (va_up gz 10 (nI P)) 11 (nI (fb_ct (LfB n (cH a88 w88)) P))) 10 = nI P := by rw [up_n _ _ (by decide), up_0]
    have e11 : (va_up (va_up gz 10 (nI P)) 11 (nI (fb_ct (LfB n (cH a88 w88)) P))) 11 = nI (fb_ct (LfB n (cH a88 w88)) P) := up_0 _ _ _
    have e9 : (va_up (va_up gz 10 (nI P)) 11 (nI (fb_ct (LfB n (cH a88 w88)) P))) 9 = gz 9 := by rw [up_n _ _ (by decide), up_n _ _ (by decide)]
    have eg : ∀ i, i < 4 ∨ 12 ≤ i → (va_up (va_up gz 10 (nI P)) 11 (nI (fb_ct (LfB n (cH a88 w88)) P))) i = g i := fun i hi => by rw [up_n _ _ (by omega), up_n _ _ (by omega)]; exact hg i (by omega)
    generalize va_up (va_up gz 10 (nI P)) 11 (nI (fb_ct (LfB n (cH a88 w88)) P)) = gy at *
    have eN2 : cN gy = n := by show tn (gy 9) = n; rw [e9]; exact eN
    have eP : cP gy = P := by show tn (gy 10) = P; rw [e10]; exact tn_nI (by omega)
    refine Or.inr ⟨n, hok, by rw [hPl], eN2, by rw [eP, hPl], ⟨hLd.up e9, ?_, fun k hk => ?_, ?_⟩, fun k hk x => (hrow.h hk (hb k hk)).2 x, eg, ha⟩
    · rw [eP]; exact ⟨hP1, hle, e10⟩
    · rw [eN2] at hk
      rw [(hrow.h hk (hb k hk)).1, eP, hPl]
      exact lcmF_mem hk
    · rw [e11, eN2, eP]
  have key : ∀ (d k : Nat) (gz : Gs) (az : As) (wz : Ws), k + d = n → (∀ i, i < 4 ∨ 10 ≤ i → gz i = g i) → gz 9 = nI k → (∀ j, j ≠ 6 → j ≠ 7 → az j = a30 j) → RowC (cT a30) (cL g) k az wz → J (nI P) (nI (pos (cT a30) (cL g) k)) (nI k) gz az wz := by
    intro d
    have rd : ∀ (k : Nat) (gz : Gs) (az : As) (wz : Ws), k ≤ n → (∀ i, i < 4 ∨ 10 ≤ i → gz i = g i) → (∀ j, j ≠ 6 → j ≠ 7 → az j = a30 j) → pre_X1_read gz az wz (nI (pos (cT a30) (cL g) k)) ∧ ∀ r g2 a2 w2, post_X1_read gz az wz (nI (pos (cT a30) (cL g) k)) r g2 a2 w2 → (a2 = az ∧ w2 = wz ∧ RdK gz g2) ∧ ReadAns (cT a30) (cL g) (pos (cT a30) (cL g) k) r g2 := by
      intro k gz az wz hk hg ha
      have hp := pos_le (fun i hi => hall i (by omega) : ∀ i, i < k → isIt (cT a30) (cL g) i)
      have eT : cT az = cT a30 := by show (fun i => tn (az 5 i)) = _; rw [ha 5 (by decide) (by decide)]
      have eL : cL gz = cL g := by show tn (gz 3) = tn (g 3); rw [hg 3 (by omega)]
      refine ⟨⟨?_, by rw [nI_toInt (by omega)]; omega, by rw [nI_toInt (by omega)]; omega⟩, fun r g2 a2 w2 h => ?_⟩
      · unfold OkC
        rw [eT, eL]
        exact ⟨hO.1, by rw [hg 3 (by omega)]; exact hO.2.1, fun i hi => by rw [ha 5 (by decide) (by decide)]; exact hO.2.2 i hi⟩
      · obtain ⟨h1, h2⟩ := h
        rw [eT, eL, tn_nI (by omega)] at h2
        exact ⟨h1, h2⟩
    induction d with
    | zero =>
      intro k gz az wz hk hg h9 ha hrow
      have : k = n := by omega
      subst this
      obtain ⟨rp, rq⟩ := rd k gz az wz (Nat.le_refl k) hg ha
      refine hJ _ _ _ _ _ _ (pk_le 8 k (fun _ => fin gz az wz hg h9 ha hrow) (fun h8 => ⟨rp, fun r g2 a2 w2 h2 => ?_⟩))
      obtain ⟨⟨rfl, rfl, hk2⟩, hA⟩ := rq r g2 a2 w2 h2
      rcases hA with ⟨hno, rfl⟩ | ⟨q, l, f, s, b, hit, -⟩
      · exact ⟨fun _ => fin g2 a2 w2 (fun i hi => by rw [hk2 i (by omega)]; exact hg i hi) (by rw [hk2 9 (by omega)]; exact h9) ha hrow, fun z => absurd rfl z⟩
      · have := hit.1; omega
    | succ d ih =>
      intro k gz az wz hk hg h9 ha hrow
      obtain ⟨rp, rq⟩ := rd k gz az wz (by omega) hg ha
      refine hJ _ _ _ _ _ _ (pk_le 8 k (fun h => absurd h (by omega)) (fun h8 => ⟨rp, fun r g2 a2 w2 h2 => ?_⟩))
      obtain ⟨⟨rfl, rfl, hk2⟩, hA⟩ := rq r g2 a2 w2 h2
      have hik := hall k (by omega)
      rcases hA with ⟨hno, rfl⟩ | ⟨q, l, f, s, b, hit, rfl, e4, e5, e6, e7, e8⟩
      · exact absurd hik hno
      · refine ⟨fun z => absurd z (by decide), fun _ => ?_⟩
        obtain ⟨rfl, rfl, rfl, rfl, rfl⟩ := hit.one hik.it
        have hb4 := hit.b
        have hI : ItG g2 (xl (cT a30) (cL g) k) (xf (cT a30) (cL g) k) (xs (cT a30) (cL g) k) (xb (cT a30) (cL g) k) := ⟨⟨e4, e5, e6, e7⟩, by omega, by omega, by omega, by omega, by omega⟩
        have g29 : g2 9 = nI k := by rw [hk2 9 (by omega)]; exact h9
        refine ⟨⟨k, _, _, _, _, by omega, g29, hI⟩, fun g66 a66 w66 h66 => ?_⟩
        obtain ⟨rfl, ⟨r7, rfl⟩, row, rfl, hw⟩ := h66 k _ _ _ _ (by omega) g29 hI
        rw [up_n _ _ (show (8 : Nat) ≠ 9 by decide), e8, nI_1]
        refine ih (k + 1) _ _ _ (by omega) (fun i hi => by rw [up_n _ _ (by omega), hk2 i (by omega)]; exact hg i hi) (up_0 _ _ _) (fun j h6 h7 => by rw [up_n _ _ h6, up_n _ _ h7]; exact ha j h6 h7) (fun i hi => ?_)
        rw [up_0]
        by_cases y : i = k
        · subst y
          rw [pk_us, up_0]
          exact ⟨rfl, hw⟩
        · rw [pk_un y, up_n _ _ y]
          exact hrow i (by omega)
  exact key n 0 _ _ _ (by omega) (fun i hi => by rw [up_n _ _ (by omega)]; exact hr2 i (by omega)) (up_0 _ _ _) (fun _ _ _ => rfl) (fun i hi => by omega)
