/-! units and powers, the class -/
def Dv (n : Int32) : Prop := 2 ≤ n.toInt ∧ n.toInt ≤ 50000
def Rs (a n : Int32) : Prop := 0 ≤ a.toInt ∧ a.toInt < n.toInt
/-- only the two held factorings changed -/
def FS (g : Gs) (a : As) (w : Ws) (g' : Gs) (a' : As) (w' : Ws) : Prop := (∀ i, 2 ≤ i → g' i = g i) ∧ (∀ j, 4 ≤ j → a' j = a j) ∧ w' = w
theorem FS.rf {g : Gs} {a : As} {w : Ws} : FS g a w g a w := ⟨fun _ _ => rfl, fun _ _ => rfl, rfl⟩
theorem FS.tr {g : Gs} {a : As} {w : Ws} {g' : Gs} {a' : As} {w' : Ws} {g2 : Gs} {a2 : As} {w2 : Ws} (h : FS g a w g' a' w') (k : FS g' a' w' g2 a2 w2) : FS g a w g2 a2 w2 :=
  ⟨fun i hi => (k.1 i hi).trans (h.1 i hi), fun j hj => (k.2.1 j hj).trans (h.2.1 j hj), k.2.2.trans h.2.2⟩
theorem split_FS {b : Nat} {g : Gs} {a : As} {w : Ws} {p : Int32} {g' : Gs} {a' : As} {w' : Ws} (hb : b < 2) (h : post_X0_split b g a w p g' a' w') : FS g a w g' a' w' := by
  obtain ⟨⟨kd, x, y, rfl, rfl, rfl⟩, -⟩ := h
  refine ⟨fun i hi => up_n _ _ (by omega), fun j hj => ?_, rfl⟩
  rw [up_n _ _ (by omega), up_n _ _ (by omega)]
/-- the factoring at 0 stays when that at 1 is made anew -/
theorem split_keep {g : Gs} {a : As} {w : Ws} {p : Int32} {g' : Gs} {a' : As} {w' : Ws} {n : Nat} (h : post_X0_split 1 g a w p g' a' w') (hF : Fac 0 n g a) : Fac 0 n g' a' := by
  obtain ⟨⟨kd, x, y, rfl, rfl, rfl⟩, -⟩ := h
  have e0 : va_up g 1 kd 0 = g 0 := up_n _ _ (by decide)
  have e1 : va_up (va_up a 1 x) (1 + 2) y 0 = a 0 := by rw [up_n _ _ (by decide), up_n _ _ (by decide)]
  have e2 : va_up (va_up a 1 x) (1 + 2) y (0 + 2) = a (0 + 2) := by rw [up_n _ _ (by decide), up_n _ _ (by decide)]
  unfold Fac PP TT at *
  rw [e0, e1, e2]
  exact hF
theorem fac_uniq {b n n' : Nat} {g : Gs} {a : As} (h : Fac b n g a) (h' : Fac b n' g a) : n = n' := h.1.1.trans h'.1.1.symm
theorem fac_shares {n : Nat} {P T : Nat → Nat} {m x : Nat} (h : FacF n P T m) : (∃ i, i < m ∧ P i ∣ x) ↔ ¬ Nat.Coprime n x := by
  constructor
  · rintro ⟨i, hi, hd⟩ hc
    exact Nat.not_coprime_of_dvd_of_dvd (h.2.1 i hi).1.1 (fac_dvd h hi) hd hc
  · intro hnc
    apply Classical.byContradiction
    intro hno
    have key : ∀ k, k ≤ m → Nat.Coprime (prodF (fun i => P i ^ T i) k) x := by
      intro k
      induction k with
      | zero => intro _; exact Nat.coprime_one_left x
      | succ k ih =>
        intro hk
        exact Nat.Coprime.mul_left (ih (by omega)) (Nat.Coprime.pow_left _ (pr_cop (h.2.1 k (by omega)).1 (fun hd => hno ⟨k, by omega, hd⟩)))
    apply hnc
    have := key m (Nat.le_refl m)
    rwa [← h.1] at this
theorem fac_prime {n : Nat} {P T : Nat → Nat} {m p : Nat} (h : FacF n P T m) (hp : Pr p) (hd : p ∣ n) : ∃ i, i < m ∧ P i = p := by
  have h1 : ¬ Nat.Coprime n p := fun hc => by
    have := Nat.Coprime.eq_one_of_dvd hc.symm hd
    have := hp.1
    omega
  obtain ⟨i, hi, h2⟩ := (fac_shares h).mpr h1
  exact ⟨i, hi, pr_eq (h.2.1 i hi).1 hp h2⟩
/-- how many (i = -1), the i-th, none of them -/
def Ith (p : Nat → Bool) (N : Nat) (i r : Int32) : Prop := (i = -1 ∧ r = nI (fb_ct p N)) ∨ (0 ≤ i.toInt ∧ ∃ a, a < N ∧ p a = true ∧ (fb_ct p a : Int) = i.toInt ∧ r = nI a) ∨ (0 ≤ i.toInt ∧ (fb_ct p N : Int) ≤ i.toInt ∧ r = -4)
theorem Ith.one {p : Nat → Bool} {N : Nat} {i r r' : Int32} (h : Ith p N i r) (h' : Ith p N i r') : r = r' := by
  have hm : (-1 : Int32).toInt = -1 := rfl
  rcases h with ⟨e, h⟩ | ⟨e, x, hx, px, cx, h⟩ | ⟨e, c, h⟩ <;> rcases h' with ⟨e', h'⟩ | ⟨e', y, hy, py, cy, h'⟩ | ⟨e', c', h'⟩
  · rw [h, h']
  · rw [e, hm] at e'; omega
  · rw [e, hm] at e'; omega
  · rw [e', hm] at e; omega
  · have : fb_ct p x = fb_ct p y := by omega
    rw [h, h', fb_ct_kth_one px py this]
  · exfalso
    have h1 := fb_ct_mono p (show x + 1 ≤ N by omega)
    rw [fb_ct_succ, if_pos px] at h1
    omega
  · rw [e', hm] at e; omega
  · exfalso
    have h1 := fb_ct_mono p (show y + 1 ≤ N by omega)
    rw [fb_ct_succ, if_pos py] at h1
    omega
  · rw [h, h']
theorem Ith.cong {p q : Nat → Bool} {N : Nat} {i r : Int32} (h : Ith p N i r) (e : ∀ k, k < N → p k = q k) : Ith q N i r := by
  have hc : ∀ m, m ≤ N → fb_ct p m = fb_ct q m := fun m hm => fb_ct_cong (fun k hk => e k (by omega))
  rcases h with ⟨e1, h⟩ | ⟨e1, x, hx, px, cx, h⟩ | ⟨e1, c, h⟩
  · exact Or.inl ⟨e1, by rw [h, hc N (Nat.le_refl N)]⟩
  · exact Or.inr (Or.inl ⟨e1, x, hx, by rw [← e x hx]; exact px, by rw [← hc x (by omega)]; exact cx, h⟩)
  · exact Or.inr (Or.inr ⟨e1, by rw [← hc N (Nat.le_refl N)]; exact c, h⟩)
def UnitsAns (n i r : Int32) : Prop := ((¬ Dv n ∨ i.toInt < -1) ∧ r = -1) ∨ ((Dv n ∧ -1 ≤ i.toInt) ∧ Ith (UB (tn n)) (tn n) i r)
set_option maxHeartbeats 4000000 in
set_option maxRecDepth 100000 in
theorem met_X6_units (l : Launch) (D : va_G) (cy : Nat → ClassId) (ad : Nat → Nat) (sz : Nat) (g : Gs) (a : As) (w : Ws) (p0 : Int32) (p1 : Int32) (post : Int32 → Gs → As → Ws → Prop)
  (hV : ∀ (J40 : Int32 → Int32 → Gs → As → Ws → Prop),
    (∀ (x3 : Int32) (x4 : Int32) (g_ : Gs) (a_ : As) (w_ : Ws), ((p0 ≤ x4 → post (-4 : Int32) g_ a_ w_) ∧ (¬ p0 ≤ x4 → pre_X0_sharesWith 0 g_ a_ w_ x4 ∧ (∀ r52 : Int32, post_X0_sharesWith 0 g_ a_ w_ x4 r52 → ((r52 = 0 → ((x3 = p1 → post x4 g_ a_ w_) ∧ (¬ x3 = p1 → J40 (x3 + 1) (x4 + 1) g_ a_ w_))) ∧ (¬ r52 = 0 → J40 x3 (x4 + 1) g_ a_ w_))))) → J40 x3 x4 g_ a_ w_) →
    ∀ r1 : Int32, post_X6_isDivisor p0 r1 → ((r1 = 0 → post (-1 : Int32) g a w) ∧ (¬ r1 = 0 → (((-1 : Int32) ≤ p1 → pre_X0_split 0 g a w p0 ∧ (∀ (g19 : Gs) (a19 : As) (w19 : Ws), post_X0_split 0 g a w p0 g19 a19 w19 → ((p1 = (-1 : Int32) → pre_X0_unitCount 0 g19 a19 w19 ∧ (∀ r31 : Int32, post_X0_unitCount 0 g19 a19 w19 r31 → post r31 g19 a19 w19)) ∧ (¬ p1 = (-1 : Int32) → J40 (0 : Int32) (1 : Int32) g19 a19 w19)))) ∧ (¬ (-1 : Int32) ≤ p1 → post (-1 : Int32) g a w))))) :
  Met l yX6_units wsX6_units ({ frames := 2, cells := 0, slots := 0, locals := 48 } : Room) (va_Pc [.ref (ad 0), .int p0, .int p1] (ArP D cy sz (caW ad cy g a w))) (va_Qi (fun (r : Int32) (u : Gs × As × Ws) => post r u.1 u.2.1 u.2.2) (fun u t => va_P D vwCl (caW ad cy u.1 u.2.1 u.2.2) t.heap) (va_A (caW ad cy g a w) sz)) 0 0 (va_A (caW ad cy g a w) sz) := by
  refine Met.ofW (cc := cX6_units) (maxL := 5) (ret := (some .int)) (by decide) rfl ?_
  intro p e s m args below meth c s₁ B hml hv
  obtain ⟨rfl, hsz, hP, hK, hD0, hN⟩ := hv
  have hx := B.exec
  have hb := B.bytes
  have hr := B.returns
  have hts := atoms_spec (ws := wsX6_units) B.pre
  have hown : s.vm.findClass RX6 = some m.cls := findClass_of_methodNamed B.named
  have hlocks := B.notSynchronized
  subst hsz
  have hD := hD0.self (sz := s.heap.size)
  have hP : va_P D vwCl (caW ad cy g a w) s.heap := hP
  have hD : va_D (va_A (caW ad cy g a w) s.heap.size) (caW ad cy g a w) := hD
  have hS : va_S (va_A (caW ad cy g a w) s.heap.size) s.heap s.heap [] := va_S.rf
  have hA : ∀ q : Nat, s.heap.size ≤ q → va_A (caW ad cy g a w) s.heap.size q := fun q h => Or.inr h
  obtain ⟨J40, iJ40, oJ40⟩ : ∃ J : Int32 → Int32 → Gs → As → Ws → Prop, (∀ (x3 : Int32) (x4 : Int32) (g_ : Gs) (a_ : As) (w_ : Ws), (∀ (H : Heap) (locs : List Loc), va_P D vwCl (caW ad cy g_ a_ w_) H → va_S (va_A (caW ad cy g a w) s.heap.size) s.heap H locs → ∀ ls : Array Slot, lv_has ls 5 [(0, .ref (ad 0)), (1, .int p0), (2, .int p1), (3, .int x3), (4, .int x4)] → W p l e (headSpec wsX6_units ({ frames := 2, cells := 0, slots := 0, locals := 48 } : Room)).room s m [.ref (ad 0), .int p0, .int p1].toArray below meth c H locs 0 0 (MQ below (va_Qi (fun (r : Int32) (u : Gs × As × Ws) => post r u.1 u.2.1 u.2.2) (fun u t => va_P D vwCl (caW ad cy u.1 u.2.1 u.2.2) t.heap) (va_A (caW ad cy g a w) s.heap.size)) [.ref (ad 0), .int p0, .int p1].toArray s 0 0 (va_A (caW ad cy g a w) s.heap.size)) (F0 m 40 ls [])) → J x3 x4 g_ a_ w_) ∧ (∀ (x3 : Int32) (x4 : Int32) (g_ : Gs) (a_ : As) (w_ : Ws), J x3 x4 g_ a_ w_ → (∀ (H : Heap) (locs : List Loc), va_P D vwCl (caW ad cy g_ a_ w_) H → va_S (va_A (caW ad cy g a w) s.heap.size) s.heap H locs → ∀ ls : Array Slot, lv_has ls 5 [(0, .ref (ad 0)), (1, .int p0), (2, .int p1), (3, .int x3), (4, .int x4)] → W p l e (headSpec wsX6_units ({ frames := 2, cells := 0, slots := 0, locals := 48 } : Room)).room s m [.ref (ad 0), .int p0, .int p1].toArray below meth c H locs 0 0 (MQ below (va_Qi (fun (r : Int32) (u : Gs × As × Ws) => post r u.1 u.2.1 u.2.2) (fun u t => va_P D vwCl (caW ad cy u.1 u.2.1 u.2.2) t.heap) (va_A (caW ad cy g a w) s.heap.size)) [.ref (ad 0), .int p0, .int p1].toArray s 0 0 (va_A (caW ad cy g a w) s.heap.size)) (F0 m 40 ls []))) := ⟨fun (x3 : Int32) (x4 : Int32) (g_ : Gs) (a_ : As) (w_ : Ws) => (∀ (H : Heap) (locs : List Loc), va_P D vwCl (caW ad cy g_ a_ w_) H → va_S (va_A (caW ad cy g a w) s.heap.size) s.heap H locs → ∀ ls : Array Slot, lv_has ls 5 [(0, .ref (ad 0)), (1, .int p0), (2, .int p1), (3, .int x3), (4, .int x4)] → W p l e (headSpec wsX6_units ({ frames := 2, cells := 0, slots := 0, locals := 48 } : Room)).room s m [.ref (ad 0), .int p0, .int p1].toArray below meth c H locs 0 0 (MQ below (va_Qi (fun (r : Int32) (u : Gs × As × Ws) => post r u.1 u.2.1 u.2.2) (fun u t => va_P D vwCl (caW ad cy u.1 u.2.1 u.2.2) t.heap) (va_A (caW ad cy g a w) s.heap.size)) [.ref (ad 0), .int p0, .int p1].toArray s 0 0 (va_A (caW ad cy g a w) s.heap.size)) (F0 m 40 ls [])), fun _ _ _ _ _ h => h, fun _ _ _ _ _ h => h⟩
  have hV := hV J40
  replace hV := hV (by
    intro x3 x4 g_ a_ w_ hV
    refine iJ40 x3 x4 g_ a_ w_ ?_
    intro H locs hP hS ls hl
    refine lv_iload hx hb dX6_units_40 (lv_at hl 4 rfl) ?_
    refine lv_iload_n hx hb dX6_units_42 rfl (lv_at hl 1 rfl) ?_
    refine lv_icmp_ge (tgt := 75) hx hb dX6_units_43 (by decide) (fun c_43 => ?_) (fun c_43 => ?_)
    · have hV := hV.1 c_43
      refine lv_bipush (v := (-4 : Int32)) hx hb dX6_units_75 (by decide) ?_
      exact W.iret (v := (-4 : Int32)) hx hb hr (fun t ht hW => ⟨⟨_, (g_, a_, w_), rfl, hV, ar_heap ht hP⟩, hS.F ht⟩) hS.2.2 dX6_units_77
    · have hV := hV.2 c_43
      refine lv_aload_n hx hb dX6_units_46 rfl (lv_at hl 0 rfl) ?_
      refine va_get (D := D) (ci := 5) (v := .ref (ad 1)) (C := RX6) (T := TX6) (N := 10) hx hb hts (by decide +kernel) hown hK hP 0 rfl rfl 0 (by decide) (hts (.fieldLink RX6 10 "PowerRests" "ofN" "LPowerRests$Factors;") (by decide +kernel)) (fun _ h9 => h9) rfl dX6_units_47 ?_
      refine lv_iload hx hb dX6_units_50 (lv_at hl 4 rfl) ?_
      obtain ⟨h_52, hV⟩ := hV
      refine cp_i (va_runV (As := [.int x4]) (rest := []) ⟨hx, hb, hml, hown, hts⟩ (spec_X0_sharesWith l 0 (by decide) D cy ad _ g_ a_ w_ x4 h_52) (cwV 1 hts gX6_units_X0_sharesWith rfl rfl rfl (by decide +kernel) ⟨Nat.le_of_ble_eq_true rfl, Nat.le_of_ble_eq_true rfl⟩) (ar_preV hN hK hP (caD hD) (ci := 0) (q0 := 1) rfl rfl) rfl rfl hl.1 rfl (lv_room (Nat.le_of_ble_eq_true rfl)) dX6_units_52 ⟨Nat.zero_le _, Nat.zero_le _⟩) (fun r52 q_52 => ?_)
      have hV := hV r52 q_52
      refine lv_if_ne (tgt := 69) hx hb dX6_units_55 (by decide) (fun c_55 => ?_) (fun c_55 => ?_)
      · have hV := hV.2 c_55
        refine lv_iinc (v := x4 + 1) (lv' := [(4, .int (x4 + 1)), (0, .ref (ad 0)), (1, .int p0), (2, .int p1), (3, .int x3)]) hx hb dX6_units_69 hl (k := 4) rfl rfl (by decide) rfl (fun ls hl => ?_)
        refine lv_goto (tgt := 40) hx hb dX6_units_72 (by decide) ?_
        exact oJ40 _ _ _ _ _ hV _ _ hP hS _ (lv_sub hl [1, 2, 3, 4, 0] rfl)
      · have hV := hV.1 c_55
        refine lv_iload_n hx hb dX6_units_58 rfl (lv_at hl 3 rfl) ?_
        refine lv_iload_n hx hb dX6_units_59 rfl (lv_at hl 2 rfl) ?_
        refine lv_icmp_ne (tgt := 66) hx hb dX6_units_60 (by decide) (fun c_60 => ?_) (fun c_60 => ?_)
        · have hV := hV.2 c_60
          refine lv_iinc (v := x3 + 1) (lv' := [(3, .int (x3 + 1)), (0, .ref (ad 0)), (1, .int p0), (2, .int p1), (4, .int x4)]) hx hb dX6_units_66 hl (k := 3) rfl rfl (by decide) rfl (fun ls hl => ?_)
          refine lv_iinc (v := x4 + 1) (lv' := [(4, .int (x4 + 1)), (3, .int (x3 + 1)), (0, .ref (ad 0)), (1, .int p0), (2, .int p1)]) hx hb dX6_units_69 hl (k := 4) rfl rfl (by decide) rfl (fun ls hl => ?_)
          refine lv_goto (tgt := 40) hx hb dX6_units_72 (by decide) ?_
          exact oJ40 _ _ _ _ _ hV _ _ hP hS _ (lv_sub hl [2, 3, 4, 1, 0] rfl)
        · have hV := hV.1 c_60
          refine lv_iload hx hb dX6_units_63 (lv_at hl 4 rfl) ?_
          exact W.iret (v := x4) hx hb hr (fun t ht hW => ⟨⟨_, (g_, a_, w_), rfl, hV, ar_heap ht hP⟩, hS.F ht⟩) hS.2.2 dX6_units_65)
  have hl := lv_entry ([.ref (ad 0), .int p0, .int p1]) (n := 5) (Nat.le_of_ble_eq_true rfl)
  rw [lg_entry_eq]
  generalize (lg_sl ([.ref (ad 0), .int p0, .int p1]) ++ List.replicate (5 - (lg_sl ([.ref (ad 0), .int p0, .int p1])).length) Slot.unset).toArray = ls at hl ⊢
  have hl : lv_has ls 5 [(0, .ref (ad 0)), (1, .int p0), (2, .int p1)] := hl
  refine lv_iload_n hx hb dX6_units_0 rfl (lv_at hl 1 rfl) ?_
  refine cp_i (va_runS (As := [.int p0]) (rest := []) ⟨hx, hb, hml, hown, hts⟩ (spec_X6_isDivisor l p0) (va_cwS 1 hts gX6_units_X6_isDivisor rfl rfl rfl (by decide +kernel) ⟨Nat.le_of_ble_eq_true rfl, Nat.le_of_ble_eq_true rfl⟩) cp_pre rfl rfl hl.1 rfl (lv_room (Nat.le_of_ble_eq_true rfl)) dX6_units_1 ⟨Nat.zero_le _, Nat.zero_le _⟩) (fun r1 q_1 => ?_)
  have hV := hV r1 q_1
  refine lv_if_eq (tgt := 12) hx hb dX6_units_4 (by decide) (fun c_4 => ?_) (fun c_4 => ?_)
  · have hV := hV.1 c_4
    refine lv_iconst (v := (-1 : Int32)) hx hb dX6_units_12 (by decide) ?_
    exact W.iret (v := (-1 : Int32)) hx hb hr (fun t ht hW => ⟨⟨_, (g, a, w), rfl, hV, ar_heap ht hP⟩, hS.F ht⟩) hS.2.2 dX6_units_13
  · have hV := hV.2 c_4
    refine lv_iload_n hx hb dX6_units_7 rfl (lv_at hl 2 rfl) ?_
    refine lv_iconst (v := (-1 : Int32)) hx hb dX6_units_8 (by decide) ?_
    refine lv_icmp_ge (tgt := 14) hx hb dX6_units_9 (by decide) (fun c_9 => ?_) (fun c_9 => ?_)
    · have hV := hV.1 c_9
      refine lv_aload_n hx hb dX6_units_14 rfl (lv_at hl 0 rfl) ?_
      refine va_get (D := D) (ci := 5) (v := .ref (ad 1)) (C := RX6) (T := TX6) (N := 10) hx hb hts (by decide +kernel) hown hK hP 0 rfl rfl 0 (by decide) (hts (.fieldLink RX6 10 "PowerRests" "ofN" "LPowerRests$Factors;") (by decide +kernel)) (fun _ h9 => h9) rfl dX6_units_15 ?_
      refine lv_iload_n hx hb dX6_units_18 rfl (lv_at hl 1 rfl) ?_
      obtain ⟨h_19, hV⟩ := hV
      refine cw_v (va_runV (As := [.int p0]) (rest := []) ⟨hx, hb, hml, hown, hts⟩ (spec_X0_split l 0 (by decide) D cy ad _ g a w p0 h_19) (cwV 1 hts gX6_units_X0_split rfl rfl rfl (by decide +kernel) ⟨Nat.le_of_ble_eq_true rfl, Nat.le_of_ble_eq_true rfl⟩) (ar_preV hN hK hP (caD hD) (ci := 0) (q0 := 1) rfl rfl) rfl rfl hl.1 rfl (lv_room (Nat.le_of_ble_eq_true rfl)) dX6_units_19 ⟨Nat.zero_le _, Nat.zero_le _⟩) hS (caD hD) hA (fun u_19 H locs q_19 hP hS => ?_)
      obtain ⟨g19, a19, w19⟩ := u_19
      have hV := hV g19 a19 w19 q_19
      have hP : va_P D vwCl (caW ad cy g19 a19 w19) H := hP
      refine lv_iload_n hx hb dX6_units_22 rfl (lv_at hl 2 rfl) ?_
      refine lv_iconst (v := (-1 : Int32)) hx hb dX6_units_23 (by decide) ?_
      refine lv_icmp_ne (tgt := 35) hx hb dX6_units_24 (by decide) (fun c_24 => ?_) (fun c_24 => ?_)
      · have hV := hV.2 c_24
        refine lv_iconst (v := (0 : Int32)) hx hb dX6_units_35 (by decide) ?_
        refine lv_istore_n (lv' := [(3, .int (0 : Int32)), (0, .ref (ad 0)), (1, .int p0), (2, .int p1)]) hx hb dX6_units_36 rfl hl (by decide) rfl (fun ls hl => ?_)
        refine lv_iconst (v := (1 : Int32)) hx hb dX6_units_37 (by decide) ?_
        refine lv_istore (lv' := [(4, .int (1 : Int32)), (3, .int (0 : Int32)), (0, .ref (ad 0)), (1, .int p0), (2, .int p1)]) hx hb dX6_units_38 hl (by decide) rfl (fun ls hl => ?_)
        exact oJ40 _ _ _ _ _ hV _ _ hP hS _ (lv_sub hl [2, 3, 4, 1, 0] rfl)
      · have hV := hV.1 c_24
        refine lv_aload_n hx hb dX6_units_27 rfl (lv_at hl 0 rfl) ?_
        refine va_get (D := D) (ci := 5) (v := .ref (ad 1)) (C := RX6) (T := TX6) (N := 10) hx hb hts (by decide +kernel) hown hK hP 0 rfl rfl 0 (by decide) (hts (.fieldLink RX6 10 "PowerRests" "ofN" "LPowerRests$Factors;") (by decide +kernel)) (fun _ h9 => h9) rfl dX6_units_28 ?_
        obtain ⟨h_31, hV⟩ := hV
        refine cp_i (va_runV (As := []) (rest := []) ⟨hx, hb, hml, hown, hts⟩ (spec_X0_unitCount l 0 (by decide) D cy ad _ g19 a19 w19 h_31) (cwV 0 hts gX6_units_X0_unitCount rfl rfl rfl (by decide +kernel) ⟨Nat.le_of_ble_eq_true rfl, Nat.le_of_ble_eq_true rfl⟩) (ar_preV hN hK hP (caD hD) (ci := 0) (q0 := 1) rfl rfl) rfl rfl hl.1 rfl (lv_room (Nat.le_of_ble_eq_true rfl)) dX6_units_31 ⟨Nat.zero_le _, Nat.zero_le _⟩) (fun r31 q_31 => ?_)
        have hV := hV r31 q_31
        exact W.iret (v := r31) hx hb hr (fun t ht hW => ⟨⟨_, (g19, a19, w19), rfl, hV, ar_heap ht hP⟩, hS.F ht⟩) hS.2.2 dX6_units_34
    · have hV := hV.2 c_9
      refine lv_iconst (v := (-1 : Int32)) hx hb dX6_units_12 (by decide) ?_
      exact W.iret (v := (-1 : Int32)) hx hb hr (fun t ht hW => ⟨⟨_, (g, a, w), rfl, hV, ar_heap ht hP⟩, hS.F ht⟩) hS.2.2 dX6_units_13
def post_X6_units (g : Gs) (a : As) (w : Ws) (p0 p1 r : Int32) (g' : Gs) (a' : As) (w' : Ws) : Prop := UnitsAns p0 p1 r ∧ FS g a w g' a' w'
theorem i_m1 {x : Int32} : x.toInt = -1 ↔ x = -1 := by
  rw [i_eq]; exact Iff.rfl
set_option maxRecDepth 4000 in
theorem spec_X6_units (l : Launch) (D : va_G) (cy : Nat → ClassId) (ad : Nat → Nat) (sz : Nat) (g : Gs) (a : As) (w : Ws) (p0 : Int32) (p1 : Int32) : Met l yX6_units wsX6_units ({ frames := 2, cells := 0, slots := 0, locals := 48 } : Room) (va_Pc [.ref (ad 0), .int p0, .int p1] (ArP D cy sz (caW ad cy g a w))) (va_Qi (fun (r : Int32) (u : Gs × As × Ws) => (post_X6_units g a w p0 p1) r u.1 u.2.1 u.2.2) (fun u t => va_P D vwCl (caW ad cy u.1 u.2.1 u.2.2) t.heap) (va_A (caW ad cy g a w) sz)) 0 0 (va_A (caW ad cy g a w) sz) := by
  apply met_X6_units
  intro J hJ
  intro r hr
  unfold post_X6_isDivisor at hr
  subst hr
  have hm1 : (-1 : Int32).toInt = -1 := rfl
  refine ⟨fun h => ⟨Or.inl ⟨Or.inl (zb_0 h), rfl⟩, FS.rf⟩, fun h => ⟨fun h2 => ?_, fun h2 => ⟨Or.inl ⟨Or.inr ?_, rfl⟩, FS.rf⟩⟩⟩
  · have hdv : Dv p0 := zb_1 h
    have hi1 : -1 ≤ p1.toInt := by rw [i_le] at h2; exact h2
    obtain ⟨n, hn, rfl, hn2⟩ := of_i (x := p0) (by have := hdv.1; omega)
    obtain ⟨d1, d2⟩ := id hdv
    have tnn : tn (nI n) = n := tn_nI hn
    refine ⟨⟨by omega, by omega⟩, fun g1 a1 w1 hsp => ?_⟩
    have hFS := split_FS (by decide) hsp
    have hF : Fac 0 n g1 a1 := by have := hsp.2.1 (by rw [tnn]; omega); rwa [tnn] at this
    refine ⟨fun h3 => ⟨⟨n, hF⟩, fun r hr => ⟨Or.inr ⟨⟨hdv, hi1⟩, Or.inl ⟨h3, ?_⟩⟩, hFS⟩⟩, fun h3 => ?_⟩
    · unfold post_X0_unitCount at hr
      rw [hr, tnn, ← U_fac hF.1]
      rfl
    · have hi0 : 0 ≤ p1.toInt := by
        have : p1.toInt ≠ -1 := fun e => h3 (i_m1.mp e)
        omega
      obtain ⟨i, hi, rfl, hi2⟩ := of_i hi0
      have key : ∀ (d k f : Nat), k + d = n → 1 ≤ k → f = fb_ct (UB n) k → f ≤ i → J (nI f) (nI k) g1 a1 w1 := by
        intro d
        induction d with
        | zero =>
          intro k f hk _ hf hfi
          have : k = n := by omega
          subst this
          refine hJ _ _ _ _ _ (pk_le k k (fun _ => ⟨Or.inr ⟨⟨hdv, hi1⟩, Or.inr (Or.inr ⟨hi0, ?_, rfl⟩)⟩, hFS⟩) (fun h => absurd h (by omega)))
          rw [tnn, ← hf, hi2]
          omega
        | succ d ih =>
          intro k f hk hk1 hf hfi
          refine hJ _ _ _ _ _ (pk_le n k (fun h => absurd h (by omega)) (fun _ => ⟨⟨by rw [nI_toInt (by omega)]; omega, n, hF⟩, fun r hr => ?_⟩))
          unfold post_X0_sharesWith at hr
          rw [tn_nI (by omega), zb_c (fac_shares hF.1)] at hr
          subst hr
          have hle := fb_ct_le (UB n) k
          refine ⟨fun h4 => ?_, fun h4 => ?_⟩
          · have hc : Nat.Coprime n k := Classical.not_not.mp (zb_0 h4)
            have hu : UB n k = true := decide_eq_true hc
            refine pk_eq f i (fun h5 => ⟨Or.inr ⟨⟨hdv, hi1⟩, Or.inr (Or.inl ⟨hi0, k, by rw [tnn]; omega, by rw [tnn]; exact hu, by rw [tnn, ← hf, hi2]; omega, rfl⟩)⟩, hFS⟩) (fun h5 => ?_)
            rw [nI_1, nI_1]
            exact ih (k + 1) (f + 1) (by omega) (by omega) (by rw [fb_ct_succ, if_pos hu, ← hf]) (by omega)
          · have hc : ¬ Nat.Coprime n k := zb_1 h4
            have hu : ¬ UB n k = true := fun q => hc (of_decide_eq_true q)
            rw [nI_1]
            exact ih (k + 1) f (by omega) (by omega) (by rw [fb_ct_succ, if_neg hu, ← hf, Nat.add_zero]) hfi
      refine key (n - 1) 1 0 (by omega) (by omega) ?_ (by omega)
      rw [fb_ct_succ, if_neg]
      · rfl
      · intro q
        have : Nat.gcd n 0 = 1 := of_decide_eq_true q
        rw [Nat.gcd_zero_right] at this
        omega
  · rw [i_le, hm1] at h2; omega
def pre_X6_leastExponent (g : Gs) (a : As) (w : Ws) (p0 p1 : Int32) : Prop := 0 ≤ p0.toInt ∧ 1 ≤ p1.toInt ∧ p1.toInt ≤ 50001 ∧ Nat.Coprime (tn p1) (tn p0)
set_option maxHeartbeats 4000000 in
set_option maxRecDepth 100000 in
theorem met_X6_leastExponent (l : Launch) (D : va_G) (cy : Nat → ClassId) (ad : Nat → Nat) (sz : Nat) (g : Gs) (a : As) (w : Ws) (p0 : Int32) (p1 : Int32) (post : Int32 → Gs → As → Ws → Prop)
  (hV : ∀ (J27 : Int32 → Int32 → Gs → As → Ws → Prop) (J54 : Int32 → Int32 → Int32 → Int32 → Gs → As → Ws → Prop),
    (∀ (x3 : Int32) (x4 : Int32) (g_ : Gs) (a_ : As) (w_ : Ws), (((g_ 1) ≤ x4 → post x3 g_ a_ w_) ∧ (¬ (g_ 1) ≤ x4 → vp_in x4 8 ∧ (J54 x3 x4 ((a_ 1) x4.toNatClampNeg) (0 : Int32) g_ a_ w_))) → J27 x3 x4 g_ a_ w_) →
    (∀ (x3 : Int32) (x4 : Int32) (x5 : Int32) (x6 : Int32) (g_ : Gs) (a_ : As) (w_ : Ws), ((x5 ≤ (1 : Int32) → J27 x3 (x4 + 1) g_ a_ w_) ∧ (¬ x5 ≤ (1 : Int32) → vp_in x4 8 ∧ (((((a_ 3) x4.toNatClampNeg) ≤ x6 → J27 x3 (x4 + 1) g_ a_ w_) ∧ (¬ ((a_ 3) x4.toNatClampNeg) ≤ x6 → ¬ x5 = 0 ∧ (pre_X4_raise p0.toInt64 ((x3 / x5).toInt64) p1 ∧ (∀ r83 : Int32, post_X4_raise p0.toInt64 ((x3 / x5).toInt64) p1 r83 → ((r83 = (1 : Int32) → J54 (x3 / x5) x4 x5 (x6 + 1) g_ a_ w_) ∧ (¬ r83 = (1 : Int32) → J27 x3 (x4 + 1) g_ a_ w_))))))))) → J54 x3 x4 x5 x6 g_ a_ w_) →
    pre_X0_split 0 g a w p1 ∧ (∀ (g5 : Gs) (a5 : As) (w5 : Ws), post_X0_split 0 g a w p1 g5 a5 w5 → pre_X0_greatestOrder 0 g5 a5 w5 ∧ (∀ r12 : Int32, post_X0_greatestOrder 0 g5 a5 w5 r12 → pre_X0_split 1 g5 a5 w5 r12 ∧ (∀ (g21 : Gs) (a21 : As) (w21 : Ws), post_X0_split 1 g5 a5 w5 r12 g21 a21 w21 → J27 r12 (0 : Int32) g21 a21 w21)))) :
  Met l yX6_leastExponent wsX6_leastExponent ({ frames := 3, cells := 0, slots := 0, locals := 70 } : Room) (va_Pc [.ref (ad 0), .int p0, .int p1] (ArP D cy sz (caW ad cy g a w))) (va_Qi (fun (r : Int32) (u : Gs × As × Ws) => post r u.1 u.2.1 u.2.2) (fun u t => va_P D vwCl (caW ad cy u.1 u.2.1 u.2.2) t.heap) (va_A (caW ad cy g a w) sz)) 0 0 (va_A (caW ad cy g a w) sz) := by
  refine Met.ofW (cc := cX6_leastExponent) (maxL := 7) (ret := (some .int)) (by decide) rfl ?_
  intro p e s m args below meth c s₁ B hml hv
  obtain ⟨rfl, hsz, hP, hK, hD0, hN⟩ := hv
  have hx := B.exec
  have hb := B.bytes
  have hr := B.returns
  have hts := atoms_spec (ws := wsX6_leastExponent) B.pre
  have hown : s.vm.findClass RX6 = some m.cls := findClass_of_methodNamed B.named
  have hlocks := B.notSynchronized
  subst hsz
  have hD := hD0.self (sz := s.heap.size)
  have hP : va_P D vwCl (caW ad cy g a w) s.heap := hP
  have hD : va_D (va_A (caW ad cy g a w) s.heap.size) (caW ad cy g a w) := hD
  have hS : va_S (va_A (caW ad cy g a w) s.heap.size) s.heap s.heap [] := va_S.rf
  have hA : ∀ q : Nat, s.heap.size ≤ q → va_A (caW ad cy g a w) s.heap.size q := fun q h => Or.inr h
  obtain ⟨J27, iJ27, oJ27⟩ : ∃ J : Int32 → Int32 → Gs → As → Ws → Prop, (∀ (x3 : Int32) (x4 : Int32) (g_ : Gs) (a_ : As) (w_ : Ws), (∀ (H : Heap) (locs : List Loc), va_P D vwCl (caW ad cy g_ a_ w_) H → va_S (va_A (caW ad cy g a w) s.heap.size) s.heap H locs → ∀ ls : Array Slot, lv_has ls 7 [(0, .ref (ad 0)), (1, .int p0), (2, .int p1), (3, .int x3), (4, .int x4)] → W p l e (headSpec wsX6_leastExponent ({ frames := 3, cells := 0, slots := 0, locals := 70 } : Room)).room s m [.ref (ad 0), .int p0, .int p1].toArray below meth c H locs 0 0 (MQ below (va_Qi (fun (r : Int32) (u : Gs × As × Ws) => post r u.1 u.2.1 u.2.2) (fun u t => va_P D vwCl (caW ad cy u.1 u.2.1 u.2.2) t.heap) (va_A (caW ad cy g a w) s.heap.size)) [.ref (ad 0), .int p0, .int p1].toArray s 0 0 (va_A (caW ad cy g a w) s.heap.size)) (F0 m 27 ls [])) → J x3 x4 g_ a_ w_) ∧ (∀ (x3 : Int32) (x4 : Int32) (g_ : Gs) (a_ : As) (w_ : Ws), J x3 x4 g_ a_ w_ → (∀ (H : Heap) (locs : List Loc), va_P D vwCl (caW ad cy g_ a_ w_) H → va_S (va_A (caW ad cy g a w) s.heap.size) s.heap H locs → ∀ ls : Array Slot, lv_has ls 7 [(0, .ref (ad 0)), (1, .int p0), (2, .int p1), (3, .int x3), (4, .int x4)] → W p l e (headSpec wsX6_leastExponent ({ frames := 3, cells := 0, slots := 0, locals := 70 } : Room)).room s m [.ref (ad 0), .int p0, .int p1].toArray below meth c H locs 0 0 (MQ below (va_Qi (fun (r : Int32) (u : Gs × As × Ws) => post r u.1 u.2.1 u.2.2) (fun u t => va_P D vwCl (caW ad cy u.1 u.2.1 u.2.2) t.heap) (va_A (caW ad cy g a w) s.heap.size)) [.ref (ad 0), .int p0, .int p1].toArray s 0 0 (va_A (caW ad cy g a w) s.heap.size)) (F0 m 27 ls []))) := ⟨fun (x3 : Int32) (x4 : Int32) (g_ : Gs) (a_ : As) (w_ : Ws) => (∀ (H : Heap) (locs : List Loc), va_P D vwCl (caW ad cy g_ a_ w_) H → va_S (va_A (caW ad cy g a w) s.heap.size) s.heap H locs → ∀ ls : Array Slot, lv_has ls 7 [(0, .ref (ad 0)), (1, .int p0), (2, .int p1), (3, .int x3), (4, .int x4)] → W p l e (headSpec wsX6_leastExponent ({ frames := 3, cells := 0, slots := 0, locals := 70 } : Room)).room s m [.ref (ad 0), .int p0, .int p1].toArray below meth c H locs 0 0 (MQ below (va_Qi (fun (r : Int32) (u : Gs × As × Ws) => post r u.1 u.2.1 u.2.2) (fun u t => va_P D vwCl (caW ad cy u.1 u.2.1 u.2.2) t.heap) (va_A (caW ad cy g a w) s.heap.size)) [.ref (ad 0), .int p0, .int p1].toArray s 0 0 (va_A (caW ad cy g a w) s.heap.size)) (F0 m 27 ls [])), fun _ _ _ _ _ h => h, fun _ _ _ _ _ h => h⟩
  obtain ⟨J54, iJ54, oJ54⟩ : ∃ J : Int32 → Int32 → Int32 → Int32 → Gs → As → Ws → Prop, (∀ (x3 : Int32) (x4 : Int32) (x5 : Int32) (x6 : Int32) (g_ : Gs) (a_ : As) (w_ : Ws), (∀ (H : Heap) (locs : List Loc), va_P D vwCl (caW ad cy g_ a_ w_) H → va_S (va_A (caW ad cy g a w) s.heap.size) s.heap H locs → ∀ ls : Array Slot, lv_has ls 7 [(0, .ref (ad 0)), (1, .int p0), (2, .int p1), (3, .int x3), (4, .int x4), (5, .int x5), (6, .int x6)] → W p l e (headSpec wsX6_leastExponent ({ frames := 3, cells := 0, slots := 0, locals := 70 } : Room)).room s m [.ref (ad 0), .int p0, .int p1].toArray below meth c H locs 0 0 (MQ below (va_Qi (fun (r : Int32) (u : Gs × As × Ws) => post r u.1 u.2.1 u.2.2) (fun u t => va_P D vwCl (caW ad cy u.1 u.2.1 u.2.2) t.heap) (va_A (caW ad cy g a w) s.heap.size)) [.ref (ad 0), .int p0, .int p1].toArray s 0 0 (va_A (caW ad cy g a w) s.heap.size)) (F0 m 54 ls [])) → J x3 x4 x5 x6 g_ a_ w_) ∧ (∀ (x3 : Int32) (x4 : Int32) (x5 : Int32) (x6 : Int32) (g_ : Gs) (a_ : As) (w_ : Ws), J x3 x4 x5 x6 g_ a_ w_ → (∀ (H : Heap) (locs : List Loc), va_P D vwCl (caW ad cy g_ a_ w_) H → va_S (va_A (caW ad cy g a w) s.heap.size) s.heap H locs → ∀ ls : Array Slot, lv_has ls 7 [(0, .ref (ad 0)), (1, .int p0), (2, .int p1), (3, .int x3), (4, .int x4), (5, .int x5), (6, .int x6)] → W p l e (headSpec wsX6_leastExponent ({ frames := 3, cells := 0, slots := 0, locals := 70 } : Room)).room s m [.ref (ad 0), .int p0, .int p1].toArray below meth c H locs 0 0 (MQ below (va_Qi (fun (r : Int32) (u : Gs × As × Ws) => post r u.1 u.2.1 u.2.2) (fun u t => va_P D vwCl (caW ad cy u.1 u.2.1 u.2.2) t.heap) (va_A (caW ad cy g a w) s.heap.size)) [.ref (ad 0), .int p0, .int p1].toArray s 0 0 (va_A (caW ad cy g a w) s.heap.size)) (F0 m 54 ls []))) := ⟨fun (x3 : Int32) (x4 : Int32) (x5 : Int32) (x6 : Int32) (g_ : Gs) (a_ : As) (w_ : Ws) => (∀ (H : Heap) (locs : List Loc), va_P D vwCl (caW ad cy g_ a_ w_) H → va_S (va_A (caW ad cy g a w) s.heap.size) s.heap H locs → ∀ ls : Array Slot, lv_has ls 7 [(0, .ref (ad 0)), (1, .int p0), (2, .int p1), (3, .int x3), (4, .int x4), (5, .int x5), (6, .int x6)] → W p l e (headSpec wsX6_leastExponent ({ frames := 3, cells := 0, slots := 0, locals := 70 } : Room)).room s m [.ref (ad 0), .int p0, .int p1].toArray below meth c H locs 0 0 (MQ below (va_Qi (fun (r : Int32) (u : Gs × As × Ws) => post r u.1 u.2.1 u.2.2) (fun u t => va_P D vwCl (caW ad cy u.1 u.2.1 u.2.2) t.heap) (va_A (caW ad cy g a w) s.heap.size)) [.ref (ad 0), .int p0, .int p1].toArray s 0 0 (va_A (caW ad cy g a w) s.heap.size)) (F0 m 54 ls [])), fun _ _ _ _ _ _ _ h => h, fun _ _ _ _ _ _ _ h => h⟩
  have hV := hV J27 J54
  replace hV := hV (by
    intro x3 x4 g_ a_ w_ hV
    refine iJ27 x3 x4 g_ a_ w_ ?_
    intro H locs hP hS ls hl
    refine lv_iload hx hb dX6_leastExponent_27 (lv_at hl 4 rfl) ?_
    refine lv_aload_n hx hb dX6_leastExponent_29 rfl (lv_at hl 0 rfl) ?_
    refine va_get (D := D) (ci := 5) (v := .ref (ad 4)) (C := RX6) (T := TX6) (N := 10) hx hb hts (by decide +kernel) hown hK hP 0 rfl rfl 1 (by decide) (hts (.fieldLink RX6 16 "PowerRests" "ofOrder" "LPowerRests$Factors;") (by decide +kernel)) (fun _ h9 => h9) rfl dX6_leastExponent_30 ?_
    refine va_getN (D := D) (ci := 0) (v := .int (g_ 1)) (C := RX0) (T := TX0) (N := 3) hx hb hts (by decide +kernel) hown hK hP 4 rfl rfl 2 (by decide) (hN.use 0 (q := (RX6, 115, RX0, "kinds", "I")) rfl) (fun _ h9 => h9) rfl dX6_leastExponent_33 ?_
    refine lv_icmp_ge (tgt := 107) hx hb dX6_leastExponent_36 (by decide) (fun c_36 => ?_) (fun c_36 => ?_)
    · have hV := hV.1 c_36
      refine lv_iload_n hx hb dX6_leastExponent_107 rfl (lv_at hl 3 rfl) ?_
      exact W.iret (v := x3) hx hb hr (fun t ht hW => ⟨⟨_, (g_, a_, w_), rfl, hV, ar_heap ht hP⟩, hS.F ht⟩) hS.2.2 dX6_leastExponent_108
    · have hV := hV.2 c_36
      refine lv_aload_n hx hb dX6_leastExponent_39 rfl (lv_at hl 0 rfl) ?_
      refine va_get (D := D) (ci := 5) (v := .ref (ad 4)) (C := RX6) (T := TX6) (N := 10) hx hb hts (by decide +kernel) hown hK hP 0 rfl rfl 1 (by decide) (hts (.fieldLink RX6 16 "PowerRests" "ofOrder" "LPowerRests$Factors;") (by decide +kernel)) (fun _ h9 => h9) rfl dX6_leastExponent_40 ?_
      refine va_getN (D := D) (ci := 0) (v := .ref (ad 5)) (C := RX0) (T := TX0) (N := 3) hx hb hts (by decide +kernel) hown hK hP 4 rfl rfl 0 (by decide) (hN.use 1 (q := (RX6, 119, RX0, "primes", "[I")) rfl) (fun _ h9 => h9) rfl dX6_leastExponent_43 ?_
      refine lv_iload hx hb dX6_leastExponent_46 (lv_at hl 4 rfl) ?_
      obtain ⟨h_48, hV⟩ := hV
      refine va_iald (f := (a_ 1)) hx hb hK hP 5 0 rfl rfl h_48 dX6_leastExponent_48 ?_
      refine lv_istore (lv' := [(5, .int ((a_ 1) x4.toNatClampNeg)), (0, .ref (ad 0)), (1, .int p0), (2, .int p1), (3, .int x3), (4, .int x4)]) hx hb dX6_leastExponent_49 hl (by decide) rfl (fun ls hl => ?_)
      refine lv_iconst (v := (0 : Int32)) hx hb dX6_leastExponent_51 (by decide) ?_
      refine lv_istore (lv' := [(6, .int (0 : Int32)), (5, .int ((a_ 1) x4.toNatClampNeg)), (0, .ref (ad 0)), (1, .int p0), (2, .int p1), (3, .int x3), (4, .int x4)]) hx hb dX6_leastExponent_52 hl (by decide) rfl (fun ls hl => ?_)
      exact oJ54 _ _ _ _ _ _ _ hV _ _ hP hS _ (lv_sub hl [2, 3, 4, 5, 6, 1, 0] rfl))
  replace hV := hV (by
    intro x3 x4 x5 x6 g_ a_ w_ hV
    refine iJ54 x3 x4 x5 x6 g_ a_ w_ ?_
    intro H locs hP hS ls hl
    refine lv_iload hx hb dX6_leastExponent_54 (lv_at hl 5 rfl) ?_
    refine lv_iconst (v := (1 : Int32)) hx hb dX6_leastExponent_56 (by decide) ?_
    refine lv_icmp_le (tgt := 101) hx hb dX6_leastExponent_57 (by decide) (fun c_57 => ?_) (fun c_57 => ?_)
    · have hV := hV.1 c_57
      refine lv_iinc (v := x4 + 1) (lv' := [(4, .int (x4 + 1)), (0, .ref (ad 0)), (1, .int p0), (2, .int p1), (3, .int x3), (5, .int x5), (6, .int x6)]) hx hb dX6_leastExponent_101 hl (k := 4) rfl rfl (by decide) rfl (fun ls hl => ?_)
      refine lv_goto (tgt := 27) hx hb dX6_leastExponent_104 (by decide) ?_
      exact oJ27 _ _ _ _ _ hV _ _ hP hS _ (lv_sub hl [1, 2, 3, 4, 0] rfl)
    · have hV := hV.2 c_57
      refine lv_iload hx hb dX6_leastExponent_60 (lv_at hl 6 rfl) ?_
      refine lv_aload_n hx hb dX6_leastExponent_62 rfl (lv_at hl 0 rfl) ?_
      refine va_get (D := D) (ci := 5) (v := .ref (ad 4)) (C := RX6) (T := TX6) (N := 10) hx hb hts (by decide +kernel) hown hK hP 0 rfl rfl 1 (by decide) (hts (.fieldLink RX6 16 "PowerRests" "ofOrder" "LPowerRests$Factors;") (by decide +kernel)) (fun _ h9 => h9) rfl dX6_leastExponent_63 ?_
      refine va_getN (D := D) (ci := 0) (v := .ref (ad 6)) (C := RX0) (T := TX0) (N := 3) hx hb hts (by decide +kernel) hown hK hP 4 rfl rfl 1 (by decide) (hN.use 2 (q := (RX6, 125, RX0, "times", "[I")) rfl) (fun _ h9 => h9) rfl dX6_leastExponent_66 ?_
      refine lv_iload hx hb dX6_leastExponent_69 (lv_at hl 4 rfl) ?_
      obtain ⟨h_71, hV⟩ := hV
      refine va_iald (f := (a_ 3)) hx hb hK hP 6 0 rfl rfl h_71 dX6_leastExponent_71 ?_
      refine lv_icmp_ge (tgt := 101) hx hb dX6_leastExponent_72 (by decide) (fun c_72 => ?_) (fun c_72 => ?_)
      · have hV := hV.1 c_72
        refine lv_iinc (v := x4 + 1) (lv' := [(4, .int (x4 + 1)), (0, .ref (ad 0)), (1, .int p0), (2, .int p1), (3, .int x3), (5, .int x5), (6, .int x6)]) hx hb dX6_leastExponent_101 hl (k := 4) rfl rfl (by decide) rfl (fun ls hl => ?_)
        refine lv_goto (tgt := 27) hx hb dX6_leastExponent_104 (by decide) ?_
        exact oJ27 _ _ _ _ _ hV _ _ hP hS _ (lv_sub hl [1, 2, 3, 4, 0] rfl)
      · have hV := hV.2 c_72
        refine lv_iload_n hx hb dX6_leastExponent_75 rfl (lv_at hl 1 rfl) ?_
        refine lv_i2l (v := p0.toInt64) hx hb dX6_leastExponent_76 rfl ?_
        refine lv_iload_n hx hb dX6_leastExponent_77 rfl (lv_at hl 3 rfl) ?_
        refine lv_iload hx hb dX6_leastExponent_78 (lv_at hl 5 rfl) ?_
        obtain ⟨h_80, hV⟩ := hV
        refine lv_idiv hx hb dX6_leastExponent_80 h_80 ?_
        refine lv_i2l (v := (x3 / x5).toInt64) hx hb dX6_leastExponent_81 rfl ?_
        refine lv_iload_n hx hb dX6_leastExponent_82 rfl (lv_at hl 2 rfl) ?_
        obtain ⟨h_83, hV⟩ := hV
        refine cp_i (va_runS (As := [.long p0.toInt64, .long ((x3 / x5).toInt64), .int p1]) (rest := []) ⟨hx, hb, hml, hown, hts⟩ (spec_X4_raise l p0.toInt64 ((x3 / x5).toInt64) p1 h_83) (va_cwS 3 hts gX6_leastExponent_X4_raise rfl rfl rfl (by decide +kernel) ⟨Nat.le_of_ble_eq_true rfl, Nat.le_of_ble_eq_true rfl⟩) cp_pre rfl rfl hl.1 rfl (lv_room (Nat.le_of_ble_eq_true rfl)) dX6_leastExponent_83 ⟨Nat.zero_le _, Nat.zero_le _⟩) (fun r83 q_83 => ?_)
        have hV := hV r83 q_83
        refine lv_iconst (v := (1 : Int32)) hx hb dX6_leastExponent_86 (by decide) ?_
        refine lv_icmp_ne (tgt := 101) hx hb dX6_leastExponent_87 (by decide) (fun c_87 => ?_) (fun c_87 => ?_)
        · have hV := hV.2 c_87
          refine lv_iinc (v := x4 + 1) (lv' := [(4, .int (x4 + 1)), (0, .ref (ad 0)), (1, .int p0), (2, .int p1), (3, .int x3), (5, .int x5), (6, .int x6)]) hx hb dX6_leastExponent_101 hl (k := 4) rfl rfl (by decide) rfl (fun ls hl => ?_)
          refine lv_goto (tgt := 27) hx hb dX6_leastExponent_104 (by decide) ?_
          exact oJ27 _ _ _ _ _ hV _ _ hP hS _ (lv_sub hl [1, 2, 3, 4, 0] rfl)
        · have hV := hV.1 c_87
          refine lv_iload_n hx hb dX6_leastExponent_90 rfl (lv_at hl 3 rfl) ?_
          refine lv_iload hx hb dX6_leastExponent_91 (lv_at hl 5 rfl) ?_
          refine lv_idiv hx hb dX6_leastExponent_93 h_80 ?_
          refine lv_istore_n (lv' := [(3, .int (x3 / x5)), (0, .ref (ad 0)), (1, .int p0), (2, .int p1), (4, .int x4), (5, .int x5), (6, .int x6)]) hx hb dX6_leastExponent_94 rfl hl (by decide) rfl (fun ls hl => ?_)
          refine lv_iinc (v := x6 + 1) (lv' := [(6, .int (x6 + 1)), (3, .int (x3 / x5)), (0, .ref (ad 0)), (1, .int p0), (2, .int p1), (4, .int x4), (5, .int x5)]) hx hb dX6_leastExponent_95 hl (k := 6) rfl rfl (by decide) rfl (fun ls hl => ?_)
          refine lv_goto (tgt := 54) hx hb dX6_leastExponent_98 (by decide) ?_
          exact oJ54 _ _ _ _ _ _ _ hV _ _ hP hS _ (lv_sub hl [2, 3, 4, 1, 5, 6, 0] rfl))
  have hl := lv_entry ([.ref (ad 0), .int p0, .int p1]) (n := 7) (Nat.le_of_ble_eq_true rfl)
  rw [lg_entry_eq]
  generalize (lg_sl ([.ref (ad 0), .int p0, .int p1]) ++ List.replicate (7 - (lg_sl ([.ref (ad 0), .int p0, .int p1])).length) Slot.unset).toArray = ls at hl ⊢
  have hl : lv_has ls 7 [(0, .ref (ad 0)), (1, .int p0), (2, .int p1)] := hl
  refine lv_aload_n hx hb dX6_leastExponent_0 rfl (lv_at hl 0 rfl) ?_
  refine va_get (D := D) (ci := 5) (v := .ref (ad 1)) (C := RX6) (T := TX6) (N := 10) hx hb hts (by decide +kernel) hown hK hP 0 rfl rfl 0 (by decide) (hts (.fieldLink RX6 10 "PowerRests" "ofN" "LPowerRests$Factors;") (by decide +kernel)) (fun _ h9 => h9) rfl dX6_leastExponent_1 ?_
  refine lv_iload_n hx hb dX6_leastExponent_4 rfl (lv_at hl 2 rfl) ?_
  obtain ⟨h_5, hV⟩ := hV
  refine cw_v (va_runV (As := [.int p1]) (rest := []) ⟨hx, hb, hml, hown, hts⟩ (spec_X0_split l 0 (by decide) D cy ad _ g a w p1 h_5) (cwV 1 hts gX6_leastExponent_X0_split rfl rfl rfl (by decide +kernel) ⟨Nat.le_of_ble_eq_true rfl, Nat.le_of_ble_eq_true rfl⟩) (ar_preV hN hK hP (caD hD) (ci := 0) (q0 := 1) rfl rfl) rfl rfl hl.1 rfl (lv_room (Nat.le_of_ble_eq_true rfl)) dX6_leastExponent_5 ⟨Nat.zero_le _, Nat.zero_le _⟩) hS (caD hD) hA (fun u_5 H locs q_5 hP hS => ?_)
  obtain ⟨g5, a5, w5⟩ := u_5
  have hV := hV g5 a5 w5 q_5
  have hP : va_P D vwCl (caW ad cy g5 a5 w5) H := hP
  refine lv_aload_n hx hb dX6_leastExponent_8 rfl (lv_at hl 0 rfl) ?_
  refine va_get (D := D) (ci := 5) (v := .ref (ad 1)) (C := RX6) (T := TX6) (N := 10) hx hb hts (by decide +kernel) hown hK hP 0 rfl rfl 0 (by decide) (hts (.fieldLink RX6 10 "PowerRests" "ofN" "LPowerRests$Factors;") (by decide +kernel)) (fun _ h9 => h9) rfl dX6_leastExponent_9 ?_
  obtain ⟨h_12, hV⟩ := hV
  refine cp_i (va_runV (As := []) (rest := []) ⟨hx, hb, hml, hown, hts⟩ (spec_X0_greatestOrder l 0 (by decide) D cy ad _ g5 a5 w5 h_12) (cwV 0 hts gX6_leastExponent_X0_greatestOrder rfl rfl rfl (by decide +kernel) ⟨Nat.le_of_ble_eq_true rfl, Nat.le_of_ble_eq_true rfl⟩) (ar_preV hN hK hP (caD hD) (ci := 0) (q0 := 1) rfl rfl) rfl rfl hl.1 rfl (lv_room (Nat.le_of_ble_eq_true rfl)) dX6_leastExponent_12 ⟨Nat.zero_le _, Nat.zero_le _⟩) (fun r12 q_12 => ?_)
  have hV := hV r12 q_12
  refine lv_istore_n (lv' := [(3, .int r12), (0, .ref (ad 0)), (1, .int p0), (2, .int p1)]) hx hb dX6_leastExponent_15 rfl hl (by decide) rfl (fun ls hl => ?_)
  refine lv_aload_n hx hb dX6_leastExponent_16 rfl (lv_at hl 1 rfl) ?_
  refine va_get (D := D) (ci := 5) (v := .ref (ad 4)) (C := RX6) (T := TX6) (N := 10) hx hb hts (by decide +kernel) hown hK hP 0 rfl rfl 1 (by decide) (hts (.fieldLink RX6 16 "PowerRests" "ofOrder" "LPowerRests$Factors;") (by decide +kernel)) (fun _ h9 => h9) rfl dX6_leastExponent_17 ?_
  refine lv_iload_n hx hb dX6_leastExponent_20 rfl (lv_at hl 0 rfl) ?_
  obtain ⟨h_21, hV⟩ := hV
  refine cw_v (va_runV (As := [.int r12]) (rest := []) ⟨hx, hb, hml, hown, hts⟩ (spec_X0_split l 1 (by decide) D cy ad _ g5 a5 w5 r12 h_21) (cwV 1 hts gX6_leastExponent_X0_split rfl rfl rfl (by decide +kernel) ⟨Nat.le_of_ble_eq_true rfl, Nat.le_of_ble_eq_true rfl⟩) (ar_preV hN hK hP (caD hD) (ci := 0) (q0 := 4) rfl rfl) rfl rfl hl.1 rfl (lv_room (Nat.le_of_ble_eq_true rfl)) dX6_leastExponent_21 ⟨Nat.zero_le _, Nat.zero_le _⟩) hS (caD hD) hA (fun u_21 H locs q_21 hP hS => ?_)
  obtain ⟨g21, a21, w21⟩ := u_21
  have hV := hV g21 a21 w21 q_21
  have hP : va_P D vwCl (caW ad cy g21 a21 w21) H := hP
  refine lv_iconst (v := (0 : Int32)) hx hb dX6_leastExponent_24 (by decide) ?_
  refine lv_istore (lv' := [(4, .int (0 : Int32)), (3, .int r12), (0, .ref (ad 0)), (1, .int p0), (2, .int p1)]) hx hb dX6_leastExponent_25 hl (by decide) rfl (fun ls hl => ?_)
  exact oJ27 _ _ _ _ _ hV _ _ hP hS _ (lv_sub hl [2, 3, 4, 1, 0] rfl)
def post_X6_leastExponent (g : Gs) (a : As) (w : Ws) (p0 p1 r : Int32) (g' : Gs) (a' : As) (w' : Ws) : Prop := (∃ e, IsOrd (tn p1) (tn p0) e ∧ e ≤ tn p1 ∧ r = nI e) ∧ FS g a w g' a' w'
theorem lam_le {n : Nat} {P T : Nat → Nat} {m : Nat} (h : FacF n P T m) : 1 ≤ lcmF (cyF P T) m ∧ lcmF (cyF P T) m ≤ n := by
  have hc := fac_cy h
  have h1 := lcmF_le (f := cyF P T) (m := m) (fun i hi => (hc i hi).1)
  have h2 := fac_pr h (Nat.le_refl m) hc
  exact ⟨lcmF_pos (fun i hi => (hc i hi).1), by omega⟩
/-- a prime divides just so often -/
theorem fac_exact {n : Nat} {P T : Nat → Nat} {m i : Nat} (h : FacF n P T m) (hi : i < m) : ¬ P i ^ (T i + 1) ∣ n := by
  have hp := (h.2.1 i hi).1
  -- n = (others) * P i ^ T i, the others without P i
  have key : ∀ k, k ≤ m → ∃ c, ¬ P i ∣ c ∧ prodF (fun j => P j ^ T j) k = c * (if i < k then P i ^ T i else 1) := by
    intro k
    induction k with
    | zero => intro _; exact ⟨1, fun hd => by have := Nat.le_of_dvd (by decide) hd; have := hp.1; omega, by rw [if_neg (by omega)]; rfl⟩
    | succ k ih =>
      intro hk
      obtain ⟨c, hc, e⟩ := ih (by omega)
      by_cases ek : i = k
      · subst ek
        refine ⟨c, hc, ?_⟩
        show prodF (fun j => P j ^ T j) i * P i ^ T i = _
        rw [e, if_neg (by omega), if_pos (by omega), Nat.mul_one]
      · refine ⟨c * P k ^ T k, fun hd => ?_, ?_⟩
        · rcases pr_dvd_mul hp hd with q | q
          · exact hc q
          · have q2 := pr_eq hp (h.2.1 k (by omega)).1 (pr_dvd_pow hp q)
            rcases Nat.lt_or_gt_of_ne ek with l | l
            · have := h.2.2 i k l (by omega); omega
            · have := h.2.2 k i l hi; omega
        · show prodF (fun j => P j ^ T j) k * P k ^ T k = _
          rw [e]
          by_cases hik : i < k
          · rw [if_pos hik, if_pos (by omega), Nat.mul_right_comm]
          · rw [if_neg hik, if_neg (by omega), Nat.mul_one, Nat.mul_one]
  obtain ⟨c, hc, e⟩ := key m (Nat.le_refl m)
  rw [if_pos hi] at e
  intro hd
  rw [h.1, e, Nat.pow_succ, Nat.mul_comm c] at hd
  exact hc (Nat.dvd_of_mul_dvd_mul_left (Nat.pow_pos (by have := hp.1; omega)) hd)
set_option maxRecDepth 4000 in
theorem spec_X6_leastExponent (l : Launch) (D : va_G) (cy : Nat → ClassId) (ad : Nat → Nat) (sz : Nat) (g : Gs) (a : As) (w : Ws) (p0 : Int32) (p1 : Int32) (hpre : pre_X6_leastExponent g a w p0 p1) : Met l yX6_leastExponent wsX6_leastExponent ({ frames := 3, cells := 0, slots := 0, locals := 70 } : Room) (va_Pc [.ref (ad 0), .int p0, .int p1] (ArP D cy sz (caW ad cy g a w))) (va_Qi (fun (r : Int32) (u : Gs × As × Ws) => (post_X6_leastExponent g a w p0 p1) r u.1 u.2.1 u.2.2) (fun u t => va_P D vwCl (caW ad cy u.1 u.2.1 u.2.2) t.heap) (va_A (caW ad cy g a w) sz)) 0 0 (va_A (caW ad cy g a w) sz) := by
  apply met_X6_leastExponent
  intro J27 J54 h27 h54
  obtain ⟨q0, q1, q2, q3⟩ := hpre
  obtain ⟨x, hx, rfl, -⟩ := of_i q0
  obtain ⟨n, hn, rfl, hn2⟩ := of_i (x := p1) (by omega)
  have tnn : tn (nI n) = n := tn_nI hn
  have tnx : tn (nI x) = x := tn_nI hx
  rw [tnn, tnx] at q3
  refine ⟨⟨by omega, by omega⟩, fun g1 a1 w1 hsp => ?_⟩
  have hF : Fac 0 n g1 a1 := by have := hsp.2.1 (by rw [tnn]; omega); rwa [tnn] at this
  refine ⟨⟨n, hF⟩, fun r hr => ?_⟩
  obtain ⟨lam1, lam2⟩ := lam_le hF.1
  obtain ⟨lamK, -⟩ := lam_fac hF.1 (by omega)
  unfold post_X0_greatestOrder at hr
  generalize lcmF (cyF (PP 0 a1) (TT 0 a1)) (tn (g1 0)) = L at hr lam1 lam2 lamK
  subst hr
  have tnL : tn (nI L) = L := tn_nI (by omega)
  refine ⟨⟨by rw [nI_toInt (by omega)]; omega, by rw [nI_toInt (by omega)]; omega⟩, fun g2 a2 w2 hsp2 => ?_⟩
  have hG : Fac 1 L g2 a2 := by have := hsp2.2.1 (by rw [tnL]; omega); rwa [tnL] at this
  have hFS := (split_FS (by decide) hsp).tr (split_FS (by decide) hsp2)
  obtain ⟨o, ho, -⟩ := ord_ex (by omega) q3
  have hoL : o ∣ L := ord_dvd ho (lamK x q3)
  have h7 := hG.few
  -- on the way: o | e | L, the primes done divide e / o no more, the others stand in full
  have key : ∀ (d k e c : Nat), k + d = tn (g2 1) → e = o * c → 1 ≤ e → e ∣ L → (∀ i, i < k → ¬ PP 1 a2 i ∣ c) → (∀ i, k ≤ i → i < tn (g2 1) → PP 1 a2 i ^ TT 1 a2 i ∣ e) → J27 (nI e) (nI k) g2 a2 w2 := by
    intro d
    induction d with
    | zero =>
      intro k e c hk he he1 heL hdone _
      have heb := Nat.le_of_dvd lam1 heL
      refine h27 _ _ _ _ _ ?_
      rw [hG.2.2.1]
      refine pk_le (tn (g2 1)) k (fun _ => ⟨⟨e, ?_, by rw [tnn]; omega, rfl⟩, hFS⟩) (fun h => absurd h (by omega))
      have hc1 : c = 1 := by
        apply Classical.byContradiction
        intro hne
        have hc0 : c ≠ 0 := fun z => by rw [z, Nat.mul_zero] at he; omega
        obtain ⟨p, pp, pd, -⟩ := pr_ex (n := c) (by omega)
        obtain ⟨i, hi, e1⟩ := fac_prime hG.1 pp (Nat.dvd_trans pd (Nat.dvd_trans ⟨o, by rw [he, Nat.mul_comm]⟩ heL))
        exact hdone i (by omega) (by rw [e1]; exact pd)
      rw [tnn, tnx, he, hc1, Nat.mul_one]
      exact ho
    | succ d ih =>
      intro k e c hk he he1 heL hdone hrest
      have hkm : k < tn (g2 1) := by omega
      obtain ⟨i1, i2, i3, i4, i5, i6, i7, i8, i9⟩ := hG.at hkm
      refine h27 _ _ _ _ _ ?_
      rw [hG.2.2.1]
      refine pk_le (tn (g2 1)) k (fun h => absurd h (by omega)) (fun _ => ⟨i1, ?_⟩)
      rw [show (nI k).toNatClampNeg = k from i2, i3]
      -- the inner loop
      have inner : ∀ (s t e c : Nat), t + s = TT 1 a2 k → e = o * c → 1 ≤ e → e ∣ L → (∀ i, i < k → ¬ PP 1 a2 i ∣ c) → (∀ i, k < i → i < tn (g2 1) → PP 1 a2 i ^ TT 1 a2 i ∣ e) → PP 1 a2 k ^ s ∣ e → PP 1 a2 k ^ t * e ∣ L → J54 (nI e) (nI k) (nI (PP 1 a2 k)) (nI t) g2 a2 w2 := by
        intro s
        induction s with
        | zero =>
          intro t e c ht he he1 heL hdone hrest _ htL
          refine h54 _ _ _ _ _ _ _ (pk_le (PP 1 a2 k) 1 (fun h => absurd h (by omega)) (fun _ => ⟨i1, ?_⟩))
          rw [show (nI k).toNatClampNeg = k from i2, i4]
          refine pk_le (TT 1 a2 k) t (fun _ => ?_) (fun h => absurd h (by omega))
          rw [nI_1]
          refine ih (k + 1) e c (by omega) he he1 heL (fun i hi => ?_) (fun i h1 h2 => hrest i (by omega) h2)
          by_cases ei : i = k
          · subst ei
            intro hd
            -- one power too many
            have h5 : PP 1 a2 i ∣ e := Nat.dvd_trans hd ⟨o, by rw [he, Nat.mul_comm]⟩
            have h6 : PP 1 a2 i ^ (TT 1 a2 i + 1) ∣ L := by
              rw [Nat.pow_succ]
              rw [show t = TT 1 a2 i by omega] at htL
              exact Nat.dvd_trans (Nat.mul_dvd_mul_left _ h5) htL
            exact fac_exact hG.1 hkm h6
          · exact hdone i (by omega)
        | succ s ihs =>
          intro t e c ht he he1 heL hdone hrest hpow htL
          have heb := Nat.le_of_dvd lam1 heL
          have hqe : PP 1 a2 k ∣ e := Nat.dvd_trans ⟨PP 1 a2 k ^ s, by rw [Nat.pow_succ, Nat.mul_comm]⟩ hpow
          obtain ⟨u, hu⟩ := hqe
          have hdiv : e / PP 1 a2 k = u := by rw [hu]; exact Nat.mul_div_cancel_left u (by omega)
          have hu1 : 1 ≤ u := Nat.pos_of_ne_zero (fun z => by rw [z, Nat.mul_zero] at hu; omega)
          have hul : u ≤ e := by
            rw [hu]
            have : 1 * u ≤ PP 1 a2 k * u := Nat.mul_le_mul_right u (by omega)
            omega
          refine h54 _ _ _ _ _ _ _ (pk_le (PP 1 a2 k) 1 (fun h => absurd h (by omega)) (fun _ => ⟨i1, ?_⟩))
          rw [show (nI k).toNatClampNeg = k from i2, i4]
          refine pk_le (TT 1 a2 k) t (fun h => absurd h (by omega)) (fun _ => ⟨nI_nz (by omega) (by omega), ?_⟩)
          rw [pk_div (by omega) (by omega) (by omega), hdiv, nI_l hx, nI_l (by omega)]
          refine ⟨⟨by rw [pk_lT (by omega)]; omega, by rw [pk_lT (by omega)]; omega, by rw [pk_lT (by omega)]; omega, by omega⟩, fun r hr => ?_⟩
          unfold post_X4_raise at hr
          rw [tl_lN (by omega), tl_lN (by omega), tnn] at hr
          subst hr
          have hml := Nat.mod_lt (x ^ u) (show 0 < n by omega)
          refine pk_eq (x ^ u % n) 1 (fun h5 => ?_) (fun h5 => ?_)
          · -- one more step
            have hn2' : 2 ≤ n := by
              apply Classical.byContradiction
              intro hc2
              have : n = 1 := by omega
              subst this
              rw [Nat.mod_one] at h5
              omega
            have hou : o ∣ u := ord_dvd ho (by rw [h5, Nat.mod_eq_of_lt hn2'])
            obtain ⟨c', hc'⟩ := hou
            have hcc : c = c' * PP 1 a2 k := by
              apply Nat.eq_of_mul_eq_mul_left ho.1
              rw [← he, hu, hc', Nat.mul_comm, Nat.mul_assoc]
            rw [nI_1]
            refine ihs (t + 1) u c' (by omega) hc' hu1 (Nat.dvd_trans ⟨PP 1 a2 k, by rw [hu, Nat.mul_comm]⟩ heL) (fun i hi hd => hdone i hi (by rw [hcc]; exact Nat.dvd_trans hd (Nat.dvd_mul_right _ _))) (fun i h1 h2 => ?_) ?_ ?_
            · have h8 := hrest i h1 h2
              rw [hu] at h8
              refine Nat.Coprime.dvd_of_dvd_mul_left ?_ h8
              refine Nat.Coprime.pow_left _ (pr_cop (hG.1.2.1 i h2).1 (fun hd => ?_))
              have h9 := pr_eq (hG.1.2.1 i h2).1 (hG.1.2.1 k hkm).1 hd
              have h10 := hG.1.2.2 k i h1 h2
              omega
            · rw [hu, Nat.pow_succ, Nat.mul_comm (PP 1 a2 k ^ s)] at hpow
              exact Nat.dvd_of_mul_dvd_mul_left (by omega) hpow
            · rw [Nat.pow_succ, Nat.mul_assoc, ← hu]; exact htL
          · rw [nI_1]
            refine ih (k + 1) e c (by omega) he he1 heL (fun i hi => ?_) (fun i h1 h2 => hrest i (by omega) h2)
            by_cases ei : i = k
            · subst ei
              rintro ⟨c', hc'⟩
              apply h5
              have hou : u = o * c' := by
                apply Nat.eq_of_mul_eq_mul_left (show 0 < PP 1 a2 i by omega)
                rw [← hu, he, hc', Nat.mul_left_comm]
              have h11 := pow_one_dvd ho.2.1 (k := u) ⟨c', hou⟩
              have hn2' : 2 ≤ n := by
                apply Classical.byContradiction
                intro hc2
                have hn1 : n = 1 := by omega
                have hL1 : L = 1 := by omega
                have : PP 1 a2 i ^ TT 1 a2 i ≤ L := (fac_at hG.1 hkm).1
                have := (fac_at hG.1 hkm).2.2.2.1
                omega
              rw [h11, Nat.mod_eq_of_lt hn2']
            · exact hdone i (by omega)
      refine inner (TT 1 a2 k) 0 e c (by omega) he he1 heL hdone (fun i h1 h2 => hrest i (by omega) h2) (hrest k (Nat.le_refl k) hkm) ?_
      rw [Nat.pow_zero, Nat.one_mul]
      exact heL
  obtain ⟨c, hc⟩ := hoL
  exact key (tn (g2 1)) 0 L c (by omega) hc lam1 (Nat.dvd_refl L) (fun i h => by omega) (fun i _ h2 => by
    rw [hG.1.1]
    exact prodF_dvd (f := fun i => PP 1 a2 i ^ TT 1 a2 i) h2)
set_option maxHeartbeats 4000000 in
set_option maxRecDepth 100000 in
theorem met_X6_order (l : Launch) (D : va_G) (cy : Nat → ClassId) (ad : Nat → Nat) (sz : Nat) (g : Gs) (a : As) (w : Ws) (p0 : Int32) (p1 : Int32) (post : Int32 → Gs → As → Ws → Prop)
  (hV : ∀ r1 : Int32, post_X6_isDivisor p0 r1 → ((r1 = 0 → post (-1 : Int32) g a w) ∧ (¬ r1 = 0 → ∀ r9 : Int32, post_X6_isRest p1 p0 r9 → ((r9 = 0 → post (-1 : Int32) g a w) ∧ (¬ r9 = 0 → pre_X0_split 0 g a w p0 ∧ (∀ (g22 : Gs) (a22 : As) (w22 : Ws), post_X0_split 0 g a w p0 g22 a22 w22 → pre_X0_sharesWith 0 g22 a22 w22 p1 ∧ (∀ r30 : Int32, post_X0_sharesWith 0 g22 a22 w22 p1 r30 → ((r30 = 0 → pre_X6_leastExponent g22 a22 w22 p1 p0 ∧ (∀ (r44 : Int32) (g44 : Gs) (a44 : As) (w44 : Ws), post_X6_leastExponent g22 a22 w22 p1 p0 r44 g44 a44 w44 → post r44 g44 a44 w44)) ∧ (¬ r30 = 0 → post (-2 : Int32) g22 a22 w22))))))))) :
  Met l yX6_order wsX6_order ({ frames := 4, cells := 0, slots := 0, locals := 96 } : Room) (va_Pc [.ref (ad 0), .int p0, .int p1] (ArP D cy sz (caW ad cy g a w))) (va_Qi (fun (r : Int32) (u : Gs × As × Ws) => post r u.1 u.2.1 u.2.2) (fun u t => va_P D vwCl (caW ad cy u.1 u.2.1 u.2.2) t.heap) (va_A (caW ad cy g a w) sz)) 0 0 (va_A (caW ad cy g a w) sz) := by
  refine Met.ofW (cc := cX6_order) (maxL := 3) (ret := (some .int)) (by decide) rfl ?_
  intro p e s m args below meth c s₁ B hml hv
  obtain ⟨rfl, hsz, hP, hK, hD0, hN⟩ := hv
  have hx := B.exec
  have hb := B.bytes
  have hr := B.returns
  have hts := atoms_spec (ws := wsX6_order) B.pre
  have hown : s.vm.findClass RX6 = some m.cls := findClass_of_methodNamed B.named
  have hlocks := B.notSynchronized
  subst hsz
  have hD := hD0.self (sz := s.heap.size)
  have hP : va_P D vwCl (caW ad cy g a w) s.heap := hP
  have hD : va_D (va_A (caW ad cy g a w) s.heap.size) (caW ad cy g a w) := hD
  have hS : va_S (va_A (caW ad cy g a w) s.heap.size) s.heap s.heap [] := va_S.rf
  have hA : ∀ q : Nat, s.heap.size ≤ q → va_A (caW ad cy g a w) s.heap.size q := fun q h => Or.inr h
  have hl := lv_entry ([.ref (ad 0), .int p0, .int p1]) (n := 3) (Nat.le_of_ble_eq_true rfl)
  rw [lg_entry_eq]
  generalize (lg_sl ([.ref (ad 0), .int p0, .int p1]) ++ List.replicate (3 - (lg_sl ([.ref (ad 0), .int p0, .int p1])).length) Slot.unset).toArray = ls at hl ⊢
  have hl : lv_has ls 3 [(0, .ref (ad 0)), (1, .int p0), (2, .int p1)] := hl
  refine lv_iload_n hx hb dX6_order_0 rfl (lv_at hl 1 rfl) ?_
  refine cp_i (va_runS (As := [.int p0]) (rest := []) ⟨hx, hb, hml, hown, hts⟩ (spec_X6_isDivisor l p0) (va_cwS 1 hts gX6_order_X6_isDivisor rfl rfl rfl (by decide +kernel) ⟨Nat.le_of_ble_eq_true rfl, Nat.le_of_ble_eq_true rfl⟩) cp_pre rfl rfl hl.1 rfl (lv_room (Nat.le_of_ble_eq_true rfl)) dX6_order_1 ⟨Nat.zero_le _, Nat.zero_le _⟩) (fun r1 q_1 => ?_)
  have hV := hV r1 q_1
  refine lv_if_eq (tgt := 15) hx hb dX6_order_4 (by decide) (fun c_4 => ?_) (fun c_4 => ?_)
  · have hV := hV.1 c_4
    refine lv_iconst (v := (-1 : Int32)) hx hb dX6_order_15 (by decide) ?_
    exact W.iret (v := (-1 : Int32)) hx hb hr (fun t ht hW => ⟨⟨_, (g, a, w), rfl, hV, ar_heap ht hP⟩, hS.F ht⟩) hS.2.2 dX6_order_16
  · have hV := hV.2 c_4
    refine lv_iload_n hx hb dX6_order_7 rfl (lv_at hl 2 rfl) ?_
    refine lv_iload_n hx hb dX6_order_8 rfl (lv_at hl 1 rfl) ?_
    refine cp_i (va_runS (As := [.int p1, .int p0]) (rest := []) ⟨hx, hb, hml, hown, hts⟩ (spec_X6_isRest l p1 p0) (va_cwS 2 hts gX6_order_X6_isRest rfl rfl rfl (by decide +kernel) ⟨Nat.le_of_ble_eq_true rfl, Nat.le_of_ble_eq_true rfl⟩) cp_pre rfl rfl hl.1 rfl (lv_room (Nat.le_of_ble_eq_true rfl)) dX6_order_9 ⟨Nat.zero_le _, Nat.zero_le _⟩) (fun r9 q_9 => ?_)
    have hV := hV r9 q_9
    refine lv_if_ne (tgt := 17) hx hb dX6_order_12 (by decide) (fun c_12 => ?_) (fun c_12 => ?_)
    · have hV := hV.2 c_12
      refine lv_aload_n hx hb dX6_order_17 rfl (lv_at hl 0 rfl) ?_
      refine va_get (D := D) (ci := 5) (v := .ref (ad 1)) (C := RX6) (T := TX6) (N := 10) hx hb hts (by decide +kernel) hown hK hP 0 rfl rfl 0 (by decide) (hts (.fieldLink RX6 10 "PowerRests" "ofN" "LPowerRests$Factors;") (by decide +kernel)) (fun _ h9 => h9) rfl dX6_order_18 ?_
      refine lv_iload_n hx hb dX6_order_21 rfl (lv_at hl 1 rfl) ?_
      obtain ⟨h_22, hV⟩ := hV
      refine cw_v (va_runV (As := [.int p0]) (rest := []) ⟨hx, hb, hml, hown, hts⟩ (spec_X0_split l 0 (by decide) D cy ad _ g a w p0 h_22) (cwV 1 hts gX6_order_X0_split rfl rfl rfl (by decide +kernel) ⟨Nat.le_of_ble_eq_true rfl, Nat.le_of_ble_eq_true rfl⟩) (ar_preV hN hK hP (caD hD) (ci := 0) (q0 := 1) rfl rfl) rfl rfl hl.1 rfl (lv_room (Nat.le_of_ble_eq_true rfl)) dX6_order_22 ⟨Nat.zero_le _, Nat.zero_le _⟩) hS (caD hD) hA (fun u_22 H locs q_22 hP hS => ?_)
      obtain ⟨g22, a22, w22⟩ := u_22
      have hV := hV g22 a22 w22 q_22
      have hP : va_P D vwCl (caW ad cy g22 a22 w22) H := hP
      refine lv_aload_n hx hb dX6_order_25 rfl (lv_at hl 0 rfl) ?_
      refine va_get (D := D) (ci := 5) (v := .ref (ad 1)) (C := RX6) (T := TX6) (N := 10) hx hb hts (by decide +kernel) hown hK hP 0 rfl rfl 0 (by decide) (hts (.fieldLink RX6 10 "PowerRests" "ofN" "LPowerRests$Factors;") (by decide +kernel)) (fun _ h9 => h9) rfl dX6_order_26 ?_
      refine lv_iload_n hx hb dX6_order_29 rfl (lv_at hl 2 rfl) ?_
      obtain ⟨h_30, hV⟩ := hV
      refine cp_i (va_runV (As := [.int p1]) (rest := []) ⟨hx, hb, hml, hown, hts⟩ (spec_X0_sharesWith l 0 (by decide) D cy ad _ g22 a22 w22 p1 h_30) (cwV 1 hts gX6_order_X0_sharesWith rfl rfl rfl (by decide +kernel) ⟨Nat.le_of_ble_eq_true rfl, Nat.le_of_ble_eq_true rfl⟩) (ar_preV hN hK hP (caD hD) (ci := 0) (q0 := 1) rfl rfl) rfl rfl hl.1 rfl (lv_room (Nat.le_of_ble_eq_true rfl)) dX6_order_30 ⟨Nat.zero_le _, Nat.zero_le _⟩) (fun r30 q_30 => ?_)
      have hV := hV r30 q_30
      refine lv_if_eq (tgt := 41) hx hb dX6_order_33 (by decide) (fun c_33 => ?_) (fun c_33 => ?_)
      · have hV := hV.1 c_33
        refine lv_aload_n hx hb dX6_order_41 rfl (lv_at hl 0 rfl) ?_
        refine lv_iload_n hx hb dX6_order_42 rfl (lv_at hl 2 rfl) ?_
        refine lv_iload_n hx hb dX6_order_43 rfl (lv_at hl 1 rfl) ?_
        obtain ⟨h_44, hV⟩ := hV
        refine cw_i (va_runV (As := [.int p1, .int p0]) (rest := []) ⟨hx, hb, hml, hown, hts⟩ (spec_X6_leastExponent l D cy ad _ g22 a22 w22 p1 p0 h_44) (cwV 2 hts gX6_order_X6_leastExponent rfl rfl rfl (by decide +kernel) ⟨Nat.le_of_ble_eq_true rfl, Nat.le_of_ble_eq_true rfl⟩) (ar_preV hN hK hP (caD hD) (ci := 5) (q0 := 0) rfl rfl) rfl rfl hl.1 rfl (lv_room (Nat.le_of_ble_eq_true rfl)) dX6_order_44 ⟨Nat.zero_le _, Nat.zero_le _⟩) hS (caD hD) hA (fun r44 u_44 H locs q_44 hP hS => ?_)
        obtain ⟨g44, a44, w44⟩ := u_44
        have hV := hV r44 g44 a44 w44 q_44
        have hP : va_P D vwCl (caW ad cy g44 a44 w44) H := hP
        exact W.iret (v := r44) hx hb hr (fun t ht hW => ⟨⟨_, (g44, a44, w44), rfl, hV, ar_heap ht hP⟩, hS.F ht⟩) hS.2.2 dX6_order_47
      · have hV := hV.2 c_33
        refine lv_bipush (v := (-2 : Int32)) hx hb dX6_order_36 (by decide) ?_
        refine lv_goto (tgt := 47) hx hb dX6_order_38 (by decide) ?_
        exact W.iret (v := (-2 : Int32)) hx hb hr (fun t ht hW => ⟨⟨_, (g22, a22, w22), rfl, hV, ar_heap ht hP⟩, hS.F ht⟩) hS.2.2 dX6_order_47
    · have hV := hV.1 c_12
      refine lv_iconst (v := (-1 : Int32)) hx hb dX6_order_15 (by decide) ?_
      exact W.iret (v := (-1 : Int32)) hx hb hr (fun t ht hW => ⟨⟨_, (g, a, w), rfl, hV, ar_heap ht hP⟩, hS.F ht⟩) hS.2.2 dX6_order_16
def OrderAns (n a r : Int32) : Prop := ((¬ Dv n ∨ ¬ Rs a n) ∧ r = -1) ∨ ((Dv n ∧ Rs a n) ∧ ((¬ Nat.Coprime (tn n) (tn a) ∧ r = -2) ∨ (Nat.Coprime (tn n) (tn a) ∧ ∃ e, IsOrd (tn n) (tn a) e ∧ r = nI e)))
def post_X6_order (g : Gs) (a : As) (w : Ws) (p0 p1 r : Int32) (g' : Gs) (a' : As) (w' : Ws) : Prop := OrderAns p0 p1 r ∧ FS g a w g' a' w'
set_option maxRecDepth 4000 in
theorem spec_X6_order (l : Launch) (D : va_G) (cy : Nat → ClassId) (ad : Nat → Nat) (sz : Nat) (g : Gs) (a : As) (w : Ws) (p0 : Int32) (p1 : Int32) : Met l yX6_order wsX6_order ({ frames := 4, cells := 0, slots := 0, locals := 96 } : Room) (va_Pc [.ref (ad 0), .int p0, .int p1] (ArP D cy sz (caW ad cy g a w))) (va_Qi (fun (r : Int32) (u : Gs × As × Ws) => (post_X6_order g a w p0 p1) r u.1 u.2.1 u.2.2) (fun u t => va_P D vwCl (caW ad cy u.1 u.2.1 u.2.2) t.heap) (va_A (caW ad cy g a w) sz)) 0 0 (va_A (caW ad cy g a w) sz) := by
  apply met_X6_order
  intro r hr
  unfold post_X6_isDivisor at hr
  subst hr
  refine ⟨fun h => ⟨Or.inl ⟨Or.inl (zb_0 h), rfl⟩, FS.rf⟩, fun h r2 hr2 => ?_⟩
  unfold post_X6_isRest at hr2
  subst hr2
  refine ⟨fun h2 => ⟨Or.inl ⟨Or.inr (zb_0 h2), rfl⟩, FS.rf⟩, fun h2 => ?_⟩
  have hdv : Dv p0 := zb_1 h
  have hrs : Rs p1 p0 := zb_1 h2
  obtain ⟨d1, d2⟩ := id hdv
  obtain ⟨s1, s2⟩ := id hrs
  refine ⟨⟨by omega, by omega⟩, fun g1 a1 w1 hsp => ?_⟩
  have hn1 : 1 ≤ tn p0 := by show 1 ≤ p0.toInt.toNat; omega
  have hF := hsp.2.1 hn1
  have hFS := split_FS (by decide) hsp
  refine ⟨⟨s1, _, hF⟩, fun r3 hr3 => ?_⟩
  unfold post_X0_sharesWith at hr3
  rw [zb_c (fac_shares hF.1)] at hr3
  subst hr3
  refine ⟨fun h3 => ?_, fun h3 => ⟨Or.inr ⟨⟨hdv, hrs⟩, Or.inl ⟨zb_1 h3, rfl⟩⟩, hFS⟩⟩
  have hc : Nat.Coprime (tn p0) (tn p1) := Classical.not_not.mp (zb_0 h3)
  refine ⟨⟨s1, by omega, by omega, hc⟩, fun r4 g4 a4 w4 h4 => ?_⟩
  obtain ⟨⟨e, ho, -, rfl⟩, hFS2⟩ := h4
  exact ⟨Or.inr ⟨⟨hdv, hrs⟩, Or.inr ⟨hc, e, ho, rfl⟩⟩, hFS.tr hFS2⟩
