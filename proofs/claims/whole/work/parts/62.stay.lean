/-! letters that stay -/
def SB (e n x : Nat) : Bool := decide (x ^ e % n = x % n)
theorem SB_mul (e m k a : Nat) (hc : Nat.Coprime m k) : SB e (m * k) a = (SB e m (a % m) && SB e k (a % k)) := by
  unfold SB
  rw [← Nat.pow_mod, ← Nat.pow_mod, Nat.mod_mod, Nat.mod_mod, ← Bool.decide_and]
  exact decide_eq_decide.mpr (md_split hc)
theorem pr_two_cop {p q : Nat} (hp : Pr p) (hq : Pr q) (h : p ≠ q) : Nat.Coprime p q := pr_cop hp (fun hd => h (pr_eq hp hq hd))
theorem SB_ct {e p q : Nat} (hp : Pr p) (hq : Pr q) (h : p ≠ q) : fb_ct (SB e (p * q)) (p * q) = fb_ct (SB e p) p * fb_ct (SB e q) q := by
  have h1 := hp.1
  have h2 := hq.1
  rw [← ct_crt (SB e p) (SB e q) (pr_two_cop hp hq h) (by omega) (by omega)]
  exact fb_ct_cong (fun a _ => SB_mul e p q a (pr_two_cop hp hq h))
def StayAns (p q e i r : Int32) : Prop := (¬ (Keys p q e ∧ -1 ≤ i.toInt) ∧ r = -1) ∨ ((Keys p q e ∧ -1 ≤ i.toInt) ∧ ((¬ Free p q e ∧ r = -2) ∨ (Free p q e ∧ Ith (SB (tn e) (tn p * tn q)) (tn p * tn q) i r)))
theorem StayAns.one {p q e i r r' : Int32} (h : StayAns p q e i r) (h' : StayAns p q e i r') : r = r' := by
  rcases h with ⟨h1, h2⟩ | ⟨h1, h2⟩ <;> rcases h' with ⟨k1, k2⟩ | ⟨k1, k2⟩
  · rw [h2, k2]
  · exact absurd k1 h1
  · exact absurd h1 k1
  · rcases h2 with ⟨q1, q2⟩ | ⟨q1, d⟩ <;> rcases k2 with ⟨r1, r2⟩ | ⟨r1, x⟩
    · rw [q2, r2]
    · exact absurd r1 q1
    · exact absurd q1 r1
    · exact d.one x
def pre_X6_markStaying (g : Gs) (a : As) (w : Ws) (p0 p1 p2 : Int32) : Prop := 2 ≤ p0.toInt ∧ p0.toInt ≤ 199 ∧ 1 ≤ p1.toInt ∧ p1.toInt ≤ 100000 ∧ 0 ≤ p2.toInt ∧ p2.toInt ≤ 199
set_option maxHeartbeats 4000000 in
set_option maxRecDepth 100000 in
theorem met_X6_markStaying (l : Launch) (D : va_G) (cy : Nat → ClassId) (ad : Nat → Nat) (sz : Nat) (g : Gs) (a : As) (w : Ws) (p0 : Int32) (p1 : Int32) (p2 : Int32) (post : Int32 → Gs → As → Ws → Prop)
  (hV : ∀ (J6 : Int32 → Int32 → Gs → As → Ws → Prop),
    (∀ (x4 : Int32) (x5 : Int32) (g_ : Gs) (a_ : As) (w_ : Ws), ((p0 ≤ x5 → post x4 g_ a_ w_) ∧ (¬ p0 ≤ x5 → pre_X4_raise x5.toInt64 p1.toInt64 p0 ∧ (∀ r18 : Int32, post_X4_raise x5.toInt64 p1.toInt64 p0 r18 → ((r18 = x5 → pre_X3_put g_ a_ w_ (p2 + x5) ∧ (∀ (g34 : Gs) (a34 : As) (w34 : Ws), post_X3_put g_ a_ w_ (p2 + x5) g34 a34 w34 → J6 (x4 + 1) (x5 + 1) g34 a34 w34)) ∧ (¬ r18 = x5 → J6 x4 (x5 + 1) g_ a_ w_))))) → J6 x4 x5 g_ a_ w_) →
    J6 (0 : Int32) (0 : Int32) g a w) :
  Met l yX6_markStaying wsX6_markStaying ({ frames := 1, cells := 0, slots := 0, locals := 31 } : Room) (va_Pc [.ref (ad 0), .int p0, .int p1, .int p2] (ArP D cy sz (caW ad cy g a w))) (va_Qi (fun (r : Int32) (u : Gs × As × Ws) => post r u.1 u.2.1 u.2.2) (fun u t => va_P D vwCl (caW ad cy u.1 u.2.1 u.2.2) t.heap) (va_A (caW ad cy g a w) sz)) 0 0 (va_A (caW ad cy g a w) sz) := by
  refine Met.ofW (cc := cX6_markStaying) (maxL := 6) (ret := (some .int)) (by decide) rfl ?_
  intro p e s m args below meth c s₁ B hml hv
  obtain ⟨rfl, hsz, hP, hK, hD0, hN⟩ := hv
  have hx := B.exec
  have hb := B.bytes
  have hr := B.returns
  have hts := atoms_spec (ws := wsX6_markStaying) B.pre
  have hown : s.vm.findClass RX6 = some m.cls := findClass_of_methodNamed B.named
  have hlocks := B.notSynchronized
  subst hsz
  have hD := hD0.self (sz := s.heap.size)
  have hP : va_P D vwCl (caW ad cy g a w) s.heap := hP
  have hD : va_D (va_A (caW ad cy g a w) s.heap.size) (caW ad cy g a w) := hD
  have hS : va_S (va_A (caW ad cy g a w) s.heap.size) s.heap s.heap [] := va_S.rf
  have hA : ∀ q : Nat, s.heap.size ≤ q → va_A (caW ad cy g a w) s.heap.size q := fun q h => Or.inr h
  obtain ⟨J6, iJ6, oJ6⟩ : ∃ J : Int32 → Int32 → Gs → As → Ws → Prop, (∀ (x4 : Int32) (x5 : Int32) (g_ : Gs) (a_ : As) (w_ : Ws), (∀ (H : Heap) (locs : List Loc), va_P D vwCl (caW ad cy g_ a_ w_) H → va_S (va_A (caW ad cy g a w) s.heap.size) s.heap H locs → ∀ ls : Array Slot, lv_has ls 6 [(0, .ref (ad 0)), (1, .int p0), (2, .int p1), (3, .int p2), (4, .int x4), (5, .int x5)] → W p l e (headSpec wsX6_markStaying ({ frames := 1, cells := 0, slots := 0, locals := 31 } : Room)).room s m [.ref (ad 0), .int p0, .int p1, .int p2].toArray below meth c H locs 0 0 (MQ below (va_Qi (fun (r : Int32) (u : Gs × As × Ws) => post r u.1 u.2.1 u.2.2) (fun u t => va_P D vwCl (caW ad cy u.1 u.2.1 u.2.2) t.heap) (va_A (caW ad cy g a w) s.heap.size)) [.ref (ad 0), .int p0, .int p1, .int p2].toArray s 0 0 (va_A (caW ad cy g a w) s.heap.size)) (F0 m 6 ls [])) → J x4 x5 g_ a_ w_) ∧ (∀ (x4 : Int32) (x5 : Int32) (g_ : Gs) (a_ : As) (w_ : Ws), J x4 x5 g_ a_ w_ → (∀ (H : Heap) (locs : List Loc), va_P D vwCl (caW ad cy g_ a_ w_) H → va_S (va_A (caW ad cy g a w) s.heap.size) s.heap H locs → ∀ ls : Array Slot, lv_has ls 6 [(0, .ref (ad 0)), (1, .int p0), (2, .int p1), (3, .int p2), (4, .int x4), (5, .int x5)] → W p l e (headSpec wsX6_markStaying ({ frames := 1, cells := 0, slots := 0, locals := 31 } : Room)).room s m [.ref (ad 0), .int p0, .int p1, .int p2].toArray below meth c H locs 0 0 (MQ below (va_Qi (fun (r : Int32) (u : Gs × As × Ws) => post r u.1 u.2.1 u.2.2) (fun u t => va_P D vwCl (caW ad cy u.1 u.2.1 u.2.2) t.heap) (va_A (caW ad cy g a w) s.heap.size)) [.ref (ad 0), .int p0, .int p1, .int p2].toArray s 0 0 (va_A (caW ad cy g a w) s.heap.size)) (F0 m 6 ls []))) := ⟨fun (x4 : Int32) (x5 : Int32) (g_ : Gs) (a_ : As) (w_ : Ws) => (∀ (H : Heap) (locs : List Loc), va_P D vwCl (caW ad cy g_ a_ w_) H → va_S (va_A (caW ad cy g a w) s.heap.size) s.heap H locs → ∀ ls : Array Slot, lv_has ls 6 [(0, .ref (ad 0)), (1, .int p0), (2, .int p1), (3, .int p2), (4, .int x4), (5, .int x5)] → W p l e (headSpec wsX6_markStaying ({ frames := 1, cells := 0, slots := 0, locals := 31 } : Room)).room s m [.ref (ad 0), .int p0, .int p1, .int p2].toArray below meth c H locs 0 0 (MQ below (va_Qi (fun (r : Int32) (u : Gs × As × Ws) => post r u.1 u.2.1 u.2.2) (fun u t => va_P D vwCl (caW ad cy u.1 u.2.1 u.2.2) t.heap) (va_A (caW ad cy g a w) s.heap.size)) [.ref (ad 0), .int p0, .int p1, .int p2].toArray s 0 0 (va_A (caW ad cy g a w) s.heap.size)) (F0 m 6 ls [])), fun _ _ _ _ _ h => h, fun _ _ _ _ _ h => h⟩
  have hV := hV J6
  replace hV := hV (by
    intro x4 x5 g_ a_ w_ hV
    refine iJ6 x4 x5 g_ a_ w_ ?_
    intro H locs hP hS ls hl
    refine lv_iload hx hb dX6_markStaying_6 (lv_at hl 5 rfl) ?_
    refine lv_iload_n hx hb dX6_markStaying_8 rfl (lv_at hl 1 rfl) ?_
    refine lv_icmp_ge (tgt := 46) hx hb dX6_markStaying_9 (by decide) (fun c_9 => ?_) (fun c_9 => ?_)
    · have hV := hV.1 c_9
      refine lv_iload hx hb dX6_markStaying_46 (lv_at hl 4 rfl) ?_
      exact W.iret (v := x4) hx hb hr (fun t ht hW => ⟨⟨_, (g_, a_, w_), rfl, hV, ar_heap ht hP⟩, hS.F ht⟩) hS.2.2 dX6_markStaying_48
    · have hV := hV.2 c_9
      refine lv_iload hx hb dX6_markStaying_12 (lv_at hl 5 rfl) ?_
      refine lv_i2l (v := x5.toInt64) hx hb dX6_markStaying_14 rfl ?_
      refine lv_iload_n hx hb dX6_markStaying_15 rfl (lv_at hl 2 rfl) ?_
      refine lv_i2l (v := p1.toInt64) hx hb dX6_markStaying_16 rfl ?_
      refine lv_iload_n hx hb dX6_markStaying_17 rfl (lv_at hl 1 rfl) ?_
      obtain ⟨h_18, hV⟩ := hV
      refine cp_i (va_runS (As := [.long x5.toInt64, .long p1.toInt64, .int p0]) (rest := []) ⟨hx, hb, hml, hown, hts⟩ (spec_X4_raise l x5.toInt64 p1.toInt64 p0 h_18) (va_cwS 3 hts gX6_markStaying_X4_raise rfl rfl rfl (by decide +kernel) ⟨Nat.le_of_ble_eq_true rfl, Nat.le_of_ble_eq_true rfl⟩) cp_pre rfl rfl hl.1 rfl (lv_room (Nat.le_of_ble_eq_true rfl)) dX6_markStaying_18 ⟨Nat.zero_le _, Nat.zero_le _⟩) (fun r18 q_18 => ?_)
      have hV := hV r18 q_18
      refine lv_iload hx hb dX6_markStaying_21 (lv_at hl 5 rfl) ?_
      refine lv_icmp_ne (tgt := 40) hx hb dX6_markStaying_23 (by decide) (fun c_23 => ?_) (fun c_23 => ?_)
      · have hV := hV.2 c_23
        refine lv_iinc (v := x5 + 1) (lv' := [(5, .int (x5 + 1)), (0, .ref (ad 0)), (1, .int p0), (2, .int p1), (3, .int p2), (4, .int x4)]) hx hb dX6_markStaying_40 hl (k := 5) rfl rfl (by decide) rfl (fun ls hl => ?_)
        refine lv_goto (tgt := 6) hx hb dX6_markStaying_43 (by decide) ?_
        exact oJ6 _ _ _ _ _ hV _ _ hP hS _ (lv_sub hl [1, 2, 3, 4, 5, 0] rfl)
      · have hV := hV.1 c_23
        refine lv_aload_n hx hb dX6_markStaying_26 rfl (lv_at hl 0 rfl) ?_
        refine va_get (D := D) (ci := 5) (v := .ref (ad 7)) (C := RX6) (T := TX6) (N := 10) hx hb hts (by decide +kernel) hown hK hP 0 rfl rfl 2 (by decide) (hts (.fieldLink RX6 22 "PowerRests" "marks" "LPowerRests$Marks;") (by decide +kernel)) (fun _ h9 => h9) rfl dX6_markStaying_27 ?_
        refine lv_iload_n hx hb dX6_markStaying_30 rfl (lv_at hl 3 rfl) ?_
        refine lv_iload hx hb dX6_markStaying_31 (lv_at hl 5 rfl) ?_
        refine lv_iadd hx hb dX6_markStaying_33 ?_
        obtain ⟨h_34, hV⟩ := hV
        refine cw_v (va_runV (As := [.int (p2 + x5)]) (rest := []) ⟨hx, hb, hml, hown, hts⟩ (spec_X3_put l D cy ad _ g_ a_ w_ (p2 + x5) h_34) (cwV 1 hts gX6_markStaying_X3_put rfl rfl rfl (by decide +kernel) ⟨Nat.le_of_ble_eq_true rfl, Nat.le_of_ble_eq_true rfl⟩) (ar_preV hN hK hP (caD hD) (ci := 3) (q0 := 7) rfl rfl) rfl rfl hl.1 rfl (lv_room (Nat.le_of_ble_eq_true rfl)) dX6_markStaying_34 ⟨Nat.zero_le _, Nat.zero_le _⟩) hS (caD hD) hA (fun u_34 H locs q_34 hP hS => ?_)
        obtain ⟨g34, a34, w34⟩ := u_34
        have hV := hV g34 a34 w34 q_34
        have hP : va_P D vwCl (caW ad cy g34 a34 w34) H := hP
        refine lv_iinc (v := x4 + 1) (lv' := [(4, .int (x4 + 1)), (0, .ref (ad 0)), (1, .int p0), (2, .int p1), (3, .int p2), (5, .int x5)]) hx hb dX6_markStaying_37 hl (k := 4) rfl rfl (by decide) rfl (fun ls hl => ?_)
        refine lv_iinc (v := x5 + 1) (lv' := [(5, .int (x5 + 1)), (4, .int (x4 + 1)), (0, .ref (ad 0)), (1, .int p0), (2, .int p1), (3, .int p2)]) hx hb dX6_markStaying_40 hl (k := 5) rfl rfl (by decide) rfl (fun ls hl => ?_)
        refine lv_goto (tgt := 6) hx hb dX6_markStaying_43 (by decide) ?_
        exact oJ6 _ _ _ _ _ hV _ _ hP hS _ (lv_sub hl [2, 3, 4, 5, 1, 0] rfl))
  have hl := lv_entry ([.ref (ad 0), .int p0, .int p1, .int p2]) (n := 6) (Nat.le_of_ble_eq_true rfl)
  rw [lg_entry_eq]
  generalize (lg_sl ([.ref (ad 0), .int p0, .int p1, .int p2]) ++ List.replicate (6 - (lg_sl ([.ref (ad 0), .int p0, .int p1, .int p2])).length) Slot.unset).toArray = ls at hl ⊢
  have hl : lv_has ls 6 [(0, .ref (ad 0)), (1, .int p0), (2, .int p1), (3, .int p2)] := hl
  refine lv_iconst (v := (0 : Int32)) hx hb dX6_markStaying_0 (by decide) ?_
  refine lv_istore (lv' := [(4, .int (0 : Int32)), (0, .ref (ad 0)), (1, .int p0), (2, .int p1), (3, .int p2)]) hx hb dX6_markStaying_1 hl (by decide) rfl (fun ls hl => ?_)
  refine lv_iconst (v := (0 : Int32)) hx hb dX6_markStaying_3 (by decide) ?_
  refine lv_istore (lv' := [(5, .int (0 : Int32)), (4, .int (0 : Int32)), (0, .ref (ad 0)), (1, .int p0), (2, .int p1), (3, .int p2)]) hx hb dX6_markStaying_4 hl (by decide) rfl (fun ls hl => ?_)
  exact oJ6 _ _ _ _ _ hV _ _ hP hS _ (lv_sub hl [2, 3, 4, 5, 1, 0] rfl)
/-- marked beside: those of S -/
def Put (S : Nat → Prop) (g : Gs) (a : As) (w : Ws) (g' : Gs) (a' : As) (w' : Ws) : Prop := g' = g ∧ a' = a ∧ ∃ f, w' = va_up w 8 f ∧ ∀ x, x < 50000 → (mB f x = true ↔ (S x ∨ mB (w 8) x = true))
def StS (e p off N x : Nat) : Prop := ∃ y, y < N ∧ SB e p y = true ∧ x = off + y
def post_X6_markStaying (g : Gs) (a : As) (w : Ws) (p0 p1 p2 r : Int32) (g' : Gs) (a' : As) (w' : Ws) : Prop := r = nI (fb_ct (SB (tn p1) (tn p0)) (tn p0)) ∧ Put (StS (tn p1) (tn p0) (tn p2) (tn p0)) g a w g' a' w'
set_option maxRecDepth 4000 in
theorem spec_X6_markStaying (l : Launch) (D : va_G) (cy : Nat → ClassId) (ad : Nat → Nat) (sz : Nat) (g : Gs) (a : As) (w : Ws) (p0 : Int32) (p1 : Int32) (p2 : Int32) (hpre : pre_X6_markStaying g a w p0 p1 p2) : Met l yX6_markStaying wsX6_markStaying ({ frames := 1, cells := 0, slots := 0, locals := 31 } : Room) (va_Pc [.ref (ad 0), .int p0, .int p1, .int p2] (ArP D cy sz (caW ad cy g a w))) (va_Qi (fun (r : Int32) (u : Gs × As × Ws) => (post_X6_markStaying g a w p0 p1 p2) r u.1 u.2.1 u.2.2) (fun u t => va_P D vwCl (caW ad cy u.1 u.2.1 u.2.2) t.heap) (va_A (caW ad cy g a w) sz)) 0 0 (va_A (caW ad cy g a w) sz) := by
  apply met_X6_markStaying
  intro J hJ
  obtain ⟨h0, h1, h2, h3, h4, h5⟩ := hpre
  obtain ⟨p, hp, rfl, hp2⟩ := of_i (x := p0) (by omega)
  obtain ⟨e, he, rfl, he2⟩ := of_i (x := p1) (by omega)
  obtain ⟨o, ho, rfl, ho2⟩ := of_i (x := p2) (by omega)
  have key : ∀ (d k : Nat) (w1 : Ws), k + d = p → Put (StS e p o k) g a w g a w1 → J (nI (fb_ct (SB e p) k)) (nI k) g a w1 := by
    intro d
    induction d with
    | zero =>
      intro k w1 hk hP
      have : k = p := by omega
      subst this
      refine hJ _ _ _ _ _ (pk_le k k (fun _ => ⟨?_, ?_⟩) (fun h => absurd h (by omega)))
      · rw [tn_nI hp, tn_nI he]
      · rw [tn_nI hp, tn_nI he, tn_nI ho]; exact hP
    | succ d ih =>
      intro k w1 hk hP
      have hle := fb_ct_le (SB e p) k
      have iK : (nI k).toInt = k := nI_toInt (by omega)
      refine hJ _ _ _ _ _ (pk_le p k (fun h => absurd h (by omega)) (fun _ => ?_))
      rw [nI_l (by omega), nI_l (by omega)]
      refine ⟨⟨by rw [pk_lT (by omega)]; omega, by rw [pk_lT (by omega)]; omega, by rw [pk_lT (by omega)]; omega, by omega⟩, fun r hr => ?_⟩
      unfold post_X4_raise at hr
      rw [tl_lN (by omega), tl_lN (by omega), tn_nI hp] at hr
      subst hr
      have hml := Nat.mod_lt (k ^ e) (show 0 < p by omega)
      have hkp : k % p = k := Nat.mod_eq_of_lt (by omega)
      obtain ⟨-, -, f, rfl, hf⟩ := hP
      refine pk_eq (k ^ e % p) k (fun q => ?_) (fun q => ?_) rfl rfl (by omega) (by omega)
      · have hS : SB e p k = true := decide_eq_true (by rw [hkp]; exact q)
        rw [nI_add]
        refine ⟨⟨by rw [nI_toInt (by omega)]; omega, by rw [nI_toInt (by omega)]; omega⟩, fun g2 a2 w2 hpt => ?_⟩
        obtain ⟨e1, e2, f3, e3, hf3⟩ := hpt
        rw [up_0, tn_nI (by omega)] at hf3
        rw [e1, e2, e3, up_up, nI_1, nI_1, show fb_ct (SB e p) k + 1 = fb_ct (SB e p) (k + 1) by rw [fb_ct_succ, if_pos hS]]
        refine ih (k + 1) _ (by omega) ⟨rfl, rfl, f3, rfl, fun x hx => ?_⟩
        rw [hf3 x, Bool.or_eq_true, decide_eq_true_iff, hf x hx]
        constructor
        · rintro ((⟨y, y1, y2, y3⟩ | z) | z)
          · exact Or.inl ⟨y, by omega, y2, y3⟩
          · exact Or.inr z
          · exact Or.inl ⟨k, by omega, hS, z⟩
        · rintro (⟨y, y1, y2, y3⟩ | z)
          · by_cases hyk : y = k
            · exact Or.inr (by rw [y3, hyk])
            · exact Or.inl (Or.inl ⟨y, by omega, y2, y3⟩)
          · exact Or.inl (Or.inr z)
      · have hS : ¬ SB e p k = true := fun z => q (by have := of_decide_eq_true z; rwa [hkp] at this)
        rw [nI_1, show fb_ct (SB e p) k = fb_ct (SB e p) (k + 1) by rw [fb_ct_succ, if_neg hS, Nat.add_zero]]
        refine ih (k + 1) _ (by omega) ⟨rfl, rfl, f, rfl, fun x hx => ?_⟩
        rw [hf x hx]
        constructor
        · rintro (⟨y, y1, y2, y3⟩ | z)
          · exact Or.inl ⟨y, by omega, y2, y3⟩
          · exact Or.inr z
        · rintro (⟨y, y1, y2, y3⟩ | z)
          · have : y ≠ k := fun h => hS (h ▸ y2)
            exact Or.inl ⟨y, by omega, y2, y3⟩
          · exact Or.inr z
  exact key p 0 w (by omega) ⟨rfl, rfl, w 8, (up_id w 8).symm, fun x hx => ⟨fun z => Or.inr z, fun z => z.elim (fun ⟨y, y1, _⟩ => absurd y1 (Nat.not_lt_zero y)) id⟩⟩
def pre_X6_stayingLetter (g : Gs) (a : As) (w : Ws) (p0 p1 p2 : Int32) : Prop := 2 ≤ p0.toInt ∧ p0.toInt ≤ 199 ∧ 2 ≤ p1.toInt ∧ p1.toInt ≤ 199 ∧ 0 ≤ p2.toInt
set_option maxHeartbeats 4000000 in
set_option maxRecDepth 100000 in
theorem met_X6_stayingLetter (l : Launch) (D : va_G) (cy : Nat → ClassId) (ad : Nat → Nat) (sz : Nat) (g : Gs) (a : As) (w : Ws) (p0 : Int32) (p1 : Int32) (p2 : Int32) (post : Int32 → Prop)
  (hV : ∀ (J6 : Int32 → Int32 → Prop),
    (∀ (x4 : Int32) (x5 : Int32), (((p0 * p1) ≤ x5 → post (-4 : Int32)) ∧ (¬ (p0 * p1) ≤ x5 → ∀ r22 : Int32, post_X4_rest x5.toInt64 p0 r22 → pre_X3_has g a w r22 ∧ (∀ r25 : Int32, post_X3_has g a w r22 r25 → ((r25 = 0 → J6 x4 (x5 + 1)) ∧ (¬ r25 = 0 → ∀ r40 : Int32, post_X4_rest x5.toInt64 p1 r40 → pre_X3_has g a w (p0 + r40) ∧ (∀ r44 : Int32, post_X3_has g a w (p0 + r40) r44 → ((r44 = 0 → J6 x4 (x5 + 1)) ∧ (¬ r44 = 0 → ((x4 = p2 → post x5) ∧ (¬ x4 = p2 → J6 (x4 + 1) (x5 + 1))))))))))) → J6 x4 x5) →
    J6 (0 : Int32) (0 : Int32)) :
  Met l yX6_stayingLetter wsX6_stayingLetter ({ frames := 1, cells := 0, slots := 0, locals := 22 } : Room) (va_Pc [.ref (ad 0), .int p0, .int p1, .int p2] (ArP D cy sz (caW ad cy g a w))) (Qpi post) 0 0 noF := by
  refine Met.ofW (cc := cX6_stayingLetter) (maxL := 6) (ret := (some .int)) (by decide) rfl ?_
  intro p e s m args below meth c s₁ B hml hv
  obtain ⟨rfl, hsz, hP, hK, hD0, hN⟩ := hv
  have hx := B.exec
  have hb := B.bytes
  have hr := B.returns
  have hts := atoms_spec (ws := wsX6_stayingLetter) B.pre
  have hown : s.vm.findClass RX6 = some m.cls := findClass_of_methodNamed B.named
  have hlocks := B.notSynchronized
  subst hsz
  have hP : va_P D vwCl (caW ad cy g a w) s.heap := hP
  have hD : va_D (fun _ => True) (caW ad cy g a w) := hD0
  obtain ⟨J6, iJ6, oJ6⟩ : ∃ J : Int32 → Int32 → Prop, (∀ (x4 : Int32) (x5 : Int32), (∀ ls : Array Slot, lv_has ls 6 [(0, .ref (ad 0)), (1, .int p0), (2, .int p1), (3, .int p2), (4, .int x4), (5, .int x5)] → W p l e (headSpec wsX6_stayingLetter ({ frames := 1, cells := 0, slots := 0, locals := 22 } : Room)).room s m [.ref (ad 0), .int p0, .int p1, .int p2].toArray below meth c s.heap [] 0 0 (MQ below (Qpi post) [.ref (ad 0), .int p0, .int p1, .int p2].toArray s 0 0 noF) (F0 m 6 ls [])) → J x4 x5) ∧ (∀ (x4 : Int32) (x5 : Int32), J x4 x5 → (∀ ls : Array Slot, lv_has ls 6 [(0, .ref (ad 0)), (1, .int p0), (2, .int p1), (3, .int p2), (4, .int x4), (5, .int x5)] → W p l e (headSpec wsX6_stayingLetter ({ frames := 1, cells := 0, slots := 0, locals := 22 } : Room)).room s m [.ref (ad 0), .int p0, .int p1, .int p2].toArray below meth c s.heap [] 0 0 (MQ below (Qpi post) [.ref (ad 0), .int p0, .int p1, .int p2].toArray s 0 0 noF) (F0 m 6 ls []))) := ⟨fun (x4 : Int32) (x5 : Int32) => (∀ ls : Array Slot, lv_has ls 6 [(0, .ref (ad 0)), (1, .int p0), (2, .int p1), (3, .int p2), (4, .int x4), (5, .int x5)] → W p l e (headSpec wsX6_stayingLetter ({ frames := 1, cells := 0, slots := 0, locals := 22 } : Room)).room s m [.ref (ad 0), .int p0, .int p1, .int p2].toArray below meth c s.heap [] 0 0 (MQ below (Qpi post) [.ref (ad 0), .int p0, .int p1, .int p2].toArray s 0 0 noF) (F0 m 6 ls [])), fun _ _ h => h, fun _ _ h => h⟩
  have hV := hV J6
  replace hV := hV (by
    intro x4 x5 hV
    refine iJ6 x4 x5 ?_
    intro ls hl
    refine lv_iload hx hb dX6_stayingLetter_6 (lv_at hl 5 rfl) ?_
    refine lv_iload_n hx hb dX6_stayingLetter_8 rfl (lv_at hl 1 rfl) ?_
    refine lv_iload_n hx hb dX6_stayingLetter_9 rfl (lv_at hl 2 rfl) ?_
    refine lv_imul hx hb dX6_stayingLetter_10 ?_
    refine lv_icmp_ge (tgt := 68) hx hb dX6_stayingLetter_11 (by decide) (fun c_11 => ?_) (fun c_11 => ?_)
    · have hV := hV.1 c_11
      refine lv_bipush (v := (-4 : Int32)) hx hb dX6_stayingLetter_68 (by decide) ?_
      exact W.iret (v := (-4 : Int32)) hx hb hr (fun t ht hW => ⟨_, rfl, hV, ht⟩) (fun _ h => by cases h) dX6_stayingLetter_70
    · have hV := hV.2 c_11
      refine lv_aload_n hx hb dX6_stayingLetter_14 rfl (lv_at hl 0 rfl) ?_
      refine va_get (D := D) (ci := 5) (v := .ref (ad 7)) (C := RX6) (T := TX6) (N := 10) hx hb hts (by decide +kernel) hown hK hP 0 rfl rfl 2 (by decide) (hts (.fieldLink RX6 22 "PowerRests" "marks" "LPowerRests$Marks;") (by decide +kernel)) (fun _ h9 => h9) rfl dX6_stayingLetter_15 ?_
      refine lv_iload hx hb dX6_stayingLetter_18 (lv_at hl 5 rfl) ?_
      refine lv_i2l (v := x5.toInt64) hx hb dX6_stayingLetter_20 rfl ?_
      refine lv_iload_n hx hb dX6_stayingLetter_21 rfl (lv_at hl 1 rfl) ?_
      refine cp_i (va_runS (As := [.long x5.toInt64, .int p0]) (rest := [.ref (ad 7)]) ⟨hx, hb, hml, hown, hts⟩ (spec_X4_rest l x5.toInt64 p0) (va_cwS 2 hts gX6_stayingLetter_X4_rest rfl rfl rfl (by decide +kernel) ⟨Nat.le_of_ble_eq_true rfl, Nat.le_of_ble_eq_true rfl⟩) cp_pre rfl rfl hl.1 rfl (lv_room (Nat.le_of_ble_eq_true rfl)) dX6_stayingLetter_22 ⟨Nat.zero_le _, Nat.zero_le _⟩) (fun r22 q_22 => ?_)
      have hV := hV r22 q_22
      obtain ⟨h_25, hV⟩ := hV
      refine cp_i (va_runV (As := [.int r22]) (rest := []) ⟨hx, hb, hml, hown, hts⟩ (spec_X3_has l D cy ad s.heap.size g a w r22 h_25) (cwV 1 hts gX6_stayingLetter_X3_has rfl rfl rfl (by decide +kernel) ⟨Nat.le_of_ble_eq_true rfl, Nat.le_of_ble_eq_true rfl⟩) (ar_preV hN hK hP hD (ci := 3) (q0 := 7) rfl rfl) rfl rfl hl.1 rfl (lv_room (Nat.le_of_ble_eq_true rfl)) dX6_stayingLetter_25 ⟨Nat.zero_le _, Nat.zero_le _⟩) (fun r25 q_25 => ?_)
      have hV := hV r25 q_25
      refine lv_if_eq (tgt := 62) hx hb dX6_stayingLetter_28 (by decide) (fun c_28 => ?_) (fun c_28 => ?_)
      · have hV := hV.1 c_28
        refine lv_iinc (v := x5 + 1) (lv' := [(5, .int (x5 + 1)), (0, .ref (ad 0)), (1, .int p0), (2, .int p1), (3, .int p2), (4, .int x4)]) hx hb dX6_stayingLetter_62 hl (k := 5) rfl rfl (by decide) rfl (fun ls hl => ?_)
        refine lv_goto (tgt := 6) hx hb dX6_stayingLetter_65 (by decide) ?_
        exact oJ6 _ _ hV _ (lv_sub hl [1, 2, 3, 4, 5, 0] rfl)
      · have hV := hV.2 c_28
        refine lv_aload_n hx hb dX6_stayingLetter_31 rfl (lv_at hl 0 rfl) ?_
        refine va_get (D := D) (ci := 5) (v := .ref (ad 7)) (C := RX6) (T := TX6) (N := 10) hx hb hts (by decide +kernel) hown hK hP 0 rfl rfl 2 (by decide) (hts (.fieldLink RX6 22 "PowerRests" "marks" "LPowerRests$Marks;") (by decide +kernel)) (fun _ h9 => h9) rfl dX6_stayingLetter_32 ?_
        refine lv_iload_n hx hb dX6_stayingLetter_35 rfl (lv_at hl 1 rfl) ?_
        refine lv_iload hx hb dX6_stayingLetter_36 (lv_at hl 5 rfl) ?_
        refine lv_i2l (v := x5.toInt64) hx hb dX6_stayingLetter_38 rfl ?_
        refine lv_iload_n hx hb dX6_stayingLetter_39 rfl (lv_at hl 2 rfl) ?_
        refine cp_i (va_runS (As := [.long x5.toInt64, .int p1]) (rest := [.int p0, .ref (ad 7)]) ⟨hx, hb, hml, hown, hts⟩ (spec_X4_rest l x5.toInt64 p1) (va_cwS 2 hts gX6_stayingLetter_X4_rest rfl rfl rfl (by decide +kernel) ⟨Nat.le_of_ble_eq_true rfl, Nat.le_of_ble_eq_true rfl⟩) cp_pre rfl rfl hl.1 rfl (lv_room (Nat.le_of_ble_eq_true rfl)) dX6_stayingLetter_40 ⟨Nat.zero_le _, Nat.zero_le _⟩) (fun r40 q_40 => ?_)
        have hV := hV r40 q_40
        refine lv_iadd hx hb dX6_stayingLetter_43 ?_
        obtain ⟨h_44, hV⟩ := hV
        refine cp_i (va_runV (As := [.int (p0 + r40)]) (rest := []) ⟨hx, hb, hml, hown, hts⟩ (spec_X3_has l D cy ad s.heap.size g a w (p0 + r40) h_44) (cwV 1 hts gX6_stayingLetter_X3_has rfl rfl rfl (by decide +kernel) ⟨Nat.le_of_ble_eq_true rfl, Nat.le_of_ble_eq_true rfl⟩) (ar_preV hN hK hP hD (ci := 3) (q0 := 7) rfl rfl) rfl rfl hl.1 rfl (lv_room (Nat.le_of_ble_eq_true rfl)) dX6_stayingLetter_44 ⟨Nat.zero_le _, Nat.zero_le _⟩) (fun r44 q_44 => ?_)
        have hV := hV r44 q_44
        refine lv_if_eq (tgt := 62) hx hb dX6_stayingLetter_47 (by decide) (fun c_47 => ?_) (fun c_47 => ?_)
        · have hV := hV.1 c_47
          refine lv_iinc (v := x5 + 1) (lv' := [(5, .int (x5 + 1)), (0, .ref (ad 0)), (1, .int p0), (2, .int p1), (3, .int p2), (4, .int x4)]) hx hb dX6_stayingLetter_62 hl (k := 5) rfl rfl (by decide) rfl (fun ls hl => ?_)
          refine lv_goto (tgt := 6) hx hb dX6_stayingLetter_65 (by decide) ?_
          exact oJ6 _ _ hV _ (lv_sub hl [1, 2, 3, 4, 5, 0] rfl)
        · have hV := hV.2 c_47
          refine lv_iload hx hb dX6_stayingLetter_50 (lv_at hl 4 rfl) ?_
          refine lv_iload_n hx hb dX6_stayingLetter_52 rfl (lv_at hl 3 rfl) ?_
          refine lv_icmp_ne (tgt := 59) hx hb dX6_stayingLetter_53 (by decide) (fun c_53 => ?_) (fun c_53 => ?_)
          · have hV := hV.2 c_53
            refine lv_iinc (v := x4 + 1) (lv' := [(4, .int (x4 + 1)), (0, .ref (ad 0)), (1, .int p0), (2, .int p1), (3, .int p2), (5, .int x5)]) hx hb dX6_stayingLetter_59 hl (k := 4) rfl rfl (by decide) rfl (fun ls hl => ?_)
            refine lv_iinc (v := x5 + 1) (lv' := [(5, .int (x5 + 1)), (4, .int (x4 + 1)), (0, .ref (ad 0)), (1, .int p0), (2, .int p1), (3, .int p2)]) hx hb dX6_stayingLetter_62 hl (k := 5) rfl rfl (by decide) rfl (fun ls hl => ?_)
            refine lv_goto (tgt := 6) hx hb dX6_stayingLetter_65 (by decide) ?_
            exact oJ6 _ _ hV _ (lv_sub hl [2, 3, 4, 5, 1, 0] rfl)
          · have hV := hV.1 c_53
            refine lv_iload hx hb dX6_stayingLetter_56 (lv_at hl 5 rfl) ?_
            exact W.iret (v := x5) hx hb hr (fun t ht hW => ⟨_, rfl, hV, ht⟩) (fun _ h => by cases h) dX6_stayingLetter_58)
  have hl := lv_entry ([.ref (ad 0), .int p0, .int p1, .int p2]) (n := 6) (Nat.le_of_ble_eq_true rfl)
  rw [lg_entry_eq]
  generalize (lg_sl ([.ref (ad 0), .int p0, .int p1, .int p2]) ++ List.replicate (6 - (lg_sl ([.ref (ad 0), .int p0, .int p1, .int p2])).length) Slot.unset).toArray = ls at hl ⊢
  have hl : lv_has ls 6 [(0, .ref (ad 0)), (1, .int p0), (2, .int p1), (3, .int p2)] := hl
  refine lv_iconst (v := (0 : Int32)) hx hb dX6_stayingLetter_0 (by decide) ?_
  refine lv_istore (lv' := [(4, .int (0 : Int32)), (0, .ref (ad 0)), (1, .int p0), (2, .int p1), (3, .int p2)]) hx hb dX6_stayingLetter_1 hl (by decide) rfl (fun ls hl => ?_)
  refine lv_iconst (v := (0 : Int32)) hx hb dX6_stayingLetter_3 (by decide) ?_
  refine lv_istore (lv' := [(5, .int (0 : Int32)), (4, .int (0 : Int32)), (0, .ref (ad 0)), (1, .int p0), (2, .int p1), (3, .int p2)]) hx hb dX6_stayingLetter_4 hl (by decide) rfl (fun ls hl => ?_)
  exact oJ6 _ _ hV _ (lv_sub hl [2, 3, 4, 5, 1, 0] rfl)
noncomputable def mkP (p q : Nat) (w : Ws) (x : Nat) : Bool := cb (mB (w 8) (x % p) = true ∧ mB (w 8) (p + x % q) = true)
def post_X6_stayingLetter (g : Gs) (a : As) (w : Ws) (p0 p1 p2 r : Int32) : Prop := Ith (mkP (tn p0) (tn p1) w) (tn p0 * tn p1) p2 r
set_option maxRecDepth 4000 in
theorem spec_X6_stayingLetter (l : Launch) (D : va_G) (cy : Nat → ClassId) (ad : Nat → Nat) (sz : Nat) (g : Gs) (a : As) (w : Ws) (p0 : Int32) (p1 : Int32) (p2 : Int32) (hpre : pre_X6_stayingLetter g a w p0 p1 p2) : Met l yX6_stayingLetter wsX6_stayingLetter ({ frames := 1, cells := 0, slots := 0, locals := 22 } : Room) (va_Pc [.ref (ad 0), .int p0, .int p1, .int p2] (ArP D cy sz (caW ad cy g a w))) (Qpi (post_X6_stayingLetter g a w p0 p1 p2)) 0 0 noF := by
  apply met_X6_stayingLetter
  intro J hJ
  obtain ⟨h0, h1, h2, h3, h4⟩ := hpre
  obtain ⟨p, hp, rfl, hp2⟩ := of_i (x := p0) (by omega)
  obtain ⟨q, hq, rfl, hq2⟩ := of_i (x := p1) (by omega)
  have hm : p * q ≤ 199 * 199 := Nat.mul_le_mul (by omega) (by omega)
  refine ith_loop (J := J) (post := post_X6_stayingLetter g a w (nI p) (nI q) p2) (p := mkP p q w) (N := p * q) (lo := 0) (i := p2) (by omega) (by omega) (by omega) rfl (fun r hr => by unfold post_X6_stayingLetter; rw [tn_nI hp, tn_nI hq]; exact hr) (fun f hf c1 c2 => ?_) (fun f k hf hlk hk c1 c2 c3 => ?_)
  · refine hJ _ _ (pk_le (p * q) (p * q) (fun _ => c2 (fun z => ?_)) (fun h => absurd h (by omega)) (pk_mul p q))
    have hm1 : (-1 : Int32).toInt = -1 := rfl
    rw [z, hm1] at h4; omega
  · have hkp := Nat.mod_lt k (show 0 < p by omega)
    have hkq := Nat.mod_lt k (show 0 < q by omega)
    refine hJ _ _ (pk_le (p * q) k (fun h => absurd h (by omega)) (fun _ r0 hr0 => ?_) (pk_mul p q))
    rw [nI_l (show k < 2 ^ 31 by omega)] at hr0
    have hr0 := rest_eq hr0 (by omega) (by omega) hp
    subst hr0
    refine ⟨⟨by rw [nI_toInt (by omega)]; omega, by rw [nI_toInt (by omega)]; omega⟩, fun r hr => ?_⟩
    unfold post_X3_has at hr
    rw [tn_nI (by omega)] at hr
    subst hr
    rw [nI_1, nI_1]
    refine ⟨fun z => c1 (cb_f (fun y => zb_0 z y.1)), fun z r1 hr1 => ?_⟩
    rw [nI_l (show k < 2 ^ 31 by omega)] at hr1
    have hr1 := rest_eq hr1 (by omega) (by omega) hq
    subst hr1
    rw [nI_add]
    refine ⟨⟨by rw [nI_toInt (by omega)]; omega, by rw [nI_toInt (by omega)]; omega⟩, fun r2 hr2 => ?_⟩
    unfold post_X3_has at hr2
    rw [tn_nI (by omega)] at hr2
    subst hr2
    exact ⟨fun z2 => c1 (cb_f (fun y => zb_0 z2 y.2)), fun z2 => ⟨c2 (cb_t ⟨zb_1 z, zb_1 z2⟩), c3 (cb_t ⟨zb_1 z, zb_1 z2⟩)⟩⟩
set_option maxHeartbeats 4000000 in
set_option maxRecDepth 100000 in
theorem met_X6_stay (l : Launch) (D : va_G) (cy : Nat → ClassId) (ad : Nat → Nat) (sz : Nat) (g : Gs) (a : As) (w : Ws) (p0 : Int32) (p1 : Int32) (p2 : Int32) (p3 : Int32) (post : Int32 → Gs → As → Ws → Prop)
  (hV : ∀ r3 : Int32, post_X6_areKeys p0 p1 p2 r3 → ((r3 = 0 → post (-1 : Int32) g a w) ∧ (¬ r3 = 0 → (((-1 : Int32) ≤ p3 → pre_X6_keySharesDivisor p0 p1 p2 ∧ (∀ r20 : Int32, post_X6_keySharesDivisor p0 p1 p2 r20 → ((r20 = 0 → ∀ (g33 : Gs) (a33 : As) (w33 : Ws), post_X3_wipeAll g a w g33 a33 w33 → pre_X6_markStaying g33 a33 w33 p0 p2 (0 : Int32) ∧ (∀ (r40 : Int32) (g40 : Gs) (a40 : As) (w40 : Ws), post_X6_markStaying g33 a33 w33 p0 p2 (0 : Int32) r40 g40 a40 w40 → pre_X6_markStaying g40 a40 w40 p1 p2 p0 ∧ (∀ (r47 : Int32) (g47 : Gs) (a47 : As) (w47 : Ws), post_X6_markStaying g40 a40 w40 p1 p2 p0 r47 g47 a47 w47 → ((p3 = (-1 : Int32) → post (r40 * r47) g47 a47 w47) ∧ (¬ p3 = (-1 : Int32) → (((r40 * r47) ≤ p3 → post (-4 : Int32) g47 a47 w47) ∧ (¬ (r40 * r47) ≤ p3 → pre_X6_stayingLetter g47 a47 w47 p0 p1 p3 ∧ (∀ r74 : Int32, post_X6_stayingLetter g47 a47 w47 p0 p1 p3 r74 → post r74 g47 a47 w47)))))))) ∧ (¬ r20 = 0 → post (-2 : Int32) g a w)))) ∧ (¬ (-1 : Int32) ≤ p3 → post (-1 : Int32) g a w))))) :
  Met l yX6_stay wsX6_stay ({ frames := 3, cells := 0, slots := 0, locals := 63 } : Room) (va_Pc [.ref (ad 0), .int p0, .int p1, .int p2, .int p3] (ArP D cy sz (caW ad cy g a w))) (va_Qi (fun (r : Int32) (u : Gs × As × Ws) => post r u.1 u.2.1 u.2.2) (fun u t => va_P D vwCl (caW ad cy u.1 u.2.1 u.2.2) t.heap) (va_A (caW ad cy g a w) sz)) 0 0 (va_A (caW ad cy g a w) sz) := by
  refine Met.ofW (cc := cX6_stay) (maxL := 6) (ret := (some .int)) (by decide) rfl ?_
  intro p e s m args below meth c s₁ B hml hv
  obtain ⟨rfl, hsz, hP, hK, hD0, hN⟩ := hv
  have hx := B.exec
  have hb := B.bytes
  have hr := B.returns
  have hts := atoms_spec (ws := wsX6_stay) B.pre
  have hown : s.vm.findClass RX6 = some m.cls := findClass_of_methodNamed B.named
  have hlocks := B.notSynchronized
  subst hsz
  have hD := hD0.self (sz := s.heap.size)
  have hP : va_P D vwCl (caW ad cy g a w) s.heap := hP
  have hD : va_D (va_A (caW ad cy g a w) s.heap.size) (caW ad cy g a w) := hD
  have hS : va_S (va_A (caW ad cy g a w) s.heap.size) s.heap s.heap [] := va_S.rf
  have hA : ∀ q : Nat, s.heap.size ≤ q → va_A (caW ad cy g a w) s.heap.size q := fun q h => Or.inr h
  have hl := lv_entry ([.ref (ad 0), .int p0, .int p1, .int p2, .int p3]) (n := 6) (Nat.le_of_ble_eq_true rfl)
  rw [lg_entry_eq]
  generalize (lg_sl ([.ref (ad 0), .int p0, .int p1, .int p2, .int p3]) ++ List.replicate (6 - (lg_sl ([.ref (ad 0), .int p0, .int p1, .int p2, .int p3])).length) Slot.unset).toArray = ls at hl ⊢
  have hl : lv_has ls 6 [(0, .ref (ad 0)), (1, .int p0), (2, .int p1), (3, .int p2), (4, .int p3)] := hl
  refine lv_iload_n hx hb dX6_stay_0 rfl (lv_at hl 1 rfl) ?_
  refine lv_iload_n hx hb dX6_stay_1 rfl (lv_at hl 2 rfl) ?_
  refine lv_iload_n hx hb dX6_stay_2 rfl (lv_at hl 3 rfl) ?_
  refine cp_i (va_runS (As := [.int p0, .int p1, .int p2]) (rest := []) ⟨hx, hb, hml, hown, hts⟩ (spec_X6_areKeys l p0 p1 p2) (va_cwS 3 hts gX6_stay_X6_areKeys rfl rfl rfl (by decide +kernel) ⟨Nat.le_of_ble_eq_true rfl, Nat.le_of_ble_eq_true rfl⟩) cp_pre rfl rfl hl.1 rfl (lv_room (Nat.le_of_ble_eq_true rfl)) dX6_stay_3 ⟨Nat.zero_le _, Nat.zero_le _⟩) (fun r3 q_3 => ?_)
  have hV := hV r3 q_3
  refine lv_if_eq (tgt := 15) hx hb dX6_stay_6 (by decide) (fun c_6 => ?_) (fun c_6 => ?_)
  · have hV := hV.1 c_6
    refine lv_iconst (v := (-1 : Int32)) hx hb dX6_stay_15 (by decide) ?_
    exact W.iret (v := (-1 : Int32)) hx hb hr (fun t ht hW => ⟨⟨_, (g, a, w), rfl, hV, ar_heap ht hP⟩, hS.F ht⟩) hS.2.2 dX6_stay_16
  · have hV := hV.2 c_6
    refine lv_iload hx hb dX6_stay_9 (lv_at hl 4 rfl) ?_
    refine lv_iconst (v := (-1 : Int32)) hx hb dX6_stay_11 (by decide) ?_
    refine lv_icmp_ge (tgt := 17) hx hb dX6_stay_12 (by decide) (fun c_12 => ?_) (fun c_12 => ?_)
    · have hV := hV.1 c_12
      refine lv_iload_n hx hb dX6_stay_17 rfl (lv_at hl 1 rfl) ?_
      refine lv_iload_n hx hb dX6_stay_18 rfl (lv_at hl 2 rfl) ?_
      refine lv_iload_n hx hb dX6_stay_19 rfl (lv_at hl 3 rfl) ?_
      obtain ⟨h_20, hV⟩ := hV
      refine cp_i (va_runS (As := [.int p0, .int p1, .int p2]) (rest := []) ⟨hx, hb, hml, hown, hts⟩ (spec_X6_keySharesDivisor l p0 p1 p2 h_20) (va_cwS 3 hts gX6_stay_X6_keySharesDivisor rfl rfl rfl (by decide +kernel) ⟨Nat.le_of_ble_eq_true rfl, Nat.le_of_ble_eq_true rfl⟩) cp_pre rfl rfl hl.1 rfl (lv_room (Nat.le_of_ble_eq_true rfl)) dX6_stay_20 ⟨Nat.zero_le _, Nat.zero_le _⟩) (fun r20 q_20 => ?_)
      have hV := hV r20 q_20
      refine lv_if_eq (tgt := 29) hx hb dX6_stay_23 (by decide) (fun c_23 => ?_) (fun c_23 => ?_)
      · have hV := hV.1 c_23
        refine lv_aload_n hx hb dX6_stay_29 rfl (lv_at hl 0 rfl) ?_
        refine va_get (D := D) (ci := 5) (v := .ref (ad 7)) (C := RX6) (T := TX6) (N := 10) hx hb hts (by decide +kernel) hown hK hP 0 rfl rfl 2 (by decide) (hts (.fieldLink RX6 22 "PowerRests" "marks" "LPowerRests$Marks;") (by decide +kernel)) (fun _ h9 => h9) rfl dX6_stay_30 ?_
        refine cw_v (va_runV (As := []) (rest := []) ⟨hx, hb, hml, hown, hts⟩ (spec_X3_wipeAll l D cy ad _ g a w) (cwV 0 hts gX6_stay_X3_wipeAll rfl rfl rfl (by decide +kernel) ⟨Nat.le_of_ble_eq_true rfl, Nat.le_of_ble_eq_true rfl⟩) (ar_preV hN hK hP (caD hD) (ci := 3) (q0 := 7) rfl rfl) rfl rfl hl.1 rfl (lv_room (Nat.le_of_ble_eq_true rfl)) dX6_stay_33 ⟨Nat.zero_le _, Nat.zero_le _⟩) hS (caD hD) hA (fun u_33 H locs q_33 hP hS => ?_)
        obtain ⟨g33, a33, w33⟩ := u_33
        have hV := hV g33 a33 w33 q_33
        have hP : va_P D vwCl (caW ad cy g33 a33 w33) H := hP
        refine lv_aload_n hx hb dX6_stay_36 rfl (lv_at hl 0 rfl) ?_
        refine lv_iload_n hx hb dX6_stay_37 rfl (lv_at hl 1 rfl) ?_
        refine lv_iload_n hx hb dX6_stay_38 rfl (lv_at hl 3 rfl) ?_
        refine lv_iconst (v := (0 : Int32)) hx hb dX6_stay_39 (by decide) ?_
        obtain ⟨h_40, hV⟩ := hV
        refine cw_i (va_runV (As := [.int p0, .int p2, .int (0 : Int32)]) (rest := []) ⟨hx, hb, hml, hown, hts⟩ (spec_X6_markStaying l D cy ad _ g33 a33 w33 p0 p2 (0 : Int32) h_40) (cwV 3 hts gX6_stay_X6_markStaying rfl rfl rfl (by decide +kernel) ⟨Nat.le_of_ble_eq_true rfl, Nat.le_of_ble_eq_true rfl⟩) (ar_preV hN hK hP (caD hD) (ci := 5) (q0 := 0) rfl rfl) rfl rfl hl.1 rfl (lv_room (Nat.le_of_ble_eq_true rfl)) dX6_stay_40 ⟨Nat.zero_le _, Nat.zero_le _⟩) hS (caD hD) hA (fun r40 u_40 H locs q_40 hP hS => ?_)
        obtain ⟨g40, a40, w40⟩ := u_40
        have hV := hV r40 g40 a40 w40 q_40
        have hP : va_P D vwCl (caW ad cy g40 a40 w40) H := hP
        refine lv_aload_n hx hb dX6_stay_43 rfl (lv_at hl 0 rfl) ?_
        refine lv_iload_n hx hb dX6_stay_44 rfl (lv_at hl 2 rfl) ?_
        refine lv_iload_n hx hb dX6_stay_45 rfl (lv_at hl 3 rfl) ?_
        refine lv_iload_n hx hb dX6_stay_46 rfl (lv_at hl 1 rfl) ?_
        obtain ⟨h_47, hV⟩ := hV
        refine cw_i (va_runV (As := [.int p1, .int p2, .int p0]) (rest := [.int r40]) ⟨hx, hb, hml, hown, hts⟩ (spec_X6_markStaying l D cy ad _ g40 a40 w40 p1 p2 p0 h_47) (cwV 3 hts gX6_stay_X6_markStaying rfl rfl rfl (by decide +kernel) ⟨Nat.le_of_ble_eq_true rfl, Nat.le_of_ble_eq_true rfl⟩) (ar_preV hN hK hP (caD hD) (ci := 5) (q0 := 0) rfl rfl) rfl rfl hl.1 rfl (lv_room (Nat.le_of_ble_eq_true rfl)) dX6_stay_47 ⟨Nat.zero_le _, Nat.zero_le _⟩) hS (caD hD) hA (fun r47 u_47 H locs q_47 hP hS => ?_)
        obtain ⟨g47, a47, w47⟩ := u_47
        have hV := hV r47 g47 a47 w47 q_47
        have hP : va_P D vwCl (caW ad cy g47 a47 w47) H := hP
        refine lv_imul hx hb dX6_stay_50 ?_
        refine lv_istore (lv' := [(5, .int (r40 * r47)), (0, .ref (ad 0)), (1, .int p0), (2, .int p1), (3, .int p2), (4, .int p3)]) hx hb dX6_stay_51 hl (by decide) rfl (fun ls hl => ?_)
        refine lv_iload hx hb dX6_stay_53 (lv_at hl 5 rfl) ?_
        refine lv_iconst (v := (-1 : Int32)) hx hb dX6_stay_55 (by decide) ?_
        refine lv_icmp_ne (tgt := 62) hx hb dX6_stay_56 (by decide) (fun c_56 => ?_) (fun c_56 => ?_)
        · have hV := hV.2 c_56
          refine lv_iload hx hb dX6_stay_62 (lv_at hl 5 rfl) ?_
          refine lv_iload hx hb dX6_stay_64 (lv_at hl 0 rfl) ?_
          refine lv_icmp_ge (tgt := 80) hx hb dX6_stay_66 (by decide) (fun c_66 => ?_) (fun c_66 => ?_)
          · have hV := hV.1 c_66
            refine lv_bipush (v := (-4 : Int32)) hx hb dX6_stay_80 (by decide) ?_
            exact W.iret (v := (-4 : Int32)) hx hb hr (fun t ht hW => ⟨⟨_, (g47, a47, w47), rfl, hV, ar_heap ht hP⟩, hS.F ht⟩) hS.2.2 dX6_stay_82
          · have hV := hV.2 c_66
            refine lv_aload_n hx hb dX6_stay_69 rfl (lv_at hl 1 rfl) ?_
            refine lv_iload_n hx hb dX6_stay_70 rfl (lv_at hl 2 rfl) ?_
            refine lv_iload_n hx hb dX6_stay_71 rfl (lv_at hl 3 rfl) ?_
            refine lv_iload hx hb dX6_stay_72 (lv_at hl 5 rfl) ?_
            obtain ⟨h_74, hV⟩ := hV
            refine cp_i (va_runV (As := [.int p0, .int p1, .int p3]) (rest := []) ⟨hx, hb, hml, hown, hts⟩ (spec_X6_stayingLetter l D cy ad _ g47 a47 w47 p0 p1 p3 h_74) (cwV 3 hts gX6_stay_X6_stayingLetter rfl rfl rfl (by decide +kernel) ⟨Nat.le_of_ble_eq_true rfl, Nat.le_of_ble_eq_true rfl⟩) (ar_preV hN hK hP (caD hD) (ci := 5) (q0 := 0) rfl rfl) rfl rfl hl.1 rfl (lv_room (Nat.le_of_ble_eq_true rfl)) dX6_stay_74 ⟨Nat.zero_le _, Nat.zero_le _⟩) (fun r74 q_74 => ?_)
            have hV := hV r74 q_74
            refine lv_goto (tgt := 82) hx hb dX6_stay_77 (by decide) ?_
            exact W.iret (v := r74) hx hb hr (fun t ht hW => ⟨⟨_, (g47, a47, w47), rfl, hV, ar_heap ht hP⟩, hS.F ht⟩) hS.2.2 dX6_stay_82
        · have hV := hV.1 c_56
          refine lv_iload hx hb dX6_stay_59 (lv_at hl 0 rfl) ?_
          exact W.iret (v := r40 * r47) hx hb hr (fun t ht hW => ⟨⟨_, (g47, a47, w47), rfl, hV, ar_heap ht hP⟩, hS.F ht⟩) hS.2.2 dX6_stay_61
      · have hV := hV.2 c_23
        refine lv_bipush (v := (-2 : Int32)) hx hb dX6_stay_26 (by decide) ?_
        exact W.iret (v := (-2 : Int32)) hx hb hr (fun t ht hW => ⟨⟨_, (g, a, w), rfl, hV, ar_heap ht hP⟩, hS.F ht⟩) hS.2.2 dX6_stay_28
    · have hV := hV.2 c_12
      refine lv_iconst (v := (-1 : Int32)) hx hb dX6_stay_15 (by decide) ?_
      exact W.iret (v := (-1 : Int32)) hx hb hr (fun t ht hW => ⟨⟨_, (g, a, w), rfl, hV, ar_heap ht hP⟩, hS.F ht⟩) hS.2.2 dX6_stay_16
def post_X6_stay (g : Gs) (a : As) (w : Ws) (p0 p1 p2 p3 r : Int32) (g' : Gs) (a' : As) (w' : Ws) : Prop := StayAns p0 p1 p2 p3 r ∧ MS g a w g' a' w'
set_option maxRecDepth 4000 in
theorem spec_X6_stay (l : Launch) (D : va_G) (cy : Nat → ClassId) (ad : Nat → Nat) (sz : Nat) (g : Gs) (a : As) (w : Ws) (p0 : Int32) (p1 : Int32) (p2 : Int32) (p3 : Int32) : Met l yX6_stay wsX6_stay ({ frames := 3, cells := 0, slots := 0, locals := 63 } : Room) (va_Pc [.ref (ad 0), .int p0, .int p1, .int p2, .int p3] (ArP D cy sz (caW ad cy g a w))) (va_Qi (fun (r : Int32) (u : Gs × As × Ws) => (post_X6_stay g a w p0 p1 p2 p3) r u.1 u.2.1 u.2.2) (fun u t => va_P D vwCl (caW ad cy u.1 u.2.1 u.2.2) t.heap) (va_A (caW ad cy g a w) sz)) 0 0 (va_A (caW ad cy g a w) sz) := by
  apply met_X6_stay
  intro r hr
  unfold post_X6_areKeys at hr
  subst hr
  have hm1 : (-1 : Int32).toInt = -1 := rfl
  refine ⟨fun h => ⟨Or.inl ⟨fun z => zb_0 h z.1, rfl⟩, MS.rf⟩, fun h => ⟨fun h6 => ?_, fun h6 => ⟨Or.inl ⟨fun z => h6 (by rw [i_le, hm1]; exact z.2), rfl⟩, MS.rf⟩⟩⟩
  rw [i_le, hm1] at h6
  have hK : Keys p0 p1 p2 := zb_1 h
  clear h
  obtain ⟨P, Q, E, rfl, rfl, rfl, pP, pQ, hne, hP, hQ, hE1, hE2⟩ := hK.nat
  have p2 := pP.1
  have q2 := pQ.1
  have iP : (nI P).toInt = P := nI_toInt (by omega)
  have iQ : (nI Q).toInt = Q := nI_toInt (by omega)
  have iE : (nI E).toInt = E := nI_toInt (by omega)
  have nP : tn (nI P) = P := tn_nI (by omega)
  have nQ : tn (nI Q) = Q := tn_nI (by omega)
  have nE : tn (nI E) = E := tn_nI (by omega)
  refine ⟨⟨⟨by omega, by omega⟩, ⟨by omega, by omega⟩, by omega⟩, fun r2 hr2 => ?_⟩
  unfold post_X6_keySharesDivisor at hr2
  subst hr2
  refine ⟨fun h2 => ?_, fun h2 => ⟨Or.inr ⟨⟨hK, h6⟩, Or.inl ⟨zb_1 h2, rfl⟩⟩, MS.rf⟩⟩
  have hF : Free (nI P) (nI Q) (nI E) := Classical.not_not.mp (zb_0 h2)
  intro g1 a1 w1 hw
  refine ⟨⟨by omega, by omega, by omega, by omega, by decide, by decide⟩, fun r3 g3 a3 w3 hr3 => ⟨⟨by omega, by omega, by omega, by omega, by omega, by omega⟩, fun r4 g4 a4 w4 hr4 => ?_⟩⟩
  obtain ⟨u1, u2, f0, u3, hf0⟩ := hw
  obtain ⟨rfl, v1, v2, f, v3, hf⟩ := hr3
  obtain ⟨rfl, x1, x2, f2, x3, hf2⟩ := hr4
  rw [nP, nE, show tn (0 : Int32) = 0 from rfl] at hf
  rw [nP, nQ, nE] at hf2
  rw [u3, up_0] at hf
  rw [v3, up_0] at hf2
  have hMk : Marked (fun x => StS E P 0 P x ∨ StS E Q P Q x) g a w g4 a4 w4 := by
    refine ⟨by rw [x1, v1, u1], by rw [x2, v2, u2], f2, by rw [x3, v3, u3, up_up, up_up], fun x hx => ?_⟩
    rw [hf2 x hx, hf x hx, hf0 x hx]
    constructor
    · rintro (z | z | z)
      · exact Or.inr z
      · exact Or.inl z
      · exact Bool.noConfusion z
    · rintro (z | z)
      · exact Or.inr (Or.inl z)
      · exact Or.inl z
  have hMS : MS g a w g4 a4 w4 := hMk.ms FS.rf
  have hhas := fun x (hx : x < 50000) => hMk.has (x := x) hx
  rw [nP, nQ, nE, pk_mul, ← SB_ct pP pQ hne]
  have hm : P * Q ≤ 199 * 199 := Nat.mul_le_mul (by omega) (by omega)
  have hle := fb_ct_le (SB E (P * Q)) (P * Q)
  have good : ∀ r, Ith (SB E (P * Q)) (P * Q) p3 r → post_X6_stay g a w (nI P) (nI Q) (nI E) p3 r g4 a4 w4 := fun r hr => ⟨Or.inr ⟨⟨hK, h6⟩, Or.inr ⟨hF, by rw [nP, nQ, nE]; exact hr⟩⟩, hMS⟩
  refine ⟨fun q => good _ (Or.inl ⟨q, rfl⟩), fun q => ?_⟩
  have hi0 : 0 ≤ p3.toInt := by
    have : p3.toInt ≠ -1 := fun e => q (i_m1.mp e)
    omega
  obtain ⟨i, hi, rfl, hi2⟩ := of_i hi0
  refine pk_le _ i (fun h => good _ (Or.inr (Or.inr ⟨hi0, by rw [hi2]; omega, rfl⟩))) (fun h => ⟨⟨by omega, by omega, by omega, by omega, by omega⟩, fun r5 hr5 => good _ ?_⟩) rfl rfl (by omega) (by omega)
  unfold post_X6_stayingLetter at hr5
  rw [nP, nQ] at hr5
  refine hr5.cong (fun x hx => ?_)
  have hxp := Nat.mod_lt x (show 0 < P by omega)
  have hxq := Nat.mod_lt x (show 0 < Q by omega)
  have e1 : mB (w4 8) (x % P) = true ↔ SB E P (x % P) = true := by
    rw [hhas (x % P) (by omega)]
    refine ⟨fun z => ?_, fun z => Or.inl ⟨x % P, hxp, z, by omega⟩⟩
    rcases z with ⟨y, y1, y2, y3⟩ | ⟨y, y1, y2, y3⟩
    · rw [y3, Nat.zero_add]; exact y2
    · omega
  have e2 : mB (w4 8) (P + x % Q) = true ↔ SB E Q (x % Q) = true := by
    rw [hhas (P + x % Q) (by omega)]
    refine ⟨fun z => ?_, fun z => Or.inr ⟨x % Q, hxq, z, by omega⟩⟩
    rcases z with ⟨y, y1, y2, y3⟩ | ⟨y, y1, y2, y3⟩
    · omega
    · rw [show x % Q = y by omega]; exact y2
  rw [SB_mul E P Q x (pr_two_cop pP pQ hne)]
  unfold mkP
  cases h1 : SB E P (x % P) <;> cases h2 : SB E Q (x % Q)
  · exact cb_f (fun z => by have := e1.mp z.1; rw [h1] at this; exact Bool.false_ne_true this)
  · exact cb_f (fun z => by have := e1.mp z.1; rw [h1] at this; exact Bool.false_ne_true this)
  · exact cb_f (fun z => by have := e2.mp z.2; rw [h2] at this; exact Bool.false_ne_true this)
  · exact cb_t ⟨e1.mpr h1, e2.mpr h2⟩
set_option maxHeartbeats 4000000 in
set_option maxRecDepth 100000 in
theorem met_X7_stay (l : Launch) (D : va_G) (cy : Nat → ClassId) (ad : Nat → Nat) (sz : Nat) (g : Gs) (a : As) (p0 : Int32) (p1 : Int32) (p2 : Int32) (p3 : Int32) (post : Int32 → Prop)
  (hV : ∀ (J46 : Int32 → Int32 → Prop),
    (∀ (x5 : Int32) (x6 : Int32), (((p0 * p1) ≤ x6 → ((0 ≤ p3 → post (-4 : Int32)) ∧ (¬ 0 ≤ p3 → post x5))) ∧ (¬ (p0 * p1) ≤ x6 → pre_X7_powerOf (p0 * p1) x6 p2.toInt64 ∧ (∀ r61 : Int32, post_X7_powerOf (p0 * p1) x6 p2.toInt64 r61 → ((r61 = x6 → ((x5 = p3 → post x6) ∧ (¬ x5 = p3 → J46 (x5 + 1) (x6 + 1)))) ∧ (¬ r61 = x6 → J46 x5 (x6 + 1)))))) → J46 x5 x6) →
    ∀ r2 : Int32, post_X7_isPair p0 p1 r2 → ((r2 = 0 → post (-1 : Int32)) ∧ (¬ r2 = 0 → ∀ r14 : Int32, post_X7_in p2.toInt64 (1 : Int64) (100000 : Int64) r14 → ((r14 = 0 → post (-1 : Int32)) ∧ (¬ r14 = 0 → (((-1 : Int32) ≤ p3 → pre_X7_isFree p0 p1 p2 ∧ (∀ r31 : Int32, post_X7_isFree p0 p1 p2 r31 → ((r31 = 0 → post (-2 : Int32)) ∧ (¬ r31 = 0 → J46 (0 : Int32) (0 : Int32))))) ∧ (¬ (-1 : Int32) ≤ p3 → post (-1 : Int32)))))))) :
  Met l yX7_stay wsX7_stay ({ frames := 2, cells := 0, slots := 0, locals := 46 } : Room) (va_Pc [.ref (ad 0), .int p0, .int p1, .int p2, .int p3] (ArP D cy sz (maW ad cy g a))) (Qpi post) 0 0 noF := by
  refine Met.ofW (cc := cX7_stay) (maxL := 7) (ret := (some .int)) (by decide) rfl ?_
  intro p e s m args below meth c s₁ B hml hv
  obtain ⟨rfl, hsz, hP, hK, hD0, hN⟩ := hv
  have hx := B.exec
  have hb := B.bytes
  have hr := B.returns
  have hts := atoms_spec (ws := wsX7_stay) B.pre
  have hown : s.vm.findClass RX7 = some m.cls := findClass_of_methodNamed B.named
  have hlocks := B.notSynchronized
  subst hsz
  have hP : va_P D vwCl (maW ad cy g a) s.heap := hP
  have hD : va_D (fun _ => True) (maW ad cy g a) := hD0
  obtain ⟨J46, iJ46, oJ46⟩ : ∃ J : Int32 → Int32 → Prop, (∀ (x5 : Int32) (x6 : Int32), (∀ ls : Array Slot, lv_has ls 7 [(1, .int p0), (2, .int p1), (3, .int p2), (4, .int p3), (5, .int x5), (6, .int x6)] → W p l e (headSpec wsX7_stay ({ frames := 2, cells := 0, slots := 0, locals := 46 } : Room)).room s m [.ref (ad 0), .int p0, .int p1, .int p2, .int p3].toArray below meth c s.heap [] 0 0 (MQ below (Qpi post) [.ref (ad 0), .int p0, .int p1, .int p2, .int p3].toArray s 0 0 noF) (F0 m 46 ls [])) → J x5 x6) ∧ (∀ (x5 : Int32) (x6 : Int32), J x5 x6 → (∀ ls : Array Slot, lv_has ls 7 [(1, .int p0), (2, .int p1), (3, .int p2), (4, .int p3), (5, .int x5), (6, .int x6)] → W p l e (headSpec wsX7_stay ({ frames := 2, cells := 0, slots := 0, locals := 46 } : Room)).room s m [.ref (ad 0), .int p0, .int p1, .int p2, .int p3].toArray below meth c s.heap [] 0 0 (MQ below (Qpi post) [.ref (ad 0), .int p0, .int p1, .int p2, .int p3].toArray s 0 0 noF) (F0 m 46 ls []))) := ⟨fun (x5 : Int32) (x6 : Int32) => (∀ ls : Array Slot, lv_has ls 7 [(1, .int p0), (2, .int p1), (3, .int p2), (4, .int p3), (5, .int x5), (6, .int x6)] → W p l e (headSpec wsX7_stay ({ frames := 2, cells := 0, slots := 0, locals := 46 } : Room)).room s m [.ref (ad 0), .int p0, .int p1, .int p2, .int p3].toArray below meth c s.heap [] 0 0 (MQ below (Qpi post) [.ref (ad 0), .int p0, .int p1, .int p2, .int p3].toArray s 0 0 noF) (F0 m 46 ls [])), fun _ _ h => h, fun _ _ h => h⟩
  have hV := hV J46
  replace hV := hV (by
    intro x5 x6 hV
    refine iJ46 x5 x6 ?_
    intro ls hl
    refine lv_iload hx hb dX7_stay_46 (lv_at hl 5 rfl) ?_
    refine lv_iload_n hx hb dX7_stay_48 rfl (lv_at hl 0 rfl) ?_
    refine lv_iload_n hx hb dX7_stay_49 rfl (lv_at hl 1 rfl) ?_
    refine lv_imul hx hb dX7_stay_50 ?_
    refine lv_icmp_ge (tgt := 88) hx hb dX7_stay_51 (by decide) (fun c_51 => ?_) (fun c_51 => ?_)
    · have hV := hV.1 c_51
      refine lv_iload hx hb dX7_stay_88 (lv_at hl 3 rfl) ?_
      refine lv_if_ge (tgt := 98) hx hb dX7_stay_90 (by decide) (fun c_90 => ?_) (fun c_90 => ?_)
      · have hV := hV.1 c_90
        refine lv_bipush (v := (-4 : Int32)) hx hb dX7_stay_98 (by decide) ?_
        exact W.iret (v := (-4 : Int32)) hx hb hr (fun t ht hW => ⟨_, rfl, hV, ht⟩) (fun _ h => by cases h) dX7_stay_100
      · have hV := hV.2 c_90
        refine lv_iload hx hb dX7_stay_93 (lv_at hl 4 rfl) ?_
        refine lv_goto (tgt := 100) hx hb dX7_stay_95 (by decide) ?_
        exact W.iret (v := x5) hx hb hr (fun t ht hW => ⟨_, rfl, hV, ht⟩) (fun _ h => by cases h) dX7_stay_100
    · have hV := hV.2 c_51
      refine lv_iload_n hx hb dX7_stay_54 rfl (lv_at hl 0 rfl) ?_
      refine lv_iload_n hx hb dX7_stay_55 rfl (lv_at hl 1 rfl) ?_
      refine lv_imul hx hb dX7_stay_56 ?_
      refine lv_iload hx hb dX7_stay_57 (lv_at hl 5 rfl) ?_
      refine lv_iload_n hx hb dX7_stay_59 rfl (lv_at hl 2 rfl) ?_
      refine lv_i2l (v := p2.toInt64) hx hb dX7_stay_60 rfl ?_
      obtain ⟨h_61, hV⟩ := hV
      refine cp_i (va_runS (As := [.int (p0 * p1), .int x6, .long p2.toInt64]) (rest := []) ⟨hx, hb, hml, hown, hts⟩ (spec_X7_powerOf l (p0 * p1) x6 p2.toInt64 h_61) (va_cwS 3 hts gX7_stay_X7_powerOf rfl rfl rfl (by decide +kernel) ⟨Nat.le_of_ble_eq_true rfl, Nat.le_of_ble_eq_true rfl⟩) cp_pre rfl rfl hl.1 rfl (lv_room (Nat.le_of_ble_eq_true rfl)) dX7_stay_61 ⟨Nat.zero_le _, Nat.zero_le _⟩) (fun r61 q_61 => ?_)
      have hV := hV r61 q_61
      refine lv_iload hx hb dX7_stay_64 (lv_at hl 5 rfl) ?_
      refine lv_icmp_ne (tgt := 82) hx hb dX7_stay_66 (by decide) (fun c_66 => ?_) (fun c_66 => ?_)
      · have hV := hV.2 c_66
        refine lv_iinc (v := x6 + 1) (lv' := [(6, .int (x6 + 1)), (1, .int p0), (2, .int p1), (3, .int p2), (4, .int p3), (5, .int x5)]) hx hb dX7_stay_82 hl (k := 5) rfl rfl (by decide) rfl (fun ls hl => ?_)
        refine lv_goto (tgt := 46) hx hb dX7_stay_85 (by decide) ?_
        exact oJ46 _ _ hV _ (lv_sub hl [1, 2, 3, 4, 5, 0] rfl)
      · have hV := hV.1 c_66
        refine lv_iload hx hb dX7_stay_69 (lv_at hl 4 rfl) ?_
        refine lv_iload hx hb dX7_stay_71 (lv_at hl 3 rfl) ?_
        refine lv_icmp_ne (tgt := 79) hx hb dX7_stay_73 (by decide) (fun c_73 => ?_) (fun c_73 => ?_)
        · have hV := hV.2 c_73
          refine lv_iinc (v := x5 + 1) (lv' := [(5, .int (x5 + 1)), (1, .int p0), (2, .int p1), (3, .int p2), (4, .int p3), (6, .int x6)]) hx hb dX7_stay_79 hl (k := 4) rfl rfl (by decide) rfl (fun ls hl => ?_)
          refine lv_iinc (v := x6 + 1) (lv' := [(6, .int (x6 + 1)), (5, .int (x5 + 1)), (1, .int p0), (2, .int p1), (3, .int p2), (4, .int p3)]) hx hb dX7_stay_82 hl (k := 5) rfl rfl (by decide) rfl (fun ls hl => ?_)
          refine lv_goto (tgt := 46) hx hb dX7_stay_85 (by decide) ?_
          exact oJ46 _ _ hV _ (lv_sub hl [2, 3, 4, 5, 1, 0] rfl)
        · have hV := hV.1 c_73
          refine lv_iload hx hb dX7_stay_76 (lv_at hl 5 rfl) ?_
          exact W.iret (v := x6) hx hb hr (fun t ht hW => ⟨_, rfl, hV, ht⟩) (fun _ h => by cases h) dX7_stay_78)
  have hl := lv_entry ([.ref (ad 0), .int p0, .int p1, .int p2, .int p3]) (n := 7) (Nat.le_of_ble_eq_true rfl)
  rw [lg_entry_eq]
  generalize (lg_sl ([.ref (ad 0), .int p0, .int p1, .int p2, .int p3]) ++ List.replicate (7 - (lg_sl ([.ref (ad 0), .int p0, .int p1, .int p2, .int p3])).length) Slot.unset).toArray = ls at hl ⊢
  have hl : lv_has ls 7 [(0, .ref (ad 0)), (1, .int p0), (2, .int p1), (3, .int p2), (4, .int p3)] := hl
  refine lv_iload_n hx hb dX7_stay_0 rfl (lv_at hl 1 rfl) ?_
  refine lv_iload_n hx hb dX7_stay_1 rfl (lv_at hl 2 rfl) ?_
  refine cp_i (va_runS (As := [.int p0, .int p1]) (rest := []) ⟨hx, hb, hml, hown, hts⟩ (spec_X7_isPair l p0 p1) (va_cwS 2 hts gX7_stay_X7_isPair rfl rfl rfl (by decide +kernel) ⟨Nat.le_of_ble_eq_true rfl, Nat.le_of_ble_eq_true rfl⟩) cp_pre rfl rfl hl.1 rfl (lv_room (Nat.le_of_ble_eq_true rfl)) dX7_stay_2 ⟨Nat.zero_le _, Nat.zero_le _⟩) (fun r2 q_2 => ?_)
  have hV := hV r2 q_2
  refine lv_if_eq (tgt := 26) hx hb dX7_stay_5 (by decide) (fun c_5 => ?_) (fun c_5 => ?_)
  · have hV := hV.1 c_5
    refine lv_iconst (v := (-1 : Int32)) hx hb dX7_stay_26 (by decide) ?_
    exact W.iret (v := (-1 : Int32)) hx hb hr (fun t ht hW => ⟨_, rfl, hV, ht⟩) (fun _ h => by cases h) dX7_stay_27
  · have hV := hV.2 c_5
    refine lv_iload_n hx hb dX7_stay_8 rfl (lv_at hl 3 rfl) ?_
    refine lv_i2l (v := p2.toInt64) hx hb dX7_stay_9 rfl ?_
    refine lv_lconst (v := (1 : Int64)) hx hb dX7_stay_10 (by decide) ?_
    refine lv_ldc2 (v := (100000 : Int64)) hx hb hown (hts (.constantLong RX7 215 (100000)) (by decide +kernel)) dX7_stay_11 ?_
    refine cp_i (va_runS (As := [.long p2.toInt64, .long (1 : Int64), .long (100000 : Int64)]) (rest := []) ⟨hx, hb, hml, hown, hts⟩ (spec_X7_in l p2.toInt64 (1 : Int64) (100000 : Int64)) (va_cwS 3 hts gX7_stay_X7_in rfl rfl rfl (by decide +kernel) ⟨Nat.le_of_ble_eq_true rfl, Nat.le_of_ble_eq_true rfl⟩) cp_pre rfl rfl hl.1 rfl (lv_room (Nat.le_of_ble_eq_true rfl)) dX7_stay_14 ⟨Nat.zero_le _, Nat.zero_le _⟩) (fun r14 q_14 => ?_)
    have hV := hV r14 q_14
    refine lv_if_eq (tgt := 26) hx hb dX7_stay_17 (by decide) (fun c_17 => ?_) (fun c_17 => ?_)
    · have hV := hV.1 c_17
      refine lv_iconst (v := (-1 : Int32)) hx hb dX7_stay_26 (by decide) ?_
      exact W.iret (v := (-1 : Int32)) hx hb hr (fun t ht hW => ⟨_, rfl, hV, ht⟩) (fun _ h => by cases h) dX7_stay_27
    · have hV := hV.2 c_17
      refine lv_iload hx hb dX7_stay_20 (lv_at hl 4 rfl) ?_
      refine lv_iconst (v := (-1 : Int32)) hx hb dX7_stay_22 (by decide) ?_
      refine lv_icmp_ge (tgt := 28) hx hb dX7_stay_23 (by decide) (fun c_23 => ?_) (fun c_23 => ?_)
      · have hV := hV.1 c_23
        refine lv_iload_n hx hb dX7_stay_28 rfl (lv_at hl 1 rfl) ?_
        refine lv_iload_n hx hb dX7_stay_29 rfl (lv_at hl 2 rfl) ?_
        refine lv_iload_n hx hb dX7_stay_30 rfl (lv_at hl 3 rfl) ?_
        obtain ⟨h_31, hV⟩ := hV
        refine cp_i (va_runS (As := [.int p0, .int p1, .int p2]) (rest := []) ⟨hx, hb, hml, hown, hts⟩ (spec_X7_isFree l p0 p1 p2 h_31) (va_cwS 3 hts gX7_stay_X7_isFree rfl rfl rfl (by decide +kernel) ⟨Nat.le_of_ble_eq_true rfl, Nat.le_of_ble_eq_true rfl⟩) cp_pre rfl rfl hl.1 rfl (lv_room (Nat.le_of_ble_eq_true rfl)) dX7_stay_31 ⟨Nat.zero_le _, Nat.zero_le _⟩) (fun r31 q_31 => ?_)
        have hV := hV r31 q_31
        refine lv_if_ne (tgt := 40) hx hb dX7_stay_34 (by decide) (fun c_34 => ?_) (fun c_34 => ?_)
        · have hV := hV.2 c_34
          refine lv_iconst (v := (0 : Int32)) hx hb dX7_stay_40 (by decide) ?_
          refine lv_istore (lv' := [(5, .int (0 : Int32)), (0, .ref (ad 0)), (1, .int p0), (2, .int p1), (3, .int p2), (4, .int p3)]) hx hb dX7_stay_41 hl (by decide) rfl (fun ls hl => ?_)
          refine lv_iconst (v := (0 : Int32)) hx hb dX7_stay_43 (by decide) ?_
          refine lv_istore (lv' := [(6, .int (0 : Int32)), (5, .int (0 : Int32)), (0, .ref (ad 0)), (1, .int p0), (2, .int p1), (3, .int p2), (4, .int p3)]) hx hb dX7_stay_44 hl (by decide) rfl (fun ls hl => ?_)
          exact oJ46 _ _ hV _ (lv_sub hl [3, 4, 5, 6, 1, 0] rfl)
        · have hV := hV.1 c_34
          refine lv_bipush (v := (-2 : Int32)) hx hb dX7_stay_37 (by decide) ?_
          exact W.iret (v := (-2 : Int32)) hx hb hr (fun t ht hW => ⟨_, rfl, hV, ht⟩) (fun _ h => by cases h) dX7_stay_39
      · have hV := hV.2 c_23
        refine lv_iconst (v := (-1 : Int32)) hx hb dX7_stay_26 (by decide) ?_
        exact W.iret (v := (-1 : Int32)) hx hb hr (fun t ht hW => ⟨_, rfl, hV, ht⟩) (fun _ h => by cases h) dX7_stay_27
def post_X7_stay (g : Gs) (a : As) (p0 p1 p2 p3 r : Int32) : Prop := StayAns p0 p1 p2 p3 r
set_option maxRecDepth 4000 in
theorem spec_X7_stay (l : Launch) (D : va_G) (cy : Nat → ClassId) (ad : Nat → Nat) (sz : Nat) (g : Gs) (a : As) (p0 : Int32) (p1 : Int32) (p2 : Int32) (p3 : Int32) : Met l yX7_stay wsX7_stay ({ frames := 2, cells := 0, slots := 0, locals := 46 } : Room) (va_Pc [.ref (ad 0), .int p0, .int p1, .int p2, .int p3] (ArP D cy sz (maW ad cy g a))) (Qpi (post_X7_stay g a p0 p1 p2 p3)) 0 0 noF := by
  apply met_X7_stay
  intro J hJ r hr
  unfold post_X7_isPair at hr
  subst hr
  have l1 : (1 : Int64).toInt = 1 := rfl
  have l5 : (100000 : Int64).toInt = 100000 := rfl
  have hm1 : (-1 : Int32).toInt = -1 := rfl
  refine ⟨fun h => Or.inl ⟨fun z => zb_0 h ⟨z.1.1, z.1.2.1, z.1.2.2.1⟩, rfl⟩, fun h r2 hr2 => ?_⟩
  unfold post_X7_in at hr2
  rw [il_t, l1, l5] at hr2
  subst hr2
  refine ⟨fun h2 => Or.inl ⟨fun z => zb_0 h2 z.1.2.2.2, rfl⟩, fun h2 => ⟨fun h6 => ?_, fun h6 => Or.inl ⟨fun z => h6 (by rw [i_le, hm1]; exact z.2), rfl⟩⟩⟩
  rw [i_le, hm1] at h6
  have hK : Keys p0 p1 p2 := pair_keys (zb_1 h) (zb_1 h2)
  clear h h2
  obtain ⟨P, Q, E, rfl, rfl, rfl, pP, pQ, hne, hP, hQ, hE1, hE2⟩ := hK.nat
  have p2 := pP.1
  have q2 := pQ.1
  have iP : (nI P).toInt = P := nI_toInt (by omega)
  have iQ : (nI Q).toInt = Q := nI_toInt (by omega)
  have iE : (nI E).toInt = E := nI_toInt (by omega)
  have nP : tn (nI P) = P := tn_nI (by omega)
  have nQ : tn (nI Q) = Q := tn_nI (by omega)
  have nE : tn (nI E) = E := tn_nI (by omega)
  refine ⟨⟨⟨by omega, by omega⟩, ⟨by omega, by omega⟩, by omega⟩, fun r2 hr2 => ?_⟩
  unfold post_X7_isFree at hr2
  subst hr2
  refine ⟨fun h2 => Or.inr ⟨⟨hK, h6⟩, Or.inl ⟨zb_0 h2, rfl⟩⟩, fun h2 => ?_⟩
  have hF : Free (nI P) (nI Q) (nI E) := zb_1 h2
  have hm : P * Q ≤ 199 * 199 := Nat.mul_le_mul (by omega) (by omega)
  have hm2 : 2 * 2 ≤ P * Q := Nat.mul_le_mul (by omega) (by omega)
  refine ith_loop (J := J) (post := post_X7_stay g a (nI P) (nI Q) (nI E) p3) (p := SB E (P * Q)) (N := P * Q) (lo := 0) (i := p3) (by omega) (by omega) h6 rfl (fun r hr => Or.inr ⟨⟨hK, h6⟩, Or.inr ⟨hF, by rw [nP, nQ, nE]; exact hr⟩⟩) (fun f hf c1 c2 => ?_) (fun f k hf hlk hk c1 c2 c3 => ?_)
  · refine hJ _ _ (pk_le (P * Q) (P * Q) (fun _ => ⟨fun q => c2 (fun z => ?_), fun q => c1 ?_⟩) (fun h => absurd h (by omega)) (pk_mul P Q))
    · rw [i_le, Int32.toInt_zero, z, hm1] at q; omega
    · rw [i_le, Int32.toInt_zero] at q; exact i_m1.mp (by omega)
  · refine hJ _ _ (pk_le (P * Q) k (fun h => absurd h (by omega)) (fun _ => ?_) (pk_mul P Q))
    rw [pk_mul, nI_l (by omega)]
    refine ⟨⟨by rw [nI_toInt (by omega)]; omega, by rw [nI_toInt (by omega)]; omega, by rw [pk_lT (by omega)]; omega⟩, fun r hr => ?_⟩
    unfold post_X7_powerOf at hr
    rw [tn_nI (by omega), tl_lN (by omega), tn_nI (by omega)] at hr
    subst hr
    rw [nI_1, nI_1]
    have hkm : k % (P * Q) = k := Nat.mod_eq_of_lt hk
    have hml := Nat.mod_lt (k ^ E) (show 0 < P * Q by omega)
    refine pk_eq (k ^ E % (P * Q)) k (fun q => ?_) (fun q => c1 (decide_eq_false (fun z => q (by rwa [hkm] at z)))) rfl rfl (by omega) (by omega)
    have hS : SB E (P * Q) k = true := decide_eq_true (by rw [hkm]; exact q)
    exact ⟨c2 hS, c3 hS⟩
