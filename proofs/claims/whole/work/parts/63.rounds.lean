/-! rounds of letters; counts -/
/-- after how many powers a letter (each, if -1) comes round by p -/
def TurnOf (p : Nat) (l : Int32) (t : Nat) : Prop := (l = -1 ∧ t = p - 1) ∨ (¬ l = -1 ∧ tn l % p = 0 ∧ t = 1) ∨ (¬ l = -1 ∧ ¬ tn l % p = 0 ∧ IsOrd p (tn l % p) t)
theorem TurnOf.one {p : Nat} {l : Int32} {t t' : Nat} (h : TurnOf p l t) (h' : TurnOf p l t') : t = t' := by
  rcases h with ⟨h1, h2⟩ | ⟨h1, h2, h3⟩ | ⟨h1, h2, h3⟩ <;> rcases h' with ⟨k1, k2⟩ | ⟨k1, k2, k3⟩ | ⟨k1, k2, k3⟩
  · rw [h2, k2]
  · exact absurd h1 k1
  · exact absurd h1 k1
  · exact absurd k1 h1
  · rw [h3, k3]
  · exact absurd h2 k2
  · exact absurd k1 h1
  · exact absurd k2 h2
  · exact ord_one h3 k3
theorem U_pr {p : Nat} (hp : Pr p) : U p = p - 1 := by
  have := U_pp (t := 1) hp (Nat.le_refl 1)
  rwa [Nat.pow_one, Nat.sub_self, Nat.pow_zero, Nat.one_mul] at this
theorem pr_fermat {p a : Nat} (hp : Pr p) (hb : p ≤ 50001) (ha : ¬ a % p = 0) : a ^ (p - 1) % p = 1 % p := by
  have hc : Nat.gcd p a = 1 := pr_cop hp (fun hd => ha (Nat.mod_eq_zero_of_dvd hd))
  have := (cy_pp (t := 1) hp (Nat.le_refl 1) (by rw [Nat.pow_one]; exact hb)).1 a (by rw [Nat.pow_one]; exact hc)
  have hcy : cyF (fun _ => p) (fun _ => 1) 0 = p - 1 := by
    unfold cyF
    rw [if_neg (fun z => absurd z.2 (by decide)), un_eq (P := fun _ => p) (T := fun _ => 1) (i := 0) hp.1 (Nat.le_refl 1)]
    rw [Nat.sub_self, Nat.pow_zero, Nat.one_mul]
  rw [hcy, Nat.pow_one] at this
  exact this
theorem TurnOf.dvd {p : Nat} {l : Int32} {t : Nat} (hp : Pr p) (hb : p ≤ 50001) (h : TurnOf p l t) : t ∣ p - 1 ∧ 1 ≤ t := by
  have h2 := hp.1
  rcases h with ⟨h1, rfl⟩ | ⟨h1, -, rfl⟩ | ⟨h1, h3, h4⟩
  · exact ⟨Nat.dvd_refl _, by omega⟩
  · exact ⟨Nat.one_dvd _, Nat.le_refl 1⟩
  · refine ⟨ord_dvd h4 (pr_fermat hp hb ?_), h4.1⟩
    rw [Nat.mod_mod]; exact h3
/-- by one prime -/
theorem turn_iff {p x t E : Nat} (hp : Pr p) (h : (x % p = 0 ∧ t = 1) ∨ (¬ x % p = 0 ∧ IsOrd p (x % p) t)) (hE : 1 ≤ E) : x ^ E % p = x % p ↔ t ∣ E - 1 := by
  obtain ⟨F, rfl⟩ : ∃ F, E = F + 1 := ⟨E - 1, by omega⟩
  rw [Nat.add_sub_cancel]
  rcases h with ⟨h1, rfl⟩ | ⟨h1, h2⟩
  · refine ⟨fun _ => Nat.one_dvd _, fun _ => ?_⟩
    rw [h1]
    obtain ⟨c, hc⟩ := Nat.dvd_of_mod_eq_zero h1
    rw [Nat.pow_succ, hc]
    exact Nat.mod_eq_zero_of_dvd (Nat.dvd_trans (Nat.dvd_mul_right p c) (Nat.dvd_mul_left _ _))
  · rw [ord_mod] at h2
    rw [← ord_iff h2]
    have hc : Nat.Coprime p x := pr_cop hp (fun hd => h1 (Nat.mod_eq_zero_of_dvd hd))
    constructor
    · intro z
      refine md_cancel hc ?_
      rw [Nat.mul_one, ← Nat.pow_succ']
      exact z
    · intro z
      rw [Nat.pow_succ]
      have := md_mul z (rfl : x % p = x % p)
      rwa [Nat.one_mul] at this
theorem rnd_iff {p q x tp tq E : Nat} {l : Int32} (hp : Pr p) (hq : Pr q) (hne : p ≠ q) (hl : ¬ l = -1) (hx : tn l = x) (hxl : x < p * q) (h1 : TurnOf p l tp) (h2 : TurnOf q l tq) (hE : 1 ≤ E) : x ^ E % (p * q) = x ↔ E % Nat.lcm tp tq = 1 % Nat.lcm tp tq := by
  have z : ∀ {p t}, TurnOf p l t → (x % p = 0 ∧ t = 1) ∨ (¬ x % p = 0 ∧ IsOrd p (x % p) t) := fun {p t} h => by
    rcases h with ⟨q1, -⟩ | ⟨-, q2, q3⟩ | ⟨-, q2, q3⟩
    · exact absurd q1 hl
    · rw [hx] at q2; exact Or.inl ⟨q2, q3⟩
    · rw [hx] at q2 q3; exact Or.inr ⟨q2, q3⟩
  have e1 := turn_iff hp (z h1) hE
  have e2 := turn_iff hq (z h2) hE
  rw [md_iff hE, Nat.lcm_dvd_iff, ← e1, ← e2, ← md_split (pr_two_cop hp hq hne), Nat.mod_eq_of_lt hxl]
def RndOk (p q e l : Int32) : Prop := Keys p q e ∧ -1 ≤ l.toInt ∧ l.toInt < (tn p * tn q : Nat)
def RndAns (p q e l r : Int32) : Prop := (¬ RndOk p q e l ∧ r = -1) ∨ (RndOk p q e l ∧ ((¬ Free p q e ∧ r = -2) ∨ (Free p q e ∧ ∃ tp tq R, TurnOf (tn p) l tp ∧ TurnOf (tn q) l tq ∧ IsOrd (Nat.lcm tp tq) (tn e) R ∧ r = nI R)))
theorem RndAns.one {p q e l r r' : Int32} (h : RndAns p q e l r) (h' : RndAns p q e l r') : r = r' := by
  rcases h with ⟨h1, h2⟩ | ⟨h1, h2⟩ <;> rcases h' with ⟨k1, k2⟩ | ⟨k1, k2⟩
  · rw [h2, k2]
  · exact absurd k1 h1
  · exact absurd h1 k1
  · rcases h2 with ⟨q1, q2⟩ | ⟨q1, tp, tq, R, d1, d2, d3, d4⟩ <;> rcases k2 with ⟨r1, r2⟩ | ⟨r1, sp, sq, R', x1, x2, x3, x4⟩
    · rw [q2, r2]
    · exact absurd r1 q1
    · exact absurd q1 r1
    · have := d1.one x1
      subst this
      have := d2.one x2
      subst this
      rw [d4, x4, ord_one d3 x3]
def pre_X6_turnBy (g : Gs) (a : As) (w : Ws) (p0 p1 : Int32) : Prop := p0.toInt ≤ 199 ∧ Pr (tn p0) ∧ -1 ≤ p1.toInt
set_option maxHeartbeats 4000000 in
set_option maxRecDepth 100000 in
theorem met_X6_turnBy (l : Launch) (D : va_G) (cy : Nat → ClassId) (ad : Nat → Nat) (sz : Nat) (g : Gs) (a : As) (w : Ws) (p0 : Int32) (p1 : Int32) (post : Int32 → Gs → As → Ws → Prop)
  (hV : ((p1 = (-1 : Int32) → post (p0 - (1 : Int32)) g a w) ∧ (¬ p1 = (-1 : Int32) → ∀ r12 : Int32, post_X4_rest p1.toInt64 p0 r12 → ((r12 = 0 → post (1 : Int32) g a w) ∧ (¬ r12 = 0 → pre_X6_leastExponent g a w r12 p0 ∧ (∀ (r27 : Int32) (g27 : Gs) (a27 : As) (w27 : Ws), post_X6_leastExponent g a w r12 p0 r27 g27 a27 w27 → post r27 g27 a27 w27)))))) :
  Met l yX6_turnBy wsX6_turnBy ({ frames := 4, cells := 0, slots := 0, locals := 96 } : Room) (va_Pc [.ref (ad 0), .int p0, .int p1] (ArP D cy sz (caW ad cy g a w))) (va_Qi (fun (r : Int32) (u : Gs × As × Ws) => post r u.1 u.2.1 u.2.2) (fun u t => va_P D vwCl (caW ad cy u.1 u.2.1 u.2.2) t.heap) (va_A (caW ad cy g a w) sz)) 0 0 (va_A (caW ad cy g a w) sz) := by
  refine Met.ofW (cc := cX6_turnBy) (maxL := 4) (ret := (some .int)) (by decide) rfl ?_
  intro p e s m args below meth c s₁ B hml hv
  obtain ⟨rfl, hsz, hP, hK, hD0, hN⟩ := hv
  have hx := B.exec
  have hb := B.bytes
  have hr := B.returns
  have hts := atoms_spec (ws := wsX6_turnBy) B.pre
  have hown : s.vm.findClass RX6 = some m.cls := findClass_of_methodNamed B.named
  have hlocks := B.notSynchronized
  subst hsz
  have hD := hD0.self (sz := s.heap.size)
  have hP : va_P D vwCl (caW ad cy g a w) s.heap := hP
  have hD : va_D (va_A (caW ad cy g a w) s.heap.size) (caW ad cy g a w) := hD
  have hS : va_S (va_A (caW ad cy g a w) s.heap.size) s.heap s.heap [] := va_S.rf
  have hA : ∀ q : Nat, s.heap.size ≤ q → va_A (caW ad cy g a w) s.heap.size q := fun q h => Or.inr h
  have hl := lv_entry ([.ref (ad 0), .int p0, .int p1]) (n := 4) (Nat.le_of_ble_eq_true rfl)
  rw [lg_entry_eq]
  generalize (lg_sl ([.ref (ad 0), .int p0, .int p1]) ++ List.replicate (4 - (lg_sl ([.ref (ad 0), .int p0, .int p1])).length) Slot.unset).toArray = ls at hl ⊢
  have hl : lv_has ls 4 [(0, .ref (ad 0)), (1, .int p0), (2, .int p1)] := hl
  refine lv_iload_n hx hb dX6_turnBy_0 rfl (lv_at hl 2 rfl) ?_
  refine lv_iconst (v := (-1 : Int32)) hx hb dX6_turnBy_1 (by decide) ?_
  refine lv_icmp_ne (tgt := 9) hx hb dX6_turnBy_2 (by decide) (fun c_2 => ?_) (fun c_2 => ?_)
  · have hV := hV.2 c_2
    refine lv_iload_n hx hb dX6_turnBy_9 rfl (lv_at hl 2 rfl) ?_
    refine lv_i2l (v := p1.toInt64) hx hb dX6_turnBy_10 rfl ?_
    refine lv_iload_n hx hb dX6_turnBy_11 rfl (lv_at hl 1 rfl) ?_
    refine cp_i (va_runS (As := [.long p1.toInt64, .int p0]) (rest := []) ⟨hx, hb, hml, hown, hts⟩ (spec_X4_rest l p1.toInt64 p0) (va_cwS 2 hts gX6_turnBy_X4_rest rfl rfl rfl (by decide +kernel) ⟨Nat.le_of_ble_eq_true rfl, Nat.le_of_ble_eq_true rfl⟩) cp_pre rfl rfl hl.1 rfl (lv_room (Nat.le_of_ble_eq_true rfl)) dX6_turnBy_12 ⟨Nat.zero_le _, Nat.zero_le _⟩) (fun r12 q_12 => ?_)
    have hV := hV r12 q_12
    refine lv_istore_n (lv' := [(3, .int r12), (0, .ref (ad 0)), (1, .int p0), (2, .int p1)]) hx hb dX6_turnBy_15 rfl hl (by decide) rfl (fun ls hl => ?_)
    refine lv_iload_n hx hb dX6_turnBy_16 rfl (lv_at hl 0 rfl) ?_
    refine lv_if_ne (tgt := 24) hx hb dX6_turnBy_17 (by decide) (fun c_17 => ?_) (fun c_17 => ?_)
    · have hV := hV.2 c_17
      refine lv_aload_n hx hb dX6_turnBy_24 rfl (lv_at hl 1 rfl) ?_
      refine lv_iload_n hx hb dX6_turnBy_25 rfl (lv_at hl 0 rfl) ?_
      refine lv_iload_n hx hb dX6_turnBy_26 rfl (lv_at hl 2 rfl) ?_
      obtain ⟨h_27, hV⟩ := hV
      refine cw_i (va_runV (As := [.int r12, .int p0]) (rest := []) ⟨hx, hb, hml, hown, hts⟩ (spec_X6_leastExponent l D cy ad _ g a w r12 p0 h_27) (cwV 2 hts gX6_turnBy_X6_leastExponent rfl rfl rfl (by decide +kernel) ⟨Nat.le_of_ble_eq_true rfl, Nat.le_of_ble_eq_true rfl⟩) (ar_preV hN hK hP (caD hD) (ci := 5) (q0 := 0) rfl rfl) rfl rfl hl.1 rfl (lv_room (Nat.le_of_ble_eq_true rfl)) dX6_turnBy_27 ⟨Nat.zero_le _, Nat.zero_le _⟩) hS (caD hD) hA (fun r27 u_27 H locs q_27 hP hS => ?_)
      obtain ⟨g27, a27, w27⟩ := u_27
      have hV := hV r27 g27 a27 w27 q_27
      have hP : va_P D vwCl (caW ad cy g27 a27 w27) H := hP
      exact W.iret (v := r27) hx hb hr (fun t ht hW => ⟨⟨_, (g27, a27, w27), rfl, hV, ar_heap ht hP⟩, hS.F ht⟩) hS.2.2 dX6_turnBy_30
    · have hV := hV.1 c_17
      refine lv_iconst (v := (1 : Int32)) hx hb dX6_turnBy_20 (by decide) ?_
      refine lv_goto (tgt := 30) hx hb dX6_turnBy_21 (by decide) ?_
      exact W.iret (v := (1 : Int32)) hx hb hr (fun t ht hW => ⟨⟨_, (g, a, w), rfl, hV, ar_heap ht hP⟩, hS.F ht⟩) hS.2.2 dX6_turnBy_30
  · have hV := hV.1 c_2
    refine lv_iload_n hx hb dX6_turnBy_5 rfl (lv_at hl 1 rfl) ?_
    refine lv_iconst (v := (1 : Int32)) hx hb dX6_turnBy_6 (by decide) ?_
    refine lv_isub hx hb dX6_turnBy_7 ?_
    exact W.iret (v := p0 - (1 : Int32)) hx hb hr (fun t ht hW => ⟨⟨_, (g, a, w), rfl, hV, ar_heap ht hP⟩, hS.F ht⟩) hS.2.2 dX6_turnBy_8
def post_X6_turnBy (g : Gs) (a : As) (w : Ws) (p0 p1 r : Int32) (g' : Gs) (a' : As) (w' : Ws) : Prop := (∃ t, TurnOf (tn p0) p1 t ∧ r = nI t) ∧ FS g a w g' a' w'
set_option maxRecDepth 4000 in
theorem spec_X6_turnBy (l : Launch) (D : va_G) (cy : Nat → ClassId) (ad : Nat → Nat) (sz : Nat) (g : Gs) (a : As) (w : Ws) (p0 : Int32) (p1 : Int32) (hpre : pre_X6_turnBy g a w p0 p1) : Met l yX6_turnBy wsX6_turnBy ({ frames := 4, cells := 0, slots := 0, locals := 96 } : Room) (va_Pc [.ref (ad 0), .int p0, .int p1] (ArP D cy sz (caW ad cy g a w))) (va_Qi (fun (r : Int32) (u : Gs × As × Ws) => (post_X6_turnBy g a w p0 p1) r u.1 u.2.1 u.2.2) (fun u t => va_P D vwCl (caW ad cy u.1 u.2.1 u.2.2) t.heap) (va_A (caW ad cy g a w) sz)) 0 0 (va_A (caW ad cy g a w) sz) := by
  apply met_X6_turnBy
  obtain ⟨h0, h1, h2⟩ := hpre
  have h3 := tn_ge h1.1
  obtain ⟨p, hp, rfl, hp2⟩ := of_i (x := p0) (by omega)
  have np : tn (nI p) = p := tn_nI hp
  rw [np] at h1
  refine ⟨fun q => ⟨⟨p - 1, Or.inl ⟨q, by rw [np]⟩, pk_sub (b := 1) (by omega)⟩, FS.rf⟩, fun q r0 hr0 => ?_⟩
  have hi0 : 0 ≤ p1.toInt := by
    have : p1.toInt ≠ -1 := fun e => q (i_m1.mp e)
    omega
  obtain ⟨x, hx, rfl, hx2⟩ := of_i hi0
  rw [nI_l hx] at hr0
  have hr0 := rest_eq hr0 (by omega) (by omega) hp
  subst hr0
  have hml := Nat.mod_lt x (show 0 < p by omega)
  refine pk_eq (x % p) 0 (fun z => ⟨⟨1, Or.inr (Or.inl ⟨q, by rw [np, tn_nI hx]; exact z, rfl⟩), rfl⟩, FS.rf⟩) (fun z => ⟨⟨by rw [nI_toInt (by omega)]; omega, by omega, by omega, ?_⟩, fun r g1 a1 w1 hr => ?_⟩) rfl rfl (by omega) (by omega)
  · rw [np, tn_nI (by omega)]
    exact pr_cop h1 (fun hd => by have := Nat.le_of_dvd (by omega) hd; omega)
  · obtain ⟨⟨e, e1, e2, e3⟩, hFS⟩ := hr
    rw [np, tn_nI (show x % p < 2 ^ 31 by omega)] at e1
    exact ⟨⟨e, Or.inr (Or.inr ⟨q, by rw [np, tn_nI hx]; exact z, by rw [np, tn_nI hx]; exact e1⟩), e3⟩, hFS⟩
set_option maxHeartbeats 4000000 in
set_option maxRecDepth 100000 in
theorem met_X6_rounds (l : Launch) (D : va_G) (cy : Nat → ClassId) (ad : Nat → Nat) (sz : Nat) (g : Gs) (a : As) (w : Ws) (p0 : Int32) (p1 : Int32) (p2 : Int32) (p3 : Int32) (post : Int32 → Gs → As → Ws → Prop)
  (hV : ∀ r3 : Int32, post_X6_areKeys p0 p1 p2 r3 → ((r3 = 0 → post (-1 : Int32) g a w) ∧ (¬ r3 = 0 → ((p3 < (-1 : Int32) → post (-1 : Int32) g a w) ∧ (¬ p3 < (-1 : Int32) → ((p3 < (p0 * p1) → pre_X6_keySharesDivisor p0 p1 p2 ∧ (∀ r28 : Int32, post_X6_keySharesDivisor p0 p1 p2 r28 → ((r28 = 0 → pre_X6_turnBy g a w p0 p3 ∧ (∀ (r41 : Int32) (g41 : Gs) (a41 : As) (w41 : Ws), post_X6_turnBy g a w p0 p3 r41 g41 a41 w41 → pre_X6_turnBy g41 a41 w41 p1 p3 ∧ (∀ (r48 : Int32) (g48 : Gs) (a48 : As) (w48 : Ws), post_X6_turnBy g41 a41 w41 p1 p3 r48 g48 a48 w48 → pre_X4_commonMultiple r41 r48 ∧ (∀ r51 : Int32, post_X4_commonMultiple r41 r48 r51 → pre_X6_leastExponent g48 a48 w48 p2 r51 ∧ (∀ (r60 : Int32) (g60 : Gs) (a60 : As) (w60 : Ws), post_X6_leastExponent g48 a48 w48 p2 r51 r60 g60 a60 w60 → post r60 g60 a60 w60))))) ∧ (¬ r28 = 0 → post (-2 : Int32) g a w)))) ∧ (¬ p3 < (p0 * p1) → post (-1 : Int32) g a w))))))) :
  Met l yX6_rounds wsX6_rounds ({ frames := 5, cells := 0, slots := 0, locals := 119 } : Room) (va_Pc [.ref (ad 0), .int p0, .int p1, .int p2, .int p3] (ArP D cy sz (caW ad cy g a w))) (va_Qi (fun (r : Int32) (u : Gs × As × Ws) => post r u.1 u.2.1 u.2.2) (fun u t => va_P D vwCl (caW ad cy u.1 u.2.1 u.2.2) t.heap) (va_A (caW ad cy g a w) sz)) 0 0 (va_A (caW ad cy g a w) sz) := by
  refine Met.ofW (cc := cX6_rounds) (maxL := 6) (ret := (some .int)) (by decide) rfl ?_
  intro p e s m args below meth c s₁ B hml hv
  obtain ⟨rfl, hsz, hP, hK, hD0, hN⟩ := hv
  have hx := B.exec
  have hb := B.bytes
  have hr := B.returns
  have hts := atoms_spec (ws := wsX6_rounds) B.pre
  have hown : s.vm.findClass RX6 = some m.cls := findClass_of_methodNamed B.named
  have hlocks := B.notSynchronized
  subst hsz
  have hD := hD0.self (sz := s.heap.size)
  have hP : va_P D vwCl (caW ad cy g a w) s.heap := hP
  have hD : va_D (va_A (caW ad cy g a w) s.heap.size) (caW ad cy g a w) := hD
  have hS : va_S (va_A (caW ad cy g a w) s.heap.size) s.heap s.heap [] := va_S.rf
  have hA : ∀ q : Nat, s.heap.size ≤ q → va_A (caW ad cy g a w) s.heap.size q := fun q h => Or.inr h
  have hl := lv_entry ([.ref (ad 0), .int p0, .int p1, .int p2, .int p3]) (n := 6) (Nat.le_of_ble_eq_true rfl)
  rw [lg_entry_eq]
  generalize (lg_sl ([.ref (ad 0), .int p0, .int p1, .int p2, .int p3]) ++ List.replicate (6 - (lg_sl ([.ref (ad 0), .int p0, .int p1, .int p2, .int p3])).length) Slot.unset).toArray = ls at hl ⊢
  have hl : lv_has ls 6 [(0, .ref (ad 0)), (1, .int p0), (2, .int p1), (3, .int p2), (4, .int p3)] := hl
  refine lv_iload_n hx hb dX6_rounds_0 rfl (lv_at hl 1 rfl) ?_
  refine lv_iload_n hx hb dX6_rounds_1 rfl (lv_at hl 2 rfl) ?_
  refine lv_iload_n hx hb dX6_rounds_2 rfl (lv_at hl 3 rfl) ?_
  refine cp_i (va_runS (As := [.int p0, .int p1, .int p2]) (rest := []) ⟨hx, hb, hml, hown, hts⟩ (spec_X6_areKeys l p0 p1 p2) (va_cwS 3 hts gX6_rounds_X6_areKeys rfl rfl rfl (by decide +kernel) ⟨Nat.le_of_ble_eq_true rfl, Nat.le_of_ble_eq_true rfl⟩) cp_pre rfl rfl hl.1 rfl (lv_room (Nat.le_of_ble_eq_true rfl)) dX6_rounds_3 ⟨Nat.zero_le _, Nat.zero_le _⟩) (fun r3 q_3 => ?_)
  have hV := hV r3 q_3
  refine lv_if_eq (tgt := 23) hx hb dX6_rounds_6 (by decide) (fun c_6 => ?_) (fun c_6 => ?_)
  · have hV := hV.1 c_6
    refine lv_iconst (v := (-1 : Int32)) hx hb dX6_rounds_23 (by decide) ?_
    exact W.iret (v := (-1 : Int32)) hx hb hr (fun t ht hW => ⟨⟨_, (g, a, w), rfl, hV, ar_heap ht hP⟩, hS.F ht⟩) hS.2.2 dX6_rounds_24
  · have hV := hV.2 c_6
    refine lv_iload hx hb dX6_rounds_9 (lv_at hl 4 rfl) ?_
    refine lv_iconst (v := (-1 : Int32)) hx hb dX6_rounds_11 (by decide) ?_
    refine lv_icmp_lt (tgt := 23) hx hb dX6_rounds_12 (by decide) (fun c_12 => ?_) (fun c_12 => ?_)
    · have hV := hV.1 c_12
      refine lv_iconst (v := (-1 : Int32)) hx hb dX6_rounds_23 (by decide) ?_
      exact W.iret (v := (-1 : Int32)) hx hb hr (fun t ht hW => ⟨⟨_, (g, a, w), rfl, hV, ar_heap ht hP⟩, hS.F ht⟩) hS.2.2 dX6_rounds_24
    · have hV := hV.2 c_12
      refine lv_iload hx hb dX6_rounds_15 (lv_at hl 4 rfl) ?_
      refine lv_iload_n hx hb dX6_rounds_17 rfl (lv_at hl 1 rfl) ?_
      refine lv_iload_n hx hb dX6_rounds_18 rfl (lv_at hl 2 rfl) ?_
      refine lv_imul hx hb dX6_rounds_19 ?_
      refine lv_icmp_lt (tgt := 25) hx hb dX6_rounds_20 (by decide) (fun c_20 => ?_) (fun c_20 => ?_)
      · have hV := hV.1 c_20
        refine lv_iload_n hx hb dX6_rounds_25 rfl (lv_at hl 1 rfl) ?_
        refine lv_iload_n hx hb dX6_rounds_26 rfl (lv_at hl 2 rfl) ?_
        refine lv_iload_n hx hb dX6_rounds_27 rfl (lv_at hl 3 rfl) ?_
        obtain ⟨h_28, hV⟩ := hV
        refine cp_i (va_runS (As := [.int p0, .int p1, .int p2]) (rest := []) ⟨hx, hb, hml, hown, hts⟩ (spec_X6_keySharesDivisor l p0 p1 p2 h_28) (va_cwS 3 hts gX6_rounds_X6_keySharesDivisor rfl rfl rfl (by decide +kernel) ⟨Nat.le_of_ble_eq_true rfl, Nat.le_of_ble_eq_true rfl⟩) cp_pre rfl rfl hl.1 rfl (lv_room (Nat.le_of_ble_eq_true rfl)) dX6_rounds_28 ⟨Nat.zero_le _, Nat.zero_le _⟩) (fun r28 q_28 => ?_)
        have hV := hV r28 q_28
        refine lv_if_eq (tgt := 37) hx hb dX6_rounds_31 (by decide) (fun c_31 => ?_) (fun c_31 => ?_)
        · have hV := hV.1 c_31
          refine lv_aload_n hx hb dX6_rounds_37 rfl (lv_at hl 0 rfl) ?_
          refine lv_iload_n hx hb dX6_rounds_38 rfl (lv_at hl 1 rfl) ?_
          refine lv_iload hx hb dX6_rounds_39 (lv_at hl 4 rfl) ?_
          obtain ⟨h_41, hV⟩ := hV
          refine cw_i (va_runV (As := [.int p0, .int p3]) (rest := []) ⟨hx, hb, hml, hown, hts⟩ (spec_X6_turnBy l D cy ad _ g a w p0 p3 h_41) (cwV 2 hts gX6_rounds_X6_turnBy rfl rfl rfl (by decide +kernel) ⟨Nat.le_of_ble_eq_true rfl, Nat.le_of_ble_eq_true rfl⟩) (ar_preV hN hK hP (caD hD) (ci := 5) (q0 := 0) rfl rfl) rfl rfl hl.1 rfl (lv_room (Nat.le_of_ble_eq_true rfl)) dX6_rounds_41 ⟨Nat.zero_le _, Nat.zero_le _⟩) hS (caD hD) hA (fun r41 u_41 H locs q_41 hP hS => ?_)
          obtain ⟨g41, a41, w41⟩ := u_41
          have hV := hV r41 g41 a41 w41 q_41
          have hP : va_P D vwCl (caW ad cy g41 a41 w41) H := hP
          refine lv_aload_n hx hb dX6_rounds_44 rfl (lv_at hl 0 rfl) ?_
          refine lv_iload_n hx hb dX6_rounds_45 rfl (lv_at hl 2 rfl) ?_
          refine lv_iload hx hb dX6_rounds_46 (lv_at hl 4 rfl) ?_
          obtain ⟨h_48, hV⟩ := hV
          refine cw_i (va_runV (As := [.int p1, .int p3]) (rest := [.int r41]) ⟨hx, hb, hml, hown, hts⟩ (spec_X6_turnBy l D cy ad _ g41 a41 w41 p1 p3 h_48) (cwV 2 hts gX6_rounds_X6_turnBy rfl rfl rfl (by decide +kernel) ⟨Nat.le_of_ble_eq_true rfl, Nat.le_of_ble_eq_true rfl⟩) (ar_preV hN hK hP (caD hD) (ci := 5) (q0 := 0) rfl rfl) rfl rfl hl.1 rfl (lv_room (Nat.le_of_ble_eq_true rfl)) dX6_rounds_48 ⟨Nat.zero_le _, Nat.zero_le _⟩) hS (caD hD) hA (fun r48 u_48 H locs q_48 hP hS => ?_)
          obtain ⟨g48, a48, w48⟩ := u_48
          have hV := hV r48 g48 a48 w48 q_48
          have hP : va_P D vwCl (caW ad cy g48 a48 w48) H := hP
          obtain ⟨h_51, hV⟩ := hV
          refine cp_i (va_runS (As := [.int r41, .int r48]) (rest := []) ⟨hx, hb, hml, hown, hts⟩ (spec_X4_commonMultiple l r41 r48 h_51) (va_cwS 2 hts gX6_rounds_X4_commonMultiple rfl rfl rfl (by decide +kernel) ⟨Nat.le_of_ble_eq_true rfl, Nat.le_of_ble_eq_true rfl⟩) cp_pre rfl rfl hl.1 rfl (lv_room (Nat.le_of_ble_eq_true rfl)) dX6_rounds_51 ⟨Nat.zero_le _, Nat.zero_le _⟩) (fun r51 q_51 => ?_)
          have hV := hV r51 q_51
          refine lv_istore (lv' := [(5, .int r51), (0, .ref (ad 0)), (1, .int p0), (2, .int p1), (3, .int p2), (4, .int p3)]) hx hb dX6_rounds_54 hl (by decide) rfl (fun ls hl => ?_)
          refine lv_aload_n hx hb dX6_rounds_56 rfl (lv_at hl 1 rfl) ?_
          refine lv_iload_n hx hb dX6_rounds_57 rfl (lv_at hl 4 rfl) ?_
          refine lv_iload hx hb dX6_rounds_58 (lv_at hl 0 rfl) ?_
          obtain ⟨h_60, hV⟩ := hV
          refine cw_i (va_runV (As := [.int p2, .int r51]) (rest := []) ⟨hx, hb, hml, hown, hts⟩ (spec_X6_leastExponent l D cy ad _ g48 a48 w48 p2 r51 h_60) (cwV 2 hts gX6_rounds_X6_leastExponent rfl rfl rfl (by decide +kernel) ⟨Nat.le_of_ble_eq_true rfl, Nat.le_of_ble_eq_true rfl⟩) (ar_preV hN hK hP (caD hD) (ci := 5) (q0 := 0) rfl rfl) rfl rfl hl.1 rfl (lv_room (Nat.le_of_ble_eq_true rfl)) dX6_rounds_60 ⟨Nat.zero_le _, Nat.zero_le _⟩) hS (caD hD) hA (fun r60 u_60 H locs q_60 hP hS => ?_)
          obtain ⟨g60, a60, w60⟩ := u_60
          have hV := hV r60 g60 a60 w60 q_60
          have hP : va_P D vwCl (caW ad cy g60 a60 w60) H := hP
          exact W.iret (v := r60) hx hb hr (fun t ht hW => ⟨⟨_, (g60, a60, w60), rfl, hV, ar_heap ht hP⟩, hS.F ht⟩) hS.2.2 dX6_rounds_63
        · have hV := hV.2 c_31
          refine lv_bipush (v := (-2 : Int32)) hx hb dX6_rounds_34 (by decide) ?_
          exact W.iret (v := (-2 : Int32)) hx hb hr (fun t ht hW => ⟨⟨_, (g, a, w), rfl, hV, ar_heap ht hP⟩, hS.F ht⟩) hS.2.2 dX6_rounds_36
      · have hV := hV.2 c_20
        refine lv_iconst (v := (-1 : Int32)) hx hb dX6_rounds_23 (by decide) ?_
        exact W.iret (v := (-1 : Int32)) hx hb hr (fun t ht hW => ⟨⟨_, (g, a, w), rfl, hV, ar_heap ht hP⟩, hS.F ht⟩) hS.2.2 dX6_rounds_24
def post_X6_rounds (g : Gs) (a : As) (w : Ws) (p0 p1 p2 p3 r : Int32) (g' : Gs) (a' : As) (w' : Ws) : Prop := RndAns p0 p1 p2 p3 r ∧ FS g a w g' a' w'
set_option maxRecDepth 4000 in
theorem spec_X6_rounds (l : Launch) (D : va_G) (cy : Nat → ClassId) (ad : Nat → Nat) (sz : Nat) (g : Gs) (a : As) (w : Ws) (p0 : Int32) (p1 : Int32) (p2 : Int32) (p3 : Int32) : Met l yX6_rounds wsX6_rounds ({ frames := 5, cells := 0, slots := 0, locals := 119 } : Room) (va_Pc [.ref (ad 0), .int p0, .int p1, .int p2, .int p3] (ArP D cy sz (caW ad cy g a w))) (va_Qi (fun (r : Int32) (u : Gs × As × Ws) => (post_X6_rounds g a w p0 p1 p2 p3) r u.1 u.2.1 u.2.2) (fun u t => va_P D vwCl (caW ad cy u.1 u.2.1 u.2.2) t.heap) (va_A (caW ad cy g a w) sz)) 0 0 (va_A (caW ad cy g a w) sz) := by
  apply met_X6_rounds
  intro r hr
  unfold post_X6_areKeys at hr
  subst hr
  have hm1 : (-1 : Int32).toInt = -1 := rfl
  refine ⟨fun h => ⟨Or.inl ⟨fun z => zb_0 h z.1, rfl⟩, FS.rf⟩, fun h => ?_⟩
  have hK : Keys p0 p1 p2 := zb_1 h
  clear h
  obtain ⟨P, Q, E, rfl, rfl, rfl, pP, pQ, hne, hP, hQ, hE1, hE2⟩ := hK.nat
  have p2 := pP.1
  have q2 := pQ.1
  have iP : (nI P).toInt = P := nI_toInt (by omega)
  have iQ : (nI Q).toInt = Q := nI_toInt (by omega)
  have iE : (nI E).toInt = E := nI_toInt (by omega)
  have nP : tn (nI P) = P := tn_nI (by omega)
  have nQ : tn (nI Q) = Q := tn_nI (by omega)
  have nE : tn (nI E) = E := tn_nI (by omega)
  have hm : P * Q ≤ 199 * 199 := Nat.mul_le_mul (by omega) (by omega)
  refine ⟨fun h6 => ⟨Or.inl ⟨fun z => ?_, rfl⟩, FS.rf⟩, fun h6 => ?_⟩
  · rw [i_lt, hm1] at h6; have := z.2.1; omega
  rw [i_lt, hm1] at h6
  rw [pk_mul, i_lt, nI_toInt (by omega)]
  refine ⟨fun h7 => ?_, fun h7 => ⟨Or.inl ⟨fun z => h7 (by have := z.2.2; rwa [nP, nQ] at this), rfl⟩, FS.rf⟩⟩
  have hok : RndOk (nI P) (nI Q) (nI E) p3 := ⟨hK, by omega, by rw [nP, nQ]; exact h7⟩
  refine ⟨⟨⟨by omega, by omega⟩, ⟨by omega, by omega⟩, by omega⟩, fun r2 hr2 => ?_⟩
  unfold post_X6_keySharesDivisor at hr2
  subst hr2
  refine ⟨fun h2 => ?_, fun h2 => ⟨Or.inr ⟨hok, Or.inl ⟨zb_1 h2, rfl⟩⟩, FS.rf⟩⟩
  have hF : Free (nI P) (nI Q) (nI E) := Classical.not_not.mp (zb_0 h2)
  have hF' := hF
  unfold Free at hF'
  rw [nP, nQ, nE] at hF'
  refine ⟨⟨by omega, by rw [nP]; exact pP, by omega⟩, fun r3 g3 a3 w3 hr3 => ⟨⟨by omega, by rw [nQ]; exact pQ, by omega⟩, fun r4 g4 a4 w4 hr4 => ?_⟩⟩
  obtain ⟨⟨tp, t1, rfl⟩, f1⟩ := hr3
  obtain ⟨⟨tq, t2, rfl⟩, f2⟩ := hr4
  rw [nP] at t1
  rw [nQ] at t2
  obtain ⟨d1, d2⟩ := t1.dvd pP (by omega)
  obtain ⟨d3, d4⟩ := t2.dvd pQ (by omega)
  have b1 := Nat.le_of_dvd (by omega) d1
  have b2 := Nat.le_of_dvd (by omega) d3
  have hl := lcm_le_mul (a := tp) (b := tq) (by omega) (by omega)
  have hmm : tp * tq ≤ 198 * 198 := Nat.mul_le_mul (by omega) (by omega)
  have hl0 : 0 < Nat.lcm tp tq := Nat.lcm_pos (by omega) (by omega)
  refine ⟨⟨by rw [nI_toInt (by omega)]; omega, by rw [nI_toInt (by omega)]; omega, by rw [tn_nI (by omega), tn_nI (by omega)]; omega⟩, fun r5 hr5 => ?_⟩
  unfold post_X4_commonMultiple at hr5
  rw [tn_nI (by omega), tn_nI (by omega)] at hr5
  subst hr5
  refine ⟨⟨by omega, by rw [nI_toInt (by omega)]; omega, by rw [nI_toInt (by omega)]; omega, ?_⟩, fun r6 g6 a6 w6 hr6 => ?_⟩
  · rw [tn_nI (by omega), nE]
    exact free_cop hF' (Nat.dvd_trans (lcm_dvd_mul tp tq) (Nat.mul_dvd_mul d1 d3))
  · obtain ⟨⟨R, R1, R2, R3⟩, f3⟩ := hr6
    rw [tn_nI (by omega)] at R1
    exact ⟨Or.inr ⟨hok, Or.inr ⟨hF, tp, tq, R, by rw [nP]; exact t1, by rw [nQ]; exact t2, R1, R3⟩⟩, (f1.tr f2).tr f3⟩
theorem turn_ex {p : Nat} {l : Int32} (hp : Pr p) : ∃ t, TurnOf p l t := by
  have h2 := hp.1
  by_cases h : l = -1
  · exact ⟨_, Or.inl ⟨h, rfl⟩⟩
  · by_cases q : tn l % p = 0
    · exact ⟨_, Or.inr (Or.inl ⟨h, q, rfl⟩)⟩
    · obtain ⟨e, e1, -⟩ := ord_ex (n := p) (a := tn l % p) (by omega) (pr_cop hp (fun hd => by have := Nat.le_of_dvd (by omega) hd; have := Nat.mod_lt (tn l) (show 0 < p by omega); omega))
      exact ⟨e, Or.inr (Or.inr ⟨h, q, e1⟩)⟩
set_option maxHeartbeats 4000000 in
set_option maxRecDepth 100000 in
theorem met_X7_rounds (l : Launch) (D : va_G) (cy : Nat → ClassId) (ad : Nat → Nat) (sz : Nat) (g : Gs) (a : As) (p0 : Int32) (p1 : Int32) (p2 : Int32) (p3 : Int32) (post : Int32 → Prop)
  (hV : ∀ (J74 : Int32 → Int32 → Int64 → Prop) (J120 : Int32 → Int32 → Prop),
    (∀ (x5 : Int32) (x6 : Int32) (x7 : Int64), ¬ x5 = 0 ∧ (((x7 = (((1 : Int32) - (1 : Int32) / x5 * x5).toInt64) → post x6) ∧ (¬ x7 = (((1 : Int32) - (1 : Int32) / x5 * x5).toInt64) → ¬ x5.toInt64 = 0 ∧ (J74 x5 (x6 + 1) ((x7 * ((p2 - p2 / x5 * x5).toInt64)) - (x7 * ((p2 - p2 / x5 * x5).toInt64)) / x5.toInt64 * x5.toInt64))))) → J74 x5 x6 x7) →
    (∀ (x6 : Int32) (x7 : Int32), ((x7 = p3 → post x6) ∧ (¬ x7 = p3 → pre_X7_powerOf (p0 * p1) x7 p2.toInt64 ∧ (∀ r134 : Int32, post_X7_powerOf (p0 * p1) x7 p2.toInt64 r134 → J120 (x6 + 1) r134))) → J120 x6 x7) →
    ∀ r2 : Int32, post_X7_isPair p0 p1 r2 → ((r2 = 0 → post (-1 : Int32)) ∧ (¬ r2 = 0 → ∀ r14 : Int32, post_X7_in p2.toInt64 (1 : Int64) (100000 : Int64) r14 → ((r14 = 0 → post (-1 : Int32)) ∧ (¬ r14 = 0 → ∀ r32 : Int32, post_X7_in p3.toInt64 (-1 : Int64) (((p0 * p1) - (1 : Int32)).toInt64) r32 → ((r32 = 0 → post (-1 : Int32)) ∧ (¬ r32 = 0 → pre_X7_isFree p0 p1 p2 ∧ (∀ r43 : Int32, post_X7_isFree p0 p1 p2 r43 → ((r43 = 0 → post (-2 : Int32)) ∧ (¬ r43 = 0 → pre_X7_both p0 p1 ∧ (∀ r54 : Int32, post_X7_both p0 p1 r54 → ((0 ≤ p3 → pre_X7_powerOf (p0 * p1) p3 p2.toInt64 ∧ (∀ r115 : Int32, post_X7_powerOf (p0 * p1) p3 p2.toInt64 r115 → J120 (1 : Int32) r115)) ∧ (¬ 0 ≤ p3 → ¬ r54 = 0 ∧ (J74 r54 (1 : Int32) ((p2 - p2 / r54 * r54).toInt64))))))))))))))) :
  Met l yX7_rounds wsX7_rounds ({ frames := 2, cells := 0, slots := 0, locals := 46 } : Room) (va_Pc [.ref (ad 0), .int p0, .int p1, .int p2, .int p3] (ArP D cy sz (maW ad cy g a))) (Qpi post) 0 0 noF := by
  refine Met.ofW (cc := cX7_rounds) (maxL := 9) (ret := (some .int)) (by decide) rfl ?_
  intro p e s m args below meth c s₁ B hml hv
  obtain ⟨rfl, hsz, hP, hK, hD0, hN⟩ := hv
  have hx := B.exec
  have hb := B.bytes
  have hr := B.returns
  have hts := atoms_spec (ws := wsX7_rounds) B.pre
  have hown : s.vm.findClass RX7 = some m.cls := findClass_of_methodNamed B.named
  have hlocks := B.notSynchronized
  subst hsz
  have hP : va_P D vwCl (maW ad cy g a) s.heap := hP
  have hD : va_D (fun _ => True) (maW ad cy g a) := hD0
  obtain ⟨J74, iJ74, oJ74⟩ : ∃ J : Int32 → Int32 → Int64 → Prop, (∀ (x5 : Int32) (x6 : Int32) (x7 : Int64), (∀ ls : Array Slot, lv_has ls 9 [(3, .int p2), (5, .int x5), (6, .int x6), (7, .long x7)] → W p l e (headSpec wsX7_rounds ({ frames := 2, cells := 0, slots := 0, locals := 46 } : Room)).room s m [.ref (ad 0), .int p0, .int p1, .int p2, .int p3].toArray below meth c s.heap [] 0 0 (MQ below (Qpi post) [.ref (ad 0), .int p0, .int p1, .int p2, .int p3].toArray s 0 0 noF) (F0 m 74 ls [])) → J x5 x6 x7) ∧ (∀ (x5 : Int32) (x6 : Int32) (x7 : Int64), J x5 x6 x7 → (∀ ls : Array Slot, lv_has ls 9 [(3, .int p2), (5, .int x5), (6, .int x6), (7, .long x7)] → W p l e (headSpec wsX7_rounds ({ frames := 2, cells := 0, slots := 0, locals := 46 } : Room)).room s m [.ref (ad 0), .int p0, .int p1, .int p2, .int p3].toArray below meth c s.heap [] 0 0 (MQ below (Qpi post) [.ref (ad 0), .int p0, .int p1, .int p2, .int p3].toArray s 0 0 noF) (F0 m 74 ls []))) := ⟨fun (x5 : Int32) (x6 : Int32) (x7 : Int64) => (∀ ls : Array Slot, lv_has ls 9 [(3, .int p2), (5, .int x5), (6, .int x6), (7, .long x7)] → W p l e (headSpec wsX7_rounds ({ frames := 2, cells := 0, slots := 0, locals := 46 } : Room)).room s m [.ref (ad 0), .int p0, .int p1, .int p2, .int p3].toArray below meth c s.heap [] 0 0 (MQ below (Qpi post) [.ref (ad 0), .int p0, .int p1, .int p2, .int p3].toArray s 0 0 noF) (F0 m 74 ls [])), fun _ _ _ h => h, fun _ _ _ h => h⟩
  obtain ⟨J120, iJ120, oJ120⟩ : ∃ J : Int32 → Int32 → Prop, (∀ (x6 : Int32) (x7 : Int32), (∀ ls : Array Slot, lv_has ls 9 [(1, .int p0), (2, .int p1), (3, .int p2), (4, .int p3), (6, .int x6), (7, .int x7)] → W p l e (headSpec wsX7_rounds ({ frames := 2, cells := 0, slots := 0, locals := 46 } : Room)).room s m [.ref (ad 0), .int p0, .int p1, .int p2, .int p3].toArray below meth c s.heap [] 0 0 (MQ below (Qpi post) [.ref (ad 0), .int p0, .int p1, .int p2, .int p3].toArray s 0 0 noF) (F0 m 120 ls [])) → J x6 x7) ∧ (∀ (x6 : Int32) (x7 : Int32), J x6 x7 → (∀ ls : Array Slot, lv_has ls 9 [(1, .int p0), (2, .int p1), (3, .int p2), (4, .int p3), (6, .int x6), (7, .int x7)] → W p l e (headSpec wsX7_rounds ({ frames := 2, cells := 0, slots := 0, locals := 46 } : Room)).room s m [.ref (ad 0), .int p0, .int p1, .int p2, .int p3].toArray below meth c s.heap [] 0 0 (MQ below (Qpi post) [.ref (ad 0), .int p0, .int p1, .int p2, .int p3].toArray s 0 0 noF) (F0 m 120 ls []))) := ⟨fun (x6 : Int32) (x7 : Int32) => (∀ ls : Array Slot, lv_has ls 9 [(1, .int p0), (2, .int p1), (3, .int p2), (4, .int p3), (6, .int x6), (7, .int x7)] → W p l e (headSpec wsX7_rounds ({ frames := 2, cells := 0, slots := 0, locals := 46 } : Room)).room s m [.ref (ad 0), .int p0, .int p1, .int p2, .int p3].toArray below meth c s.heap [] 0 0 (MQ below (Qpi post) [.ref (ad 0), .int p0, .int p1, .int p2, .int p3].toArray s 0 0 noF) (F0 m 120 ls [])), fun _ _ h => h, fun _ _ h => h⟩
  have hV := hV J74 J120
  replace hV := hV (by
    intro x5 x6 x7 hV
    refine iJ74 x5 x6 x7 ?_
    intro ls hl
    refine lv_lload hx hb dX7_rounds_74 (lv_at hl 3 rfl) ?_
    refine lv_iconst (v := (1 : Int32)) hx hb dX7_rounds_76 (by decide) ?_
    refine lv_iload hx hb dX7_rounds_77 (lv_at hl 1 rfl) ?_
    obtain ⟨h_79, hV⟩ := hV
    refine lv_irem hx hb dX7_rounds_79 h_79 ?_
    refine lv_i2l (v := ((1 : Int32) - (1 : Int32) / x5 * x5).toInt64) hx hb dX7_rounds_80 rfl ?_
    refine lc_eq (tgt := 105) hx hb dX7_rounds_81 dX7_rounds_82 (by decide) (fun c_81 => ?_) (fun c_81 => ?_)
    · have hV := hV.1 c_81
      refine lv_iload hx hb dX7_rounds_105 (lv_at hl 2 rfl) ?_
      exact W.iret (v := x6) hx hb hr (fun t ht hW => ⟨_, rfl, hV, ht⟩) (fun _ h => by cases h) dX7_rounds_107
    · have hV := hV.2 c_81
      refine lv_lload hx hb dX7_rounds_85 (lv_at hl 3 rfl) ?_
      refine lv_iload_n hx hb dX7_rounds_87 rfl (lv_at hl 0 rfl) ?_
      refine lv_iload hx hb dX7_rounds_88 (lv_at hl 1 rfl) ?_
      refine lv_irem hx hb dX7_rounds_90 h_79 ?_
      refine lv_i2l (v := (p2 - p2 / x5 * x5).toInt64) hx hb dX7_rounds_91 rfl ?_
      refine lv_lmul hx hb dX7_rounds_92 ?_
      refine lv_iload hx hb dX7_rounds_93 (lv_at hl 1 rfl) ?_
      refine lv_i2l (v := x5.toInt64) hx hb dX7_rounds_95 rfl ?_
      obtain ⟨h_96, hV⟩ := hV
      refine lv_lrem hx hb dX7_rounds_96 h_96 ?_
      refine lv_lstore (lv' := [(7, .long ((x7 * ((p2 - p2 / x5 * x5).toInt64)) - (x7 * ((p2 - p2 / x5 * x5).toInt64)) / x5.toInt64 * x5.toInt64)), (3, .int p2), (5, .int x5), (6, .int x6)]) hx hb dX7_rounds_97 hl (by decide) rfl (fun ls hl => ?_)
      refine lv_iinc (v := x6 + 1) (lv' := [(6, .int (x6 + 1)), (7, .long ((x7 * ((p2 - p2 / x5 * x5).toInt64)) - (x7 * ((p2 - p2 / x5 * x5).toInt64)) / x5.toInt64 * x5.toInt64)), (3, .int p2), (5, .int x5)]) hx hb dX7_rounds_99 hl (k := 3) rfl rfl (by decide) rfl (fun ls hl => ?_)
      refine lv_goto (tgt := 74) hx hb dX7_rounds_102 (by decide) ?_
      exact oJ74 _ _ _ hV _ (lv_sub hl [2, 3, 0, 1] rfl))
  replace hV := hV (by
    intro x6 x7 hV
    refine iJ120 x6 x7 ?_
    intro ls hl
    refine lv_iload hx hb dX7_rounds_120 (lv_at hl 5 rfl) ?_
    refine lv_iload hx hb dX7_rounds_122 (lv_at hl 3 rfl) ?_
    refine lv_icmp_eq (tgt := 145) hx hb dX7_rounds_124 (by decide) (fun c_124 => ?_) (fun c_124 => ?_)
    · have hV := hV.1 c_124
      refine lv_iload hx hb dX7_rounds_145 (lv_at hl 4 rfl) ?_
      exact W.iret (v := x6) hx hb hr (fun t ht hW => ⟨_, rfl, hV, ht⟩) (fun _ h => by cases h) dX7_rounds_147
    · have hV := hV.2 c_124
      refine lv_iload_n hx hb dX7_rounds_127 rfl (lv_at hl 0 rfl) ?_
      refine lv_iload_n hx hb dX7_rounds_128 rfl (lv_at hl 1 rfl) ?_
      refine lv_imul hx hb dX7_rounds_129 ?_
      refine lv_iload hx hb dX7_rounds_130 (lv_at hl 5 rfl) ?_
      refine lv_iload_n hx hb dX7_rounds_132 rfl (lv_at hl 2 rfl) ?_
      refine lv_i2l (v := p2.toInt64) hx hb dX7_rounds_133 rfl ?_
      obtain ⟨h_134, hV⟩ := hV
      refine cp_i (va_runS (As := [.int (p0 * p1), .int x7, .long p2.toInt64]) (rest := []) ⟨hx, hb, hml, hown, hts⟩ (spec_X7_powerOf l (p0 * p1) x7 p2.toInt64 h_134) (va_cwS 3 hts gX7_rounds_X7_powerOf rfl rfl rfl (by decide +kernel) ⟨Nat.le_of_ble_eq_true rfl, Nat.le_of_ble_eq_true rfl⟩) cp_pre rfl rfl hl.1 rfl (lv_room (Nat.le_of_ble_eq_true rfl)) dX7_rounds_134 ⟨Nat.zero_le _, Nat.zero_le _⟩) (fun r134 q_134 => ?_)
      have hV := hV r134 q_134
      refine lv_istore (lv' := [(7, .int r134), (1, .int p0), (2, .int p1), (3, .int p2), (4, .int p3), (6, .int x6)]) hx hb dX7_rounds_137 hl (by decide) rfl (fun ls hl => ?_)
      refine lv_iinc (v := x6 + 1) (lv' := [(6, .int (x6 + 1)), (7, .int r134), (1, .int p0), (2, .int p1), (3, .int p2), (4, .int p3)]) hx hb dX7_rounds_139 hl (k := 5) rfl rfl (by decide) rfl (fun ls hl => ?_)
      refine lv_goto (tgt := 120) hx hb dX7_rounds_142 (by decide) ?_
      exact oJ120 _ _ hV _ (lv_sub hl [2, 3, 4, 5, 0, 1] rfl))
  have hl := lv_entry ([.ref (ad 0), .int p0, .int p1, .int p2, .int p3]) (n := 9) (Nat.le_of_ble_eq_true rfl)
  rw [lg_entry_eq]
  generalize (lg_sl ([.ref (ad 0), .int p0, .int p1, .int p2, .int p3]) ++ List.replicate (9 - (lg_sl ([.ref (ad 0), .int p0, .int p1, .int p2, .int p3])).length) Slot.unset).toArray = ls at hl ⊢
  have hl : lv_has ls 9 [(0, .ref (ad 0)), (1, .int p0), (2, .int p1), (3, .int p2), (4, .int p3)] := hl
  refine lv_iload_n hx hb dX7_rounds_0 rfl (lv_at hl 1 rfl) ?_
  refine lv_iload_n hx hb dX7_rounds_1 rfl (lv_at hl 2 rfl) ?_
  refine cp_i (va_runS (As := [.int p0, .int p1]) (rest := []) ⟨hx, hb, hml, hown, hts⟩ (spec_X7_isPair l p0 p1) (va_cwS 2 hts gX7_rounds_X7_isPair rfl rfl rfl (by decide +kernel) ⟨Nat.le_of_ble_eq_true rfl, Nat.le_of_ble_eq_true rfl⟩) cp_pre rfl rfl hl.1 rfl (lv_room (Nat.le_of_ble_eq_true rfl)) dX7_rounds_2 ⟨Nat.zero_le _, Nat.zero_le _⟩) (fun r2 q_2 => ?_)
  have hV := hV r2 q_2
  refine lv_if_eq (tgt := 38) hx hb dX7_rounds_5 (by decide) (fun c_5 => ?_) (fun c_5 => ?_)
  · have hV := hV.1 c_5
    refine lv_iconst (v := (-1 : Int32)) hx hb dX7_rounds_38 (by decide) ?_
    exact W.iret (v := (-1 : Int32)) hx hb hr (fun t ht hW => ⟨_, rfl, hV, ht⟩) (fun _ h => by cases h) dX7_rounds_39
  · have hV := hV.2 c_5
    refine lv_iload_n hx hb dX7_rounds_8 rfl (lv_at hl 3 rfl) ?_
    refine lv_i2l (v := p2.toInt64) hx hb dX7_rounds_9 rfl ?_
    refine lv_lconst (v := (1 : Int64)) hx hb dX7_rounds_10 (by decide) ?_
    refine lv_ldc2 (v := (100000 : Int64)) hx hb hown (hts (.constantLong RX7 215 (100000)) (by decide +kernel)) dX7_rounds_11 ?_
    refine cp_i (va_runS (As := [.long p2.toInt64, .long (1 : Int64), .long (100000 : Int64)]) (rest := []) ⟨hx, hb, hml, hown, hts⟩ (spec_X7_in l p2.toInt64 (1 : Int64) (100000 : Int64)) (va_cwS 3 hts gX7_rounds_X7_in rfl rfl rfl (by decide +kernel) ⟨Nat.le_of_ble_eq_true rfl, Nat.le_of_ble_eq_true rfl⟩) cp_pre rfl rfl hl.1 rfl (lv_room (Nat.le_of_ble_eq_true rfl)) dX7_rounds_14 ⟨Nat.zero_le _, Nat.zero_le _⟩) (fun r14 q_14 => ?_)
    have hV := hV r14 q_14
    refine lv_if_eq (tgt := 38) hx hb dX7_rounds_17 (by decide) (fun c_17 => ?_) (fun c_17 => ?_)
    · have hV := hV.1 c_17
      refine lv_iconst (v := (-1 : Int32)) hx hb dX7_rounds_38 (by decide) ?_
      exact W.iret (v := (-1 : Int32)) hx hb hr (fun t ht hW => ⟨_, rfl, hV, ht⟩) (fun _ h => by cases h) dX7_rounds_39
    · have hV := hV.2 c_17
      refine lv_iload hx hb dX7_rounds_20 (lv_at hl 4 rfl) ?_
      refine lv_i2l (v := p3.toInt64) hx hb dX7_rounds_22 rfl ?_
      refine lv_ldc2 (v := (-1 : Int64)) hx hb hown (hts (.constantLong RX7 151 (-1)) (by decide +kernel)) dX7_rounds_23 ?_
      refine lv_iload_n hx hb dX7_rounds_26 rfl (lv_at hl 1 rfl) ?_
      refine lv_iload_n hx hb dX7_rounds_27 rfl (lv_at hl 2 rfl) ?_
      refine lv_imul hx hb dX7_rounds_28 ?_
      refine lv_iconst (v := (1 : Int32)) hx hb dX7_rounds_29 (by decide) ?_
      refine lv_isub hx hb dX7_rounds_30 ?_
      refine lv_i2l (v := ((p0 * p1) - (1 : Int32)).toInt64) hx hb dX7_rounds_31 rfl ?_
      refine cp_i (va_runS (As := [.long p3.toInt64, .long (-1 : Int64), .long (((p0 * p1) - (1 : Int32)).toInt64)]) (rest := []) ⟨hx, hb, hml, hown, hts⟩ (spec_X7_in l p3.toInt64 (-1 : Int64) (((p0 * p1) - (1 : Int32)).toInt64)) (va_cwS 3 hts gX7_rounds_X7_in rfl rfl rfl (by decide +kernel) ⟨Nat.le_of_ble_eq_true rfl, Nat.le_of_ble_eq_true rfl⟩) cp_pre rfl rfl hl.1 rfl (lv_room (Nat.le_of_ble_eq_true rfl)) dX7_rounds_32 ⟨Nat.zero_le _, Nat.zero_le _⟩) (fun r32 q_32 => ?_)
      have hV := hV r32 q_32
      refine lv_if_ne (tgt := 40) hx hb dX7_rounds_35 (by decide) (fun c_35 => ?_) (fun c_35 => ?_)
      · have hV := hV.2 c_35
        refine lv_iload_n hx hb dX7_rounds_40 rfl (lv_at hl 1 rfl) ?_
        refine lv_iload_n hx hb dX7_rounds_41 rfl (lv_at hl 2 rfl) ?_
        refine lv_iload_n hx hb dX7_rounds_42 rfl (lv_at hl 3 rfl) ?_
        obtain ⟨h_43, hV⟩ := hV
        refine cp_i (va_runS (As := [.int p0, .int p1, .int p2]) (rest := []) ⟨hx, hb, hml, hown, hts⟩ (spec_X7_isFree l p0 p1 p2 h_43) (va_cwS 3 hts gX7_rounds_X7_isFree rfl rfl rfl (by decide +kernel) ⟨Nat.le_of_ble_eq_true rfl, Nat.le_of_ble_eq_true rfl⟩) cp_pre rfl rfl hl.1 rfl (lv_room (Nat.le_of_ble_eq_true rfl)) dX7_rounds_43 ⟨Nat.zero_le _, Nat.zero_le _⟩) (fun r43 q_43 => ?_)
        have hV := hV r43 q_43
        refine lv_if_ne (tgt := 52) hx hb dX7_rounds_46 (by decide) (fun c_46 => ?_) (fun c_46 => ?_)
        · have hV := hV.2 c_46
          refine lv_iload_n hx hb dX7_rounds_52 rfl (lv_at hl 1 rfl) ?_
          refine lv_iload_n hx hb dX7_rounds_53 rfl (lv_at hl 2 rfl) ?_
          obtain ⟨h_54, hV⟩ := hV
          refine cp_i (va_runS (As := [.int p0, .int p1]) (rest := []) ⟨hx, hb, hml, hown, hts⟩ (spec_X7_both l p0 p1 h_54) (va_cwS 2 hts gX7_rounds_X7_both rfl rfl rfl (by decide +kernel) ⟨Nat.le_of_ble_eq_true rfl, Nat.le_of_ble_eq_true rfl⟩) cp_pre rfl rfl hl.1 rfl (lv_room (Nat.le_of_ble_eq_true rfl)) dX7_rounds_54 ⟨Nat.zero_le _, Nat.zero_le _⟩) (fun r54 q_54 => ?_)
          have hV := hV r54 q_54
          refine lv_istore (lv' := [(5, .int r54), (0, .ref (ad 0)), (1, .int p0), (2, .int p1), (3, .int p2), (4, .int p3)]) hx hb dX7_rounds_57 hl (by decide) rfl (fun ls hl => ?_)
          refine lv_iconst (v := (1 : Int32)) hx hb dX7_rounds_59 (by decide) ?_
          refine lv_istore (lv' := [(6, .int (1 : Int32)), (5, .int r54), (0, .ref (ad 0)), (1, .int p0), (2, .int p1), (3, .int p2), (4, .int p3)]) hx hb dX7_rounds_60 hl (by decide) rfl (fun ls hl => ?_)
          refine lv_iload hx hb dX7_rounds_62 (lv_at hl 6 rfl) ?_
          refine lv_if_ge (tgt := 108) hx hb dX7_rounds_64 (by decide) (fun c_64 => ?_) (fun c_64 => ?_)
          · have hV := hV.1 c_64
            refine lv_iload_n hx hb dX7_rounds_108 rfl (lv_at hl 3 rfl) ?_
            refine lv_iload_n hx hb dX7_rounds_109 rfl (lv_at hl 4 rfl) ?_
            refine lv_imul hx hb dX7_rounds_110 ?_
            refine lv_iload hx hb dX7_rounds_111 (lv_at hl 6 rfl) ?_
            refine lv_iload_n hx hb dX7_rounds_113 rfl (lv_at hl 5 rfl) ?_
            refine lv_i2l (v := p2.toInt64) hx hb dX7_rounds_114 rfl ?_
            obtain ⟨h_115, hV⟩ := hV
            refine cp_i (va_runS (As := [.int (p0 * p1), .int p3, .long p2.toInt64]) (rest := []) ⟨hx, hb, hml, hown, hts⟩ (spec_X7_powerOf l (p0 * p1) p3 p2.toInt64 h_115) (va_cwS 3 hts gX7_rounds_X7_powerOf rfl rfl rfl (by decide +kernel) ⟨Nat.le_of_ble_eq_true rfl, Nat.le_of_ble_eq_true rfl⟩) cp_pre rfl rfl hl.1 rfl (lv_room (Nat.le_of_ble_eq_true rfl)) dX7_rounds_115 ⟨Nat.zero_le _, Nat.zero_le _⟩) (fun r115 q_115 => ?_)
            have hV := hV r115 q_115
            refine lv_istore (lv' := [(7, .int r115), (6, .int (1 : Int32)), (5, .int r54), (0, .ref (ad 0)), (1, .int p0), (2, .int p1), (3, .int p2), (4, .int p3)]) hx hb dX7_rounds_118 hl (by decide) rfl (fun ls hl => ?_)
            exact oJ120 _ _ hV _ (lv_sub hl [4, 5, 6, 7, 1, 0] rfl)
          · have hV := hV.2 c_64
            refine lv_iload_n hx hb dX7_rounds_67 rfl (lv_at hl 5 rfl) ?_
            refine lv_iload hx hb dX7_rounds_68 (lv_at hl 1 rfl) ?_
            obtain ⟨h_70, hV⟩ := hV
            refine lv_irem hx hb dX7_rounds_70 h_70 ?_
            refine lv_i2l (v := (p2 - p2 / r54 * r54).toInt64) hx hb dX7_rounds_71 rfl ?_
            refine lv_lstore (lv' := [(7, .long ((p2 - p2 / r54 * r54).toInt64)), (6, .int (1 : Int32)), (5, .int r54), (0, .ref (ad 0)), (1, .int p0), (2, .int p1), (3, .int p2), (4, .int p3)]) hx hb dX7_rounds_72 hl (by decide) rfl (fun ls hl => ?_)
            exact oJ74 _ _ _ hV _ (lv_sub hl [6, 2, 1, 0] rfl)
        · have hV := hV.1 c_46
          refine lv_bipush (v := (-2 : Int32)) hx hb dX7_rounds_49 (by decide) ?_
          exact W.iret (v := (-2 : Int32)) hx hb hr (fun t ht hW => ⟨_, rfl, hV, ht⟩) (fun _ h => by cases h) dX7_rounds_51
      · have hV := hV.1 c_35
        refine lv_iconst (v := (-1 : Int32)) hx hb dX7_rounds_38 (by decide) ?_
        exact W.iret (v := (-1 : Int32)) hx hb hr (fun t ht hW => ⟨_, rfl, hV, ht⟩) (fun _ h => by cases h) dX7_rounds_39
def post_X7_rounds (g : Gs) (a : As) (p0 p1 p2 p3 r : Int32) : Prop := RndAns p0 p1 p2 p3 r
set_option maxRecDepth 4000 in
theorem spec_X7_rounds (l : Launch) (D : va_G) (cy : Nat → ClassId) (ad : Nat → Nat) (sz : Nat) (g : Gs) (a : As) (p0 : Int32) (p1 : Int32) (p2 : Int32) (p3 : Int32) : Met l yX7_rounds wsX7_rounds ({ frames := 2, cells := 0, slots := 0, locals := 46 } : Room) (va_Pc [.ref (ad 0), .int p0, .int p1, .int p2, .int p3] (ArP D cy sz (maW ad cy g a))) (Qpi (post_X7_rounds g a p0 p1 p2 p3)) 0 0 noF := by
  apply met_X7_rounds
  intro J74 J120 h74 h120 r hr
  unfold post_X7_isPair at hr
  subst hr
  have l1 : (1 : Int64).toInt = 1 := rfl
  have lm1 : (-1 : Int64).toInt = -1 := rfl
  have l5 : (100000 : Int64).toInt = 100000 := rfl
  have hm1 : (-1 : Int32).toInt = -1 := rfl
  refine ⟨fun h => Or.inl ⟨fun z => zb_0 h ⟨z.1.1, z.1.2.1, z.1.2.2.1⟩, rfl⟩, fun h r2 hr2 => ?_⟩
  unfold post_X7_in at hr2
  rw [il_t, l1, l5] at hr2
  subst hr2
  refine ⟨fun h2 => Or.inl ⟨fun z => zb_0 h2 z.1.2.2.2, rfl⟩, fun h2 r3 hr3 => ?_⟩
  have hK : Keys p0 p1 p2 := pair_keys (zb_1 h) (zb_1 h2)
  clear h h2
  obtain ⟨P, Q, E, rfl, rfl, rfl, pP, pQ, hne, hP, hQ, hE1, hE2⟩ := hK.nat
  have p2 := pP.1
  have q2 := pQ.1
  have iP : (nI P).toInt = P := nI_toInt (by omega)
  have iQ : (nI Q).toInt = Q := nI_toInt (by omega)
  have iE : (nI E).toInt = E := nI_toInt (by omega)
  have nP : tn (nI P) = P := tn_nI (by omega)
  have nQ : tn (nI Q) = Q := tn_nI (by omega)
  have nE : tn (nI E) = E := tn_nI (by omega)
  have hm : P * Q ≤ 199 * 199 := Nat.mul_le_mul (by omega) (by omega)
  have hm2 : 2 * 2 ≤ P * Q := Nat.mul_le_mul (by omega) (by omega)
  unfold post_X7_in at hr3
  rw [pk_mul, show nI (P * Q) - (1 : Int32) = nI (P * Q - 1) from pk_sub (b := 1) (by omega), il_t, il_t, lm1, nI_toInt (by omega)] at hr3
  subst hr3
  refine ⟨fun h3 => Or.inl ⟨fun z => zb_0 h3 ⟨z.2.1, by have := z.2.2; rw [nP, nQ] at this; omega⟩, rfl⟩, fun h3 => ?_⟩
  have h3 := zb_1 h3
  have hok : RndOk (nI P) (nI Q) (nI E) p3 := ⟨hK, by omega, by rw [nP, nQ]; omega⟩
  refine ⟨⟨⟨by omega, by omega⟩, ⟨by omega, by omega⟩, by omega⟩, fun r2 hr2 => ?_⟩
  unfold post_X7_isFree at hr2
  subst hr2
  refine ⟨fun h2 => Or.inr ⟨hok, Or.inl ⟨zb_0 h2, rfl⟩⟩, fun h2 => ⟨⟨⟨by omega, by omega⟩, ⟨by omega, by omega⟩⟩, fun r3 hr3 => ?_⟩⟩
  have hF : Free (nI P) (nI Q) (nI E) := zb_1 h2
  have hF' := hF
  unfold Free at hF'
  rw [nP, nQ, nE] at hF'
  unfold post_X7_both at hr3
  rw [nP, nQ] at hr3
  subst hr3
  obtain ⟨tp, t1⟩ := turn_ex (l := p3) pP
  obtain ⟨tq, t2⟩ := turn_ex (l := p3) pQ
  obtain ⟨d1, d2⟩ := t1.dvd pP (by omega)
  obtain ⟨d3, d4⟩ := t2.dvd pQ (by omega)
  have b1 := Nat.le_of_dvd (by omega) d1
  have b2 := Nat.le_of_dvd (by omega) d3
  have hl := lcm_le_mul (a := tp) (b := tq) (by omega) (by omega)
  have hmm : tp * tq ≤ 198 * 198 := Nat.mul_le_mul (by omega) (by omega)
  have hl0 : 0 < Nat.lcm tp tq := Nat.lcm_pos (by omega) (by omega)
  obtain ⟨R, hR, hRle⟩ := ord_ex (n := Nat.lcm tp tq) (a := E) (by omega) (free_cop hF' (Nat.dvd_trans (lcm_dvd_mul tp tq) (Nat.mul_dvd_mul d1 d3)))
  have good : post_X7_rounds g a (nI P) (nI Q) (nI E) p3 (nI R) := Or.inr ⟨hok, Or.inr ⟨hF, tp, tq, R, by rw [nP]; exact t1, by rw [nQ]; exact t2, by rw [nE]; exact hR, rfl⟩⟩
  have hR0 := hR.1
  refine ⟨fun q => ?_, fun q => ?_⟩
  · rw [i_le, Int32.toInt_zero] at q
    obtain ⟨x, hx, rfl, hx2⟩ := of_i q
    have hx3 : x < P * Q := by omega
    have hlm : ¬ nI x = -1 := fun z => by rw [z, hm1] at q; omega
    have it : ∀ k, (x ^ E ^ k % (P * Q)) ^ E % (P * Q) = x ^ E ^ (k + 1) % (P * Q) := fun k => by
      rw [← Nat.pow_mod, ← Nat.pow_mul, Nat.pow_succ]
    have iff : ∀ k, x ^ E ^ k % (P * Q) = x ↔ E ^ k % Nat.lcm tp tq = 1 % Nat.lcm tp tq := fun k => rnd_iff pP pQ hne hlm (tn_nI hx) hx3 t1 t2 (Nat.pow_pos hE1)
    rw [pk_mul, nI_l (show E < 2 ^ 31 by omega)] at h120 ⊢
    refine ⟨⟨by rw [nI_toInt (by omega)]; omega, by omega, by rw [pk_lT (by omega)]; omega⟩, fun r hr => ?_⟩
    unfold post_X7_powerOf at hr
    rw [tn_nI (by omega), tl_lN (by omega), tn_nI (by omega)] at hr
    subst hr
    have key : ∀ (b k : Nat), k + b = R → 1 ≤ k → J120 (nI k) (nI (x ^ E ^ k % (P * Q))) := by
      intro b
      induction b with
      | zero =>
        intro k hk h1
        have : k = R := by omega
        subst this
        have hml := Nat.mod_lt (x ^ E ^ k) (show 0 < P * Q by omega)
        exact h120 _ _ (pk_eq _ x (fun _ => good) (fun z => absurd ((iff k).mpr hR.2.1) z) rfl rfl (by omega) (by omega))
      | succ b ih =>
        intro k hk h1
        have hml := Nat.mod_lt (x ^ E ^ k) (show 0 < P * Q by omega)
        refine h120 _ _ (pk_eq _ x (fun z => absurd ((iff k).mp z) (hR.2.2 k (by omega) (by omega))) (fun _ => ⟨⟨by rw [nI_toInt (by omega)]; omega, by rw [nI_toInt (by omega)]; omega, by rw [pk_lT (by omega)]; omega⟩, fun r hr => ?_⟩) rfl rfl (by omega) (by omega))
        unfold post_X7_powerOf at hr
        rw [tn_nI (by omega), tl_lN (by omega), tn_nI (by omega), it k] at hr
        rw [hr, nI_1]
        exact ih (k + 1) (by omega) (by omega)
    have := key (R - 1) 1 (by omega) (by omega)
    rw [Nat.pow_one] at this
    exact this
  · rw [i_le, Int32.toInt_zero] at q
    have hl1 : p3 = -1 := i_m1.mp (by omega)
    have e1 : tp = P - 1 := t1.one (Or.inl ⟨hl1, rfl⟩)
    have e2 : tq = Q - 1 := t2.one (Or.inl ⟨hl1, rfl⟩)
    have hl2 := lcm_two pP pQ hne
    subst e1 e2
    generalize hmd : Nat.lcm (P - 1) (Q - 1) = m at *
    have r1 : (1 : Int32) - (1 : Int32) / nI m * nI m = nI 1 := by
      have := pk_rem (a := 1) (d := m) (by omega) (by omega) (by omega)
      rw [Nat.mod_eq_of_lt (by omega)] at this
      exact this
    have rE : nI E - nI E / nI m * nI m = nI (E % m) := pk_rem (by omega) (by omega) (by omega)
    have hEm := Nat.mod_lt E (show 0 < m by omega)
    have h1m : 1 % m = 1 := Nat.mod_eq_of_lt (by omega)
    refine ⟨nI_nz (by omega) (by omega), ?_⟩
    rw [rE]
    have key : ∀ (b k : Nat), k + b = R → 1 ≤ k → J74 (nI m) (nI k) (lN (E ^ k % m)) := by
      intro b
      induction b with
      | zero =>
        intro k hk h1
        have : k = R := by omega
        subst this
        have hml := Nat.mod_lt (E ^ k) (show 0 < m by omega)
        refine h74 _ _ _ ⟨nI_nz (by omega) (by omega), ?_⟩
        rw [r1, nI_l (by omega)]
        exact ql_eq (E ^ k % m) 1 (fun _ => good) (fun z => absurd (by have := hR.2.1; rwa [h1m] at this) z) rfl rfl (by omega) (by omega)
      | succ b ih =>
        intro k hk h1
        have hml := Nat.mod_lt (E ^ k) (show 0 < m by omega)
        refine h74 _ _ _ ⟨nI_nz (by omega) (by omega), ?_⟩
        rw [r1, nI_l (by omega), rE, nI_l (by omega), nI_l (by omega), nI_1]
        refine ql_eq (E ^ k % m) 1 (fun z => absurd (by rw [h1m]; exact z) (hR.2.2 k (by omega) (by omega))) (fun _ => ⟨lN_nz (by omega) (by omega), ?_⟩) rfl rfl (by omega) (by omega)
        have hb : E ^ k % m * (E % m) ≤ 40000 * 40000 := Nat.mul_le_mul (by omega) (by omega)
        rw [lN_mul, pk_lRem (by omega) (by omega) (by omega), ← Nat.mul_mod, ← Nat.pow_succ]
        exact ih (k + 1) (by omega) (by omega)
    have := key (R - 1) 1 (by omega) (by omega)
    rw [Nat.pow_one] at this
    rw [nI_l (by omega)]
    exact this
/-- COUNT -/
def CntAns (x y z p r : Int32) : Prop := r = if p = 0 then x else if p = 1 then y else if p = 2 then z else -1
set_option maxHeartbeats 4000000 in
set_option maxRecDepth 100000 in
theorem met_X6_count (l : Launch) (D : va_G) (cy : Nat → ClassId) (ad : Nat → Nat) (sz : Nat) (g : Gs) (a : As) (w : Ws) (p0 : Int32) (post : Int32 → Prop)
  (hV : ((p0 = 0 → post (g 3)) ∧ (p0 = 1 → post (g 9)) ∧ (p0 = 2 → post (g 10)) ∧ (¬ p0 = 0 → ¬ p0 = 1 → ¬ p0 = 2 → post (-1 : Int32)))) :
  Met l yX6_count wsX6_count ({ frames := 0, cells := 0, slots := 0, locals := 0 } : Room) (va_Pc [.ref (ad 0), .int p0] (ArP D cy sz (caW ad cy g a w))) (Qpi post) 0 0 noF := by
  refine Met.ofW (cc := cX6_count) (maxL := 2) (ret := (some .int)) (by decide) rfl ?_
  intro p e s m args below meth c s₁ B hml hv
  obtain ⟨rfl, hsz, hP, hK, hD0, hN⟩ := hv
  have hx := B.exec
  have hb := B.bytes
  have hr := B.returns
  have hts := atoms_spec (ws := wsX6_count) B.pre
  have hown : s.vm.findClass RX6 = some m.cls := findClass_of_methodNamed B.named
  have hlocks := B.notSynchronized
  subst hsz
  have hP : va_P D vwCl (caW ad cy g a w) s.heap := hP
  have hD : va_D (fun _ => True) (caW ad cy g a w) := hD0
  have hl := lv_entry ([.ref (ad 0), .int p0]) (n := 2) (Nat.le_of_ble_eq_true rfl)
  rw [lg_entry_eq]
  generalize (lg_sl ([.ref (ad 0), .int p0]) ++ List.replicate (2 - (lg_sl ([.ref (ad 0), .int p0])).length) Slot.unset).toArray = ls at hl ⊢
  have hl : lv_has ls 2 [(0, .ref (ad 0)), (1, .int p0)] := hl
  refine lv_iload_n hx hb dX6_count_0 rfl (lv_at hl 1 rfl) ?_
  by_cases e_1_0 : p0 = 0
  · refine lv_tableIn (off := 27) (tgt := 28) hx hb dX6_count_1 (by rw [e_1_0]; decide) (by rw [e_1_0]; decide) (by rw [e_1_0]; decide) (by decide) ?_
    have hV := hV.1 e_1_0
    refine lv_aload_n hx hb dX6_count_28 rfl (lv_at hl 0 rfl) ?_
    refine va_get (D := D) (ci := 5) (v := .ref (ad 9)) (C := RX6) (T := TX6) (N := 10) hx hb hts (by decide +kernel) hown hK hP 0 rfl rfl 3 (by decide) (hts (.fieldLink RX6 29 "PowerRests" "text" "LPowerRests$Text;") (by decide +kernel)) (fun _ h9 => h9) rfl dX6_count_29 ?_
    refine va_getN (D := D) (ci := 4) (v := .int (g 3)) (C := RX5) (T := TX5) (N := 2) hx hb hts (by decide +kernel) hown hK hP 9 rfl rfl 1 (by decide) (hN.use 3 (q := (RX6, 135, RX5, "length", "I")) rfl) (fun _ h9 => h9) rfl dX6_count_32 ?_
    exact W.iret (v := (g 3)) hx hb hr (fun t ht hW => ⟨_, rfl, hV, ht⟩) (fun _ h => by cases h) dX6_count_35
  by_cases e_1_1 : p0 = 1
  · refine lv_tableIn (off := 35) (tgt := 36) hx hb dX6_count_1 (by rw [e_1_1]; decide) (by rw [e_1_1]; decide) (by rw [e_1_1]; decide) (by decide) ?_
    have hV := hV.2.1 e_1_1
    refine lv_aload_n hx hb dX6_count_36 rfl (lv_at hl 0 rfl) ?_
    refine va_get (D := D) (ci := 5) (v := .ref (ad 12)) (C := RX6) (T := TX6) (N := 10) hx hb hts (by decide +kernel) hown hK hP 0 rfl rfl 5 (by decide) (hts (.fieldLink RX6 43 "PowerRests" "laid" "LPowerRests$Laid;") (by decide +kernel)) (fun _ h9 => h9) rfl dX6_count_37 ?_
    refine va_getN (D := D) (ci := 2) (v := .int (g 9)) (C := RX2) (T := TX2) (N := 6) hx hb hts (by decide +kernel) hown hK hP 12 rfl rfl 3 (by decide) (hN.use 6 (q := (RX6, 178, RX2, "items", "I")) rfl) (fun _ h9 => h9) rfl dX6_count_40 ?_
    exact W.iret (v := (g 9)) hx hb hr (fun t ht hW => ⟨_, rfl, hV, ht⟩) (fun _ h => by cases h) dX6_count_43
  by_cases e_1_2 : p0 = 2
  · refine lv_tableIn (off := 43) (tgt := 44) hx hb dX6_count_1 (by rw [e_1_2]; decide) (by rw [e_1_2]; decide) (by rw [e_1_2]; decide) (by decide) ?_
    have hV := hV.2.2.1 e_1_2
    refine lv_aload_n hx hb dX6_count_44 rfl (lv_at hl 0 rfl) ?_
    refine va_get (D := D) (ci := 5) (v := .ref (ad 12)) (C := RX6) (T := TX6) (N := 10) hx hb hts (by decide +kernel) hown hK hP 0 rfl rfl 5 (by decide) (hts (.fieldLink RX6 43 "PowerRests" "laid" "LPowerRests$Laid;") (by decide +kernel)) (fun _ h9 => h9) rfl dX6_count_45 ?_
    refine va_getN (D := D) (ci := 2) (v := .int (g 10)) (C := RX2) (T := TX2) (N := 6) hx hb hts (by decide +kernel) hown hK hP 12 rfl rfl 4 (by decide) (hN.use 7 (q := (RX6, 260, RX2, "period", "I")) rfl) (fun _ h9 => h9) rfl dX6_count_48 ?_
    exact W.iret (v := (g 10)) hx hb hr (fun t ht hW => ⟨_, rfl, hV, ht⟩) (fun _ h => by cases h) dX6_count_51
  have hV := hV.2.2.2 e_1_0 e_1_1 e_1_2
  refine tb_default (tgt := 52) hx hb dX6_count_1 (by decide) (gaps := []) (by decide) (tb_mem 3 (by decide) (vs := [0, 1, 2]) (by decide) (List.forall_mem_cons.mpr ⟨tb_ne 0 (by decide) e_1_0, (List.forall_mem_cons.mpr ⟨tb_ne 1 (by decide) e_1_1, (List.forall_mem_cons.mpr ⟨tb_ne 2 (by decide) e_1_2, tb_nil⟩)⟩)⟩)) ?_
  refine lv_iconst (v := (-1 : Int32)) hx hb dX6_count_52 (by decide) ?_
  exact W.iret (v := (-1 : Int32)) hx hb hr (fun t ht hW => ⟨_, rfl, hV, ht⟩) (fun _ h => by cases h) dX6_count_53
def post_X6_count (g : Gs) (a : As) (w : Ws) (p0 r : Int32) : Prop := CntAns (g 3) (g 9) (g 10) p0 r
set_option maxRecDepth 4000 in
theorem spec_X6_count (l : Launch) (D : va_G) (cy : Nat → ClassId) (ad : Nat → Nat) (sz : Nat) (g : Gs) (a : As) (w : Ws) (p0 : Int32) : Met l yX6_count wsX6_count ({ frames := 0, cells := 0, slots := 0, locals := 0 } : Room) (va_Pc [.ref (ad 0), .int p0] (ArP D cy sz (caW ad cy g a w))) (Qpi (post_X6_count g a w p0)) 0 0 noF := by
  apply met_X6_count
  unfold post_X6_count CntAns
  refine ⟨fun h => by rw [if_pos h], fun h => by rw [h]; rfl, fun h => by rw [h]; rfl, fun h1 h2 h3 => by rw [if_neg h1, if_neg h2, if_neg h3]⟩
set_option maxHeartbeats 4000000 in
set_option maxRecDepth 100000 in
theorem met_X7_count (l : Launch) (D : va_G) (cy : Nat → ClassId) (ad : Nat → Nat) (sz : Nat) (g : Gs) (a : As) (p0 : Int32) (post : Int32 → Prop)
  (hV : ((p0 = 0 → post (g 0)) ∧ (¬ p0 = 0 → ((p0 = (1 : Int32) → post (g 2)) ∧ (¬ p0 = (1 : Int32) → ((p0 = (2 : Int32) → post (g 3)) ∧ (¬ p0 = (2 : Int32) → post (-1 : Int32)))))))) :
  Met l yX7_count wsX7_count ({ frames := 0, cells := 0, slots := 0, locals := 0 } : Room) (va_Pc [.ref (ad 0), .int p0] (ArP D cy sz (maW ad cy g a))) (Qpi post) 0 0 noF := by
  refine Met.ofW (cc := cX7_count) (maxL := 2) (ret := (some .int)) (by decide) rfl ?_
  intro p e s m args below meth c s₁ B hml hv
  obtain ⟨rfl, hsz, hP, hK, hD0, hN⟩ := hv
  have hx := B.exec
  have hb := B.bytes
  have hr := B.returns
  have hts := atoms_spec (ws := wsX7_count) B.pre
  have hown : s.vm.findClass RX7 = some m.cls := findClass_of_methodNamed B.named
  have hlocks := B.notSynchronized
  subst hsz
  have hP : va_P D vwCl (maW ad cy g a) s.heap := hP
  have hD : va_D (fun _ => True) (maW ad cy g a) := hD0
  have hl := lv_entry ([.ref (ad 0), .int p0]) (n := 2) (Nat.le_of_ble_eq_true rfl)
  rw [lg_entry_eq]
  generalize (lg_sl ([.ref (ad 0), .int p0]) ++ List.replicate (2 - (lg_sl ([.ref (ad 0), .int p0])).length) Slot.unset).toArray = ls at hl ⊢
  have hl : lv_has ls 2 [(0, .ref (ad 0)), (1, .int p0)] := hl
  refine lv_iload_n hx hb dX7_count_0 rfl (lv_at hl 1 rfl) ?_
  refine lv_if_ne (tgt := 11) hx hb dX7_count_1 (by decide) (fun c_1 => ?_) (fun c_1 => ?_)
  · have hV := hV.2 c_1
    refine lv_iload_n hx hb dX7_count_11 rfl (lv_at hl 1 rfl) ?_
    refine lv_iconst (v := (1 : Int32)) hx hb dX7_count_12 (by decide) ?_
    refine lv_icmp_ne (tgt := 23) hx hb dX7_count_13 (by decide) (fun c_13 => ?_) (fun c_13 => ?_)
    · have hV := hV.2 c_13
      refine lv_iload_n hx hb dX7_count_23 rfl (lv_at hl 1 rfl) ?_
      refine lv_iconst (v := (2 : Int32)) hx hb dX7_count_24 (by decide) ?_
      refine lv_icmp_ne (tgt := 35) hx hb dX7_count_25 (by decide) (fun c_25 => ?_) (fun c_25 => ?_)
      · have hV := hV.2 c_25
        refine lv_iconst (v := (-1 : Int32)) hx hb dX7_count_35 (by decide) ?_
        exact W.iret (v := (-1 : Int32)) hx hb hr (fun t ht hW => ⟨_, rfl, hV, ht⟩) (fun _ h => by cases h) dX7_count_36
      · have hV := hV.1 c_25
        refine lv_aload_n hx hb dX7_count_28 rfl (lv_at hl 0 rfl) ?_
        refine va_get (D := D) (ci := 6) (v := .int (g 3)) (C := RX7) (T := TX7) (N := 18) hx hb hts (by decide +kernel) hown hK hP 0 rfl rfl 4 (by decide) (hts (.fieldLink RX7 13 "PowerRestsModel" "period" "I") (by decide +kernel)) (fun _ h9 => h9) rfl dX7_count_29 ?_
        refine lv_goto (tgt := 36) hx hb dX7_count_32 (by decide) ?_
        exact W.iret (v := (g 3)) hx hb hr (fun t ht hW => ⟨_, rfl, hV, ht⟩) (fun _ h => by cases h) dX7_count_36
    · have hV := hV.1 c_13
      refine lv_aload_n hx hb dX7_count_16 rfl (lv_at hl 0 rfl) ?_
      refine va_get (D := D) (ci := 6) (v := .int (g 2)) (C := RX7) (T := TX7) (N := 18) hx hb hts (by decide +kernel) hown hK hP 0 rfl rfl 3 (by decide) (hts (.fieldLink RX7 137 "PowerRestsModel" "items" "I") (by decide +kernel)) (fun _ h9 => h9) rfl dX7_count_17 ?_
      refine lv_goto (tgt := 36) hx hb dX7_count_20 (by decide) ?_
      exact W.iret (v := (g 2)) hx hb hr (fun t ht hW => ⟨_, rfl, hV, ht⟩) (fun _ h => by cases h) dX7_count_36
  · have hV := hV.1 c_1
    refine lv_aload_n hx hb dX7_count_4 rfl (lv_at hl 0 rfl) ?_
    refine va_get (D := D) (ci := 6) (v := .int (g 0)) (C := RX7) (T := TX7) (N := 18) hx hb hts (by decide +kernel) hown hK hP 0 rfl rfl 0 (by decide) (hts (.fieldLink RX7 102 "PowerRestsModel" "length" "I") (by decide +kernel)) (fun _ h9 => h9) rfl dX7_count_5 ?_
    refine lv_goto (tgt := 36) hx hb dX7_count_8 (by decide) ?_
    exact W.iret (v := (g 0)) hx hb hr (fun t ht hW => ⟨_, rfl, hV, ht⟩) (fun _ h => by cases h) dX7_count_36
def post_X7_count (g : Gs) (a : As) (p0 r : Int32) : Prop := CntAns (g 0) (g 2) (g 3) p0 r
set_option maxRecDepth 4000 in
theorem spec_X7_count (l : Launch) (D : va_G) (cy : Nat → ClassId) (ad : Nat → Nat) (sz : Nat) (g : Gs) (a : As) (p0 : Int32) : Met l yX7_count wsX7_count ({ frames := 0, cells := 0, slots := 0, locals := 0 } : Room) (va_Pc [.ref (ad 0), .int p0] (ArP D cy sz (maW ad cy g a))) (Qpi (post_X7_count g a p0)) 0 0 noF := by
  apply met_X7_count
  unfold post_X7_count CntAns
  refine ⟨fun h => by rw [if_pos h], fun h1 => ⟨fun h => by rw [if_neg h1, if_pos h], fun h2 => ⟨fun h => by rw [if_neg h1, if_neg h2, if_pos h], fun h3 => by rw [if_neg h1, if_neg h2, if_neg h3]⟩⟩⟩
