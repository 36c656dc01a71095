/-! the sign -/
def sgN : List Nat → Nat
  | [] => 1
  | p :: L => sgN L * p
def sgV (a : Nat) : List Nat → Int32
  | [] => 1
  | p :: L => sgV a L * Sg a p
def SgR (a n : Nat) (v : Int32) : Prop := ∃ L, (∀ p ∈ L, Pr p) ∧ sgN L = n ∧ sgV a L = v
theorem sg_out {a p : Nat} (hp : Pr p) : ∀ L : List Nat, (∀ q ∈ L, Pr q) → p ∣ sgN L → ∃ L', (∀ q ∈ L', Pr q) ∧ sgN L' * p = sgN L ∧ sgV a L' * Sg a p = sgV a L
  | [], _, hd => by
    have := Nat.le_of_dvd (by decide) (show p ∣ 1 from hd)
    have := hp.1
    omega
  | q :: L, hL, hd => by
    have hq := hL q List.mem_cons_self
    have hL' : ∀ q ∈ L, Pr q := fun x hx => hL x (List.mem_cons_of_mem q hx)
    by_cases e : p = q
    · subst e
      exact ⟨L, hL', rfl, rfl⟩
    · rcases pr_dvd_mul hp (show p ∣ sgN L * q from hd) with h | h
      · obtain ⟨M, m1, m2, m3⟩ := sg_out (a := a) hp L hL' h
        refine ⟨q :: M, fun x hx => ?_, ?_, ?_⟩
        · rcases List.mem_cons.mp hx with h | h
          · rw [h]; exact hq
          · exact m1 x h
        · show sgN M * q * p = sgN L * q
          rw [Nat.mul_right_comm, m2]
        · show sgV a M * Sg a q * Sg a p = sgV a L * Sg a q
          rw [Int32.mul_assoc, Int32.mul_comm (Sg a q), ← Int32.mul_assoc, m3]
      · exact absurd (pr_eq hp hq h) e
theorem sg_one {a : Nat} : ∀ L M : List Nat, (∀ q ∈ L, Pr q) → (∀ q ∈ M, Pr q) → sgN L = sgN M → sgV a L = sgV a M
  | [], [], _, _, _ => rfl
  | [], q :: M, _, hM, e => by
    have hq := (hM q List.mem_cons_self).1
    have : q ∣ 1 := ⟨sgN M, by rw [Nat.mul_comm]; exact e⟩
    have := Nat.le_of_dvd (by decide) this
    omega
  | p :: L, M, hL, hM, e => by
    have hp := hL p List.mem_cons_self
    obtain ⟨M', m1, m2, m3⟩ := sg_out (a := a) hp M hM ⟨sgN L, by rw [← e, Nat.mul_comm]; rfl⟩
    have h2 : sgN L = sgN M' := by
      have : sgN L * p = sgN M' * p := by rw [m2, ← e]; rfl
      exact Nat.eq_of_mul_eq_mul_right (by have := hp.1; omega) this
    show sgV a L * Sg a p = sgV a M
    rw [← m3, sg_one L M' (fun x hx => hL x (List.mem_cons_of_mem p hx)) m1 h2]
theorem SgR.uniq {a n : Nat} {v v' : Int32} (h : SgR a n v) (h' : SgR a n v') : v = v' := by
  obtain ⟨L, l1, l2, rfl⟩ := h
  obtain ⟨M, m1, m2, rfl⟩ := h'
  exact sg_one L M l1 m1 (l2.trans m2.symm)
theorem SgR.nil (a : Nat) : SgR a 1 1 := ⟨[], fun q h => absurd h List.not_mem_nil, rfl, rfl⟩
theorem SgR.step {a n p : Nat} {v : Int32} (h : SgR a n v) (hp : Pr p) : SgR a (n * p) (v * Sg a p) := by
  obtain ⟨L, l1, rfl, rfl⟩ := h
  refine ⟨p :: L, fun x hx => ?_, rfl, rfl⟩
  rcases List.mem_cons.mp hx with h | h
  · rw [h]; exact hp
  · exact l1 x h
def pwI (v x : Int32) : Nat → Int32
  | 0 => v
  | t + 1 => pwI v x t * x
theorem SgR.pow {a n p : Nat} {v : Int32} (h : SgR a n v) (hp : Pr p) : ∀ t, SgR a (n * p ^ t) (pwI v (Sg a p) t)
  | 0 => by rw [Nat.pow_zero, Nat.mul_one]; exact h
  | t + 1 => by
    rw [Nat.pow_succ, ← Nat.mul_assoc]
    exact (SgR.pow h hp t).step hp
theorem Sg_3 (a p : Nat) : Sg a p * Sg a p * Sg a p = Sg a p := by
  unfold Sg
  split
  · decide
  · split <;> decide
theorem pwI_par {v x : Int32} (h : x * x * x = x) : ∀ k, pwI v x (2 * k + 1) = v * x ∧ pwI v x (2 * k + 2) = v * (x * x)
  | 0 => ⟨rfl, by show v * x * x = _; rw [Int32.mul_assoc]⟩
  | k + 1 => by
    have ih := pwI_par (v := v) h k
    have e1 : pwI v x (2 * (k + 1) + 1) = v * x := by
      show pwI v x (2 * k + 2) * x = v * x
      rw [ih.2, Int32.mul_assoc, h]
    refine ⟨e1, ?_⟩
    show pwI v x (2 * (k + 1) + 1) * x = v * (x * x)
    rw [e1, Int32.mul_assoc]
theorem pwI_even {v x : Int32} {t : Nat} (h : x * x * x = x) (ht : 1 ≤ t) (he : t % 2 = 0) : pwI v x t = v * (x * x) := by
  have := (pwI_par (v := v) h (t / 2 - 1)).2
  rwa [show 2 * (t / 2 - 1) + 2 = t by omega] at this
theorem pwI_odd {v x : Int32} {t : Nat} (h : x * x * x = x) (he : t % 2 = 1) : pwI v x t = v * x := by
  have := (pwI_par (v := v) h (t / 2)).1
  rwa [show 2 * (t / 2) + 1 = t by omega] at this
/-- SIGN -/
def SignAns (a m r : Int32) : Prop := ((a.toInt < 0 ∨ 1000000 < a.toInt ∨ m.toInt < 1 ∨ 99999 < m.toInt ∨ m.toInt % 2 = 0) ∧ r = -100) ∨ ((0 ≤ a.toInt ∧ a.toInt ≤ 1000000 ∧ 1 ≤ m.toInt ∧ m.toInt ≤ 99999 ∧ m.toInt % 2 = 1) ∧ SgR (tn a) (tn m) r)
theorem SignAns.one {a m r r' : Int32} (h : SignAns a m r) (h' : SignAns a m r') : r = r' := by
  rcases h with ⟨h1, h2⟩ | ⟨h1, h2⟩ <;> rcases h' with ⟨k1, k2⟩ | ⟨k1, k2⟩
  · rw [h2, k2]
  · omega
  · omega
  · exact h2.uniq k2
def post_X6_sign (g : Gs) (a : As) (w : Ws) (p0 p1 r : Int32) (g' : Gs) (a' : As) (w' : Ws) : Prop := SignAns p0 p1 r ∧ FS g a w g' a' w'
set_option maxHeartbeats 4000000 in
set_option maxRecDepth 100000 in
theorem met_X6_sign (l : Launch) (D : va_G) (cy : Nat → ClassId) (ad : Nat → Nat) (sz : Nat) (g : Gs) (a : As) (w : Ws) (p0 : Int32) (p1 : Int32) (post : Int32 → Gs → As → Ws → Prop)
  (hV : ∀ (J43 : Int32 → Int32 → Gs → As → Ws → Prop),
    (∀ (x3 : Int32) (x4 : Int32) (g_ : Gs) (a_ : As) (w_ : Ws), (((g_ 0) ≤ x4 → post x3 g_ a_ w_) ∧ (¬ (g_ 0) ≤ x4 → vp_in x4 8 ∧ (pre_X6_signByPrime p0 ((a_ 0) x4.toNatClampNeg) ∧ (∀ r70 : Int32, post_X6_signByPrime p0 ((a_ 0) x4.toNatClampNeg) r70 → vp_in x4 8 ∧ ((((((a_ 2) x4.toNatClampNeg) - ((a_ 2) x4.toNatClampNeg) / (2 : Int32) * (2 : Int32)) = 0 → J43 (x3 * (r70 * r70)) (x4 + 1) g_ a_ w_) ∧ (¬ (((a_ 2) x4.toNatClampNeg) - ((a_ 2) x4.toNatClampNeg) / (2 : Int32) * (2 : Int32)) = 0 → J43 (x3 * r70) (x4 + 1) g_ a_ w_))))))) → J43 x3 x4 g_ a_ w_) →
    ((p0 < 0 → post (-100 : Int32) g a w) ∧ (¬ p0 < 0 → (((1000000 : Int32) < p0 → post (-100 : Int32) g a w) ∧ (¬ (1000000 : Int32) < p0 → ((p1 < (1 : Int32) → post (-100 : Int32) g a w) ∧ (¬ p1 < (1 : Int32) → (((99999 : Int32) < p1 → post (-100 : Int32) g a w) ∧ (¬ (99999 : Int32) < p1 → (((p1 - p1 / (2 : Int32) * (2 : Int32)) = 0 → post (-100 : Int32) g a w) ∧ (¬ (p1 - p1 / (2 : Int32) * (2 : Int32)) = 0 → pre_X0_split 0 g a w p1 ∧ (∀ (g35 : Gs) (a35 : As) (w35 : Ws), post_X0_split 0 g a w p1 g35 a35 w35 → J43 (1 : Int32) (0 : Int32) g35 a35 w35)))))))))))) :
  Met l yX6_sign wsX6_sign ({ frames := 2, cells := 0, slots := 0, locals := 52 } : Room) (va_Pc [.ref (ad 0), .int p0, .int p1] (ArP D cy sz (caW ad cy g a w))) (va_Qi (fun (r : Int32) (u : Gs × As × Ws) => post r u.1 u.2.1 u.2.2) (fun u t => va_P D vwCl (caW ad cy u.1 u.2.1 u.2.2) t.heap) (va_A (caW ad cy g a w) sz)) 0 0 (va_A (caW ad cy g a w) sz) := by
  refine Met.ofW (cc := cX6_sign) (maxL := 7) (ret := (some .int)) (by decide) rfl ?_
  intro p e s m args below meth c s₁ B hml hv
  obtain ⟨rfl, hsz, hP, hK, hD0, hN⟩ := hv
  have hx := B.exec
  have hb := B.bytes
  have hr := B.returns
  have hts := atoms_spec (ws := wsX6_sign) B.pre
  have hown : s.vm.findClass RX6 = some m.cls := findClass_of_methodNamed B.named
  have hlocks := B.notSynchronized
  subst hsz
  have hD := hD0.self (sz := s.heap.size)
  have hP : va_P D vwCl (caW ad cy g a w) s.heap := hP
  have hD : va_D (va_A (caW ad cy g a w) s.heap.size) (caW ad cy g a w) := hD
  have hS : va_S (va_A (caW ad cy g a w) s.heap.size) s.heap s.heap [] := va_S.rf
  have hA : ∀ q : Nat, s.heap.size ≤ q → va_A (caW ad cy g a w) s.heap.size q := fun q h => Or.inr h
  obtain ⟨J43, iJ43, oJ43⟩ : ∃ J : Int32 → Int32 → Gs → As → Ws → Prop, (∀ (x3 : Int32) (x4 : Int32) (g_ : Gs) (a_ : As) (w_ : Ws), (∀ (H : Heap) (locs : List Loc), va_P D vwCl (caW ad cy g_ a_ w_) H → va_S (va_A (caW ad cy g a w) s.heap.size) s.heap H locs → ∀ ls : Array Slot, lv_has ls 7 [(0, .ref (ad 0)), (1, .int p0), (3, .int x3), (4, .int x4)] → W p l e (headSpec wsX6_sign ({ frames := 2, cells := 0, slots := 0, locals := 52 } : Room)).room s m [.ref (ad 0), .int p0, .int p1].toArray below meth c H locs 0 0 (MQ below (va_Qi (fun (r : Int32) (u : Gs × As × Ws) => post r u.1 u.2.1 u.2.2) (fun u t => va_P D vwCl (caW ad cy u.1 u.2.1 u.2.2) t.heap) (va_A (caW ad cy g a w) s.heap.size)) [.ref (ad 0), .int p0, .int p1].toArray s 0 0 (va_A (caW ad cy g a w) s.heap.size)) (F0 m 43 ls [])) → J x3 x4 g_ a_ w_) ∧ (∀ (x3 : Int32) (x4 : Int32) (g_ : Gs) (a_ : As) (w_ : Ws), J x3 x4 g_ a_ w_ → (∀ (H : Heap) (locs : List Loc), va_P D vwCl (caW ad cy g_ a_ w_) H → va_S (va_A (caW ad cy g a w) s.heap.size) s.heap H locs → ∀ ls : Array Slot, lv_has ls 7 [(0, .ref (ad 0)), (1, .int p0), (3, .int x3), (4, .int x4)] → W p l e (headSpec wsX6_sign ({ frames := 2, cells := 0, slots := 0, locals := 52 } : Room)).room s m [.ref (ad 0), .int p0, .int p1].toArray below meth c H locs 0 0 (MQ below (va_Qi (fun (r : Int32) (u : Gs × As × Ws) => post r u.1 u.2.1 u.2.2) (fun u t => va_P D vwCl (caW ad cy u.1 u.2.1 u.2.2) t.heap) (va_A (caW ad cy g a w) s.heap.size)) [.ref (ad 0), .int p0, .int p1].toArray s 0 0 (va_A (caW ad cy g a w) s.heap.size)) (F0 m 43 ls []))) := ⟨fun (x3 : Int32) (x4 : Int32) (g_ : Gs) (a_ : As) (w_ : Ws) => (∀ (H : Heap) (locs : List Loc), va_P D vwCl (caW ad cy g_ a_ w_) H → va_S (va_A (caW ad cy g a w) s.heap.size) s.heap H locs → ∀ ls : Array Slot, lv_has ls 7 [(0, .ref (ad 0)), (1, .int p0), (3, .int x3), (4, .int x4)] → W p l e (headSpec wsX6_sign ({ frames := 2, cells := 0, slots := 0, locals := 52 } : Room)).room s m [.ref (ad 0), .int p0, .int p1].toArray below meth c H locs 0 0 (MQ below (va_Qi (fun (r : Int32) (u : Gs × As × Ws) => post r u.1 u.2.1 u.2.2) (fun u t => va_P D vwCl (caW ad cy u.1 u.2.1 u.2.2) t.heap) (va_A (caW ad cy g a w) s.heap.size)) [.ref (ad 0), .int p0, .int p1].toArray s 0 0 (va_A (caW ad cy g a w) s.heap.size)) (F0 m 43 ls [])), fun _ _ _ _ _ h => h, fun _ _ _ _ _ h => h⟩
  have hV := hV J43
  replace hV := hV (by
    intro x3 x4 g_ a_ w_ hV
    refine iJ43 x3 x4 g_ a_ w_ ?_
    intro H locs hP hS ls hl
    refine lv_iload hx hb dX6_sign_43 (lv_at hl 3 rfl) ?_
    refine lv_aload_n hx hb dX6_sign_45 rfl (lv_at hl 0 rfl) ?_
    refine va_get (D := D) (ci := 5) (v := .ref (ad 1)) (C := RX6) (T := TX6) (N := 10) hx hb hts (by decide +kernel) hown hK hP 0 rfl rfl 0 (by decide) (hts (.fieldLink RX6 10 "PowerRests" "ofN" "LPowerRests$Factors;") (by decide +kernel)) (fun _ h9 => h9) rfl dX6_sign_46 ?_
    refine va_getN (D := D) (ci := 0) (v := .int (g_ 0)) (C := RX0) (T := TX0) (N := 3) hx hb hts (by decide +kernel) hown hK hP 1 rfl rfl 2 (by decide) (hN.use 0 (q := (RX6, 115, RX0, "kinds", "I")) rfl) (fun _ h9 => h9) rfl dX6_sign_49 ?_
    refine lv_icmp_ge (tgt := 109) hx hb dX6_sign_52 (by decide) (fun c_52 => ?_) (fun c_52 => ?_)
    · have hV := hV.1 c_52
      refine lv_iload_n hx hb dX6_sign_109 rfl (lv_at hl 2 rfl) ?_
      exact W.iret (v := x3) hx hb hr (fun t ht hW => ⟨⟨_, (g_, a_, w_), rfl, hV, ar_heap ht hP⟩, hS.F ht⟩) hS.2.2 dX6_sign_110
    · have hV := hV.2 c_52
      refine lv_aload_n hx hb dX6_sign_55 rfl (lv_at hl 0 rfl) ?_
      refine va_get (D := D) (ci := 5) (v := .ref (ad 1)) (C := RX6) (T := TX6) (N := 10) hx hb hts (by decide +kernel) hown hK hP 0 rfl rfl 0 (by decide) (hts (.fieldLink RX6 10 "PowerRests" "ofN" "LPowerRests$Factors;") (by decide +kernel)) (fun _ h9 => h9) rfl dX6_sign_56 ?_
      refine va_getN (D := D) (ci := 0) (v := .ref (ad 2)) (C := RX0) (T := TX0) (N := 3) hx hb hts (by decide +kernel) hown hK hP 1 rfl rfl 0 (by decide) (hN.use 1 (q := (RX6, 119, RX0, "primes", "[I")) rfl) (fun _ h9 => h9) rfl dX6_sign_59 ?_
      refine lv_iload hx hb dX6_sign_62 (lv_at hl 3 rfl) ?_
      obtain ⟨h_64, hV⟩ := hV
      refine va_iald (f := (a_ 0)) hx hb hK hP 2 0 rfl rfl h_64 dX6_sign_64 ?_
      refine lv_istore (lv' := [(5, .int ((a_ 0) x4.toNatClampNeg)), (0, .ref (ad 0)), (1, .int p0), (3, .int x3), (4, .int x4)]) hx hb dX6_sign_65 hl (by decide) rfl (fun ls hl => ?_)
      refine lv_iload_n hx hb dX6_sign_67 rfl (lv_at hl 2 rfl) ?_
      refine lv_iload hx hb dX6_sign_68 (lv_at hl 0 rfl) ?_
      obtain ⟨h_70, hV⟩ := hV
      refine cp_i (va_runS (As := [.int p0, .int ((a_ 0) x4.toNatClampNeg)]) (rest := []) ⟨hx, hb, hml, hown, hts⟩ (spec_X6_signByPrime l p0 ((a_ 0) x4.toNatClampNeg) h_70) (va_cwS 2 hts gX6_sign_X6_signByPrime rfl rfl rfl (by decide +kernel) ⟨Nat.le_of_ble_eq_true rfl, Nat.le_of_ble_eq_true rfl⟩) cp_pre rfl rfl hl.1 rfl (lv_room (Nat.le_of_ble_eq_true rfl)) dX6_sign_70 ⟨Nat.zero_le _, Nat.zero_le _⟩) (fun r70 q_70 => ?_)
      have hV := hV r70 q_70
      refine lv_istore (lv' := [(6, .int r70), (5, .int ((a_ 0) x4.toNatClampNeg)), (0, .ref (ad 0)), (1, .int p0), (3, .int x3), (4, .int x4)]) hx hb dX6_sign_73 hl (by decide) rfl (fun ls hl => ?_)
      refine lv_iload_n hx hb dX6_sign_75 rfl (lv_at hl 4 rfl) ?_
      refine lv_aload_n hx hb dX6_sign_76 rfl (lv_at hl 2 rfl) ?_
      refine va_get (D := D) (ci := 5) (v := .ref (ad 1)) (C := RX6) (T := TX6) (N := 10) hx hb hts (by decide +kernel) hown hK hP 0 rfl rfl 0 (by decide) (hts (.fieldLink RX6 10 "PowerRests" "ofN" "LPowerRests$Factors;") (by decide +kernel)) (fun _ h9 => h9) rfl dX6_sign_77 ?_
      refine va_getN (D := D) (ci := 0) (v := .ref (ad 3)) (C := RX0) (T := TX0) (N := 3) hx hb hts (by decide +kernel) hown hK hP 1 rfl rfl 1 (by decide) (hN.use 2 (q := (RX6, 125, RX0, "times", "[I")) rfl) (fun _ h9 => h9) rfl dX6_sign_80 ?_
      refine lv_iload hx hb dX6_sign_83 (lv_at hl 5 rfl) ?_
      obtain ⟨h_85, hV⟩ := hV
      refine va_iald (f := (a_ 2)) hx hb hK hP 3 0 rfl rfl h_85 dX6_sign_85 ?_
      refine lv_iconst (v := (2 : Int32)) hx hb dX6_sign_86 (by decide) ?_
      refine lv_irem hx hb dX6_sign_87 (by decide) ?_
      refine lv_if_ne (tgt := 99) hx hb dX6_sign_88 (by decide) (fun c_88 => ?_) (fun c_88 => ?_)
      · have hV := hV.2 c_88
        refine lv_iload hx hb dX6_sign_99 (lv_at hl 0 rfl) ?_
        refine lv_imul hx hb dX6_sign_101 ?_
        refine lv_istore_n (lv' := [(3, .int (x3 * r70)), (6, .int r70), (5, .int ((a_ 0) x4.toNatClampNeg)), (0, .ref (ad 0)), (1, .int p0), (4, .int x4)]) hx hb dX6_sign_102 rfl hl (by decide) rfl (fun ls hl => ?_)
        refine lv_iinc (v := x4 + 1) (lv' := [(4, .int (x4 + 1)), (3, .int (x3 * r70)), (6, .int r70), (5, .int ((a_ 0) x4.toNatClampNeg)), (0, .ref (ad 0)), (1, .int p0)]) hx hb dX6_sign_103 hl (k := 5) rfl rfl (by decide) rfl (fun ls hl => ?_)
        refine lv_goto (tgt := 43) hx hb dX6_sign_106 (by decide) ?_
        exact oJ43 _ _ _ _ _ hV _ _ hP hS _ (lv_sub hl [4, 5, 1, 0] rfl)
      · have hV := hV.1 c_88
        refine lv_iload hx hb dX6_sign_91 (lv_at hl 0 rfl) ?_
        refine lv_iload hx hb dX6_sign_93 (lv_at hl 0 rfl) ?_
        refine lv_imul hx hb dX6_sign_95 ?_
        refine lv_goto (tgt := 101) hx hb dX6_sign_96 (by decide) ?_
        refine lv_imul hx hb dX6_sign_101 ?_
        refine lv_istore_n (lv' := [(3, .int (x3 * (r70 * r70))), (6, .int r70), (5, .int ((a_ 0) x4.toNatClampNeg)), (0, .ref (ad 0)), (1, .int p0), (4, .int x4)]) hx hb dX6_sign_102 rfl hl (by decide) rfl (fun ls hl => ?_)
        refine lv_iinc (v := x4 + 1) (lv' := [(4, .int (x4 + 1)), (3, .int (x3 * (r70 * r70))), (6, .int r70), (5, .int ((a_ 0) x4.toNatClampNeg)), (0, .ref (ad 0)), (1, .int p0)]) hx hb dX6_sign_103 hl (k := 5) rfl rfl (by decide) rfl (fun ls hl => ?_)
        refine lv_goto (tgt := 43) hx hb dX6_sign_106 (by decide) ?_
        exact oJ43 _ _ _ _ _ hV _ _ hP hS _ (lv_sub hl [4, 5, 1, 0] rfl))
  have hl := lv_entry ([.ref (ad 0), .int p0, .int p1]) (n := 7) (Nat.le_of_ble_eq_true rfl)
  rw [lg_entry_eq]
  generalize (lg_sl ([.ref (ad 0), .int p0, .int p1]) ++ List.replicate (7 - (lg_sl ([.ref (ad 0), .int p0, .int p1])).length) Slot.unset).toArray = ls at hl ⊢
  have hl : lv_has ls 7 [(0, .ref (ad 0)), (1, .int p0), (2, .int p1)] := hl
  refine lv_iload_n hx hb dX6_sign_0 rfl (lv_at hl 1 rfl) ?_
  refine lv_if_lt (tgt := 27) hx hb dX6_sign_1 (by decide) (fun c_1 => ?_) (fun c_1 => ?_)
  · have hV := hV.1 c_1
    refine lv_bipush (v := (-100 : Int32)) hx hb dX6_sign_27 (by decide) ?_
    exact W.iret (v := (-100 : Int32)) hx hb hr (fun t ht hW => ⟨⟨_, (g, a, w), rfl, hV, ar_heap ht hP⟩, hS.F ht⟩) hS.2.2 dX6_sign_29
  · have hV := hV.2 c_1
    refine lv_iload_n hx hb dX6_sign_4 rfl (lv_at hl 1 rfl) ?_
    refine lv_ldc (v := (1000000 : Int32)) hx hb hown (hts (.constant RX6 113 (1000000)) (by decide +kernel)) dX6_sign_5 ?_
    refine lv_icmp_gt (tgt := 27) hx hb dX6_sign_7 (by decide) (fun c_7 => ?_) (fun c_7 => ?_)
    · have hV := hV.1 c_7
      refine lv_bipush (v := (-100 : Int32)) hx hb dX6_sign_27 (by decide) ?_
      exact W.iret (v := (-100 : Int32)) hx hb hr (fun t ht hW => ⟨⟨_, (g, a, w), rfl, hV, ar_heap ht hP⟩, hS.F ht⟩) hS.2.2 dX6_sign_29
    · have hV := hV.2 c_7
      refine lv_iload_n hx hb dX6_sign_10 rfl (lv_at hl 2 rfl) ?_
      refine lv_iconst (v := (1 : Int32)) hx hb dX6_sign_11 (by decide) ?_
      refine lv_icmp_lt (tgt := 27) hx hb dX6_sign_12 (by decide) (fun c_12 => ?_) (fun c_12 => ?_)
      · have hV := hV.1 c_12
        refine lv_bipush (v := (-100 : Int32)) hx hb dX6_sign_27 (by decide) ?_
        exact W.iret (v := (-100 : Int32)) hx hb hr (fun t ht hW => ⟨⟨_, (g, a, w), rfl, hV, ar_heap ht hP⟩, hS.F ht⟩) hS.2.2 dX6_sign_29
      · have hV := hV.2 c_12
        refine lv_iload_n hx hb dX6_sign_15 rfl (lv_at hl 2 rfl) ?_
        refine lv_ldc (v := (99999 : Int32)) hx hb hown (hts (.constant RX6 114 (99999)) (by decide +kernel)) dX6_sign_16 ?_
        refine lv_icmp_gt (tgt := 27) hx hb dX6_sign_18 (by decide) (fun c_18 => ?_) (fun c_18 => ?_)
        · have hV := hV.1 c_18
          refine lv_bipush (v := (-100 : Int32)) hx hb dX6_sign_27 (by decide) ?_
          exact W.iret (v := (-100 : Int32)) hx hb hr (fun t ht hW => ⟨⟨_, (g, a, w), rfl, hV, ar_heap ht hP⟩, hS.F ht⟩) hS.2.2 dX6_sign_29
        · have hV := hV.2 c_18
          refine lv_iload_n hx hb dX6_sign_21 rfl (lv_at hl 2 rfl) ?_
          refine lv_iconst (v := (2 : Int32)) hx hb dX6_sign_22 (by decide) ?_
          refine lv_irem hx hb dX6_sign_23 (by decide) ?_
          refine lv_if_ne (tgt := 30) hx hb dX6_sign_24 (by decide) (fun c_24 => ?_) (fun c_24 => ?_)
          · have hV := hV.2 c_24
            refine lv_aload_n hx hb dX6_sign_30 rfl (lv_at hl 0 rfl) ?_
            refine va_get (D := D) (ci := 5) (v := .ref (ad 1)) (C := RX6) (T := TX6) (N := 10) hx hb hts (by decide +kernel) hown hK hP 0 rfl rfl 0 (by decide) (hts (.fieldLink RX6 10 "PowerRests" "ofN" "LPowerRests$Factors;") (by decide +kernel)) (fun _ h9 => h9) rfl dX6_sign_31 ?_
            refine lv_iload_n hx hb dX6_sign_34 rfl (lv_at hl 2 rfl) ?_
            obtain ⟨h_35, hV⟩ := hV
            refine cw_v (va_runV (As := [.int p1]) (rest := []) ⟨hx, hb, hml, hown, hts⟩ (spec_X0_split l 0 (by decide) D cy ad _ g a w p1 h_35) (cwV 1 hts gX6_sign_X0_split rfl rfl rfl (by decide +kernel) ⟨Nat.le_of_ble_eq_true rfl, Nat.le_of_ble_eq_true rfl⟩) (ar_preV hN hK hP (caD hD) (ci := 0) (q0 := 1) rfl rfl) rfl rfl hl.1 rfl (lv_room (Nat.le_of_ble_eq_true rfl)) dX6_sign_35 ⟨Nat.zero_le _, Nat.zero_le _⟩) hS (caD hD) hA (fun u_35 H locs q_35 hP hS => ?_)
            obtain ⟨g35, a35, w35⟩ := u_35
            have hV := hV g35 a35 w35 q_35
            have hP : va_P D vwCl (caW ad cy g35 a35 w35) H := hP
            refine lv_iconst (v := (1 : Int32)) hx hb dX6_sign_38 (by decide) ?_
            refine lv_istore_n (lv' := [(3, .int (1 : Int32)), (0, .ref (ad 0)), (1, .int p0), (2, .int p1)]) hx hb dX6_sign_39 rfl hl (by decide) rfl (fun ls hl => ?_)
            refine lv_iconst (v := (0 : Int32)) hx hb dX6_sign_40 (by decide) ?_
            refine lv_istore (lv' := [(4, .int (0 : Int32)), (3, .int (1 : Int32)), (0, .ref (ad 0)), (1, .int p0), (2, .int p1)]) hx hb dX6_sign_41 hl (by decide) rfl (fun ls hl => ?_)
            exact oJ43 _ _ _ _ _ hV _ _ hP hS _ (lv_sub hl [2, 3, 1, 0] rfl)
          · have hV := hV.1 c_24
            refine lv_bipush (v := (-100 : Int32)) hx hb dX6_sign_27 (by decide) ?_
            exact W.iret (v := (-100 : Int32)) hx hb hr (fun t ht hW => ⟨⟨_, (g, a, w), rfl, hV, ar_heap ht hP⟩, hS.F ht⟩) hS.2.2 dX6_sign_29
set_option maxRecDepth 4000 in
theorem spec_X6_sign (l : Launch) (D : va_G) (cy : Nat → ClassId) (ad : Nat → Nat) (sz : Nat) (g : Gs) (a : As) (w : Ws) (p0 : Int32) (p1 : Int32) : Met l yX6_sign wsX6_sign ({ frames := 2, cells := 0, slots := 0, locals := 52 } : Room) (va_Pc [.ref (ad 0), .int p0, .int p1] (ArP D cy sz (caW ad cy g a w))) (va_Qi (fun (r : Int32) (u : Gs × As × Ws) => (post_X6_sign g a w p0 p1) r u.1 u.2.1 u.2.2) (fun u t => va_P D vwCl (caW ad cy u.1 u.2.1 u.2.2) t.heap) (va_A (caW ad cy g a w) sz)) 0 0 (va_A (caW ad cy g a w) sz) := by
  apply met_X6_sign
  intro J hJ
  have e0 : (0 : Int32).toInt = 0 := rfl
  have e1 : (1 : Int32).toInt = 1 := rfl
  have e2 : (1000000 : Int32).toInt = 1000000 := rfl
  have e3 : (99999 : Int32).toInt = 99999 := rfl
  refine ⟨fun h => ⟨Or.inl ⟨Or.inl (by rw [i_lt, e0] at h; exact h), rfl⟩, FS.rf⟩, fun h => ⟨fun h2 => ⟨Or.inl ⟨Or.inr (Or.inl (by rw [i_lt, e2] at h2; exact h2)), rfl⟩, FS.rf⟩, fun h2 => ⟨fun h3 => ⟨Or.inl ⟨Or.inr (Or.inr (Or.inl (by rw [i_lt, e1] at h3; exact h3))), rfl⟩, FS.rf⟩, fun h3 => ⟨fun h4 => ⟨Or.inl ⟨Or.inr (Or.inr (Or.inr (Or.inl (by rw [i_lt, e3] at h4; exact h4)))), rfl⟩, FS.rf⟩, fun h4 => ?_⟩⟩⟩⟩
  rw [i_lt, e0] at h
  rw [i_lt, e2] at h2
  rw [i_lt, e1] at h3
  rw [i_lt, e3] at h4
  obtain ⟨x, hx, rfl, hx2⟩ := of_i (x := p0) (by omega)
  obtain ⟨m, hm, rfl, hm2⟩ := of_i (x := p1) (by omega)
  rw [show (2 : Int32) = nI 2 from rfl, pk_rem hm (by omega) (by omega)]
  have tnm : tn (nI m) = m := tn_nI hm
  refine pk_eq (m % 2) 0 (fun h5 => ⟨Or.inl ⟨Or.inr (Or.inr (Or.inr (Or.inr (by omega)))), rfl⟩, FS.rf⟩) (fun h5 => ⟨⟨by omega, by omega⟩, fun g1 a1 w1 hsp => ?_⟩)
  have hF : Fac 0 m g1 a1 := by have := hsp.2.1 (by rw [tnm]; omega); rwa [tnm] at this
  have hFS := split_FS (by decide) hsp
  have h7 := hF.few
  have hin : 0 ≤ (nI x).toInt ∧ (nI x).toInt ≤ 1000000 ∧ 1 ≤ (nI m).toInt ∧ (nI m).toInt ≤ 99999 ∧ (nI m).toInt % 2 = 1 := ⟨by omega, by omega, by omega, by omega, by omega⟩
  have key : ∀ (d k : Nat) (v : Int32), k + d = tn (g1 0) → SgR x (prodF (fun i => PP 0 a1 i ^ TT 0 a1 i) k) v → J v (nI k) g1 a1 w1 := by
    intro d
    induction d with
    | zero =>
      intro k v hk hv
      refine hJ _ _ _ _ _ (pk_le (tn (g1 0)) k (fun _ => ⟨Or.inr ⟨hin, ?_⟩, hFS⟩) (fun h => absurd h (by omega)) hF.2.2.1)
      rw [tn_nI hx, tnm]
      have := hF.1.1
      rw [show tn (g1 0) = k by omega] at this
      rw [this]
      exact hv
    | succ d ih =>
      intro k v hk hv
      obtain ⟨v1, v2, v3, v4, v5, v6, v7, v8, v9⟩ := hF.at (show k < tn (g1 0) by omega)
      refine hJ _ _ _ _ _ (pk_le (tn (g1 0)) k (fun h => absurd h (by omega)) (fun _ => ?_) hF.2.2.1)
      rw [show (nI k).toNatClampNeg = k from v2, v3, show a1 2 k = nI (TT 0 a1 k) from v4, show (2 : Int32) = nI 2 from rfl, pk_rem (by omega) (by omega) (by omega), nI_1]
      refine ⟨v1, ⟨by omega, by rw [nI_toInt (by omega)]; omega⟩, fun r hr => ⟨v1, ?_⟩⟩
      unfold post_X6_signByPrime at hr
      rw [tn_nI hx, tn_nI (by omega)] at hr
      subst hr
      have nx := hv.pow (hF.1.2.1 k (by omega)).1 (TT 0 a1 k)
      refine pk_eq (TT 0 a1 k % 2) 0 (fun h6 => ih (k + 1) _ (by omega) ?_) (fun h6 => ih (k + 1) _ (by omega) ?_)
      · rw [← pwI_even (Sg_3 x _) v6 h6]; exact nx
      · rw [← pwI_odd (t := TT 0 a1 k) (Sg_3 x _) (by omega)]; exact nx
  exact key (tn (g1 0)) 0 1 (by omega) (SgR.nil x)
def post_X7_sign (g : Gs) (a : As) (p0 p1 r : Int32) : Prop := SignAns p0 p1 r
set_option maxHeartbeats 4000000 in
set_option maxRecDepth 100000 in
theorem met_X7_sign (l : Launch) (D : va_G) (cy : Nat → ClassId) (ad : Nat → Nat) (sz : Nat) (g : Gs) (a : As) (p0 : Int32) (p1 : Int32) (post : Int32 → Prop)
  (hV : ∀ (J41 : Int32 → Int32 → Int32 → Prop),
    (∀ (x3 : Int32) (x4 : Int32) (x5 : Int32), ((x4 ≤ (1 : Int32) → post x3) ∧ (¬ x4 ≤ (1 : Int32) → (((x5 * x5) ≤ x4 → ¬ x5 = 0 ∧ ((((x4 - x4 / x5 * x5) = 0 → (((p0 - p0 / x5 * x5) = 0 → J41 (x3 * (0 : Int32)) (x4 / x5) x5) ∧ (¬ (p0 - p0 / x5 * x5) = 0 → pre_X7_powerOf x5 p0 (((x5 - (1 : Int32)) / (2 : Int32)).toInt64) ∧ (∀ r97 : Int32, post_X7_powerOf x5 p0 (((x5 - (1 : Int32)) / (2 : Int32)).toInt64) r97 → ((r97 = (1 : Int32) → J41 (x3 * (1 : Int32)) (x4 / x5) x5) ∧ (¬ r97 = (1 : Int32) → J41 (x3 * (-1 : Int32)) (x4 / x5) x5)))))) ∧ (¬ (x4 - x4 / x5 * x5) = 0 → J41 x3 x4 (x5 + 2))))) ∧ (¬ (x5 * x5) ≤ x4 → ¬ x4 = 0 ∧ ((((x4 - x4 / x4 * x4) = 0 → (((p0 - p0 / x4 * x4) = 0 → J41 (x3 * (0 : Int32)) (x4 / x4) x4) ∧ (¬ (p0 - p0 / x4 * x4) = 0 → pre_X7_powerOf x4 p0 (((x4 - (1 : Int32)) / (2 : Int32)).toInt64) ∧ (∀ r97 : Int32, post_X7_powerOf x4 p0 (((x4 - (1 : Int32)) / (2 : Int32)).toInt64) r97 → ((r97 = (1 : Int32) → J41 (x3 * (1 : Int32)) (x4 / x4) x4) ∧ (¬ r97 = (1 : Int32) → J41 (x3 * (-1 : Int32)) (x4 / x4) x4)))))) ∧ (¬ (x4 - x4 / x4 * x4) = 0 → J41 x3 x4 (x4 + 2)))))))) → J41 x3 x4 x5) →
    ∀ r6 : Int32, post_X7_in p0.toInt64 (0 : Int64) (1000000 : Int64) r6 → ((r6 = 0 → post (-100 : Int32)) ∧ (¬ r6 = 0 → ∀ r18 : Int32, post_X7_in p1.toInt64 (1 : Int64) (99999 : Int64) r18 → ((r18 = 0 → post (-100 : Int32)) ∧ (¬ r18 = 0 → (((p1 - p1 / (2 : Int32) * (2 : Int32)) = 0 → post (-100 : Int32)) ∧ (¬ (p1 - p1 / (2 : Int32) * (2 : Int32)) = 0 → J41 (1 : Int32) p1 (3 : Int32)))))))) :
  Met l yX7_sign wsX7_sign ({ frames := 1, cells := 0, slots := 0, locals := 29 } : Room) (va_Pc [.ref (ad 0), .int p0, .int p1] (ArP D cy sz (maW ad cy g a))) (Qpi post) 0 0 noF := by
  refine Met.ofW (cc := cX7_sign) (maxL := 6) (ret := (some .int)) (by decide) rfl ?_
  intro p e s m args below meth c s₁ B hml hv
  obtain ⟨rfl, hsz, hP, hK, hD0, hN⟩ := hv
  have hx := B.exec
  have hb := B.bytes
  have hr := B.returns
  have hts := atoms_spec (ws := wsX7_sign) B.pre
  have hown : s.vm.findClass RX7 = some m.cls := findClass_of_methodNamed B.named
  have hlocks := B.notSynchronized
  subst hsz
  have hP : va_P D vwCl (maW ad cy g a) s.heap := hP
  have hD : va_D (fun _ => True) (maW ad cy g a) := hD0
  obtain ⟨J41, iJ41, oJ41⟩ : ∃ J : Int32 → Int32 → Int32 → Prop, (∀ (x3 : Int32) (x4 : Int32) (x5 : Int32), (∀ ls : Array Slot, lv_has ls 6 [(1, .int p0), (3, .int x3), (4, .int x4), (5, .int x5)] → W p l e (headSpec wsX7_sign ({ frames := 1, cells := 0, slots := 0, locals := 29 } : Room)).room s m [.ref (ad 0), .int p0, .int p1].toArray below meth c s.heap [] 0 0 (MQ below (Qpi post) [.ref (ad 0), .int p0, .int p1].toArray s 0 0 noF) (F0 m 41 ls [])) → J x3 x4 x5) ∧ (∀ (x3 : Int32) (x4 : Int32) (x5 : Int32), J x3 x4 x5 → (∀ ls : Array Slot, lv_has ls 6 [(1, .int p0), (3, .int x3), (4, .int x4), (5, .int x5)] → W p l e (headSpec wsX7_sign ({ frames := 1, cells := 0, slots := 0, locals := 29 } : Room)).room s m [.ref (ad 0), .int p0, .int p1].toArray below meth c s.heap [] 0 0 (MQ below (Qpi post) [.ref (ad 0), .int p0, .int p1].toArray s 0 0 noF) (F0 m 41 ls []))) := ⟨fun (x3 : Int32) (x4 : Int32) (x5 : Int32) => (∀ ls : Array Slot, lv_has ls 6 [(1, .int p0), (3, .int x3), (4, .int x4), (5, .int x5)] → W p l e (headSpec wsX7_sign ({ frames := 1, cells := 0, slots := 0, locals := 29 } : Room)).room s m [.ref (ad 0), .int p0, .int p1].toArray below meth c s.heap [] 0 0 (MQ below (Qpi post) [.ref (ad 0), .int p0, .int p1].toArray s 0 0 noF) (F0 m 41 ls [])), fun _ _ _ h => h, fun _ _ _ h => h⟩
  have hV := hV J41
  replace hV := hV (by
    intro x3 x4 x5 hV
    refine iJ41 x3 x4 x5 ?_
    intro ls hl
    refine lv_iload hx hb dX7_sign_41 (lv_at hl 2 rfl) ?_
    refine lv_iconst (v := (1 : Int32)) hx hb dX7_sign_43 (by decide) ?_
    refine lv_icmp_le (tgt := 121) hx hb dX7_sign_44 (by decide) (fun c_44 => ?_) (fun c_44 => ?_)
    · have hV := hV.1 c_44
      refine lv_iload_n hx hb dX7_sign_121 rfl (lv_at hl 1 rfl) ?_
      exact W.iret (v := x3) hx hb hr (fun t ht hW => ⟨_, rfl, hV, ht⟩) (fun _ h => by cases h) dX7_sign_122
    · have hV := hV.2 c_44
      refine lv_iload hx hb dX7_sign_47 (lv_at hl 3 rfl) ?_
      refine lv_iload hx hb dX7_sign_49 (lv_at hl 3 rfl) ?_
      refine lv_imul hx hb dX7_sign_51 ?_
      refine lv_iload hx hb dX7_sign_52 (lv_at hl 2 rfl) ?_
      refine lv_icmp_le (tgt := 61) hx hb dX7_sign_54 (by decide) (fun c_54 => ?_) (fun c_54 => ?_)
      · have hV := hV.1 c_54
        refine lv_iload hx hb dX7_sign_61 (lv_at hl 2 rfl) ?_
        refine lv_iload hx hb dX7_sign_63 (lv_at hl 3 rfl) ?_
        obtain ⟨h_65, hV⟩ := hV
        refine lv_irem hx hb dX7_sign_65 h_65 ?_
        refine lv_if_eq (tgt := 75) hx hb dX7_sign_66 (by decide) (fun c_66 => ?_) (fun c_66 => ?_)
        · have hV := hV.1 c_66
          refine lv_iload_n hx hb dX7_sign_75 rfl (lv_at hl 1 rfl) ?_
          refine lv_iload_n hx hb dX7_sign_76 rfl (lv_at hl 0 rfl) ?_
          refine lv_iload hx hb dX7_sign_77 (lv_at hl 3 rfl) ?_
          refine lv_irem hx hb dX7_sign_79 h_65 ?_
          refine lv_if_ne (tgt := 87) hx hb dX7_sign_80 (by decide) (fun c_80 => ?_) (fun c_80 => ?_)
          · have hV := hV.2 c_80
            refine lv_iload hx hb dX7_sign_87 (lv_at hl 3 rfl) ?_
            refine lv_iload_n hx hb dX7_sign_89 rfl (lv_at hl 0 rfl) ?_
            refine lv_iload hx hb dX7_sign_90 (lv_at hl 3 rfl) ?_
            refine lv_iconst (v := (1 : Int32)) hx hb dX7_sign_92 (by decide) ?_
            refine lv_isub hx hb dX7_sign_93 ?_
            refine lv_iconst (v := (2 : Int32)) hx hb dX7_sign_94 (by decide) ?_
            refine lv_idiv hx hb dX7_sign_95 (by decide) ?_
            refine lv_i2l (v := ((x5 - (1 : Int32)) / (2 : Int32)).toInt64) hx hb dX7_sign_96 rfl ?_
            obtain ⟨h_97, hV⟩ := hV
            refine cp_i (va_runS (As := [.int x5, .int p0, .long (((x5 - (1 : Int32)) / (2 : Int32)).toInt64)]) (rest := [.int x3]) ⟨hx, hb, hml, hown, hts⟩ (spec_X7_powerOf l x5 p0 (((x5 - (1 : Int32)) / (2 : Int32)).toInt64) h_97) (va_cwS 3 hts gX7_sign_X7_powerOf rfl rfl rfl (by decide +kernel) ⟨Nat.le_of_ble_eq_true rfl, Nat.le_of_ble_eq_true rfl⟩) cp_pre rfl rfl hl.1 rfl (lv_room (Nat.le_of_ble_eq_true rfl)) dX7_sign_97 ⟨Nat.zero_le _, Nat.zero_le _⟩) (fun r97 q_97 => ?_)
            have hV := hV r97 q_97
            refine lv_iconst (v := (1 : Int32)) hx hb dX7_sign_100 (by decide) ?_
            refine lv_icmp_ne (tgt := 108) hx hb dX7_sign_101 (by decide) (fun c_101 => ?_) (fun c_101 => ?_)
            · have hV := hV.2 c_101
              refine lv_iconst (v := (-1 : Int32)) hx hb dX7_sign_108 (by decide) ?_
              refine lv_imul hx hb dX7_sign_109 ?_
              refine lv_istore_n (lv' := [(3, .int (x3 * (-1 : Int32))), (1, .int p0), (4, .int x4), (5, .int x5)]) hx hb dX7_sign_110 rfl hl (by decide) rfl (fun ls hl => ?_)
              refine lv_iload hx hb dX7_sign_111 (lv_at hl 2 rfl) ?_
              refine lv_iload hx hb dX7_sign_113 (lv_at hl 3 rfl) ?_
              refine lv_idiv hx hb dX7_sign_115 h_65 ?_
              refine lv_istore (lv' := [(4, .int (x4 / x5)), (3, .int (x3 * (-1 : Int32))), (1, .int p0), (5, .int x5)]) hx hb dX7_sign_116 hl (by decide) rfl (fun ls hl => ?_)
              refine lv_goto (tgt := 41) hx hb dX7_sign_118 (by decide) ?_
              exact oJ41 _ _ _ hV _ (lv_sub hl [2, 1, 0, 3] rfl)
            · have hV := hV.1 c_101
              refine lv_iconst (v := (1 : Int32)) hx hb dX7_sign_104 (by decide) ?_
              refine lv_goto (tgt := 109) hx hb dX7_sign_105 (by decide) ?_
              refine lv_imul hx hb dX7_sign_109 ?_
              refine lv_istore_n (lv' := [(3, .int (x3 * (1 : Int32))), (1, .int p0), (4, .int x4), (5, .int x5)]) hx hb dX7_sign_110 rfl hl (by decide) rfl (fun ls hl => ?_)
              refine lv_iload hx hb dX7_sign_111 (lv_at hl 2 rfl) ?_
              refine lv_iload hx hb dX7_sign_113 (lv_at hl 3 rfl) ?_
              refine lv_idiv hx hb dX7_sign_115 h_65 ?_
              refine lv_istore (lv' := [(4, .int (x4 / x5)), (3, .int (x3 * (1 : Int32))), (1, .int p0), (5, .int x5)]) hx hb dX7_sign_116 hl (by decide) rfl (fun ls hl => ?_)
              refine lv_goto (tgt := 41) hx hb dX7_sign_118 (by decide) ?_
              exact oJ41 _ _ _ hV _ (lv_sub hl [2, 1, 0, 3] rfl)
          · have hV := hV.1 c_80
            refine lv_iconst (v := (0 : Int32)) hx hb dX7_sign_83 (by decide) ?_
            refine lv_goto (tgt := 109) hx hb dX7_sign_84 (by decide) ?_
            refine lv_imul hx hb dX7_sign_109 ?_
            refine lv_istore_n (lv' := [(3, .int (x3 * (0 : Int32))), (1, .int p0), (4, .int x4), (5, .int x5)]) hx hb dX7_sign_110 rfl hl (by decide) rfl (fun ls hl => ?_)
            refine lv_iload hx hb dX7_sign_111 (lv_at hl 2 rfl) ?_
            refine lv_iload hx hb dX7_sign_113 (lv_at hl 3 rfl) ?_
            refine lv_idiv hx hb dX7_sign_115 h_65 ?_
            refine lv_istore (lv' := [(4, .int (x4 / x5)), (3, .int (x3 * (0 : Int32))), (1, .int p0), (5, .int x5)]) hx hb dX7_sign_116 hl (by decide) rfl (fun ls hl => ?_)
            refine lv_goto (tgt := 41) hx hb dX7_sign_118 (by decide) ?_
            exact oJ41 _ _ _ hV _ (lv_sub hl [2, 1, 0, 3] rfl)
        · have hV := hV.2 c_66
          refine lv_iinc (v := x5 + 2) (lv' := [(5, .int (x5 + 2)), (1, .int p0), (3, .int x3), (4, .int x4)]) hx hb dX7_sign_69 hl (k := 3) rfl rfl (by decide) rfl (fun ls hl => ?_)
          refine lv_goto (tgt := 41) hx hb dX7_sign_72 (by decide) ?_
          exact oJ41 _ _ _ hV _ (lv_sub hl [1, 2, 3, 0] rfl)
      · have hV := hV.2 c_54
        refine lv_iload hx hb dX7_sign_57 (lv_at hl 2 rfl) ?_
        refine lv_istore (lv' := [(5, .int x4), (1, .int p0), (3, .int x3), (4, .int x4)]) hx hb dX7_sign_59 hl (by decide) rfl (fun ls hl => ?_)
        refine lv_iload hx hb dX7_sign_61 (lv_at hl 3 rfl) ?_
        refine lv_iload hx hb dX7_sign_63 (lv_at hl 0 rfl) ?_
        obtain ⟨h_65, hV⟩ := hV
        refine lv_irem hx hb dX7_sign_65 h_65 ?_
        refine lv_if_eq (tgt := 75) hx hb dX7_sign_66 (by decide) (fun c_66 => ?_) (fun c_66 => ?_)
        · have hV := hV.1 c_66
          refine lv_iload_n hx hb dX7_sign_75 rfl (lv_at hl 2 rfl) ?_
          refine lv_iload_n hx hb dX7_sign_76 rfl (lv_at hl 1 rfl) ?_
          refine lv_iload hx hb dX7_sign_77 (lv_at hl 0 rfl) ?_
          refine lv_irem hx hb dX7_sign_79 h_65 ?_
          refine lv_if_ne (tgt := 87) hx hb dX7_sign_80 (by decide) (fun c_80 => ?_) (fun c_80 => ?_)
          · have hV := hV.2 c_80
            refine lv_iload hx hb dX7_sign_87 (lv_at hl 0 rfl) ?_
            refine lv_iload_n hx hb dX7_sign_89 rfl (lv_at hl 1 rfl) ?_
            refine lv_iload hx hb dX7_sign_90 (lv_at hl 0 rfl) ?_
            refine lv_iconst (v := (1 : Int32)) hx hb dX7_sign_92 (by decide) ?_
            refine lv_isub hx hb dX7_sign_93 ?_
            refine lv_iconst (v := (2 : Int32)) hx hb dX7_sign_94 (by decide) ?_
            refine lv_idiv hx hb dX7_sign_95 (by decide) ?_
            refine lv_i2l (v := ((x4 - (1 : Int32)) / (2 : Int32)).toInt64) hx hb dX7_sign_96 rfl ?_
            obtain ⟨h_97, hV⟩ := hV
            refine cp_i (va_runS (As := [.int x4, .int p0, .long (((x4 - (1 : Int32)) / (2 : Int32)).toInt64)]) (rest := [.int x3]) ⟨hx, hb, hml, hown, hts⟩ (spec_X7_powerOf l x4 p0 (((x4 - (1 : Int32)) / (2 : Int32)).toInt64) h_97) (va_cwS 3 hts gX7_sign_X7_powerOf rfl rfl rfl (by decide +kernel) ⟨Nat.le_of_ble_eq_true rfl, Nat.le_of_ble_eq_true rfl⟩) cp_pre rfl rfl hl.1 rfl (lv_room (Nat.le_of_ble_eq_true rfl)) dX7_sign_97 ⟨Nat.zero_le _, Nat.zero_le _⟩) (fun r97 q_97 => ?_)
            have hV := hV r97 q_97
            refine lv_iconst (v := (1 : Int32)) hx hb dX7_sign_100 (by decide) ?_
            refine lv_icmp_ne (tgt := 108) hx hb dX7_sign_101 (by decide) (fun c_101 => ?_) (fun c_101 => ?_)
            · have hV := hV.2 c_101
              refine lv_iconst (v := (-1 : Int32)) hx hb dX7_sign_108 (by decide) ?_
              refine lv_imul hx hb dX7_sign_109 ?_
              refine lv_istore_n (lv' := [(3, .int (x3 * (-1 : Int32))), (5, .int x4), (1, .int p0), (4, .int x4)]) hx hb dX7_sign_110 rfl hl (by decide) rfl (fun ls hl => ?_)
              refine lv_iload hx hb dX7_sign_111 (lv_at hl 3 rfl) ?_
              refine lv_iload hx hb dX7_sign_113 (lv_at hl 1 rfl) ?_
              refine lv_idiv hx hb dX7_sign_115 h_65 ?_
              refine lv_istore (lv' := [(4, .int (x4 / x4)), (3, .int (x3 * (-1 : Int32))), (5, .int x4), (1, .int p0)]) hx hb dX7_sign_116 hl (by decide) rfl (fun ls hl => ?_)
              refine lv_goto (tgt := 41) hx hb dX7_sign_118 (by decide) ?_
              exact oJ41 _ _ _ hV _ (lv_sub hl [3, 1, 0, 2] rfl)
            · have hV := hV.1 c_101
              refine lv_iconst (v := (1 : Int32)) hx hb dX7_sign_104 (by decide) ?_
              refine lv_goto (tgt := 109) hx hb dX7_sign_105 (by decide) ?_
              refine lv_imul hx hb dX7_sign_109 ?_
              refine lv_istore_n (lv' := [(3, .int (x3 * (1 : Int32))), (5, .int x4), (1, .int p0), (4, .int x4)]) hx hb dX7_sign_110 rfl hl (by decide) rfl (fun ls hl => ?_)
              refine lv_iload hx hb dX7_sign_111 (lv_at hl 3 rfl) ?_
              refine lv_iload hx hb dX7_sign_113 (lv_at hl 1 rfl) ?_
              refine lv_idiv hx hb dX7_sign_115 h_65 ?_
              refine lv_istore (lv' := [(4, .int (x4 / x4)), (3, .int (x3 * (1 : Int32))), (5, .int x4), (1, .int p0)]) hx hb dX7_sign_116 hl (by decide) rfl (fun ls hl => ?_)
              refine lv_goto (tgt := 41) hx hb dX7_sign_118 (by decide) ?_
              exact oJ41 _ _ _ hV _ (lv_sub hl [3, 1, 0, 2] rfl)
          · have hV := hV.1 c_80
            refine lv_iconst (v := (0 : Int32)) hx hb dX7_sign_83 (by decide) ?_
            refine lv_goto (tgt := 109) hx hb dX7_sign_84 (by decide) ?_
            refine lv_imul hx hb dX7_sign_109 ?_
            refine lv_istore_n (lv' := [(3, .int (x3 * (0 : Int32))), (5, .int x4), (1, .int p0), (4, .int x4)]) hx hb dX7_sign_110 rfl hl (by decide) rfl (fun ls hl => ?_)
            refine lv_iload hx hb dX7_sign_111 (lv_at hl 3 rfl) ?_
            refine lv_iload hx hb dX7_sign_113 (lv_at hl 1 rfl) ?_
            refine lv_idiv hx hb dX7_sign_115 h_65 ?_
            refine lv_istore (lv' := [(4, .int (x4 / x4)), (3, .int (x3 * (0 : Int32))), (5, .int x4), (1, .int p0)]) hx hb dX7_sign_116 hl (by decide) rfl (fun ls hl => ?_)
            refine lv_goto (tgt := 41) hx hb dX7_sign_118 (by decide) ?_
            exact oJ41 _ _ _ hV _ (lv_sub hl [3, 1, 0, 2] rfl)
        · have hV := hV.2 c_66
          refine lv_iinc (v := x4 + 2) (lv' := [(5, .int (x4 + 2)), (1, .int p0), (3, .int x3), (4, .int x4)]) hx hb dX7_sign_69 hl (k := 0) rfl rfl (by decide) rfl (fun ls hl => ?_)
          refine lv_goto (tgt := 41) hx hb dX7_sign_72 (by decide) ?_
          exact oJ41 _ _ _ hV _ (lv_sub hl [1, 2, 3, 0] rfl))
  have hl := lv_entry ([.ref (ad 0), .int p0, .int p1]) (n := 6) (Nat.le_of_ble_eq_true rfl)
  rw [lg_entry_eq]
  generalize (lg_sl ([.ref (ad 0), .int p0, .int p1]) ++ List.replicate (6 - (lg_sl ([.ref (ad 0), .int p0, .int p1])).length) Slot.unset).toArray = ls at hl ⊢
  have hl : lv_has ls 6 [(0, .ref (ad 0)), (1, .int p0), (2, .int p1)] := hl
  refine lv_iload_n hx hb dX7_sign_0 rfl (lv_at hl 1 rfl) ?_
  refine lv_i2l (v := p0.toInt64) hx hb dX7_sign_1 rfl ?_
  refine lv_lconst (v := (0 : Int64)) hx hb dX7_sign_2 (by decide) ?_
  refine lv_ldc2 (v := (1000000 : Int64)) hx hb hown (hts (.constantLong RX7 96 (1000000)) (by decide +kernel)) dX7_sign_3 ?_
  refine cp_i (va_runS (As := [.long p0.toInt64, .long (0 : Int64), .long (1000000 : Int64)]) (rest := []) ⟨hx, hb, hml, hown, hts⟩ (spec_X7_in l p0.toInt64 (0 : Int64) (1000000 : Int64)) (va_cwS 3 hts gX7_sign_X7_in rfl rfl rfl (by decide +kernel) ⟨Nat.le_of_ble_eq_true rfl, Nat.le_of_ble_eq_true rfl⟩) cp_pre rfl rfl hl.1 rfl (lv_room (Nat.le_of_ble_eq_true rfl)) dX7_sign_6 ⟨Nat.zero_le _, Nat.zero_le _⟩) (fun r6 q_6 => ?_)
  have hV := hV r6 q_6
  refine lv_if_eq (tgt := 30) hx hb dX7_sign_9 (by decide) (fun c_9 => ?_) (fun c_9 => ?_)
  · have hV := hV.1 c_9
    refine lv_bipush (v := (-100 : Int32)) hx hb dX7_sign_30 (by decide) ?_
    exact W.iret (v := (-100 : Int32)) hx hb hr (fun t ht hW => ⟨_, rfl, hV, ht⟩) (fun _ h => by cases h) dX7_sign_32
  · have hV := hV.2 c_9
    refine lv_iload_n hx hb dX7_sign_12 rfl (lv_at hl 2 rfl) ?_
    refine lv_i2l (v := p1.toInt64) hx hb dX7_sign_13 rfl ?_
    refine lv_lconst (v := (1 : Int64)) hx hb dX7_sign_14 (by decide) ?_
    refine lv_ldc2 (v := (99999 : Int64)) hx hb hown (hts (.constantLong RX7 98 (99999)) (by decide +kernel)) dX7_sign_15 ?_
    refine cp_i (va_runS (As := [.long p1.toInt64, .long (1 : Int64), .long (99999 : Int64)]) (rest := []) ⟨hx, hb, hml, hown, hts⟩ (spec_X7_in l p1.toInt64 (1 : Int64) (99999 : Int64)) (va_cwS 3 hts gX7_sign_X7_in rfl rfl rfl (by decide +kernel) ⟨Nat.le_of_ble_eq_true rfl, Nat.le_of_ble_eq_true rfl⟩) cp_pre rfl rfl hl.1 rfl (lv_room (Nat.le_of_ble_eq_true rfl)) dX7_sign_18 ⟨Nat.zero_le _, Nat.zero_le _⟩) (fun r18 q_18 => ?_)
    have hV := hV r18 q_18
    refine lv_if_eq (tgt := 30) hx hb dX7_sign_21 (by decide) (fun c_21 => ?_) (fun c_21 => ?_)
    · have hV := hV.1 c_21
      refine lv_bipush (v := (-100 : Int32)) hx hb dX7_sign_30 (by decide) ?_
      exact W.iret (v := (-100 : Int32)) hx hb hr (fun t ht hW => ⟨_, rfl, hV, ht⟩) (fun _ h => by cases h) dX7_sign_32
    · have hV := hV.2 c_21
      refine lv_iload_n hx hb dX7_sign_24 rfl (lv_at hl 2 rfl) ?_
      refine lv_iconst (v := (2 : Int32)) hx hb dX7_sign_25 (by decide) ?_
      refine lv_irem hx hb dX7_sign_26 (by decide) ?_
      refine lv_if_ne (tgt := 33) hx hb dX7_sign_27 (by decide) (fun c_27 => ?_) (fun c_27 => ?_)
      · have hV := hV.2 c_27
        refine lv_iconst (v := (1 : Int32)) hx hb dX7_sign_33 (by decide) ?_
        refine lv_istore_n (lv' := [(3, .int (1 : Int32)), (0, .ref (ad 0)), (1, .int p0), (2, .int p1)]) hx hb dX7_sign_34 rfl hl (by decide) rfl (fun ls hl => ?_)
        refine lv_iload_n hx hb dX7_sign_35 rfl (lv_at hl 3 rfl) ?_
        refine lv_istore (lv' := [(4, .int p1), (3, .int (1 : Int32)), (0, .ref (ad 0)), (1, .int p0), (2, .int p1)]) hx hb dX7_sign_36 hl (by decide) rfl (fun ls hl => ?_)
        refine lv_iconst (v := (3 : Int32)) hx hb dX7_sign_38 (by decide) ?_
        refine lv_istore (lv' := [(5, .int (3 : Int32)), (4, .int p1), (3, .int (1 : Int32)), (0, .ref (ad 0)), (1, .int p0), (2, .int p1)]) hx hb dX7_sign_39 hl (by decide) rfl (fun ls hl => ?_)
        exact oJ41 _ _ _ hV _ (lv_sub hl [4, 2, 1, 0] rfl)
      · have hV := hV.1 c_27
        refine lv_bipush (v := (-100 : Int32)) hx hb dX7_sign_30 (by decide) ?_
        exact W.iret (v := (-100 : Int32)) hx hb hr (fun t ht hW => ⟨_, rfl, hV, ht⟩) (fun _ h => by cases h) dX7_sign_32
set_option maxRecDepth 4000 in
theorem spec_X7_sign (l : Launch) (D : va_G) (cy : Nat → ClassId) (ad : Nat → Nat) (sz : Nat) (g : Gs) (a : As) (p0 : Int32) (p1 : Int32) : Met l yX7_sign wsX7_sign ({ frames := 1, cells := 0, slots := 0, locals := 29 } : Room) (va_Pc [.ref (ad 0), .int p0, .int p1] (ArP D cy sz (maW ad cy g a))) (Qpi (post_X7_sign g a p0 p1)) 0 0 noF := by
  apply met_X7_sign
  intro J hJ r hr
  have l0 : (0 : Int64).toInt = 0 := rfl
  have l1 : (1 : Int64).toInt = 1 := rfl
  have l2 : (1000000 : Int64).toInt = 1000000 := rfl
  have l3 : (99999 : Int64).toInt = 99999 := rfl
  unfold post_X7_in at hr
  rw [il_t, l0, l2] at hr
  subst hr
  refine ⟨fun h => Or.inl ⟨?_, rfl⟩, fun h r2 hr2 => ?_⟩
  · have := zb_0 h
    omega
  have h := zb_1 h
  unfold post_X7_in at hr2
  rw [il_t, l1, l3] at hr2
  subst hr2
  refine ⟨fun h2 => Or.inl ⟨?_, rfl⟩, fun h2 => ?_⟩
  · have := zb_0 h2
    omega
  have h2 := zb_1 h2
  obtain ⟨x, hx, rfl, hx2⟩ := of_i (x := p0) (by omega)
  obtain ⟨m, hm, rfl, hm2⟩ := of_i (x := p1) (by omega)
  have tnm : tn (nI m) = m := tn_nI hm
  rw [show (2 : Int32) = nI 2 from rfl, pk_rem hm (by omega) (by omega)]
  refine pk_eq (m % 2) 0 (fun h5 => Or.inl ⟨Or.inr (Or.inr (Or.inr (Or.inr (by omega)))), rfl⟩) (fun h5 => ?_)
  have hin : 0 ≤ (nI x).toInt ∧ (nI x).toInt ≤ 1000000 ∧ 1 ≤ (nI m).toInt ∧ (nI m).toInt ≤ 99999 ∧ (nI m).toInt % 2 = 1 := ⟨by omega, by omega, by omega, by omega, by omega⟩
  have key : ∀ (z left p N : Nat) (v : Int32), 1000 * left - p < z → N * left = m → SgR x N v → 1 ≤ left → p % 2 = 1 → 3 ≤ p → (left = 1 ∨ p ≤ 400) → p < 2 ^ 31 → (∀ q, 2 ≤ q → q < p → ¬ q ∣ left) → J v (nI left) (nI p) := by
    intro z
    induction z with
    | zero => intro left p N v hz; omega
    | succ z ih =>
      intro left p N v hz hN hv hl hp2 hp3 hp4 hp5 hnd
      have hlm : left ≤ m := Nat.le_of_dvd (by omega) ⟨N, by rw [← hN, Nat.mul_comm]⟩
      have lodd : left % 2 = 1 := by
        rcases Nat.mod_two_eq_zero_or_one left with e | e
        · exfalso
          have : m % 2 = 0 := by rw [← hN, Nat.mul_mod, e, Nat.mul_zero]
          exact h5 this
        · exact e
      refine hJ _ _ _ (pk_le left 1 (fun h6 => Or.inr ⟨hin, ?_⟩) (fun h6 => ?_))
      · rw [tn_nI hx, tnm, ← hN, show left = 1 by omega, Nat.mul_one]
        exact hv
      have hp4 : p ≤ 400 := by omega
      have hpp : p * p ≤ 400 * 400 := Nat.mul_le_mul hp4 hp4
      -- a step by a prime
      have step : ∀ q, Pr q → 3 ≤ q → q % 2 = 1 → q < 2 ^ 31 → q ∣ left → (left / q = 1 ∨ q ≤ 400) → (∀ y, 2 ≤ y → y < q → ¬ y ∣ left) → 1000 * (left / q) - q < z → ((nI x - nI x / nI q * nI q = 0 → J (v * 0) (nI left / nI q) (nI q)) ∧ (¬ nI x - nI x / nI q * nI q = 0 → pre_X7_powerOf (nI q) (nI x) ((nI q - 1) / nI 2).toInt64 ∧ (∀ r97 : Int32, post_X7_powerOf (nI q) (nI x) ((nI q - 1) / nI 2).toInt64 r97 → ((r97 = 1 → J (v * 1) (nI left / nI q) (nI q)) ∧ (¬ r97 = 1 → J (v * (-1)) (nI left / nI q) (nI q)))))) := by
        intro q hq q3 q2 q31 hd hb hy hz'
        have hdp : 1 ≤ left / q := Nat.div_pos (Nat.le_of_dvd (by omega) hd) (by omega)
        have go : ∀ u, u = Sg x q → J (v * u) (nI left / nI q) (nI q) := fun u hu => by
          rw [pk_div (by omega) (by omega) q31, hu]
          refine ih (left / q) q (N * q) _ hz' ?_ (hv.step hq) hdp q2 q3 hb q31 (fun y y1 y2 y3 => hy y y1 y2 (Nat.dvd_trans y3 (Nat.div_dvd_of_dvd hd)))
          rw [Nat.mul_assoc, Nat.mul_div_cancel' hd, hN]
        rw [pk_rem (by omega) (by omega) q31]
        have hml := Nat.mod_lt x (show 0 < q by omega)
        refine pk_eq (x % q) 0 (fun h7 => go 0 (by unfold Sg; rw [if_pos h7])) (fun h7 => ?_)
        have ee : ((nI q - 1) / nI 2).toInt64 = lN ((q - 1) / 2) := by
          rw [show (1 : Int32) = nI 1 from rfl, pk_sub (by omega), pk_div (by omega) (by omega) (by omega), nI_l (by omega)]
        rw [ee]
        refine ⟨⟨by rw [nI_toInt q31]; omega, by omega, by rw [pk_lT (by omega)]; omega⟩, fun r hr => ?_⟩
        unfold post_X7_powerOf at hr
        rw [tn_nI hx, tn_nI q31, tl_lN (by omega)] at hr
        subst hr
        have hml2 := Nat.mod_lt (x ^ ((q - 1) / 2)) (show 0 < q by omega)
        exact pk_eq (x ^ ((q - 1) / 2) % q) 1 (fun h8 => go 1 (by unfold Sg; rw [if_neg h7, if_pos h8])) (fun h8 => go (-1) (by unfold Sg; rw [if_neg h7, if_neg h8]))
      rw [pk_mul]
      refine pk_le (p * p) left (fun h7 => ⟨nI_nz (by omega) hp5, ?_⟩) (fun h7 => ⟨nI_nz (by omega) (by omega), ?_⟩)
      · rw [pk_rem (a := left) (by omega) (by omega) hp5]
        have hml := Nat.mod_lt left (show 0 < p by omega)
        have hpl : 3 * p ≤ p * p := Nat.mul_le_mul_right p hp3
        refine pk_eq (left % p) 0 (fun h8 => ?_) (fun h8 => ?_)
        · have hd : p ∣ left := Nat.dvd_of_mod_eq_zero h8
          have hpr : Pr p := by
            refine ⟨by omega, fun d hd2 => ?_⟩
            have hle := Nat.le_of_dvd (by omega) hd2
            by_cases h9 : 2 ≤ d
            · by_cases h10 : d < p
              · exact absurd (Nat.dvd_trans hd2 hd) (hnd d h9 h10)
              · omega
            · have : d ≠ 0 := fun e => by rw [e] at hd2; have := Nat.eq_zero_of_zero_dvd hd2; omega
              omega
          have hlt : left / p < left := Nat.div_lt_self (by omega) (by omega)
          exact step p hpr hp3 hp2 hp5 hd (Or.inr hp4) hnd (by omega)
        · have e2 : nI p + 2 = nI (p + 2) := nI_add p 2
          rw [e2]
          refine ih left (p + 2) N v (by omega) hN hv hl (by omega) (by omega) (Or.inr ?_) (by omega) (fun q q1 q2 q3 => ?_)
          · refine Nat.not_lt.mp fun hbig => ?_
            have : 399 * 399 ≤ p * p := Nat.mul_le_mul (by omega) (by omega)
            omega
          · by_cases h9 : q < p
            · exact hnd q q1 h9 q3
            · by_cases h10 : q = p
              · subst h10; exact h8 (Nat.mod_eq_zero_of_dvd q3)
              · have : q = p + 1 := by omega
                have h2q : 2 ∣ q := Nat.dvd_of_mod_eq_zero (by omega)
                have := Nat.mod_eq_zero_of_dvd (Nat.dvd_trans h2q q3)
                omega
      · rw [pk_rem (a := left) (by omega) (by omega) (by omega), Nat.mod_self]
        have hpr : Pr left := pr_trial (by omega) (fun q q1 q2 q3 => hnd q q1 (Nat.not_le.mp fun h9 => by
          have := Nat.mul_le_mul h9 h9
          omega) q3)
        have hd1 : left / left = 1 := Nat.div_self (by omega)
        refine ⟨fun _ => step left hpr (by omega) lodd (by omega) (Nat.dvd_refl left) (Or.inl hd1) (fun y y1 y2 y3 => ?_) (by rw [hd1]; omega), fun q => absurd rfl q⟩
        rcases hpr.2 y y3 with e | e <;> omega
  exact key (1000 * m) m 3 1 1 (by omega) (by omega) (SgR.nil x) (by omega) (by omega) (by omega) (Or.inr (by omega)) (by omega) (fun q q1 q2 q3 => by
    have : q = 2 := by omega
    subst this
    exact h5 (Nat.mod_eq_zero_of_dvd q3))
