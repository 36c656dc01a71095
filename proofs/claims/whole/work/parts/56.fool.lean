/-! who lies to all -/
def FalseP (n : Nat) : Prop := ¬ Pr n ∧ ∀ a, 1 ≤ a → a < n → Nat.Coprime n a → a ^ (n - 1) % n = 1
noncomputable def FalB (x : Nat) : Bool := cb (x % 2 = 1 ∧ 3 ≤ x ∧ FalseP x)
def FalseAns (m i r : Int32) : Prop := ((m.toInt < 3 ∨ 5000 < m.toInt ∨ i.toInt < -1) ∧ r = -1) ∨ ((3 ≤ m.toInt ∧ m.toInt ≤ 5000 ∧ -1 ≤ i.toInt) ∧ Ith FalB (tn m + 1) i r)
theorem FalseAns.one {m i r r' : Int32} (h : FalseAns m i r) (h' : FalseAns m i r') : r = r' := by
  rcases h with ⟨h1, h2⟩ | ⟨h1, h2⟩ <;> rcases h' with ⟨k1, k2⟩ | ⟨k1, k2⟩
  · rw [h2, k2]
  · omega
  · omega
  · exact h2.one k2
def pre_X6_liesToAll (g : Gs) (a : As) (w : Ws) (p0 : Int32) : Prop := OddN p0
set_option maxHeartbeats 4000000 in
set_option maxRecDepth 100000 in
theorem met_X6_liesToAll (l : Launch) (D : va_G) (cy : Nat → ClassId) (ad : Nat → Nat) (sz : Nat) (g : Gs) (a : As) (w : Ws) (p0 : Int32) (post : Int32 → Gs → As → Ws → Prop)
  (hV : ∀ (J23 : Int32 → Gs → As → Ws → Prop),
    (∀ (x2 : Int32) (g_ : Gs) (a_ : As) (w_ : Ws), (((g_ 0) ≤ x2 → post (1 : Int32) g_ a_ w_) ∧ (¬ (g_ 0) ≤ x2 → vp_in x2 8 ∧ (vp_in x2 8 ∧ ((((1 : Int32) < ((a_ 2) x2.toNatClampNeg) → post (0 : Int32) g_ a_ w_) ∧ (¬ (1 : Int32) < ((a_ 2) x2.toNatClampNeg) → (((((a_ 0) x2.toNatClampNeg) - (1 : Int32)) < (1 : Int32) → post (0 : Int32) g_ a_ w_) ∧ (¬ (((a_ 0) x2.toNatClampNeg) - (1 : Int32)) < (1 : Int32) → ¬ (((a_ 0) x2.toNatClampNeg) - (1 : Int32)) = 0 ∧ (((((p0 - (1 : Int32)) - (p0 - (1 : Int32)) / (((a_ 0) x2.toNatClampNeg) - (1 : Int32)) * (((a_ 0) x2.toNatClampNeg) - (1 : Int32))) = 0 → J23 (x2 + 1) g_ a_ w_) ∧ (¬ ((p0 - (1 : Int32)) - (p0 - (1 : Int32)) / (((a_ 0) x2.toNatClampNeg) - (1 : Int32)) * (((a_ 0) x2.toNatClampNeg) - (1 : Int32))) = 0 → post (0 : Int32) g_ a_ w_))))))))))) → J23 x2 g_ a_ w_) →
    pre_X0_split 0 g a w p0 ∧ (∀ (g5 : Gs) (a5 : As) (w5 : Ws), post_X0_split 0 g a w p0 g5 a5 w5 → (((2 : Int32) ≤ (g5 0) → J23 (0 : Int32) g5 a5 w5) ∧ (¬ (2 : Int32) ≤ (g5 0) → post (0 : Int32) g5 a5 w5)))) :
  Met l yX6_liesToAll wsX6_liesToAll ({ frames := 2, cells := 0, slots := 0, locals := 48 } : Room) (va_Pc [.ref (ad 0), .int p0] (ArP D cy sz (caW ad cy g a w))) (va_Qi (fun (r : Int32) (u : Gs × As × Ws) => post r u.1 u.2.1 u.2.2) (fun u t => va_P D vwCl (caW ad cy u.1 u.2.1 u.2.2) t.heap) (va_A (caW ad cy g a w) sz)) 0 0 (va_A (caW ad cy g a w) sz) := by
  refine Met.ofW (cc := cX6_liesToAll) (maxL := 4) (ret := (some .boolean)) (by decide) rfl ?_
  intro p e s m args below meth c s₁ B hml hv
  obtain ⟨rfl, hsz, hP, hK, hD0, hN⟩ := hv
  have hx := B.exec
  have hb := B.bytes
  have hr := B.returns
  have hts := atoms_spec (ws := wsX6_liesToAll) B.pre
  have hown : s.vm.findClass RX6 = some m.cls := findClass_of_methodNamed B.named
  have hlocks := B.notSynchronized
  subst hsz
  have hD := hD0.self (sz := s.heap.size)
  have hP : va_P D vwCl (caW ad cy g a w) s.heap := hP
  have hD : va_D (va_A (caW ad cy g a w) s.heap.size) (caW ad cy g a w) := hD
  have hS : va_S (va_A (caW ad cy g a w) s.heap.size) s.heap s.heap [] := va_S.rf
  have hA : ∀ q : Nat, s.heap.size ≤ q → va_A (caW ad cy g a w) s.heap.size q := fun q h => Or.inr h
  obtain ⟨J23, iJ23, oJ23⟩ : ∃ J : Int32 → Gs → As → Ws → Prop, (∀ (x2 : Int32) (g_ : Gs) (a_ : As) (w_ : Ws), (∀ (H : Heap) (locs : List Loc), va_P D vwCl (caW ad cy g_ a_ w_) H → va_S (va_A (caW ad cy g a w) s.heap.size) s.heap H locs → ∀ ls : Array Slot, lv_has ls 4 [(0, .ref (ad 0)), (1, .int p0), (2, .int x2)] → W p l e (headSpec wsX6_liesToAll ({ frames := 2, cells := 0, slots := 0, locals := 48 } : Room)).room s m [.ref (ad 0), .int p0].toArray below meth c H locs 0 0 (MQ below (va_Qi (fun (r : Int32) (u : Gs × As × Ws) => post r u.1 u.2.1 u.2.2) (fun u t => va_P D vwCl (caW ad cy u.1 u.2.1 u.2.2) t.heap) (va_A (caW ad cy g a w) s.heap.size)) [.ref (ad 0), .int p0].toArray s 0 0 (va_A (caW ad cy g a w) s.heap.size)) (F0 m 23 ls [])) → J x2 g_ a_ w_) ∧ (∀ (x2 : Int32) (g_ : Gs) (a_ : As) (w_ : Ws), J x2 g_ a_ w_ → (∀ (H : Heap) (locs : List Loc), va_P D vwCl (caW ad cy g_ a_ w_) H → va_S (va_A (caW ad cy g a w) s.heap.size) s.heap H locs → ∀ ls : Array Slot, lv_has ls 4 [(0, .ref (ad 0)), (1, .int p0), (2, .int x2)] → W p l e (headSpec wsX6_liesToAll ({ frames := 2, cells := 0, slots := 0, locals := 48 } : Room)).room s m [.ref (ad 0), .int p0].toArray below meth c H locs 0 0 (MQ below (va_Qi (fun (r : Int32) (u : Gs × As × Ws) => post r u.1 u.2.1 u.2.2) (fun u t => va_P D vwCl (caW ad cy u.1 u.2.1 u.2.2) t.heap) (va_A (caW ad cy g a w) s.heap.size)) [.ref (ad 0), .int p0].toArray s 0 0 (va_A (caW ad cy g a w) s.heap.size)) (F0 m 23 ls []))) := ⟨fun (x2 : Int32) (g_ : Gs) (a_ : As) (w_ : Ws) => (∀ (H : Heap) (locs : List Loc), va_P D vwCl (caW ad cy g_ a_ w_) H → va_S (va_A (caW ad cy g a w) s.heap.size) s.heap H locs → ∀ ls : Array Slot, lv_has ls 4 [(0, .ref (ad 0)), (1, .int p0), (2, .int x2)] → W p l e (headSpec wsX6_liesToAll ({ frames := 2, cells := 0, slots := 0, locals := 48 } : Room)).room s m [.ref (ad 0), .int p0].toArray below meth c H locs 0 0 (MQ below (va_Qi (fun (r : Int32) (u : Gs × As × Ws) => post r u.1 u.2.1 u.2.2) (fun u t => va_P D vwCl (caW ad cy u.1 u.2.1 u.2.2) t.heap) (va_A (caW ad cy g a w) s.heap.size)) [.ref (ad 0), .int p0].toArray s 0 0 (va_A (caW ad cy g a w) s.heap.size)) (F0 m 23 ls [])), fun _ _ _ _ h => h, fun _ _ _ _ h => h⟩
  have hV := hV J23
  replace hV := hV (by
    intro x2 g_ a_ w_ hV
    refine iJ23 x2 g_ a_ w_ ?_
    intro H locs hP hS ls hl
    refine lv_iload_n hx hb dX6_liesToAll_23 rfl (lv_at hl 2 rfl) ?_
    refine lv_aload_n hx hb dX6_liesToAll_24 rfl (lv_at hl 0 rfl) ?_
    refine va_get (D := D) (ci := 5) (v := .ref (ad 1)) (C := RX6) (T := TX6) (N := 10) hx hb hts (by decide +kernel) hown hK hP 0 rfl rfl 0 (by decide) (hts (.fieldLink RX6 10 "PowerRests" "ofN" "LPowerRests$Factors;") (by decide +kernel)) (fun _ h9 => h9) rfl dX6_liesToAll_25 ?_
    refine va_getN (D := D) (ci := 0) (v := .int (g_ 0)) (C := RX0) (T := TX0) (N := 3) hx hb hts (by decide +kernel) hown hK hP 1 rfl rfl 2 (by decide) (hN.use 0 (q := (RX6, 115, RX0, "kinds", "I")) rfl) (fun _ h9 => h9) rfl dX6_liesToAll_28 ?_
    refine lv_icmp_ge (tgt := 80) hx hb dX6_liesToAll_31 (by decide) (fun c_31 => ?_) (fun c_31 => ?_)
    · have hV := hV.1 c_31
      refine lv_iconst (v := (1 : Int32)) hx hb dX6_liesToAll_80 (by decide) ?_
      exact W.zret (v := (1 : Int32)) hx hb hr rfl (fun t ht hW => ⟨⟨_, (g_, a_, w_), rfl, hV, ar_heap ht hP⟩, hS.F ht⟩) hS.2.2 dX6_liesToAll_81
    · have hV := hV.2 c_31
      refine lv_aload_n hx hb dX6_liesToAll_34 rfl (lv_at hl 0 rfl) ?_
      refine va_get (D := D) (ci := 5) (v := .ref (ad 1)) (C := RX6) (T := TX6) (N := 10) hx hb hts (by decide +kernel) hown hK hP 0 rfl rfl 0 (by decide) (hts (.fieldLink RX6 10 "PowerRests" "ofN" "LPowerRests$Factors;") (by decide +kernel)) (fun _ h9 => h9) rfl dX6_liesToAll_35 ?_
      refine va_getN (D := D) (ci := 0) (v := .ref (ad 2)) (C := RX0) (T := TX0) (N := 3) hx hb hts (by decide +kernel) hown hK hP 1 rfl rfl 0 (by decide) (hN.use 1 (q := (RX6, 119, RX0, "primes", "[I")) rfl) (fun _ h9 => h9) rfl dX6_liesToAll_38 ?_
      refine lv_iload_n hx hb dX6_liesToAll_41 rfl (lv_at hl 2 rfl) ?_
      obtain ⟨h_42, hV⟩ := hV
      refine va_iald (f := (a_ 0)) hx hb hK hP 2 0 rfl rfl h_42 dX6_liesToAll_42 ?_
      refine lv_iconst (v := (1 : Int32)) hx hb dX6_liesToAll_43 (by decide) ?_
      refine lv_isub hx hb dX6_liesToAll_44 ?_
      refine lv_istore_n (lv' := [(3, .int (((a_ 0) x2.toNatClampNeg) - (1 : Int32))), (0, .ref (ad 0)), (1, .int p0), (2, .int x2)]) hx hb dX6_liesToAll_45 rfl hl (by decide) rfl (fun ls hl => ?_)
      refine lv_aload_n hx hb dX6_liesToAll_46 rfl (lv_at hl 1 rfl) ?_
      refine va_get (D := D) (ci := 5) (v := .ref (ad 1)) (C := RX6) (T := TX6) (N := 10) hx hb hts (by decide +kernel) hown hK hP 0 rfl rfl 0 (by decide) (hts (.fieldLink RX6 10 "PowerRests" "ofN" "LPowerRests$Factors;") (by decide +kernel)) (fun _ h9 => h9) rfl dX6_liesToAll_47 ?_
      refine va_getN (D := D) (ci := 0) (v := .ref (ad 3)) (C := RX0) (T := TX0) (N := 3) hx hb hts (by decide +kernel) hown hK hP 1 rfl rfl 1 (by decide) (hN.use 2 (q := (RX6, 125, RX0, "times", "[I")) rfl) (fun _ h9 => h9) rfl dX6_liesToAll_50 ?_
      refine lv_iload_n hx hb dX6_liesToAll_53 rfl (lv_at hl 3 rfl) ?_
      obtain ⟨h_54, hV⟩ := hV
      refine va_iald (f := (a_ 2)) hx hb hK hP 3 0 rfl rfl h_54 dX6_liesToAll_54 ?_
      refine lv_iconst (v := (1 : Int32)) hx hb dX6_liesToAll_55 (by decide) ?_
      refine lv_icmp_gt (tgt := 72) hx hb dX6_liesToAll_56 (by decide) (fun c_56 => ?_) (fun c_56 => ?_)
      · have hV := hV.1 c_56
        refine lv_iconst (v := (0 : Int32)) hx hb dX6_liesToAll_72 (by decide) ?_
        exact W.zret (v := (0 : Int32)) hx hb hr rfl (fun t ht hW => ⟨⟨_, (g_, a_, w_), rfl, hV, ar_heap ht hP⟩, hS.F ht⟩) hS.2.2 dX6_liesToAll_73
      · have hV := hV.2 c_56
        refine lv_iload_n hx hb dX6_liesToAll_59 rfl (lv_at hl 0 rfl) ?_
        refine lv_iconst (v := (1 : Int32)) hx hb dX6_liesToAll_60 (by decide) ?_
        refine lv_icmp_lt (tgt := 72) hx hb dX6_liesToAll_61 (by decide) (fun c_61 => ?_) (fun c_61 => ?_)
        · have hV := hV.1 c_61
          refine lv_iconst (v := (0 : Int32)) hx hb dX6_liesToAll_72 (by decide) ?_
          exact W.zret (v := (0 : Int32)) hx hb hr rfl (fun t ht hW => ⟨⟨_, (g_, a_, w_), rfl, hV, ar_heap ht hP⟩, hS.F ht⟩) hS.2.2 dX6_liesToAll_73
        · have hV := hV.2 c_61
          refine lv_iload_n hx hb dX6_liesToAll_64 rfl (lv_at hl 2 rfl) ?_
          refine lv_iconst (v := (1 : Int32)) hx hb dX6_liesToAll_65 (by decide) ?_
          refine lv_isub hx hb dX6_liesToAll_66 ?_
          refine lv_iload_n hx hb dX6_liesToAll_67 rfl (lv_at hl 0 rfl) ?_
          obtain ⟨h_68, hV⟩ := hV
          refine lv_irem hx hb dX6_liesToAll_68 h_68 ?_
          refine lv_if_eq (tgt := 74) hx hb dX6_liesToAll_69 (by decide) (fun c_69 => ?_) (fun c_69 => ?_)
          · have hV := hV.1 c_69
            refine lv_iinc (v := x2 + 1) (lv' := [(2, .int (x2 + 1)), (3, .int (((a_ 0) x2.toNatClampNeg) - (1 : Int32))), (0, .ref (ad 0)), (1, .int p0)]) hx hb dX6_liesToAll_74 hl (k := 3) rfl rfl (by decide) rfl (fun ls hl => ?_)
            refine lv_goto (tgt := 23) hx hb dX6_liesToAll_77 (by decide) ?_
            exact oJ23 _ _ _ _ hV _ _ hP hS _ (lv_sub hl [2, 3, 0] rfl)
          · have hV := hV.2 c_69
            refine lv_iconst (v := (0 : Int32)) hx hb dX6_liesToAll_72 (by decide) ?_
            exact W.zret (v := (0 : Int32)) hx hb hr rfl (fun t ht hW => ⟨⟨_, (g_, a_, w_), rfl, hV, ar_heap ht hP⟩, hS.F ht⟩) hS.2.2 dX6_liesToAll_73)
  have hl := lv_entry ([.ref (ad 0), .int p0]) (n := 4) (Nat.le_of_ble_eq_true rfl)
  rw [lg_entry_eq]
  generalize (lg_sl ([.ref (ad 0), .int p0]) ++ List.replicate (4 - (lg_sl ([.ref (ad 0), .int p0])).length) Slot.unset).toArray = ls at hl ⊢
  have hl : lv_has ls 4 [(0, .ref (ad 0)), (1, .int p0)] := hl
  refine lv_aload_n hx hb dX6_liesToAll_0 rfl (lv_at hl 0 rfl) ?_
  refine va_get (D := D) (ci := 5) (v := .ref (ad 1)) (C := RX6) (T := TX6) (N := 10) hx hb hts (by decide +kernel) hown hK hP 0 rfl rfl 0 (by decide) (hts (.fieldLink RX6 10 "PowerRests" "ofN" "LPowerRests$Factors;") (by decide +kernel)) (fun _ h9 => h9) rfl dX6_liesToAll_1 ?_
  refine lv_iload_n hx hb dX6_liesToAll_4 rfl (lv_at hl 1 rfl) ?_
  obtain ⟨h_5, hV⟩ := hV
  refine cw_v (va_runV (As := [.int p0]) (rest := []) ⟨hx, hb, hml, hown, hts⟩ (spec_X0_split l 0 (by decide) D cy ad _ g a w p0 h_5) (cwV 1 hts gX6_liesToAll_X0_split rfl rfl rfl (by decide +kernel) ⟨Nat.le_of_ble_eq_true rfl, Nat.le_of_ble_eq_true rfl⟩) (ar_preV hN hK hP (caD hD) (ci := 0) (q0 := 1) rfl rfl) rfl rfl hl.1 rfl (lv_room (Nat.le_of_ble_eq_true rfl)) dX6_liesToAll_5 ⟨Nat.zero_le _, Nat.zero_le _⟩) hS (caD hD) hA (fun u_5 H locs q_5 hP hS => ?_)
  obtain ⟨g5, a5, w5⟩ := u_5
  have hV := hV g5 a5 w5 q_5
  have hP : va_P D vwCl (caW ad cy g5 a5 w5) H := hP
  refine lv_aload_n hx hb dX6_liesToAll_8 rfl (lv_at hl 0 rfl) ?_
  refine va_get (D := D) (ci := 5) (v := .ref (ad 1)) (C := RX6) (T := TX6) (N := 10) hx hb hts (by decide +kernel) hown hK hP 0 rfl rfl 0 (by decide) (hts (.fieldLink RX6 10 "PowerRests" "ofN" "LPowerRests$Factors;") (by decide +kernel)) (fun _ h9 => h9) rfl dX6_liesToAll_9 ?_
  refine va_getN (D := D) (ci := 0) (v := .int (g5 0)) (C := RX0) (T := TX0) (N := 3) hx hb hts (by decide +kernel) hown hK hP 1 rfl rfl 2 (by decide) (hN.use 0 (q := (RX6, 115, RX0, "kinds", "I")) rfl) (fun _ h9 => h9) rfl dX6_liesToAll_12 ?_
  refine lv_iconst (v := (2 : Int32)) hx hb dX6_liesToAll_15 (by decide) ?_
  refine lv_icmp_ge (tgt := 21) hx hb dX6_liesToAll_16 (by decide) (fun c_16 => ?_) (fun c_16 => ?_)
  · have hV := hV.1 c_16
    refine lv_iconst (v := (0 : Int32)) hx hb dX6_liesToAll_21 (by decide) ?_
    refine lv_istore_n (lv' := [(2, .int (0 : Int32)), (0, .ref (ad 0)), (1, .int p0)]) hx hb dX6_liesToAll_22 rfl hl (by decide) rfl (fun ls hl => ?_)
    exact oJ23 _ _ _ _ hV _ _ hP hS _ (lv_sub hl [1, 2, 0] rfl)
  · have hV := hV.2 c_16
    refine lv_iconst (v := (0 : Int32)) hx hb dX6_liesToAll_19 (by decide) ?_
    exact W.zret (v := (0 : Int32)) hx hb hr rfl (fun t ht hW => ⟨⟨_, (g5, a5, w5), rfl, hV, ar_heap ht hP⟩, hS.F ht⟩) hS.2.2 dX6_liesToAll_20
def post_X6_liesToAll (g : Gs) (a : As) (w : Ws) (p0 r : Int32) (g' : Gs) (a' : As) (w' : Ws) : Prop := r = zb (FalseP (tn p0)) ∧ FS g a w g' a' w'
set_option maxRecDepth 4000 in
theorem spec_X6_liesToAll (l : Launch) (D : va_G) (cy : Nat → ClassId) (ad : Nat → Nat) (sz : Nat) (g : Gs) (a : As) (w : Ws) (p0 : Int32) (hpre : pre_X6_liesToAll g a w p0) : Met l yX6_liesToAll wsX6_liesToAll ({ frames := 2, cells := 0, slots := 0, locals := 48 } : Room) (va_Pc [.ref (ad 0), .int p0] (ArP D cy sz (caW ad cy g a w))) (va_Qi (fun (r : Int32) (u : Gs × As × Ws) => (post_X6_liesToAll g a w p0) r u.1 u.2.1 u.2.2) (fun u t => va_P D vwCl (caW ad cy u.1 u.2.1 u.2.2) t.heap) (va_A (caW ad cy g a w) sz)) 0 0 (va_A (caW ad cy g a w) sz) := by
  apply met_X6_liesToAll
  intro J hJ
  obtain ⟨o1, o2, o3⟩ := id (show OddN p0 from hpre)
  obtain ⟨n, hn, rfl, hn2⟩ := of_i (x := p0) (by omega)
  have tnn : tn (nI n) = n := tn_nI hn
  refine ⟨⟨by omega, by omega⟩, fun g1 a1 w1 hsp => ?_⟩
  have hF : Fac 0 n g1 a1 := by have := hsp.2.1 (by rw [tnn]; omega); rwa [tnn] at this
  have hFS := split_FS (by decide) hsp
  have h7 := hF.few
  have hK := korselt hF.1 (by omega) (by omega) (by omega)
  have good : ∀ r, r = zb (FalseP n) → post_X6_liesToAll g a w (nI n) r g1 a1 w1 := fun r h => ⟨by rw [tnn]; exact h, hFS⟩
  have podd := odd_fac hF.1 (by omega)
  refine pk_le 2 (tn (g1 0)) (fun h2 => ?_) (fun h2 => good _ (zb_f (fun q => ?_)).symm) rfl hF.2.2.1
  · have key : ∀ (d k : Nat), k + d = tn (g1 0) → (∀ i, i < k → TT 0 a1 i = 1 ∧ PP 0 a1 i - 1 ∣ n - 1) → J (nI k) g1 a1 w1 := by
      intro d
      induction d with
      | zero =>
        intro k hk hi
        have : k = tn (g1 0) := by omega
        subst this
        refine hJ _ _ _ _ (pk_le (tn (g1 0)) (tn (g1 0)) (fun _ => good _ (zb_t ⟨fun hp => ?_, hK.mpr hi⟩).symm) (fun h => absurd h (by omega)) hF.2.2.1)
        have e0 := pr_eq (hF.1.2.1 0 (by omega)).1 hp (fac_dvd hF.1 (by omega))
        have e1 := pr_eq (hF.1.2.1 1 (by omega)).1 hp (fac_dvd hF.1 (by omega))
        have := hF.1.2.2 0 1 (by omega) (by omega)
        omega
      | succ d ih =>
        intro k hk hi
        obtain ⟨v1, v2, v3, v4, v5, v6, v7, v8, v9⟩ := hF.at (show k < tn (g1 0) by omega)
        have pk := podd k (by omega)
        refine hJ _ _ _ _ (pk_le (tn (g1 0)) k (fun h => absurd h (by omega)) (fun _ => ⟨v1, v1, ?_⟩) hF.2.2.1)
        rw [show (nI k).toNatClampNeg = k from v2, v3, show a1 2 k = nI (TT 0 a1 k) from v4, nI_1]
        have es : nI (PP 0 a1 k) - 1 = nI (PP 0 a1 k - 1) := pk_sub (b := 1) (by omega)
        have es2 : nI n - 1 = nI (n - 1) := pk_sub (b := 1) (by omega)
        rw [es, es2, pk_rem (by omega) (by omega) (by omega)]
        have hml := Nat.mod_lt (n - 1) (show 0 < PP 0 a1 k - 1 by omega)
        refine pk_lt 1 (TT 0 a1 k) (fun c => good _ (zb_f (fun q => ?_)).symm) (fun c => pk_lt (PP 0 a1 k - 1) 1 (fun c2 => absurd c2 (by omega)) (fun c2 => ⟨nI_nz (by omega) (by omega), pk_eq ((n - 1) % (PP 0 a1 k - 1)) 0 (fun c3 => ?_) (fun c3 => good _ (zb_f (fun q => ?_)).symm)⟩))
        · have := (hK.mp q.2 k (by omega)).1
          omega
        · refine ih (k + 1) (by omega) (fun i hi' => ?_)
          by_cases e : i = k
          · subst e
            exact ⟨by omega, Nat.dvd_of_mod_eq_zero c3⟩
          · exact hi i (by omega)
        · exact c3 (Nat.mod_eq_zero_of_dvd (hK.mp q.2 k (by omega)).2)
    exact key (tn (g1 0)) 0 (by omega) (fun i hi => by omega)
  · have hk := hK.mp q.2
    have hnp := hF.1.1
    rcases (show tn (g1 0) = 0 ∨ tn (g1 0) = 1 by omega) with e | e
    · rw [e] at hnp
      have : n = 1 := hnp
      omega
    · rw [e] at hnp hk
      have hn1 : n = 1 * PP 0 a1 0 ^ TT 0 a1 0 := hnp
      rw [(hk 0 (by omega)).1, Nat.pow_one, Nat.one_mul] at hn1
      exact q.1 (by rw [hn1]; exact (hF.1.2.1 0 (by omega)).1)
set_option maxHeartbeats 4000000 in
set_option maxRecDepth 100000 in
theorem met_X6_falseOnes (l : Launch) (D : va_G) (cy : Nat → ClassId) (ad : Nat → Nat) (sz : Nat) (g : Gs) (a : As) (w : Ws) (p0 : Int32) (p1 : Int32) (post : Int32 → Gs → As → Ws → Prop)
  (hV : ∀ (J24 : Int32 → Int32 → Gs → As → Ws → Prop),
    (∀ (x3 : Int32) (x4 : Int32) (g_ : Gs) (a_ : As) (w_ : Ws), ((p0 < x4 → ((p1 = (-1 : Int32) → post x3 g_ a_ w_) ∧ (¬ p1 = (-1 : Int32) → post (-4 : Int32) g_ a_ w_))) ∧ (¬ p0 < x4 → pre_X6_liesToAll g_ a_ w_ x4 ∧ (∀ (r33 : Int32) (g33 : Gs) (a33 : As) (w33 : Ws), post_X6_liesToAll g_ a_ w_ x4 r33 g33 a33 w33 → ((r33 = 0 → J24 x3 (x4 + 2) g33 a33 w33) ∧ (¬ r33 = 0 → ((x3 = p1 → post x4 g33 a33 w33) ∧ (¬ x3 = p1 → J24 (x3 + 1) (x4 + 2) g33 a33 w33))))))) → J24 x3 x4 g_ a_ w_) →
    ((p0 < (3 : Int32) → post (-1 : Int32) g a w) ∧ (¬ p0 < (3 : Int32) → (((5000 : Int32) < p0 → post (-1 : Int32) g a w) ∧ (¬ (5000 : Int32) < p0 → (((-1 : Int32) ≤ p1 → J24 (0 : Int32) (3 : Int32) g a w) ∧ (¬ (-1 : Int32) ≤ p1 → post (-1 : Int32) g a w))))))) :
  Met l yX6_falseOnes wsX6_falseOnes ({ frames := 3, cells := 0, slots := 0, locals := 71 } : Room) (va_Pc [.ref (ad 0), .int p0, .int p1] (ArP D cy sz (caW ad cy g a w))) (va_Qi (fun (r : Int32) (u : Gs × As × Ws) => post r u.1 u.2.1 u.2.2) (fun u t => va_P D vwCl (caW ad cy u.1 u.2.1 u.2.2) t.heap) (va_A (caW ad cy g a w) sz)) 0 0 (va_A (caW ad cy g a w) sz) := by
  refine Met.ofW (cc := cX6_falseOnes) (maxL := 5) (ret := (some .int)) (by decide) rfl ?_
  intro p e s m args below meth c s₁ B hml hv
  obtain ⟨rfl, hsz, hP, hK, hD0, hN⟩ := hv
  have hx := B.exec
  have hb := B.bytes
  have hr := B.returns
  have hts := atoms_spec (ws := wsX6_falseOnes) B.pre
  have hown : s.vm.findClass RX6 = some m.cls := findClass_of_methodNamed B.named
  have hlocks := B.notSynchronized
  subst hsz
  have hD := hD0.self (sz := s.heap.size)
  have hP : va_P D vwCl (caW ad cy g a w) s.heap := hP
  have hD : va_D (va_A (caW ad cy g a w) s.heap.size) (caW ad cy g a w) := hD
  have hS : va_S (va_A (caW ad cy g a w) s.heap.size) s.heap s.heap [] := va_S.rf
  have hA : ∀ q : Nat, s.heap.size ≤ q → va_A (caW ad cy g a w) s.heap.size q := fun q h => Or.inr h
  obtain ⟨J24, iJ24, oJ24⟩ : ∃ J : Int32 → Int32 → Gs → As → Ws → Prop, (∀ (x3 : Int32) (x4 : Int32) (g_ : Gs) (a_ : As) (w_ : Ws), (∀ (H : Heap) (locs : List Loc), va_P D vwCl (caW ad cy g_ a_ w_) H → va_S (va_A (caW ad cy g a w) s.heap.size) s.heap H locs → ∀ ls : Array Slot, lv_has ls 5 [(0, .ref (ad 0)), (1, .int p0), (2, .int p1), (3, .int x3), (4, .int x4)] → W p l e (headSpec wsX6_falseOnes ({ frames := 3, cells := 0, slots := 0, locals := 71 } : Room)).room s m [.ref (ad 0), .int p0, .int p1].toArray below meth c H locs 0 0 (MQ below (va_Qi (fun (r : Int32) (u : Gs × As × Ws) => post r u.1 u.2.1 u.2.2) (fun u t => va_P D vwCl (caW ad cy u.1 u.2.1 u.2.2) t.heap) (va_A (caW ad cy g a w) s.heap.size)) [.ref (ad 0), .int p0, .int p1].toArray s 0 0 (va_A (caW ad cy g a w) s.heap.size)) (F0 m 24 ls [])) → J x3 x4 g_ a_ w_) ∧ (∀ (x3 : Int32) (x4 : Int32) (g_ : Gs) (a_ : As) (w_ : Ws), J x3 x4 g_ a_ w_ → (∀ (H : Heap) (locs : List Loc), va_P D vwCl (caW ad cy g_ a_ w_) H → va_S (va_A (caW ad cy g a w) s.heap.size) s.heap H locs → ∀ ls : Array Slot, lv_has ls 5 [(0, .ref (ad 0)), (1, .int p0), (2, .int p1), (3, .int x3), (4, .int x4)] → W p l e (headSpec wsX6_falseOnes ({ frames := 3, cells := 0, slots := 0, locals := 71 } : Room)).room s m [.ref (ad 0), .int p0, .int p1].toArray below meth c H locs 0 0 (MQ below (va_Qi (fun (r : Int32) (u : Gs × As × Ws) => post r u.1 u.2.1 u.2.2) (fun u t => va_P D vwCl (caW ad cy u.1 u.2.1 u.2.2) t.heap) (va_A (caW ad cy g a w) s.heap.size)) [.ref (ad 0), .int p0, .int p1].toArray s 0 0 (va_A (caW ad cy g a w) s.heap.size)) (F0 m 24 ls []))) := ⟨fun (x3 : Int32) (x4 : Int32) (g_ : Gs) (a_ : As) (w_ : Ws) => (∀ (H : Heap) (locs : List Loc), va_P D vwCl (caW ad cy g_ a_ w_) H → va_S (va_A (caW ad cy g a w) s.heap.size) s.heap H locs → ∀ ls : Array Slot, lv_has ls 5 [(0, .ref (ad 0)), (1, .int p0), (2, .int p1), (3, .int x3), (4, .int x4)] → W p l e (headSpec wsX6_falseOnes ({ frames := 3, cells := 0, slots := 0, locals := 71 } : Room)).room s m [.ref (ad 0), .int p0, .int p1].toArray below meth c H locs 0 0 (MQ below (va_Qi (fun (r : Int32) (u : Gs × As × Ws) => post r u.1 u.2.1 u.2.2) (fun u t => va_P D vwCl (caW ad cy u.1 u.2.1 u.2.2) t.heap) (va_A (caW ad cy g a w) s.heap.size)) [.ref (ad 0), .int p0, .int p1].toArray s 0 0 (va_A (caW ad cy g a w) s.heap.size)) (F0 m 24 ls [])), fun _ _ _ _ _ h => h, fun _ _ _ _ _ h => h⟩
  have hV := hV J24
  replace hV := hV (by
    intro x3 x4 g_ a_ w_ hV
    refine iJ24 x3 x4 g_ a_ w_ ?_
    intro H locs hP hS ls hl
    refine lv_iload hx hb dX6_falseOnes_24 (lv_at hl 4 rfl) ?_
    refine lv_iload_n hx hb dX6_falseOnes_26 rfl (lv_at hl 1 rfl) ?_
    refine lv_icmp_gt (tgt := 56) hx hb dX6_falseOnes_27 (by decide) (fun c_27 => ?_) (fun c_27 => ?_)
    · have hV := hV.1 c_27
      refine lv_iload_n hx hb dX6_falseOnes_56 rfl (lv_at hl 2 rfl) ?_
      refine lv_iconst (v := (-1 : Int32)) hx hb dX6_falseOnes_57 (by decide) ?_
      refine lv_icmp_ne (tgt := 65) hx hb dX6_falseOnes_58 (by decide) (fun c_58 => ?_) (fun c_58 => ?_)
      · have hV := hV.2 c_58
        refine lv_bipush (v := (-4 : Int32)) hx hb dX6_falseOnes_65 (by decide) ?_
        exact W.iret (v := (-4 : Int32)) hx hb hr (fun t ht hW => ⟨⟨_, (g_, a_, w_), rfl, hV, ar_heap ht hP⟩, hS.F ht⟩) hS.2.2 dX6_falseOnes_67
      · have hV := hV.1 c_58
        refine lv_iload_n hx hb dX6_falseOnes_61 rfl (lv_at hl 3 rfl) ?_
        refine lv_goto (tgt := 67) hx hb dX6_falseOnes_62 (by decide) ?_
        exact W.iret (v := x3) hx hb hr (fun t ht hW => ⟨⟨_, (g_, a_, w_), rfl, hV, ar_heap ht hP⟩, hS.F ht⟩) hS.2.2 dX6_falseOnes_67
    · have hV := hV.2 c_27
      refine lv_aload_n hx hb dX6_falseOnes_30 rfl (lv_at hl 0 rfl) ?_
      refine lv_iload hx hb dX6_falseOnes_31 (lv_at hl 4 rfl) ?_
      obtain ⟨h_33, hV⟩ := hV
      refine cw_i (va_runV (As := [.int x4]) (rest := []) ⟨hx, hb, hml, hown, hts⟩ (spec_X6_liesToAll l D cy ad _ g_ a_ w_ x4 h_33) (cwV 1 hts gX6_falseOnes_X6_liesToAll rfl rfl rfl (by decide +kernel) ⟨Nat.le_of_ble_eq_true rfl, Nat.le_of_ble_eq_true rfl⟩) (ar_preV hN hK hP (caD hD) (ci := 5) (q0 := 0) rfl rfl) rfl rfl hl.1 rfl (lv_room (Nat.le_of_ble_eq_true rfl)) dX6_falseOnes_33 ⟨Nat.zero_le _, Nat.zero_le _⟩) hS (caD hD) hA (fun r33 u_33 H locs q_33 hP hS => ?_)
      obtain ⟨g33, a33, w33⟩ := u_33
      have hV := hV r33 g33 a33 w33 q_33
      have hP : va_P D vwCl (caW ad cy g33 a33 w33) H := hP
      refine lv_if_eq (tgt := 50) hx hb dX6_falseOnes_36 (by decide) (fun c_36 => ?_) (fun c_36 => ?_)
      · have hV := hV.1 c_36
        refine lv_iinc (v := x4 + 2) (lv' := [(4, .int (x4 + 2)), (0, .ref (ad 0)), (1, .int p0), (2, .int p1), (3, .int x3)]) hx hb dX6_falseOnes_50 hl (k := 4) rfl rfl (by decide) rfl (fun ls hl => ?_)
        refine lv_goto (tgt := 24) hx hb dX6_falseOnes_53 (by decide) ?_
        exact oJ24 _ _ _ _ _ hV _ _ hP hS _ (lv_sub hl [1, 2, 3, 4, 0] rfl)
      · have hV := hV.2 c_36
        refine lv_iload_n hx hb dX6_falseOnes_39 rfl (lv_at hl 3 rfl) ?_
        refine lv_iload_n hx hb dX6_falseOnes_40 rfl (lv_at hl 2 rfl) ?_
        refine lv_icmp_ne (tgt := 47) hx hb dX6_falseOnes_41 (by decide) (fun c_41 => ?_) (fun c_41 => ?_)
        · have hV := hV.2 c_41
          refine lv_iinc (v := x3 + 1) (lv' := [(3, .int (x3 + 1)), (0, .ref (ad 0)), (1, .int p0), (2, .int p1), (4, .int x4)]) hx hb dX6_falseOnes_47 hl (k := 3) rfl rfl (by decide) rfl (fun ls hl => ?_)
          refine lv_iinc (v := x4 + 2) (lv' := [(4, .int (x4 + 2)), (3, .int (x3 + 1)), (0, .ref (ad 0)), (1, .int p0), (2, .int p1)]) hx hb dX6_falseOnes_50 hl (k := 4) rfl rfl (by decide) rfl (fun ls hl => ?_)
          refine lv_goto (tgt := 24) hx hb dX6_falseOnes_53 (by decide) ?_
          exact oJ24 _ _ _ _ _ hV _ _ hP hS _ (lv_sub hl [2, 3, 4, 1, 0] rfl)
        · have hV := hV.1 c_41
          refine lv_iload hx hb dX6_falseOnes_44 (lv_at hl 4 rfl) ?_
          exact W.iret (v := x4) hx hb hr (fun t ht hW => ⟨⟨_, (g33, a33, w33), rfl, hV, ar_heap ht hP⟩, hS.F ht⟩) hS.2.2 dX6_falseOnes_46)
  have hl := lv_entry ([.ref (ad 0), .int p0, .int p1]) (n := 5) (Nat.le_of_ble_eq_true rfl)
  rw [lg_entry_eq]
  generalize (lg_sl ([.ref (ad 0), .int p0, .int p1]) ++ List.replicate (5 - (lg_sl ([.ref (ad 0), .int p0, .int p1])).length) Slot.unset).toArray = ls at hl ⊢
  have hl : lv_has ls 5 [(0, .ref (ad 0)), (1, .int p0), (2, .int p1)] := hl
  refine lv_iload_n hx hb dX6_falseOnes_0 rfl (lv_at hl 1 rfl) ?_
  refine lv_iconst (v := (3 : Int32)) hx hb dX6_falseOnes_1 (by decide) ?_
  refine lv_icmp_lt (tgt := 17) hx hb dX6_falseOnes_2 (by decide) (fun c_2 => ?_) (fun c_2 => ?_)
  · have hV := hV.1 c_2
    refine lv_iconst (v := (-1 : Int32)) hx hb dX6_falseOnes_17 (by decide) ?_
    exact W.iret (v := (-1 : Int32)) hx hb hr (fun t ht hW => ⟨⟨_, (g, a, w), rfl, hV, ar_heap ht hP⟩, hS.F ht⟩) hS.2.2 dX6_falseOnes_18
  · have hV := hV.2 c_2
    refine lv_iload_n hx hb dX6_falseOnes_5 rfl (lv_at hl 1 rfl) ?_
    refine lv_sipush (v := (5000 : Int32)) hx hb dX6_falseOnes_6 (by decide) ?_
    refine lv_icmp_gt (tgt := 17) hx hb dX6_falseOnes_9 (by decide) (fun c_9 => ?_) (fun c_9 => ?_)
    · have hV := hV.1 c_9
      refine lv_iconst (v := (-1 : Int32)) hx hb dX6_falseOnes_17 (by decide) ?_
      exact W.iret (v := (-1 : Int32)) hx hb hr (fun t ht hW => ⟨⟨_, (g, a, w), rfl, hV, ar_heap ht hP⟩, hS.F ht⟩) hS.2.2 dX6_falseOnes_18
    · have hV := hV.2 c_9
      refine lv_iload_n hx hb dX6_falseOnes_12 rfl (lv_at hl 2 rfl) ?_
      refine lv_iconst (v := (-1 : Int32)) hx hb dX6_falseOnes_13 (by decide) ?_
      refine lv_icmp_ge (tgt := 19) hx hb dX6_falseOnes_14 (by decide) (fun c_14 => ?_) (fun c_14 => ?_)
      · have hV := hV.1 c_14
        refine lv_iconst (v := (0 : Int32)) hx hb dX6_falseOnes_19 (by decide) ?_
        refine lv_istore_n (lv' := [(3, .int (0 : Int32)), (0, .ref (ad 0)), (1, .int p0), (2, .int p1)]) hx hb dX6_falseOnes_20 rfl hl (by decide) rfl (fun ls hl => ?_)
        refine lv_iconst (v := (3 : Int32)) hx hb dX6_falseOnes_21 (by decide) ?_
        refine lv_istore (lv' := [(4, .int (3 : Int32)), (3, .int (0 : Int32)), (0, .ref (ad 0)), (1, .int p0), (2, .int p1)]) hx hb dX6_falseOnes_22 hl (by decide) rfl (fun ls hl => ?_)
        exact oJ24 _ _ _ _ _ hV _ _ hP hS _ (lv_sub hl [2, 3, 4, 1, 0] rfl)
      · have hV := hV.2 c_14
        refine lv_iconst (v := (-1 : Int32)) hx hb dX6_falseOnes_17 (by decide) ?_
        exact W.iret (v := (-1 : Int32)) hx hb hr (fun t ht hW => ⟨⟨_, (g, a, w), rfl, hV, ar_heap ht hP⟩, hS.F ht⟩) hS.2.2 dX6_falseOnes_18
def post_X6_falseOnes (g : Gs) (a : As) (w : Ws) (p0 p1 r : Int32) (g' : Gs) (a' : As) (w' : Ws) : Prop := FalseAns p0 p1 r ∧ FS g a w g' a' w'
theorem nI_2 (a : Nat) : nI a + 2 = nI (a + 2) := nI_add a 2
theorem falB_of {k : Nat} (h1 : k % 2 = 1) (h3 : 3 ≤ k) {c : Prop} (h : c ↔ FalseP k) : FalB k = cb c := cb_iff ⟨fun q => h.mpr q.2.2, fun q => ⟨h1, h3, h.mp q⟩⟩
set_option maxRecDepth 4000 in
theorem spec_X6_falseOnes (l : Launch) (D : va_G) (cy : Nat → ClassId) (ad : Nat → Nat) (sz : Nat) (g : Gs) (a : As) (w : Ws) (p0 : Int32) (p1 : Int32) : Met l yX6_falseOnes wsX6_falseOnes ({ frames := 3, cells := 0, slots := 0, locals := 71 } : Room) (va_Pc [.ref (ad 0), .int p0, .int p1] (ArP D cy sz (caW ad cy g a w))) (va_Qi (fun (r : Int32) (u : Gs × As × Ws) => (post_X6_falseOnes g a w p0 p1) r u.1 u.2.1 u.2.2) (fun u t => va_P D vwCl (caW ad cy u.1 u.2.1 u.2.2) t.heap) (va_A (caW ad cy g a w) sz)) 0 0 (va_A (caW ad cy g a w) sz) := by
  apply met_X6_falseOnes
  intro J hJ
  have e3 : (3 : Int32).toInt = 3 := rfl
  have e5 : (5000 : Int32).toInt = 5000 := rfl
  have hm1 : (-1 : Int32).toInt = -1 := rfl
  refine ⟨fun h => ⟨Or.inl ⟨Or.inl (by rw [i_lt, e3] at h; exact h), rfl⟩, FS.rf⟩, fun h => ⟨fun h2 => ⟨Or.inl ⟨Or.inr (Or.inl (by rw [i_lt, e5] at h2; exact h2)), rfl⟩, FS.rf⟩, fun h2 => ⟨fun h3 => ?_, fun h3 => ⟨Or.inl ⟨Or.inr (Or.inr (by rw [i_le, hm1] at h3; omega)), rfl⟩, FS.rf⟩⟩⟩⟩
  rw [i_lt, e3] at h
  rw [i_lt, e5] at h2
  rw [i_le, hm1] at h3
  obtain ⟨m, hm, rfl, hm2⟩ := of_i (x := p0) (by omega)
  have tnm : tn (nI m) = m := tn_nI hm
  refine ith_odd (J := fun f k => ∀ g' a' w', FS g a w g' a' w' → J f k g' a' w') (post := fun r => ∀ g' a' w', FS g a w g' a' w' → post_X6_falseOnes g a w (nI m) p1 r g' a' w') (p := FalB) (N := m + 1) (lo := 3) (i := p1) (by omega) (by omega) rfl h3 (fb_ct_zero.mpr (fun k hk => cb_f (fun q => by have := q.2.1; omega))) (fun k hk => cb_f (fun q => by have := q.1; omega)) (fun r hr g' a' w' hf => ⟨Or.inr ⟨⟨by omega, by omega, h3⟩, by rw [tnm]; exact hr⟩, hf⟩) (fun f k hk hk2 c1 c2 g' a' w' hf => ?_) (fun f k hfk hlk hkN hko c1 c2 c3 g' a' w' hf => ?_) g a w FS.rf
  · exact hJ _ _ _ _ _ (pk_lt m k (fun _ => ⟨fun q => c1 q g' a' w' hf, fun q => c2 q g' a' w' hf⟩) (fun h => absurd h (by omega)))
  · refine hJ _ _ _ _ _ (pk_lt m k (fun h => absurd h (by omega)) (fun _ => ⟨⟨by rw [nI_toInt (by omega)]; omega, by rw [nI_toInt (by omega)]; omega, by rw [nI_toInt (by omega)]; omega⟩, fun r g2 a2 w2 hr => ?_⟩))
    obtain ⟨rfl, hf2⟩ := hr
    have hf3 := hf.tr hf2
    rw [tn_nI (by omega), nI_1, nI_2]
    have eb := falB_of hko hlk (c := FalseP k) Iff.rfl
    exact ⟨fun q => c1 (by rw [eb]; exact cb_f (zb_0 q)) _ _ _ hf3, fun q => ⟨fun q2 => c2 (by rw [eb]; exact cb_t (zb_1 q)) q2 _ _ _ hf3, fun q2 => c3 (by rw [eb]; exact cb_t (zb_1 q)) q2 _ _ _ hf3⟩⟩
def pre_X7_isFalse (p0 : Int32) : Prop := 3 ≤ p0.toInt ∧ p0.toInt ≤ 50001
set_option maxHeartbeats 4000000 in
set_option maxRecDepth 100000 in
theorem met_X7_isFalse (l : Launch) (p0 : Int32) (post : Int32 → Prop)
  (hV : ∀ (J13 : Int32 → Int32 → Prop),
    (∀ (x1 : Int32) (x2 : Int32), ((p0 ≤ x2 → (x1 = 0 ∨ x1 = 1) ∧ post x1) ∧ (¬ p0 ≤ x2 → ((x1 = 0 → (x1 = 0 ∨ x1 = 1) ∧ post x1) ∧ (¬ x1 = 0 → pre_X7_isUnit p0 x2 ∧ (∀ r24 : Int32, post_X7_isUnit p0 x2 r24 → ((r24 = 0 → J13 (1 : Int32) (x2 + 1)) ∧ (¬ r24 = 0 → pre_X7_looksSo p0 x2 ∧ (∀ r32 : Int32, post_X7_looksSo p0 x2 r32 → ((r32 = 0 → J13 (0 : Int32) (x2 + 1)) ∧ (¬ r32 = 0 → J13 (1 : Int32) (x2 + 1))))))))))) → J13 x1 x2) →
    pre_X7_isPrime p0 ∧ (∀ r1 : Int32, post_X7_isPrime p0 r1 → ((r1 = 0 → J13 (1 : Int32) (1 : Int32)) ∧ (¬ r1 = 0 → post (0 : Int32))))) :
  Met l yX7_isFalse wsX7_isFalse ({ frames := 2, cells := 0, slots := 0, locals := 50 } : Room) (va_Pc [.int p0] (fun _ => True)) (Qpi post) 0 0 noF := by
  refine Met.ofW (cc := cX7_isFalse) (maxL := 3) (ret := (some .boolean)) (by decide) rfl ?_
  intro p e s m args below meth c s₁ B hml hv
  obtain ⟨rfl, -⟩ := hv
  have hx := B.exec
  have hb := B.bytes
  have hr := B.returns
  have hts := atoms_spec (ws := wsX7_isFalse) B.pre
  have hown : s.vm.findClass RX7 = some m.cls := findClass_of_methodNamed B.named
  have hlocks := B.notSynchronized
  obtain ⟨J13, iJ13, oJ13⟩ : ∃ J : Int32 → Int32 → Prop, (∀ (x1 : Int32) (x2 : Int32), (∀ ls : Array Slot, lv_has ls 3 [(0, .int p0), (1, .int x1), (2, .int x2)] → W p l e (headSpec wsX7_isFalse ({ frames := 2, cells := 0, slots := 0, locals := 50 } : Room)).room s m [.int p0].toArray below meth c s.heap [] 0 0 (MQ below (Qpi post) [.int p0].toArray s 0 0 noF) (F0 m 13 ls [])) → J x1 x2) ∧ (∀ (x1 : Int32) (x2 : Int32), J x1 x2 → (∀ ls : Array Slot, lv_has ls 3 [(0, .int p0), (1, .int x1), (2, .int x2)] → W p l e (headSpec wsX7_isFalse ({ frames := 2, cells := 0, slots := 0, locals := 50 } : Room)).room s m [.int p0].toArray below meth c s.heap [] 0 0 (MQ below (Qpi post) [.int p0].toArray s 0 0 noF) (F0 m 13 ls []))) := ⟨fun (x1 : Int32) (x2 : Int32) => (∀ ls : Array Slot, lv_has ls 3 [(0, .int p0), (1, .int x1), (2, .int x2)] → W p l e (headSpec wsX7_isFalse ({ frames := 2, cells := 0, slots := 0, locals := 50 } : Room)).room s m [.int p0].toArray below meth c s.heap [] 0 0 (MQ below (Qpi post) [.int p0].toArray s 0 0 noF) (F0 m 13 ls [])), fun _ _ h => h, fun _ _ h => h⟩
  have hV := hV J13
  replace hV := hV (by
    intro x1 x2 hV
    refine iJ13 x1 x2 ?_
    intro ls hl
    refine lv_iload_n hx hb dX7_isFalse_13 rfl (lv_at hl 2 rfl) ?_
    refine lv_iload_n hx hb dX7_isFalse_14 rfl (lv_at hl 0 rfl) ?_
    refine lv_icmp_ge (tgt := 50) hx hb dX7_isFalse_15 (by decide) (fun c_15 => ?_) (fun c_15 => ?_)
    · have hV := hV.1 c_15
      refine lv_iload_n hx hb dX7_isFalse_50 rfl (lv_at hl 1 rfl) ?_
      obtain ⟨h_51, hV⟩ := hV
      exact W.zret (v := x1) hx hb hr (zr_nar h_51) (fun t ht hW => ⟨_, rfl, hV, ht⟩) (fun _ h => by cases h) dX7_isFalse_51
    · have hV := hV.2 c_15
      refine lv_iload_n hx hb dX7_isFalse_18 rfl (lv_at hl 1 rfl) ?_
      refine lv_if_eq (tgt := 50) hx hb dX7_isFalse_19 (by decide) (fun c_19 => ?_) (fun c_19 => ?_)
      · have hV := hV.1 c_19
        refine lv_iload_n hx hb dX7_isFalse_50 rfl (lv_at hl 1 rfl) ?_
        obtain ⟨h_51, hV⟩ := hV
        exact W.zret (v := x1) hx hb hr (zr_nar h_51) (fun t ht hW => ⟨_, rfl, hV, ht⟩) (fun _ h => by cases h) dX7_isFalse_51
      · have hV := hV.2 c_19
        refine lv_iload_n hx hb dX7_isFalse_22 rfl (lv_at hl 0 rfl) ?_
        refine lv_iload_n hx hb dX7_isFalse_23 rfl (lv_at hl 2 rfl) ?_
        obtain ⟨h_24, hV⟩ := hV
        refine cp_i (va_runS (As := [.int p0, .int x2]) (rest := []) ⟨hx, hb, hml, hown, hts⟩ (spec_X7_isUnit l p0 x2 h_24) (va_cwS 2 hts gX7_isFalse_X7_isUnit rfl rfl rfl (by decide +kernel) ⟨Nat.le_of_ble_eq_true rfl, Nat.le_of_ble_eq_true rfl⟩) cp_pre rfl rfl hl.1 rfl (lv_room (Nat.le_of_ble_eq_true rfl)) dX7_isFalse_24 ⟨Nat.zero_le _, Nat.zero_le _⟩) (fun r24 q_24 => ?_)
        have hV := hV r24 q_24
        refine lv_if_eq (tgt := 38) hx hb dX7_isFalse_27 (by decide) (fun c_27 => ?_) (fun c_27 => ?_)
        · have hV := hV.1 c_27
          refine lv_iconst (v := (1 : Int32)) hx hb dX7_isFalse_38 (by decide) ?_
          refine lv_goto (tgt := 43) hx hb dX7_isFalse_39 (by decide) ?_
          refine lv_istore_n (lv' := [(1, .int (1 : Int32)), (0, .int p0), (2, .int x2)]) hx hb dX7_isFalse_43 rfl hl (by decide) rfl (fun ls hl => ?_)
          refine lv_iinc (v := x2 + 1) (lv' := [(2, .int (x2 + 1)), (1, .int (1 : Int32)), (0, .int p0)]) hx hb dX7_isFalse_44 hl (k := 2) rfl rfl (by decide) rfl (fun ls hl => ?_)
          refine lv_goto (tgt := 13) hx hb dX7_isFalse_47 (by decide) ?_
          exact oJ13 _ _ hV _ (lv_sub hl [2, 1, 0] rfl)
        · have hV := hV.2 c_27
          refine lv_iload_n hx hb dX7_isFalse_30 rfl (lv_at hl 0 rfl) ?_
          refine lv_iload_n hx hb dX7_isFalse_31 rfl (lv_at hl 2 rfl) ?_
          obtain ⟨h_32, hV⟩ := hV
          refine cp_i (va_runS (As := [.int p0, .int x2]) (rest := []) ⟨hx, hb, hml, hown, hts⟩ (spec_X7_looksSo l p0 x2 h_32) (va_cwS 2 hts gX7_isFalse_X7_looksSo rfl rfl rfl (by decide +kernel) ⟨Nat.le_of_ble_eq_true rfl, Nat.le_of_ble_eq_true rfl⟩) cp_pre rfl rfl hl.1 rfl (lv_room (Nat.le_of_ble_eq_true rfl)) dX7_isFalse_32 ⟨Nat.zero_le _, Nat.zero_le _⟩) (fun r32 q_32 => ?_)
          have hV := hV r32 q_32
          refine lv_if_eq (tgt := 42) hx hb dX7_isFalse_35 (by decide) (fun c_35 => ?_) (fun c_35 => ?_)
          · have hV := hV.1 c_35
            refine lv_iconst (v := (0 : Int32)) hx hb dX7_isFalse_42 (by decide) ?_
            refine lv_istore_n (lv' := [(1, .int (0 : Int32)), (0, .int p0), (2, .int x2)]) hx hb dX7_isFalse_43 rfl hl (by decide) rfl (fun ls hl => ?_)
            refine lv_iinc (v := x2 + 1) (lv' := [(2, .int (x2 + 1)), (1, .int (0 : Int32)), (0, .int p0)]) hx hb dX7_isFalse_44 hl (k := 2) rfl rfl (by decide) rfl (fun ls hl => ?_)
            refine lv_goto (tgt := 13) hx hb dX7_isFalse_47 (by decide) ?_
            exact oJ13 _ _ hV _ (lv_sub hl [2, 1, 0] rfl)
          · have hV := hV.2 c_35
            refine lv_iconst (v := (1 : Int32)) hx hb dX7_isFalse_38 (by decide) ?_
            refine lv_goto (tgt := 43) hx hb dX7_isFalse_39 (by decide) ?_
            refine lv_istore_n (lv' := [(1, .int (1 : Int32)), (0, .int p0), (2, .int x2)]) hx hb dX7_isFalse_43 rfl hl (by decide) rfl (fun ls hl => ?_)
            refine lv_iinc (v := x2 + 1) (lv' := [(2, .int (x2 + 1)), (1, .int (1 : Int32)), (0, .int p0)]) hx hb dX7_isFalse_44 hl (k := 2) rfl rfl (by decide) rfl (fun ls hl => ?_)
            refine lv_goto (tgt := 13) hx hb dX7_isFalse_47 (by decide) ?_
            exact oJ13 _ _ hV _ (lv_sub hl [2, 1, 0] rfl))
  have hl := lv_entry ([.int p0]) (n := 3) (Nat.le_of_ble_eq_true rfl)
  rw [lg_entry_eq]
  generalize (lg_sl ([.int p0]) ++ List.replicate (3 - (lg_sl ([.int p0])).length) Slot.unset).toArray = ls at hl ⊢
  have hl : lv_has ls 3 [(0, .int p0)] := hl
  refine lv_iload_n hx hb dX7_isFalse_0 rfl (lv_at hl 0 rfl) ?_
  obtain ⟨h_1, hV⟩ := hV
  refine cp_i (va_runS (As := [.int p0]) (rest := []) ⟨hx, hb, hml, hown, hts⟩ (spec_X7_isPrime l p0 h_1) (va_cwS 1 hts gX7_isFalse_X7_isPrime rfl rfl rfl (by decide +kernel) ⟨Nat.le_of_ble_eq_true rfl, Nat.le_of_ble_eq_true rfl⟩) cp_pre rfl rfl hl.1 rfl (lv_room (Nat.le_of_ble_eq_true rfl)) dX7_isFalse_1 ⟨Nat.zero_le _, Nat.zero_le _⟩) (fun r1 q_1 => ?_)
  have hV := hV r1 q_1
  refine lv_if_eq (tgt := 9) hx hb dX7_isFalse_4 (by decide) (fun c_4 => ?_) (fun c_4 => ?_)
  · have hV := hV.1 c_4
    refine lv_iconst (v := (1 : Int32)) hx hb dX7_isFalse_9 (by decide) ?_
    refine lv_istore_n (lv' := [(1, .int (1 : Int32)), (0, .int p0)]) hx hb dX7_isFalse_10 rfl hl (by decide) rfl (fun ls hl => ?_)
    refine lv_iconst (v := (1 : Int32)) hx hb dX7_isFalse_11 (by decide) ?_
    refine lv_istore_n (lv' := [(2, .int (1 : Int32)), (1, .int (1 : Int32)), (0, .int p0)]) hx hb dX7_isFalse_12 rfl hl (by decide) rfl (fun ls hl => ?_)
    exact oJ13 _ _ hV _ (lv_sub hl [2, 1, 0] rfl)
  · have hV := hV.2 c_4
    refine lv_iconst (v := (0 : Int32)) hx hb dX7_isFalse_7 (by decide) ?_
    exact W.zret (v := (0 : Int32)) hx hb hr rfl (fun t ht hW => ⟨_, rfl, hV, ht⟩) (fun _ h => by cases h) dX7_isFalse_8
def post_X7_isFalse (p0 r : Int32) : Prop := r = zb (FalseP (tn p0))
set_option maxRecDepth 4000 in
theorem spec_X7_isFalse (l : Launch) (p0 : Int32) (hpre : pre_X7_isFalse p0) : Met l yX7_isFalse wsX7_isFalse ({ frames := 2, cells := 0, slots := 0, locals := 50 } : Room) (va_Pc [.int p0] (fun _ => True)) (Qpi (post_X7_isFalse p0)) 0 0 noF := by
  apply met_X7_isFalse
  intro J hJ
  obtain ⟨o1, o2⟩ := hpre
  obtain ⟨n, hn, rfl, hn2⟩ := of_i (x := p0) (by omega)
  have tnn : tn (nI n) = n := tn_nI hn
  have good : ∀ r, r = zb (FalseP n) → post_X7_isFalse (nI n) r := fun r h => by unfold post_X7_isFalse; rw [tnn]; exact h
  refine ⟨show (nI n).toInt < 1000000 by omega, fun r hr => ?_⟩
  unfold post_X4_isPrime post_X7_isPrime at *
  rw [tnn] at hr
  subst hr
  refine ⟨fun h => ?_, fun h => good _ (zb_f (fun q => q.1 (zb_1 h))).symm⟩
  have hnp := zb_0 h
  have key : ∀ (d k : Nat), k + d = n → 1 ≤ k → J (zb (∀ y, 1 ≤ y → y < k → Nat.Coprime n y → y ^ (n - 1) % n = 1)) (nI k) := by
    intro d
    induction d with
    | zero =>
      intro k hk hk1
      have : k = n := by omega
      subst this
      have g1 := good (zb (∀ y, 1 ≤ y → y < k → Nat.Coprime k y → y ^ (k - 1) % k = 1)) (zb_c ⟨fun q => ⟨hnp, q⟩, fun q => q.2⟩)
      exact hJ _ _ (pk_le k k (fun _ => ⟨zb_01 _, g1⟩) (fun h => absurd h (by omega)))
    | succ d ih =>
      intro k hk hk1
      have nx := ih (k + 1) (by omega) (by omega)
      refine hJ _ _ (pk_le n k (fun h => absurd h (by omega)) (fun _ => ⟨fun q => ⟨zb_01 _, good _ ?_⟩, fun q => ?_⟩))
      · rw [q]
        exact (zb_f (fun z => zb_0 q (fun y y1 y2 => z.2 y y1 (by omega)))).symm
      have q := zb_1 q
      have yes : (Nat.Coprime n k → k ^ (n - 1) % n = 1) → J 1 (nI k + 1) := fun z => by
        rw [zb_t (fun y y1 y2 y3 => by
          by_cases e : y = k
          · subst e; exact z y3
          · exact q y y1 (by omega) y3)] at nx
        rw [nI_1]
        exact nx
      refine ⟨⟨by omega, by rw [nI_toInt (by omega)]; omega⟩, fun r hr => ?_⟩
      unfold post_X7_isUnit at hr
      rw [tnn, tn_nI (by omega)] at hr
      subst hr
      refine ⟨fun c => yes (fun z => absurd z (zb_0 c)), fun c => ⟨⟨o1, by rw [nI_toInt (by omega)]; omega⟩, fun r2 hr2 => ?_⟩⟩
      unfold post_X7_looksSo at hr2
      rw [tnn, tn_nI (by omega)] at hr2
      subst hr2
      refine ⟨fun c2 => ?_, fun c2 => yes (fun _ => zb_1 c2)⟩
      rw [zb_f (fun z => zb_0 c2 (z k hk1 (by omega) (zb_1 c)))] at nx
      rw [nI_1]
      exact nx
  have st := key (n - 1) 1 (by omega) (by omega)
  rw [zb_t (fun y y1 y2 => by omega)] at st
  exact st
set_option maxHeartbeats 4000000 in
set_option maxRecDepth 100000 in
theorem met_X7_falseOnes (l : Launch) (D : va_G) (cy : Nat → ClassId) (ad : Nat → Nat) (sz : Nat) (g : Gs) (a : As) (p0 : Int32) (p1 : Int32) (post : Int32 → Prop)
  (hV : ∀ (J26 : Int32 → Int32 → Prop),
    (∀ (x3 : Int32) (x4 : Int32), ((p0 < x4 → ((0 ≤ p1 → post (-4 : Int32)) ∧ (¬ 0 ≤ p1 → post x3))) ∧ (¬ p0 < x4 → pre_X7_isFalse x4 ∧ (∀ r34 : Int32, post_X7_isFalse x4 r34 → ((r34 = 0 → J26 x3 (x4 + 2)) ∧ (¬ r34 = 0 → ((x3 = p1 → post x4) ∧ (¬ x3 = p1 → J26 (x3 + 1) (x4 + 2)))))))) → J26 x3 x4) →
    ∀ r8 : Int32, post_X7_in p0.toInt64 (3 : Int64) (5000 : Int64) r8 → ((r8 = 0 → post (-1 : Int32)) ∧ (¬ r8 = 0 → (((-1 : Int32) ≤ p1 → J26 (0 : Int32) (3 : Int32)) ∧ (¬ (-1 : Int32) ≤ p1 → post (-1 : Int32)))))) :
  Met l yX7_falseOnes wsX7_falseOnes ({ frames := 3, cells := 0, slots := 0, locals := 72 } : Room) (va_Pc [.ref (ad 0), .int p0, .int p1] (ArP D cy sz (maW ad cy g a))) (Qpi post) 0 0 noF := by
  refine Met.ofW (cc := cX7_falseOnes) (maxL := 5) (ret := (some .int)) (by decide) rfl ?_
  intro p e s m args below meth c s₁ B hml hv
  obtain ⟨rfl, hsz, hP, hK, hD0, hN⟩ := hv
  have hx := B.exec
  have hb := B.bytes
  have hr := B.returns
  have hts := atoms_spec (ws := wsX7_falseOnes) B.pre
  have hown : s.vm.findClass RX7 = some m.cls := findClass_of_methodNamed B.named
  have hlocks := B.notSynchronized
  subst hsz
  have hP : va_P D vwCl (maW ad cy g a) s.heap := hP
  have hD : va_D (fun _ => True) (maW ad cy g a) := hD0
  obtain ⟨J26, iJ26, oJ26⟩ : ∃ J : Int32 → Int32 → Prop, (∀ (x3 : Int32) (x4 : Int32), (∀ ls : Array Slot, lv_has ls 5 [(1, .int p0), (2, .int p1), (3, .int x3), (4, .int x4)] → W p l e (headSpec wsX7_falseOnes ({ frames := 3, cells := 0, slots := 0, locals := 72 } : Room)).room s m [.ref (ad 0), .int p0, .int p1].toArray below meth c s.heap [] 0 0 (MQ below (Qpi post) [.ref (ad 0), .int p0, .int p1].toArray s 0 0 noF) (F0 m 26 ls [])) → J x3 x4) ∧ (∀ (x3 : Int32) (x4 : Int32), J x3 x4 → (∀ ls : Array Slot, lv_has ls 5 [(1, .int p0), (2, .int p1), (3, .int x3), (4, .int x4)] → W p l e (headSpec wsX7_falseOnes ({ frames := 3, cells := 0, slots := 0, locals := 72 } : Room)).room s m [.ref (ad 0), .int p0, .int p1].toArray below meth c s.heap [] 0 0 (MQ below (Qpi post) [.ref (ad 0), .int p0, .int p1].toArray s 0 0 noF) (F0 m 26 ls []))) := ⟨fun (x3 : Int32) (x4 : Int32) => (∀ ls : Array Slot, lv_has ls 5 [(1, .int p0), (2, .int p1), (3, .int x3), (4, .int x4)] → W p l e (headSpec wsX7_falseOnes ({ frames := 3, cells := 0, slots := 0, locals := 72 } : Room)).room s m [.ref (ad 0), .int p0, .int p1].toArray below meth c s.heap [] 0 0 (MQ below (Qpi post) [.ref (ad 0), .int p0, .int p1].toArray s 0 0 noF) (F0 m 26 ls [])), fun _ _ h => h, fun _ _ h => h⟩
  have hV := hV J26
  replace hV := hV (by
    intro x3 x4 hV
    refine iJ26 x3 x4 ?_
    intro ls hl
    refine lv_iload hx hb dX7_falseOnes_26 (lv_at hl 3 rfl) ?_
    refine lv_iload_n hx hb dX7_falseOnes_28 rfl (lv_at hl 0 rfl) ?_
    refine lv_icmp_gt (tgt := 57) hx hb dX7_falseOnes_29 (by decide) (fun c_29 => ?_) (fun c_29 => ?_)
    · have hV := hV.1 c_29
      refine lv_iload_n hx hb dX7_falseOnes_57 rfl (lv_at hl 1 rfl) ?_
      refine lv_if_ge (tgt := 65) hx hb dX7_falseOnes_58 (by decide) (fun c_58 => ?_) (fun c_58 => ?_)
      · have hV := hV.1 c_58
        refine lv_bipush (v := (-4 : Int32)) hx hb dX7_falseOnes_65 (by decide) ?_
        exact W.iret (v := (-4 : Int32)) hx hb hr (fun t ht hW => ⟨_, rfl, hV, ht⟩) (fun _ h => by cases h) dX7_falseOnes_67
      · have hV := hV.2 c_58
        refine lv_iload_n hx hb dX7_falseOnes_61 rfl (lv_at hl 2 rfl) ?_
        refine lv_goto (tgt := 67) hx hb dX7_falseOnes_62 (by decide) ?_
        exact W.iret (v := x3) hx hb hr (fun t ht hW => ⟨_, rfl, hV, ht⟩) (fun _ h => by cases h) dX7_falseOnes_67
    · have hV := hV.2 c_29
      refine lv_iload hx hb dX7_falseOnes_32 (lv_at hl 3 rfl) ?_
      obtain ⟨h_34, hV⟩ := hV
      refine cp_i (va_runS (As := [.int x4]) (rest := []) ⟨hx, hb, hml, hown, hts⟩ (spec_X7_isFalse l x4 h_34) (va_cwS 1 hts gX7_falseOnes_X7_isFalse rfl rfl rfl (by decide +kernel) ⟨Nat.le_of_ble_eq_true rfl, Nat.le_of_ble_eq_true rfl⟩) cp_pre rfl rfl hl.1 rfl (lv_room (Nat.le_of_ble_eq_true rfl)) dX7_falseOnes_34 ⟨Nat.zero_le _, Nat.zero_le _⟩) (fun r34 q_34 => ?_)
      have hV := hV r34 q_34
      refine lv_if_eq (tgt := 51) hx hb dX7_falseOnes_37 (by decide) (fun c_37 => ?_) (fun c_37 => ?_)
      · have hV := hV.1 c_37
        refine lv_iinc (v := x4 + 2) (lv' := [(4, .int (x4 + 2)), (1, .int p0), (2, .int p1), (3, .int x3)]) hx hb dX7_falseOnes_51 hl (k := 3) rfl rfl (by decide) rfl (fun ls hl => ?_)
        refine lv_goto (tgt := 26) hx hb dX7_falseOnes_54 (by decide) ?_
        exact oJ26 _ _ hV _ (lv_sub hl [1, 2, 3, 0] rfl)
      · have hV := hV.2 c_37
        refine lv_iload_n hx hb dX7_falseOnes_40 rfl (lv_at hl 2 rfl) ?_
        refine lv_iload_n hx hb dX7_falseOnes_41 rfl (lv_at hl 1 rfl) ?_
        refine lv_icmp_ne (tgt := 48) hx hb dX7_falseOnes_42 (by decide) (fun c_42 => ?_) (fun c_42 => ?_)
        · have hV := hV.2 c_42
          refine lv_iinc (v := x3 + 1) (lv' := [(3, .int (x3 + 1)), (1, .int p0), (2, .int p1), (4, .int x4)]) hx hb dX7_falseOnes_48 hl (k := 2) rfl rfl (by decide) rfl (fun ls hl => ?_)
          refine lv_iinc (v := x4 + 2) (lv' := [(4, .int (x4 + 2)), (3, .int (x3 + 1)), (1, .int p0), (2, .int p1)]) hx hb dX7_falseOnes_51 hl (k := 3) rfl rfl (by decide) rfl (fun ls hl => ?_)
          refine lv_goto (tgt := 26) hx hb dX7_falseOnes_54 (by decide) ?_
          exact oJ26 _ _ hV _ (lv_sub hl [2, 3, 1, 0] rfl)
        · have hV := hV.1 c_42
          refine lv_iload hx hb dX7_falseOnes_45 (lv_at hl 3 rfl) ?_
          exact W.iret (v := x4) hx hb hr (fun t ht hW => ⟨_, rfl, hV, ht⟩) (fun _ h => by cases h) dX7_falseOnes_47)
  have hl := lv_entry ([.ref (ad 0), .int p0, .int p1]) (n := 5) (Nat.le_of_ble_eq_true rfl)
  rw [lg_entry_eq]
  generalize (lg_sl ([.ref (ad 0), .int p0, .int p1]) ++ List.replicate (5 - (lg_sl ([.ref (ad 0), .int p0, .int p1])).length) Slot.unset).toArray = ls at hl ⊢
  have hl : lv_has ls 5 [(0, .ref (ad 0)), (1, .int p0), (2, .int p1)] := hl
  refine lv_iload_n hx hb dX7_falseOnes_0 rfl (lv_at hl 1 rfl) ?_
  refine lv_i2l (v := p0.toInt64) hx hb dX7_falseOnes_1 rfl ?_
  refine lv_ldc2 (v := (3 : Int64)) hx hb hown (hts (.constantLong RX7 94 (3)) (by decide +kernel)) dX7_falseOnes_2 ?_
  refine lv_ldc2 (v := (5000 : Int64)) hx hb hown (hts (.constantLong RX7 177 (5000)) (by decide +kernel)) dX7_falseOnes_5 ?_
  refine cp_i (va_runS (As := [.long p0.toInt64, .long (3 : Int64), .long (5000 : Int64)]) (rest := []) ⟨hx, hb, hml, hown, hts⟩ (spec_X7_in l p0.toInt64 (3 : Int64) (5000 : Int64)) (va_cwS 3 hts gX7_falseOnes_X7_in rfl rfl rfl (by decide +kernel) ⟨Nat.le_of_ble_eq_true rfl, Nat.le_of_ble_eq_true rfl⟩) cp_pre rfl rfl hl.1 rfl (lv_room (Nat.le_of_ble_eq_true rfl)) dX7_falseOnes_8 ⟨Nat.zero_le _, Nat.zero_le _⟩) (fun r8 q_8 => ?_)
  have hV := hV r8 q_8
  refine lv_if_eq (tgt := 19) hx hb dX7_falseOnes_11 (by decide) (fun c_11 => ?_) (fun c_11 => ?_)
  · have hV := hV.1 c_11
    refine lv_iconst (v := (-1 : Int32)) hx hb dX7_falseOnes_19 (by decide) ?_
    exact W.iret (v := (-1 : Int32)) hx hb hr (fun t ht hW => ⟨_, rfl, hV, ht⟩) (fun _ h => by cases h) dX7_falseOnes_20
  · have hV := hV.2 c_11
    refine lv_iload_n hx hb dX7_falseOnes_14 rfl (lv_at hl 2 rfl) ?_
    refine lv_iconst (v := (-1 : Int32)) hx hb dX7_falseOnes_15 (by decide) ?_
    refine lv_icmp_ge (tgt := 21) hx hb dX7_falseOnes_16 (by decide) (fun c_16 => ?_) (fun c_16 => ?_)
    · have hV := hV.1 c_16
      refine lv_iconst (v := (0 : Int32)) hx hb dX7_falseOnes_21 (by decide) ?_
      refine lv_istore_n (lv' := [(3, .int (0 : Int32)), (0, .ref (ad 0)), (1, .int p0), (2, .int p1)]) hx hb dX7_falseOnes_22 rfl hl (by decide) rfl (fun ls hl => ?_)
      refine lv_iconst (v := (3 : Int32)) hx hb dX7_falseOnes_23 (by decide) ?_
      refine lv_istore (lv' := [(4, .int (3 : Int32)), (3, .int (0 : Int32)), (0, .ref (ad 0)), (1, .int p0), (2, .int p1)]) hx hb dX7_falseOnes_24 hl (by decide) rfl (fun ls hl => ?_)
      exact oJ26 _ _ hV _ (lv_sub hl [3, 4, 1, 0] rfl)
    · have hV := hV.2 c_16
      refine lv_iconst (v := (-1 : Int32)) hx hb dX7_falseOnes_19 (by decide) ?_
      exact W.iret (v := (-1 : Int32)) hx hb hr (fun t ht hW => ⟨_, rfl, hV, ht⟩) (fun _ h => by cases h) dX7_falseOnes_20
def post_X7_falseOnes (g : Gs) (a : As) (p0 p1 r : Int32) : Prop := FalseAns p0 p1 r
set_option maxRecDepth 4000 in
theorem spec_X7_falseOnes (l : Launch) (D : va_G) (cy : Nat → ClassId) (ad : Nat → Nat) (sz : Nat) (g : Gs) (a : As) (p0 : Int32) (p1 : Int32) : Met l yX7_falseOnes wsX7_falseOnes ({ frames := 3, cells := 0, slots := 0, locals := 72 } : Room) (va_Pc [.ref (ad 0), .int p0, .int p1] (ArP D cy sz (maW ad cy g a))) (Qpi (post_X7_falseOnes g a p0 p1)) 0 0 noF := by
  apply met_X7_falseOnes
  intro J hJ r hr
  have l3 : (3 : Int64).toInt = 3 := rfl
  have l5 : (5000 : Int64).toInt = 5000 := rfl
  have hm1 : (-1 : Int32).toInt = -1 := rfl
  unfold post_X7_in at hr
  rw [il_t, l3, l5] at hr
  subst hr
  refine ⟨fun h => Or.inl ⟨by have := zb_0 h; omega, rfl⟩, fun h => ⟨fun h3 => ?_, fun h3 => Or.inl ⟨Or.inr (Or.inr (by rw [i_le, hm1] at h3; omega)), rfl⟩⟩⟩
  have h := zb_1 h
  rw [i_le, hm1] at h3
  obtain ⟨m, hm, rfl, hm2⟩ := of_i (x := p0) (by omega)
  have tnm : tn (nI m) = m := tn_nI hm
  refine ith_odd (J := J) (post := post_X7_falseOnes g a (nI m) p1) (p := FalB) (N := m + 1) (lo := 3) (i := p1) (by omega) (by omega) rfl h3 (fb_ct_zero.mpr (fun k hk => cb_f (fun q => by have := q.2.1; omega))) (fun k hk => cb_f (fun q => by have := q.1; omega)) (fun r hr => Or.inr ⟨⟨by omega, by omega, h3⟩, by rw [tnm]; exact hr⟩) (fun f k hk hk2 c1 c2 => ?_) (fun f k hfk hlk hkN hko c1 c2 c3 => ?_)
  · refine hJ _ _ (pk_lt m k (fun _ => ⟨fun q => c2 (fun z => ?_), fun q => c1 ?_⟩) (fun h => absurd h (by omega)))
    · rw [i_le, Int32.toInt_zero, z, hm1] at q; omega
    · rw [i_le, Int32.toInt_zero] at q; exact i_m1.mp (by omega)
  · refine hJ _ _ (pk_lt m k (fun h => absurd h (by omega)) (fun _ => ⟨⟨by rw [nI_toInt (by omega)]; omega, by rw [nI_toInt (by omega)]; omega⟩, fun r hr => ?_⟩))
    unfold post_X7_isFalse at hr
    rw [tn_nI (by omega)] at hr
    subst hr
    rw [nI_1, nI_2]
    have eb := falB_of hko hlk (c := FalseP k) Iff.rfl
    exact ⟨fun q => c1 (by rw [eb]; exact cb_f (zb_0 q)), fun q => ⟨fun q2 => c2 (by rw [eb]; exact cb_t (zb_1 q)) q2, fun q2 => c3 (by rw [eb]; exact cb_t (zb_1 q)) q2⟩⟩
/-- FOOLED -/
def FoolAns (k m i r : Int32) : Prop := ((k.toInt < 2 ∨ 7 < k.toInt ∨ m.toInt < 3 ∨ 50001 < m.toInt ∨ i.toInt < -1) ∧ r = -1) ∨ ((2 ≤ k.toInt ∧ k.toInt ≤ 7 ∧ 3 ≤ m.toInt ∧ m.toInt ≤ 50001 ∧ -1 ≤ i.toInt) ∧ Ith (FoolB (tn k)) (tn m + 1) i r)
theorem FoolAns.one {k m i r r' : Int32} (h : FoolAns k m i r) (h' : FoolAns k m i r') : r = r' := by
  rcases h with ⟨h1, h2⟩ | ⟨h1, h2⟩ <;> rcases h' with ⟨k1, k2⟩ | ⟨k1, k2⟩
  · rw [h2, k2]
  · omega
  · omega
  · exact h2.one k2
set_option maxHeartbeats 4000000 in
set_option maxRecDepth 100000 in
theorem met_X7_fooled (l : Launch) (D : va_G) (cy : Nat → ClassId) (ad : Nat → Nat) (sz : Nat) (g : Gs) (a : As) (p0 : Int32) (p1 : Int32) (p2 : Int32) (post : Int32 → Prop)
  (hV : ∀ (J41 : Int32 → Int32 → Prop) (J65 : Int32 → Int32 → Int32 → Int32 → Prop),
    (∀ (x4 : Int32) (x5 : Int32), ((p1 < x5 → ((0 ≤ p2 → post (-4 : Int32)) ∧ (¬ 0 ≤ p2 → post x4))) ∧ (¬ p1 < x5 → pre_X7_isPrime x5 ∧ (∀ r49 : Int32, post_X7_isPrime x5 r49 → ((r49 = 0 → J65 x4 x5 (1 : Int32) (2 : Int32)) ∧ (¬ r49 = 0 → J65 x4 x5 (0 : Int32) (2 : Int32)))))) → J41 x4 x5) →
    (∀ (x4 : Int32) (x5 : Int32) (x6 : Int32) (x7 : Int32), ((p0 < x7 → ((x6 = 0 → J41 x4 (x5 + 2)) ∧ (¬ x6 = 0 → ((x4 = p2 → post x5) ∧ (¬ x4 = p2 → J41 (x4 + 1) (x5 + 2)))))) ∧ (¬ p0 < x7 → ((x6 = 0 → ((x6 = 0 → J41 x4 (x5 + 2)) ∧ (¬ x6 = 0 → ((x4 = p2 → post x5) ∧ (¬ x4 = p2 → J41 (x4 + 1) (x5 + 2)))))) ∧ (¬ x6 = 0 → pre_X7_isStrong x5 x7 ∧ (∀ r80 : Int32, post_X7_isStrong x5 x7 r80 → J65 x4 x5 r80 (x7 + 1)))))) → J65 x4 x5 x6 x7) →
    ∀ r8 : Int32, post_X7_in p0.toInt64 (2 : Int64) (7 : Int64) r8 → ((r8 = 0 → post (-1 : Int32)) ∧ (¬ r8 = 0 → ∀ r22 : Int32, post_X7_in p1.toInt64 (3 : Int64) (50001 : Int64) r22 → ((r22 = 0 → post (-1 : Int32)) ∧ (¬ r22 = 0 → (((-1 : Int32) ≤ p2 → J41 (0 : Int32) (3 : Int32)) ∧ (¬ (-1 : Int32) ≤ p2 → post (-1 : Int32)))))))) :
  Met l yX7_fooled wsX7_fooled ({ frames := 2, cells := 0, slots := 0, locals := 56 } : Room) (va_Pc [.ref (ad 0), .int p0, .int p1, .int p2] (ArP D cy sz (maW ad cy g a))) (Qpi post) 0 0 noF := by
  refine Met.ofW (cc := cX7_fooled) (maxL := 8) (ret := (some .int)) (by decide) rfl ?_
  intro p e s m args below meth c s₁ B hml hv
  obtain ⟨rfl, hsz, hP, hK, hD0, hN⟩ := hv
  have hx := B.exec
  have hb := B.bytes
  have hr := B.returns
  have hts := atoms_spec (ws := wsX7_fooled) B.pre
  have hown : s.vm.findClass RX7 = some m.cls := findClass_of_methodNamed B.named
  have hlocks := B.notSynchronized
  subst hsz
  have hP : va_P D vwCl (maW ad cy g a) s.heap := hP
  have hD : va_D (fun _ => True) (maW ad cy g a) := hD0
  obtain ⟨J41, iJ41, oJ41⟩ : ∃ J : Int32 → Int32 → Prop, (∀ (x4 : Int32) (x5 : Int32), (∀ ls : Array Slot, lv_has ls 8 [(1, .int p0), (2, .int p1), (3, .int p2), (4, .int x4), (5, .int x5)] → W p l e (headSpec wsX7_fooled ({ frames := 2, cells := 0, slots := 0, locals := 56 } : Room)).room s m [.ref (ad 0), .int p0, .int p1, .int p2].toArray below meth c s.heap [] 0 0 (MQ below (Qpi post) [.ref (ad 0), .int p0, .int p1, .int p2].toArray s 0 0 noF) (F0 m 41 ls [])) → J x4 x5) ∧ (∀ (x4 : Int32) (x5 : Int32), J x4 x5 → (∀ ls : Array Slot, lv_has ls 8 [(1, .int p0), (2, .int p1), (3, .int p2), (4, .int x4), (5, .int x5)] → W p l e (headSpec wsX7_fooled ({ frames := 2, cells := 0, slots := 0, locals := 56 } : Room)).room s m [.ref (ad 0), .int p0, .int p1, .int p2].toArray below meth c s.heap [] 0 0 (MQ below (Qpi post) [.ref (ad 0), .int p0, .int p1, .int p2].toArray s 0 0 noF) (F0 m 41 ls []))) := ⟨fun (x4 : Int32) (x5 : Int32) => (∀ ls : Array Slot, lv_has ls 8 [(1, .int p0), (2, .int p1), (3, .int p2), (4, .int x4), (5, .int x5)] → W p l e (headSpec wsX7_fooled ({ frames := 2, cells := 0, slots := 0, locals := 56 } : Room)).room s m [.ref (ad 0), .int p0, .int p1, .int p2].toArray below meth c s.heap [] 0 0 (MQ below (Qpi post) [.ref (ad 0), .int p0, .int p1, .int p2].toArray s 0 0 noF) (F0 m 41 ls [])), fun _ _ h => h, fun _ _ h => h⟩
  obtain ⟨J65, iJ65, oJ65⟩ : ∃ J : Int32 → Int32 → Int32 → Int32 → Prop, (∀ (x4 : Int32) (x5 : Int32) (x6 : Int32) (x7 : Int32), (∀ ls : Array Slot, lv_has ls 8 [(1, .int p0), (2, .int p1), (3, .int p2), (4, .int x4), (5, .int x5), (6, .int x6), (7, .int x7)] → W p l e (headSpec wsX7_fooled ({ frames := 2, cells := 0, slots := 0, locals := 56 } : Room)).room s m [.ref (ad 0), .int p0, .int p1, .int p2].toArray below meth c s.heap [] 0 0 (MQ below (Qpi post) [.ref (ad 0), .int p0, .int p1, .int p2].toArray s 0 0 noF) (F0 m 65 ls [])) → J x4 x5 x6 x7) ∧ (∀ (x4 : Int32) (x5 : Int32) (x6 : Int32) (x7 : Int32), J x4 x5 x6 x7 → (∀ ls : Array Slot, lv_has ls 8 [(1, .int p0), (2, .int p1), (3, .int p2), (4, .int x4), (5, .int x5), (6, .int x6), (7, .int x7)] → W p l e (headSpec wsX7_fooled ({ frames := 2, cells := 0, slots := 0, locals := 56 } : Room)).room s m [.ref (ad 0), .int p0, .int p1, .int p2].toArray below meth c s.heap [] 0 0 (MQ below (Qpi post) [.ref (ad 0), .int p0, .int p1, .int p2].toArray s 0 0 noF) (F0 m 65 ls []))) := ⟨fun (x4 : Int32) (x5 : Int32) (x6 : Int32) (x7 : Int32) => (∀ ls : Array Slot, lv_has ls 8 [(1, .int p0), (2, .int p1), (3, .int p2), (4, .int x4), (5, .int x5), (6, .int x6), (7, .int x7)] → W p l e (headSpec wsX7_fooled ({ frames := 2, cells := 0, slots := 0, locals := 56 } : Room)).room s m [.ref (ad 0), .int p0, .int p1, .int p2].toArray below meth c s.heap [] 0 0 (MQ below (Qpi post) [.ref (ad 0), .int p0, .int p1, .int p2].toArray s 0 0 noF) (F0 m 65 ls [])), fun _ _ _ _ h => h, fun _ _ _ _ h => h⟩
  have hV := hV J41 J65
  replace hV := hV (by
    intro x4 x5 hV
    refine iJ41 x4 x5 ?_
    intro ls hl
    refine lv_iload hx hb dX7_fooled_41 (lv_at hl 4 rfl) ?_
    refine lv_iload_n hx hb dX7_fooled_43 rfl (lv_at hl 1 rfl) ?_
    refine lv_icmp_gt (tgt := 114) hx hb dX7_fooled_44 (by decide) (fun c_44 => ?_) (fun c_44 => ?_)
    · have hV := hV.1 c_44
      refine lv_iload_n hx hb dX7_fooled_114 rfl (lv_at hl 2 rfl) ?_
      refine lv_if_ge (tgt := 123) hx hb dX7_fooled_115 (by decide) (fun c_115 => ?_) (fun c_115 => ?_)
      · have hV := hV.1 c_115
        refine lv_bipush (v := (-4 : Int32)) hx hb dX7_fooled_123 (by decide) ?_
        exact W.iret (v := (-4 : Int32)) hx hb hr (fun t ht hW => ⟨_, rfl, hV, ht⟩) (fun _ h => by cases h) dX7_fooled_125
      · have hV := hV.2 c_115
        refine lv_iload hx hb dX7_fooled_118 (lv_at hl 3 rfl) ?_
        refine lv_goto (tgt := 125) hx hb dX7_fooled_120 (by decide) ?_
        exact W.iret (v := x4) hx hb hr (fun t ht hW => ⟨_, rfl, hV, ht⟩) (fun _ h => by cases h) dX7_fooled_125
    · have hV := hV.2 c_44
      refine lv_iload hx hb dX7_fooled_47 (lv_at hl 4 rfl) ?_
      obtain ⟨h_49, hV⟩ := hV
      refine cp_i (va_runS (As := [.int x5]) (rest := []) ⟨hx, hb, hml, hown, hts⟩ (spec_X7_isPrime l x5 h_49) (va_cwS 1 hts gX7_fooled_X7_isPrime rfl rfl rfl (by decide +kernel) ⟨Nat.le_of_ble_eq_true rfl, Nat.le_of_ble_eq_true rfl⟩) cp_pre rfl rfl hl.1 rfl (lv_room (Nat.le_of_ble_eq_true rfl)) dX7_fooled_49 ⟨Nat.zero_le _, Nat.zero_le _⟩) (fun r49 q_49 => ?_)
      have hV := hV r49 q_49
      refine lv_if_ne (tgt := 59) hx hb dX7_fooled_52 (by decide) (fun c_52 => ?_) (fun c_52 => ?_)
      · have hV := hV.2 c_52
        refine lv_iconst (v := (0 : Int32)) hx hb dX7_fooled_59 (by decide) ?_
        refine lv_istore (lv' := [(6, .int (0 : Int32)), (1, .int p0), (2, .int p1), (3, .int p2), (4, .int x4), (5, .int x5)]) hx hb dX7_fooled_60 hl (by decide) rfl (fun ls hl => ?_)
        refine lv_iconst (v := (2 : Int32)) hx hb dX7_fooled_62 (by decide) ?_
        refine lv_istore (lv' := [(7, .int (2 : Int32)), (6, .int (0 : Int32)), (1, .int p0), (2, .int p1), (3, .int p2), (4, .int x4), (5, .int x5)]) hx hb dX7_fooled_63 hl (by decide) rfl (fun ls hl => ?_)
        exact oJ65 _ _ _ _ hV _ (lv_sub hl [2, 3, 4, 5, 6, 1, 0] rfl)
      · have hV := hV.1 c_52
        refine lv_iconst (v := (1 : Int32)) hx hb dX7_fooled_55 (by decide) ?_
        refine lv_goto (tgt := 60) hx hb dX7_fooled_56 (by decide) ?_
        refine lv_istore (lv' := [(6, .int (1 : Int32)), (1, .int p0), (2, .int p1), (3, .int p2), (4, .int x4), (5, .int x5)]) hx hb dX7_fooled_60 hl (by decide) rfl (fun ls hl => ?_)
        refine lv_iconst (v := (2 : Int32)) hx hb dX7_fooled_62 (by decide) ?_
        refine lv_istore (lv' := [(7, .int (2 : Int32)), (6, .int (1 : Int32)), (1, .int p0), (2, .int p1), (3, .int p2), (4, .int x4), (5, .int x5)]) hx hb dX7_fooled_63 hl (by decide) rfl (fun ls hl => ?_)
        exact oJ65 _ _ _ _ hV _ (lv_sub hl [2, 3, 4, 5, 6, 1, 0] rfl))
  replace hV := hV (by
    intro x4 x5 x6 x7 hV
    refine iJ65 x4 x5 x6 x7 ?_
    intro ls hl
    refine lv_iload hx hb dX7_fooled_65 (lv_at hl 6 rfl) ?_
    refine lv_iload_n hx hb dX7_fooled_67 rfl (lv_at hl 0 rfl) ?_
    refine lv_icmp_gt (tgt := 91) hx hb dX7_fooled_68 (by decide) (fun c_68 => ?_) (fun c_68 => ?_)
    · have hV := hV.1 c_68
      refine lv_iload hx hb dX7_fooled_91 (lv_at hl 5 rfl) ?_
      refine lv_if_eq (tgt := 108) hx hb dX7_fooled_93 (by decide) (fun c_93 => ?_) (fun c_93 => ?_)
      · have hV := hV.1 c_93
        refine lv_iinc (v := x5 + 2) (lv' := [(5, .int (x5 + 2)), (1, .int p0), (2, .int p1), (3, .int p2), (4, .int x4), (6, .int x6), (7, .int x7)]) hx hb dX7_fooled_108 hl (k := 4) rfl rfl (by decide) rfl (fun ls hl => ?_)
        refine lv_goto (tgt := 41) hx hb dX7_fooled_111 (by decide) ?_
        exact oJ41 _ _ hV _ (lv_sub hl [1, 2, 3, 4, 0] rfl)
      · have hV := hV.2 c_93
        refine lv_iload hx hb dX7_fooled_96 (lv_at hl 3 rfl) ?_
        refine lv_iload_n hx hb dX7_fooled_98 rfl (lv_at hl 2 rfl) ?_
        refine lv_icmp_ne (tgt := 105) hx hb dX7_fooled_99 (by decide) (fun c_99 => ?_) (fun c_99 => ?_)
        · have hV := hV.2 c_99
          refine lv_iinc (v := x4 + 1) (lv' := [(4, .int (x4 + 1)), (1, .int p0), (2, .int p1), (3, .int p2), (5, .int x5), (6, .int x6), (7, .int x7)]) hx hb dX7_fooled_105 hl (k := 3) rfl rfl (by decide) rfl (fun ls hl => ?_)
          refine lv_iinc (v := x5 + 2) (lv' := [(5, .int (x5 + 2)), (4, .int (x4 + 1)), (1, .int p0), (2, .int p1), (3, .int p2), (6, .int x6), (7, .int x7)]) hx hb dX7_fooled_108 hl (k := 4) rfl rfl (by decide) rfl (fun ls hl => ?_)
          refine lv_goto (tgt := 41) hx hb dX7_fooled_111 (by decide) ?_
          exact oJ41 _ _ hV _ (lv_sub hl [2, 3, 4, 1, 0] rfl)
        · have hV := hV.1 c_99
          refine lv_iload hx hb dX7_fooled_102 (lv_at hl 4 rfl) ?_
          exact W.iret (v := x5) hx hb hr (fun t ht hW => ⟨_, rfl, hV, ht⟩) (fun _ h => by cases h) dX7_fooled_104
    · have hV := hV.2 c_68
      refine lv_iload hx hb dX7_fooled_71 (lv_at hl 5 rfl) ?_
      refine lv_if_eq (tgt := 91) hx hb dX7_fooled_73 (by decide) (fun c_73 => ?_) (fun c_73 => ?_)
      · have hV := hV.1 c_73
        refine lv_iload hx hb dX7_fooled_91 (lv_at hl 5 rfl) ?_
        refine lv_if_eq (tgt := 108) hx hb dX7_fooled_93 (by decide) (fun c_93 => ?_) (fun c_93 => ?_)
        · have hV := hV.1 c_93
          refine lv_iinc (v := x5 + 2) (lv' := [(5, .int (x5 + 2)), (1, .int p0), (2, .int p1), (3, .int p2), (4, .int x4), (6, .int x6), (7, .int x7)]) hx hb dX7_fooled_108 hl (k := 4) rfl rfl (by decide) rfl (fun ls hl => ?_)
          refine lv_goto (tgt := 41) hx hb dX7_fooled_111 (by decide) ?_
          exact oJ41 _ _ hV _ (lv_sub hl [1, 2, 3, 4, 0] rfl)
        · have hV := hV.2 c_93
          refine lv_iload hx hb dX7_fooled_96 (lv_at hl 3 rfl) ?_
          refine lv_iload_n hx hb dX7_fooled_98 rfl (lv_at hl 2 rfl) ?_
          refine lv_icmp_ne (tgt := 105) hx hb dX7_fooled_99 (by decide) (fun c_99 => ?_) (fun c_99 => ?_)
          · have hV := hV.2 c_99
            refine lv_iinc (v := x4 + 1) (lv' := [(4, .int (x4 + 1)), (1, .int p0), (2, .int p1), (3, .int p2), (5, .int x5), (6, .int x6), (7, .int x7)]) hx hb dX7_fooled_105 hl (k := 3) rfl rfl (by decide) rfl (fun ls hl => ?_)
            refine lv_iinc (v := x5 + 2) (lv' := [(5, .int (x5 + 2)), (4, .int (x4 + 1)), (1, .int p0), (2, .int p1), (3, .int p2), (6, .int x6), (7, .int x7)]) hx hb dX7_fooled_108 hl (k := 4) rfl rfl (by decide) rfl (fun ls hl => ?_)
            refine lv_goto (tgt := 41) hx hb dX7_fooled_111 (by decide) ?_
            exact oJ41 _ _ hV _ (lv_sub hl [2, 3, 4, 1, 0] rfl)
          · have hV := hV.1 c_99
            refine lv_iload hx hb dX7_fooled_102 (lv_at hl 4 rfl) ?_
            exact W.iret (v := x5) hx hb hr (fun t ht hW => ⟨_, rfl, hV, ht⟩) (fun _ h => by cases h) dX7_fooled_104
      · have hV := hV.2 c_73
        refine lv_iload hx hb dX7_fooled_76 (lv_at hl 4 rfl) ?_
        refine lv_iload hx hb dX7_fooled_78 (lv_at hl 6 rfl) ?_
        obtain ⟨h_80, hV⟩ := hV
        refine cp_i (va_runS (As := [.int x5, .int x7]) (rest := []) ⟨hx, hb, hml, hown, hts⟩ (spec_X7_isStrong l x5 x7 h_80) (va_cwS 2 hts gX7_fooled_X7_isStrong rfl rfl rfl (by decide +kernel) ⟨Nat.le_of_ble_eq_true rfl, Nat.le_of_ble_eq_true rfl⟩) cp_pre rfl rfl hl.1 rfl (lv_room (Nat.le_of_ble_eq_true rfl)) dX7_fooled_80 ⟨Nat.zero_le _, Nat.zero_le _⟩) (fun r80 q_80 => ?_)
        have hV := hV r80 q_80
        refine lv_istore (lv' := [(6, .int r80), (1, .int p0), (2, .int p1), (3, .int p2), (4, .int x4), (5, .int x5), (7, .int x7)]) hx hb dX7_fooled_83 hl (by decide) rfl (fun ls hl => ?_)
        refine lv_iinc (v := x7 + 1) (lv' := [(7, .int (x7 + 1)), (6, .int r80), (1, .int p0), (2, .int p1), (3, .int p2), (4, .int x4), (5, .int x5)]) hx hb dX7_fooled_85 hl (k := 6) rfl rfl (by decide) rfl (fun ls hl => ?_)
        refine lv_goto (tgt := 65) hx hb dX7_fooled_88 (by decide) ?_
        exact oJ65 _ _ _ _ hV _ (lv_sub hl [2, 3, 4, 5, 6, 1, 0] rfl))
  have hl := lv_entry ([.ref (ad 0), .int p0, .int p1, .int p2]) (n := 8) (Nat.le_of_ble_eq_true rfl)
  rw [lg_entry_eq]
  generalize (lg_sl ([.ref (ad 0), .int p0, .int p1, .int p2]) ++ List.replicate (8 - (lg_sl ([.ref (ad 0), .int p0, .int p1, .int p2])).length) Slot.unset).toArray = ls at hl ⊢
  have hl : lv_has ls 8 [(0, .ref (ad 0)), (1, .int p0), (2, .int p1), (3, .int p2)] := hl
  refine lv_iload_n hx hb dX7_fooled_0 rfl (lv_at hl 1 rfl) ?_
  refine lv_i2l (v := p0.toInt64) hx hb dX7_fooled_1 rfl ?_
  refine lv_ldc2 (v := (2 : Int64)) hx hb hown (hts (.constantLong RX7 56 (2)) (by decide +kernel)) dX7_fooled_2 ?_
  refine lv_ldc2 (v := (7 : Int64)) hx hb hown (hts (.constantLong RX7 182 (7)) (by decide +kernel)) dX7_fooled_5 ?_
  refine cp_i (va_runS (As := [.long p0.toInt64, .long (2 : Int64), .long (7 : Int64)]) (rest := []) ⟨hx, hb, hml, hown, hts⟩ (spec_X7_in l p0.toInt64 (2 : Int64) (7 : Int64)) (va_cwS 3 hts gX7_fooled_X7_in rfl rfl rfl (by decide +kernel) ⟨Nat.le_of_ble_eq_true rfl, Nat.le_of_ble_eq_true rfl⟩) cp_pre rfl rfl hl.1 rfl (lv_room (Nat.le_of_ble_eq_true rfl)) dX7_fooled_8 ⟨Nat.zero_le _, Nat.zero_le _⟩) (fun r8 q_8 => ?_)
  have hV := hV r8 q_8
  refine lv_if_eq (tgt := 33) hx hb dX7_fooled_11 (by decide) (fun c_11 => ?_) (fun c_11 => ?_)
  · have hV := hV.1 c_11
    refine lv_iconst (v := (-1 : Int32)) hx hb dX7_fooled_33 (by decide) ?_
    exact W.iret (v := (-1 : Int32)) hx hb hr (fun t ht hW => ⟨_, rfl, hV, ht⟩) (fun _ h => by cases h) dX7_fooled_34
  · have hV := hV.2 c_11
    refine lv_iload_n hx hb dX7_fooled_14 rfl (lv_at hl 2 rfl) ?_
    refine lv_i2l (v := p1.toInt64) hx hb dX7_fooled_15 rfl ?_
    refine lv_ldc2 (v := (3 : Int64)) hx hb hown (hts (.constantLong RX7 94 (3)) (by decide +kernel)) dX7_fooled_16 ?_
    refine lv_ldc2 (v := (50001 : Int64)) hx hb hown (hts (.constantLong RX7 163 (50001)) (by decide +kernel)) dX7_fooled_19 ?_
    refine cp_i (va_runS (As := [.long p1.toInt64, .long (3 : Int64), .long (50001 : Int64)]) (rest := []) ⟨hx, hb, hml, hown, hts⟩ (spec_X7_in l p1.toInt64 (3 : Int64) (50001 : Int64)) (va_cwS 3 hts gX7_fooled_X7_in rfl rfl rfl (by decide +kernel) ⟨Nat.le_of_ble_eq_true rfl, Nat.le_of_ble_eq_true rfl⟩) cp_pre rfl rfl hl.1 rfl (lv_room (Nat.le_of_ble_eq_true rfl)) dX7_fooled_22 ⟨Nat.zero_le _, Nat.zero_le _⟩) (fun r22 q_22 => ?_)
    have hV := hV r22 q_22
    refine lv_if_eq (tgt := 33) hx hb dX7_fooled_25 (by decide) (fun c_25 => ?_) (fun c_25 => ?_)
    · have hV := hV.1 c_25
      refine lv_iconst (v := (-1 : Int32)) hx hb dX7_fooled_33 (by decide) ?_
      exact W.iret (v := (-1 : Int32)) hx hb hr (fun t ht hW => ⟨_, rfl, hV, ht⟩) (fun _ h => by cases h) dX7_fooled_34
    · have hV := hV.2 c_25
      refine lv_iload_n hx hb dX7_fooled_28 rfl (lv_at hl 3 rfl) ?_
      refine lv_iconst (v := (-1 : Int32)) hx hb dX7_fooled_29 (by decide) ?_
      refine lv_icmp_ge (tgt := 35) hx hb dX7_fooled_30 (by decide) (fun c_30 => ?_) (fun c_30 => ?_)
      · have hV := hV.1 c_30
        refine lv_iconst (v := (0 : Int32)) hx hb dX7_fooled_35 (by decide) ?_
        refine lv_istore (lv' := [(4, .int (0 : Int32)), (0, .ref (ad 0)), (1, .int p0), (2, .int p1), (3, .int p2)]) hx hb dX7_fooled_36 hl (by decide) rfl (fun ls hl => ?_)
        refine lv_iconst (v := (3 : Int32)) hx hb dX7_fooled_38 (by decide) ?_
        refine lv_istore (lv' := [(5, .int (3 : Int32)), (4, .int (0 : Int32)), (0, .ref (ad 0)), (1, .int p0), (2, .int p1), (3, .int p2)]) hx hb dX7_fooled_39 hl (by decide) rfl (fun ls hl => ?_)
        exact oJ41 _ _ hV _ (lv_sub hl [3, 4, 5, 1, 0] rfl)
      · have hV := hV.2 c_30
        refine lv_iconst (v := (-1 : Int32)) hx hb dX7_fooled_33 (by decide) ?_
        exact W.iret (v := (-1 : Int32)) hx hb hr (fun t ht hW => ⟨_, rfl, hV, ht⟩) (fun _ h => by cases h) dX7_fooled_34
def post_X7_fooled (g : Gs) (a : As) (p0 p1 p2 r : Int32) : Prop := FoolAns p0 p1 p2 r
set_option maxRecDepth 4000 in
theorem spec_X7_fooled (l : Launch) (D : va_G) (cy : Nat → ClassId) (ad : Nat → Nat) (sz : Nat) (g : Gs) (a : As) (p0 : Int32) (p1 : Int32) (p2 : Int32) : Met l yX7_fooled wsX7_fooled ({ frames := 2, cells := 0, slots := 0, locals := 56 } : Room) (va_Pc [.ref (ad 0), .int p0, .int p1, .int p2] (ArP D cy sz (maW ad cy g a))) (Qpi (post_X7_fooled g a p0 p1 p2)) 0 0 noF := by
  apply met_X7_fooled
  intro J41 J65 h41 h65 r hr
  have l2 : (2 : Int64).toInt = 2 := rfl
  have l7 : (7 : Int64).toInt = 7 := rfl
  have l3 : (3 : Int64).toInt = 3 := rfl
  have l5 : (50001 : Int64).toInt = 50001 := rfl
  have hm1 : (-1 : Int32).toInt = -1 := rfl
  unfold post_X7_in at hr
  rw [il_t, l2, l7] at hr
  subst hr
  refine ⟨fun h => Or.inl ⟨by have := zb_0 h; omega, rfl⟩, fun h r2 hr2 => ?_⟩
  have h := zb_1 h
  unfold post_X7_in at hr2
  rw [il_t, l3, l5] at hr2
  subst hr2
  refine ⟨fun h2 => Or.inl ⟨by have := zb_0 h2; omega, rfl⟩, fun h2 => ⟨fun h3 => ?_, fun h3 => Or.inl ⟨Or.inr (Or.inr (Or.inr (Or.inr (by rw [i_le, hm1] at h3; omega)))), rfl⟩⟩⟩
  have h2 := zb_1 h2
  rw [i_le, hm1] at h3
  obtain ⟨t, ht, rfl, ht2⟩ := of_i (x := p0) (by omega)
  obtain ⟨m, hm, rfl, hm2⟩ := of_i (x := p1) (by omega)
  have tnm : tn (nI m) = m := tn_nI hm
  refine ith_odd (J := J41) (post := post_X7_fooled g a (nI t) (nI m) p2) (p := FoolB t) (N := m + 1) (lo := 3) (i := p2) (by omega) (by omega) rfl h3 (fb_ct_zero.mpr (fun k hk => cb_f (fun q => by have := q.2.1; omega))) (fun k hk => cb_f (fun q => by have := q.1; omega)) (fun r hr => Or.inr ⟨⟨by omega, by omega, by omega, by omega, h3⟩, by rw [tnm, tn_nI ht]; exact hr⟩) (fun f k hk hk2 c1 c2 => ?_) (fun f k hfk hlk hkN hko c1 c2 c3 => ?_)
  · refine h41 _ _ (pk_lt m k (fun _ => ⟨fun q => c2 (fun z => ?_), fun q => c1 ?_⟩) (fun h => absurd h (by omega)))
    · rw [i_le, Int32.toInt_zero, z, hm1] at q; omega
    · rw [i_le, Int32.toInt_zero] at q; exact i_m1.mp (by omega)
  · have fin : ∀ c : Int32, (c = 0 → FoolB t k = false) → (¬ c = 0 → FoolB t k = true) → ((c = 0 → J41 (nI f) (nI k + 2)) ∧ (¬ c = 0 → ((nI f = p2 → post_X7_fooled g a (nI t) (nI m) p2 (nI k)) ∧ (¬ nI f = p2 → J41 (nI f + 1) (nI k + 2))))) := by
      intro c a1 a2
      rw [nI_1, nI_2]
      exact ⟨fun q => c1 (a1 q), fun q => ⟨fun q2 => c2 (a2 q) q2, fun q2 => c3 (a2 q) q2⟩⟩
    have inner : ∀ (d x : Nat), x + d = t + 1 → 2 ≤ x → J65 (nI f) (nI k) (zb (¬ Pr k ∧ ∀ y, 2 ≤ y → y < x → Strong k y)) (nI x) := by
      intro d
      induction d with
      | zero =>
        intro x hx hx2
        refine h65 _ _ _ _ (pk_lt t x (fun _ => fin (zb (¬ Pr k ∧ ∀ y, 2 ≤ y → y < x → Strong k y)) (fun q => cb_f (fun z => zb_0 q ⟨z.2.2.1, fun y y1 y2 => z.2.2.2 y y1 (by omega)⟩)) (fun q => cb_t ⟨hko, hlk, (zb_1 q).1, fun y y1 y2 => (zb_1 q).2 y y1 (by omega)⟩)) (fun h => absurd h (by omega)))
      | succ d ih =>
        intro x hx hx2
        refine h65 _ _ _ _ (pk_lt t x (fun h => absurd h (by omega)) (fun _ => ⟨fun q => fin (zb (¬ Pr k ∧ ∀ y, 2 ≤ y → y < x → Strong k y)) (fun _ => cb_f (fun z => zb_0 q ⟨z.2.2.1, fun y y1 y2 => z.2.2.2 y y1 (by omega)⟩)) (fun z => absurd q z), fun q => ⟨⟨by rw [nI_toInt (by omega)]; omega, by rw [nI_toInt (by omega)]; omega⟩, fun r hr => ?_⟩⟩))
        have q := zb_1 q
        unfold post_X7_isStrong at hr
        rw [tn_nI (by omega), tn_nI (by omega)] at hr
        subst hr
        have nx := ih (x + 1) (by omega) (by omega)
        rw [nI_1]
        have e : zb (¬ Pr k ∧ ∀ y, 2 ≤ y → y < x + 1 → Strong k y) = zb (Strong k x) := zb_c ⟨fun z => z.2 x hx2 (by omega), fun z => ⟨q.1, fun y y1 y2 => by
          by_cases e : y = x
          · subst e; exact z
          · exact q.2 y y1 (by omega)⟩⟩
        rw [← e]
        exact nx
    refine h41 _ _ (pk_lt m k (fun h => absurd h (by omega)) (fun _ => ⟨show (nI k).toInt < 1000000 by rw [nI_toInt (by omega)]; omega, fun r hr => ?_⟩))
    unfold post_X7_isPrime at hr
    rw [tn_nI (by omega)] at hr
    subst hr
    have st := inner (t - 1) 2 (by omega) (by omega)
    have e : zb (¬ Pr k ∧ ∀ y, 2 ≤ y → y < 2 → Strong k y) = zb (¬ Pr k) := zb_c ⟨fun z => z.1, fun z => ⟨z, fun y y1 y2 => by omega⟩⟩
    rw [e] at st
    refine ⟨fun q => ?_, fun q => ?_⟩
    · rw [zb_t (zb_0 q)] at st; exact st
    · rw [zb_f (fun z => z (zb_1 q))] at st; exact st
/-- the known liars to two -/
def LiOk (g : Gs) (a : As) : Prop := g 12 = nI (fb_ct (FoolB 2) 50002) ∧ ∀ x, x < 50002 → FoolB 2 x = true → a 9 (fb_ct (FoolB 2) x) = nI x
def LiInv (g : Gs) (a : As) : Prop := (g 13 = 0 ∧ g 12 = 0) ∨ (¬ g 13 = 0 ∧ LiOk g a)
/-- all but the liars stays -/
def LiS (g : Gs) (a : As) (w : Ws) (g' : Gs) (a' : As) (w' : Ws) : Prop := (∀ i, i < 12 → g' i = g i) ∧ (∀ j, j < 9 → a' j = a j) ∧ w' = w ∧ (LiInv g a → LiInv g' a')
theorem LiS.rf {g : Gs} {a : As} {w : Ws} : LiS g a w g a w := ⟨fun _ _ => rfl, fun _ _ => rfl, rfl, id⟩
def pre_X6_findLiarsToTwo (g : Gs) (a : As) (w : Ws) : Prop := LiInv g a
set_option maxHeartbeats 4000000 in
set_option maxRecDepth 100000 in
theorem met_X6_findLiarsToTwo (l : Launch) (D : va_G) (cy : Nat → ClassId) (ad : Nat → Nat) (sz : Nat) (g : Gs) (a : As) (w : Ws) (post : Gs → As → Ws → Prop)
  (hV : ∀ (J11 : Int32 → Gs → As → Ws → Prop),
    (∀ (x1 : Int32) (g_ : Gs) (a_ : As) (w_ : Ws), (((50001 : Int32) < x1 → post (va_up g_ 13 (1 : Int32)) a_ w_) ∧ (¬ (50001 : Int32) < x1 → pre_X4_looksStrongly x1 (2 : Int32) ∧ (∀ r19 : Int32, post_X4_looksStrongly x1 (2 : Int32) r19 → ((r19 = 0 → J11 (x1 + 2) g_ a_ w_) ∧ (¬ r19 = 0 → pre_X4_isPrime x1 ∧ (∀ r26 : Int32, post_X4_isPrime x1 r26 → ((r26 = 0 → (((16 : Int32) ≤ (g_ 12) → J11 (x1 + 2) g_ a_ w_) ∧ (¬ (16 : Int32) ≤ (g_ 12) → vp_in (g_ 12) 16 ∧ (J11 (x1 + 2) (va_up g_ 12 ((g_ 12) + (1 : Int32))) (va_up a_ 9 (upd (a_ 9) (g_ 12).toNatClampNeg x1)) w_)))) ∧ (¬ r26 = 0 → J11 (x1 + 2) g_ a_ w_)))))))) → J11 x1 g_ a_ w_) →
    (((g 13) = 0 → J11 (9 : Int32) g a w) ∧ (¬ (g 13) = 0 → post g a w))) :
  Met l yX6_findLiarsToTwo wsX6_findLiarsToTwo ({ frames := 3, cells := 0, slots := 0, locals := 67 } : Room) (va_Pc [.ref (ad 0)] (ArP D cy sz (caW ad cy g a w))) (va_Qv (fun (u : Gs × As × Ws) => post u.1 u.2.1 u.2.2) (fun u t => va_P D vwCl (caW ad cy u.1 u.2.1 u.2.2) t.heap) (va_A (caW ad cy g a w) sz)) 0 0 (va_A (caW ad cy g a w) sz) := by
  refine Met.ofW (cc := cX6_findLiarsToTwo) (maxL := 2) (ret := none) (by decide) rfl ?_
  intro p e s m args below meth c s₁ B hml hv
  obtain ⟨rfl, hsz, hP, hK, hD0, hN⟩ := hv
  have hx := B.exec
  have hb := B.bytes
  have hr := B.returns
  have hts := atoms_spec (ws := wsX6_findLiarsToTwo) B.pre
  have hown : s.vm.findClass RX6 = some m.cls := findClass_of_methodNamed B.named
  have hlocks := B.notSynchronized
  subst hsz
  have hD := hD0.self (sz := s.heap.size)
  have hP : va_P D vwCl (caW ad cy g a w) s.heap := hP
  have hD : va_D (va_A (caW ad cy g a w) s.heap.size) (caW ad cy g a w) := hD
  have hS : va_S (va_A (caW ad cy g a w) s.heap.size) s.heap s.heap [] := va_S.rf
  have hA : ∀ q : Nat, s.heap.size ≤ q → va_A (caW ad cy g a w) s.heap.size q := fun q h => Or.inr h
  obtain ⟨J11, iJ11, oJ11⟩ : ∃ J : Int32 → Gs → As → Ws → Prop, (∀ (x1 : Int32) (g_ : Gs) (a_ : As) (w_ : Ws), (∀ (H : Heap) (locs : List Loc), va_P D vwCl (caW ad cy g_ a_ w_) H → va_S (va_A (caW ad cy g a w) s.heap.size) s.heap H locs → ∀ ls : Array Slot, lv_has ls 2 [(0, .ref (ad 0)), (1, .int x1)] → W p l e (headSpec wsX6_findLiarsToTwo ({ frames := 3, cells := 0, slots := 0, locals := 67 } : Room)).room s m [.ref (ad 0)].toArray below meth c H locs 0 0 (MQ below (va_Qv (fun (u : Gs × As × Ws) => post u.1 u.2.1 u.2.2) (fun u t => va_P D vwCl (caW ad cy u.1 u.2.1 u.2.2) t.heap) (va_A (caW ad cy g a w) s.heap.size)) [.ref (ad 0)].toArray s 0 0 (va_A (caW ad cy g a w) s.heap.size)) (F0 m 11 ls [])) → J x1 g_ a_ w_) ∧ (∀ (x1 : Int32) (g_ : Gs) (a_ : As) (w_ : Ws), J x1 g_ a_ w_ → (∀ (H : Heap) (locs : List Loc), va_P D vwCl (caW ad cy g_ a_ w_) H → va_S (va_A (caW ad cy g a w) s.heap.size) s.heap H locs → ∀ ls : Array Slot, lv_has ls 2 [(0, .ref (ad 0)), (1, .int x1)] → W p l e (headSpec wsX6_findLiarsToTwo ({ frames := 3, cells := 0, slots := 0, locals := 67 } : Room)).room s m [.ref (ad 0)].toArray below meth c H locs 0 0 (MQ below (va_Qv (fun (u : Gs × As × Ws) => post u.1 u.2.1 u.2.2) (fun u t => va_P D vwCl (caW ad cy u.1 u.2.1 u.2.2) t.heap) (va_A (caW ad cy g a w) s.heap.size)) [.ref (ad 0)].toArray s 0 0 (va_A (caW ad cy g a w) s.heap.size)) (F0 m 11 ls []))) := ⟨fun (x1 : Int32) (g_ : Gs) (a_ : As) (w_ : Ws) => (∀ (H : Heap) (locs : List Loc), va_P D vwCl (caW ad cy g_ a_ w_) H → va_S (va_A (caW ad cy g a w) s.heap.size) s.heap H locs → ∀ ls : Array Slot, lv_has ls 2 [(0, .ref (ad 0)), (1, .int x1)] → W p l e (headSpec wsX6_findLiarsToTwo ({ frames := 3, cells := 0, slots := 0, locals := 67 } : Room)).room s m [.ref (ad 0)].toArray below meth c H locs 0 0 (MQ below (va_Qv (fun (u : Gs × As × Ws) => post u.1 u.2.1 u.2.2) (fun u t => va_P D vwCl (caW ad cy u.1 u.2.1 u.2.2) t.heap) (va_A (caW ad cy g a w) s.heap.size)) [.ref (ad 0)].toArray s 0 0 (va_A (caW ad cy g a w) s.heap.size)) (F0 m 11 ls [])), fun _ _ _ _ h => h, fun _ _ _ _ h => h⟩
  have hV := hV J11
  replace hV := hV (by
    intro x1 g_ a_ w_ hV
    refine iJ11 x1 g_ a_ w_ ?_
    intro H locs hP hS ls hl
    refine lv_iload_n hx hb dX6_findLiarsToTwo_11 rfl (lv_at hl 1 rfl) ?_
    refine lv_ldc (v := (50001 : Int32)) hx hb hown (hts (.constant RX6 208 (50001)) (by decide +kernel)) dX6_findLiarsToTwo_12 ?_
    refine lv_icmp_gt (tgt := 70) hx hb dX6_findLiarsToTwo_14 (by decide) (fun c_14 => ?_) (fun c_14 => ?_)
    · have hV := hV.1 c_14
      refine lv_aload_n hx hb dX6_findLiarsToTwo_70 rfl (lv_at hl 0 rfl) ?_
      refine lv_iconst (v := (1 : Int32)) hx hb dX6_findLiarsToTwo_71 (by decide) ?_
      refine va_put (D := D) (ci := 5) (v := .int (1 : Int32)) (ty := .boolean) (C := RX6) (T := TX6) (N := 10) hx hb hts (by decide +kernel) tyX6 tyX6_ok nmX6 hown hK hP (caD hD) hS 0 rfl rfl 9 (by decide) (hts (.fieldLink RX6 305 "PowerRests" "liarsKnown" "Z") (by decide +kernel)) (fun _ h9 => h9) rfl (by decide +kernel) rfl rfl (Nat.le_of_ble_eq_true rfl) dX6_findLiarsToTwo_72 (fun H locs hP _ hS => ?_)
      have hP : va_P D vwCl (caW ad cy (va_up g_ 13 (1 : Int32)) a_ w_) H := hP
      exact W.vret hx hb hr (fun t ht hW => ⟨⟨((va_up g_ 13 (1 : Int32)), a_, w_), rfl, hV, ar_heap ht hP⟩, hS.F ht⟩) hS.2.2 dX6_findLiarsToTwo_75
    · have hV := hV.2 c_14
      refine lv_iload_n hx hb dX6_findLiarsToTwo_17 rfl (lv_at hl 1 rfl) ?_
      refine lv_iconst (v := (2 : Int32)) hx hb dX6_findLiarsToTwo_18 (by decide) ?_
      obtain ⟨h_19, hV⟩ := hV
      refine cp_i (va_runS (As := [.int x1, .int (2 : Int32)]) (rest := []) ⟨hx, hb, hml, hown, hts⟩ (spec_X4_looksStrongly l x1 (2 : Int32) h_19) (va_cwS 2 hts gX6_findLiarsToTwo_X4_looksStrongly rfl rfl rfl (by decide +kernel) ⟨Nat.le_of_ble_eq_true rfl, Nat.le_of_ble_eq_true rfl⟩) cp_pre rfl rfl hl.1 rfl (lv_room (Nat.le_of_ble_eq_true rfl)) dX6_findLiarsToTwo_19 ⟨Nat.zero_le _, Nat.zero_le _⟩) (fun r19 q_19 => ?_)
      have hV := hV r19 q_19
      refine lv_if_eq (tgt := 64) hx hb dX6_findLiarsToTwo_22 (by decide) (fun c_22 => ?_) (fun c_22 => ?_)
      · have hV := hV.1 c_22
        refine lv_iinc (v := x1 + 2) (lv' := [(1, .int (x1 + 2)), (0, .ref (ad 0))]) hx hb dX6_findLiarsToTwo_64 hl (k := 1) rfl rfl (by decide) rfl (fun ls hl => ?_)
        refine lv_goto (tgt := 11) hx hb dX6_findLiarsToTwo_67 (by decide) ?_
        exact oJ11 _ _ _ _ hV _ _ hP hS _ (lv_sub hl [1, 0] rfl)
      · have hV := hV.2 c_22
        refine lv_iload_n hx hb dX6_findLiarsToTwo_25 rfl (lv_at hl 1 rfl) ?_
        obtain ⟨h_26, hV⟩ := hV
        refine cp_i (va_runS (As := [.int x1]) (rest := []) ⟨hx, hb, hml, hown, hts⟩ (spec_X4_isPrime l x1 h_26) (va_cwS 1 hts gX6_findLiarsToTwo_X4_isPrime rfl rfl rfl (by decide +kernel) ⟨Nat.le_of_ble_eq_true rfl, Nat.le_of_ble_eq_true rfl⟩) cp_pre rfl rfl hl.1 rfl (lv_room (Nat.le_of_ble_eq_true rfl)) dX6_findLiarsToTwo_26 ⟨Nat.zero_le _, Nat.zero_le _⟩) (fun r26 q_26 => ?_)
        have hV := hV r26 q_26
        refine lv_if_ne (tgt := 64) hx hb dX6_findLiarsToTwo_29 (by decide) (fun c_29 => ?_) (fun c_29 => ?_)
        · have hV := hV.2 c_29
          refine lv_iinc (v := x1 + 2) (lv' := [(1, .int (x1 + 2)), (0, .ref (ad 0))]) hx hb dX6_findLiarsToTwo_64 hl (k := 1) rfl rfl (by decide) rfl (fun ls hl => ?_)
          refine lv_goto (tgt := 11) hx hb dX6_findLiarsToTwo_67 (by decide) ?_
          exact oJ11 _ _ _ _ hV _ _ hP hS _ (lv_sub hl [1, 0] rfl)
        · have hV := hV.1 c_29
          refine lv_aload_n hx hb dX6_findLiarsToTwo_32 rfl (lv_at hl 0 rfl) ?_
          refine va_get (D := D) (ci := 5) (v := .int (g_ 12)) (C := RX6) (T := TX6) (N := 10) hx hb hts (by decide +kernel) hown hK hP 0 rfl rfl 8 (by decide) (hts (.fieldLink RX6 212 "PowerRests" "liars" "I") (by decide +kernel)) (fun _ h9 => h9) rfl dX6_findLiarsToTwo_33 ?_
          refine lv_aload_n hx hb dX6_findLiarsToTwo_36 rfl (lv_at hl 0 rfl) ?_
          refine va_get (D := D) (ci := 5) (v := .ref (ad 25)) (C := RX6) (T := TX6) (N := 10) hx hb hts (by decide +kernel) hown hK hP 0 rfl rfl 7 (by decide) (hts (.fieldLink RX6 51 "PowerRests" "liarsToTwo" "[I") (by decide +kernel)) (fun _ h9 => h9) rfl dX6_findLiarsToTwo_37 ?_
          refine va_alen (v := (16 : Int32)) hx hb hK hP 25 0 rfl rfl rfl dX6_findLiarsToTwo_40 ?_
          refine lv_icmp_ge (tgt := 64) hx hb dX6_findLiarsToTwo_41 (by decide) (fun c_41 => ?_) (fun c_41 => ?_)
          · have hV := hV.1 c_41
            refine lv_iinc (v := x1 + 2) (lv' := [(1, .int (x1 + 2)), (0, .ref (ad 0))]) hx hb dX6_findLiarsToTwo_64 hl (k := 1) rfl rfl (by decide) rfl (fun ls hl => ?_)
            refine lv_goto (tgt := 11) hx hb dX6_findLiarsToTwo_67 (by decide) ?_
            exact oJ11 _ _ _ _ hV _ _ hP hS _ (lv_sub hl [1, 0] rfl)
          · have hV := hV.2 c_41
            refine lv_aload_n hx hb dX6_findLiarsToTwo_44 rfl (lv_at hl 0 rfl) ?_
            refine va_get (D := D) (ci := 5) (v := .ref (ad 25)) (C := RX6) (T := TX6) (N := 10) hx hb hts (by decide +kernel) hown hK hP 0 rfl rfl 7 (by decide) (hts (.fieldLink RX6 51 "PowerRests" "liarsToTwo" "[I") (by decide +kernel)) (fun _ h9 => h9) rfl dX6_findLiarsToTwo_45 ?_
            refine lv_aload_n hx hb dX6_findLiarsToTwo_48 rfl (lv_at hl 0 rfl) ?_
            refine va_get (D := D) (ci := 5) (v := .int (g_ 12)) (C := RX6) (T := TX6) (N := 10) hx hb hts (by decide +kernel) hown hK hP 0 rfl rfl 8 (by decide) (hts (.fieldLink RX6 212 "PowerRests" "liars" "I") (by decide +kernel)) (fun _ h9 => h9) rfl dX6_findLiarsToTwo_49 ?_
            refine lv_iload_n hx hb dX6_findLiarsToTwo_52 rfl (lv_at hl 1 rfl) ?_
            obtain ⟨h_53, hV⟩ := hV
            refine va_iast (f := (a_ 9)) hx hb hK hP (caD hD) hS 25 0 rfl rfl h_53 dX6_findLiarsToTwo_53 (fun H locs hP _ hS => ?_)
            have hP : va_P D vwCl (caW ad cy g_ (va_up a_ 9 (upd (a_ 9) (g_ 12).toNatClampNeg x1)) w_) H := hP
            refine lv_aload_n hx hb dX6_findLiarsToTwo_54 rfl (lv_at hl 0 rfl) ?_
            refine lv_dup hx hb dX6_findLiarsToTwo_55 rfl ?_
            refine va_get (D := D) (ci := 5) (v := .int (g_ 12)) (C := RX6) (T := TX6) (N := 10) hx hb hts (by decide +kernel) hown hK hP 0 rfl rfl 8 (by decide) (hts (.fieldLink RX6 212 "PowerRests" "liars" "I") (by decide +kernel)) (fun _ h9 => h9) rfl dX6_findLiarsToTwo_56 ?_
            refine lv_iconst (v := (1 : Int32)) hx hb dX6_findLiarsToTwo_59 (by decide) ?_
            refine lv_iadd hx hb dX6_findLiarsToTwo_60 ?_
            refine va_put (D := D) (ci := 5) (v := .int ((g_ 12) + (1 : Int32))) (ty := .int) (C := RX6) (T := TX6) (N := 10) hx hb hts (by decide +kernel) tyX6 tyX6_ok nmX6 hown hK hP (caD hD) hS 0 rfl rfl 8 (by decide) (hts (.fieldLink RX6 212 "PowerRests" "liars" "I") (by decide +kernel)) (fun _ h9 => h9) rfl (by decide +kernel) rfl rfl (Nat.le_of_ble_eq_true rfl) dX6_findLiarsToTwo_61 (fun H locs hP _ hS => ?_)
            have hP : va_P D vwCl (caW ad cy (va_up g_ 12 ((g_ 12) + (1 : Int32))) (va_up a_ 9 (upd (a_ 9) (g_ 12).toNatClampNeg x1)) w_) H := hP
            refine lv_iinc (v := x1 + 2) (lv' := [(1, .int (x1 + 2)), (0, .ref (ad 0))]) hx hb dX6_findLiarsToTwo_64 hl (k := 1) rfl rfl (by decide) rfl (fun ls hl => ?_)
            refine lv_goto (tgt := 11) hx hb dX6_findLiarsToTwo_67 (by decide) ?_
            exact oJ11 _ _ _ _ hV _ _ hP hS _ (lv_sub hl [1, 0] rfl))
  have hl := lv_entry ([.ref (ad 0)]) (n := 2) (Nat.le_of_ble_eq_true rfl)
  rw [lg_entry_eq]
  generalize (lg_sl ([.ref (ad 0)]) ++ List.replicate (2 - (lg_sl ([.ref (ad 0)])).length) Slot.unset).toArray = ls at hl ⊢
  have hl : lv_has ls 2 [(0, .ref (ad 0))] := hl
  refine lv_aload_n hx hb dX6_findLiarsToTwo_0 rfl (lv_at hl 0 rfl) ?_
  refine va_get (D := D) (ci := 5) (v := .int (g 13)) (C := RX6) (T := TX6) (N := 10) hx hb hts (by decide +kernel) hown hK hP 0 rfl rfl 9 (by decide) (hts (.fieldLink RX6 305 "PowerRests" "liarsKnown" "Z") (by decide +kernel)) (fun _ h9 => h9) rfl dX6_findLiarsToTwo_1 ?_
  refine lv_if_eq (tgt := 8) hx hb dX6_findLiarsToTwo_4 (by decide) (fun c_4 => ?_) (fun c_4 => ?_)
  · have hV := hV.1 c_4
    refine lv_bipush (v := (9 : Int32)) hx hb dX6_findLiarsToTwo_8 (by decide) ?_
    refine lv_istore_n (lv' := [(1, .int (9 : Int32)), (0, .ref (ad 0))]) hx hb dX6_findLiarsToTwo_10 rfl hl (by decide) rfl (fun ls hl => ?_)
    exact oJ11 _ _ _ _ hV _ _ hP hS _ (lv_sub hl [1, 0] rfl)
  · have hV := hV.2 c_4
    exact W.vret hx hb hr (fun t ht hW => ⟨⟨(g, a, w), rfl, hV, ar_heap ht hP⟩, hS.F ht⟩) hS.2.2 dX6_findLiarsToTwo_7
def post_X6_findLiarsToTwo (g : Gs) (a : As) (w : Ws) (g' : Gs) (a' : As) (w' : Ws) : Prop := (¬ g' 13 = 0 ∧ LiOk g' a') ∧ LiS g a w g' a' w'
set_option maxRecDepth 4000 in
theorem spec_X6_findLiarsToTwo (l : Launch) (D : va_G) (cy : Nat → ClassId) (ad : Nat → Nat) (sz : Nat) (g : Gs) (a : As) (w : Ws) (hpre : pre_X6_findLiarsToTwo g a w) : Met l yX6_findLiarsToTwo wsX6_findLiarsToTwo ({ frames := 3, cells := 0, slots := 0, locals := 67 } : Room) (va_Pc [.ref (ad 0)] (ArP D cy sz (caW ad cy g a w))) (va_Qv (fun (u : Gs × As × Ws) => (post_X6_findLiarsToTwo g a w) u.1 u.2.1 u.2.2) (fun u t => va_P D vwCl (caW ad cy u.1 u.2.1 u.2.2) t.heap) (va_A (caW ad cy g a w) sz)) 0 0 (va_A (caW ad cy g a w) sz) := by
  apply met_X6_findLiarsToTwo
  intro J hJ
  rcases (show LiInv g a from hpre) with ⟨hz1, hz2⟩ | hk
  · refine ⟨fun _ => ?_, fun q => absurd hz1 q⟩
    have few := fool_few
    have key : ∀ (d k c : Nat) (f : Nat → Int32), 50003 ≤ k + d → k ≤ 50003 → 9 ≤ k → k % 2 = 1 → c = fb_ct (FoolB 2) k → (∀ x, x < k → FoolB 2 x = true → f (fb_ct (FoolB 2) x) = nI x) → J (nI k) (va_up g 12 (nI c)) (va_up a 9 f) w := by
      intro d
      induction d with
      | zero =>
        intro k c f hk hk2 hk9 hko hc hf
        have : k = 50003 := by omega
        subst this
        have e : fb_ct (FoolB 2) 50003 = fb_ct (FoolB 2) 50002 := by
          rw [show 50003 = 50002 + 1 from rfl, fb_ct_succ, show FoolB 2 50002 = false from cb_f (fun q => by have := q.1; omega), if_neg Bool.false_ne_true, Nat.add_zero]
        refine hJ _ _ _ _ (pk_lt 50001 50003 (fun _ => ?_) (fun h => absurd h (by omega)))
        have ok : LiOk (va_up (va_up g 12 (nI c)) 13 1) (va_up a 9 f) := by
          refine ⟨?_, fun x hx hb => ?_⟩
          · rw [up_n _ _ (by omega), up_0, hc, e]
          · rw [up_0]; exact hf x (by omega) hb
        have o13 : ¬ va_up (va_up g 12 (nI c)) 13 1 13 = 0 := by rw [up_0]; decide
        exact ⟨⟨o13, ok⟩, fun i hi => by rw [up_n _ _ (by omega), up_n _ _ (by omega)], fun j hj => up_n _ _ (by omega), rfl, fun _ => Or.inr ⟨o13, ok⟩⟩
      | succ d ih =>
        intro k c f hk hk2 hk9 hko hc hf
        by_cases hk3 : k = 50003
        · exact ih k c f (by omega) hk2 hk9 hko hc hf
        have e2 : fb_ct (FoolB 2) (k + 2) = fb_ct (FoolB 2) k + (if FoolB 2 k = true then 1 else 0) := by
          rw [show k + 2 = k + 1 + 1 from rfl, fb_ct_succ, fb_ct_succ, show FoolB 2 (k + 1) = false from cb_f (fun q => by have := q.1; omega)]
          rfl
        have no : FoolB 2 k = false → J (nI k + 2) (va_up g 12 (nI c)) (va_up a 9 f) w := fun q => by
          rw [nI_2]
          refine ih (k + 2) c f (by omega) (by omega) (by omega) (by omega) (by rw [e2, q, hc]; rfl) (fun x hx hb => ?_)
          by_cases e : x < k
          · exact hf x e hb
          · exfalso
            rcases (show x = k ∨ x = k + 1 by omega) with e | e
            · rw [e, q] at hb; cases hb
            · rw [e, show FoolB 2 (k + 1) = false from cb_f (fun q => by have := q.1; omega)] at hb; cases hb
        refine hJ _ _ _ _ (pk_lt 50001 k (fun h => absurd h (by omega)) (fun _ => ⟨⟨by rw [nI_toInt (by omega)]; omega, by decide⟩, fun r hr => ?_⟩))
        unfold post_X4_looksStrongly at hr
        rw [tn_nI (by omega), show tn (2 : Int32) = 2 from rfl] at hr
        subst hr
        refine ⟨fun q => no (cb_f (fun z => zb_0 q (z.2.2.2 2 (by omega) (by omega)))), fun q => ⟨show (nI k).toInt < 1000000 by rw [nI_toInt (by omega)]; omega, fun r hr => ?_⟩⟩
        unfold post_X4_isPrime at hr
        rw [tn_nI (by omega)] at hr
        subst hr
        refine ⟨fun q2 => ?_, fun q2 => no (cb_f (fun z => z.2.2.1 (zb_1 q2)))⟩
        have yes : FoolB 2 k = true := cb_t ⟨hko, by omega, zb_0 q2, fun y y1 y2 => by
          have : y = 2 := by omega
          subst this; exact zb_1 q⟩
        have hc16 : c < 16 := by
          have h1 := fb_ct_succ (FoolB 2) k
          rw [if_pos yes] at h1
          have h2 := fb_ct_mono (FoolB 2) (show k + 1 ≤ 50002 by omega)
          omega
        rw [up_0, up_0, up_up, up_up, show (nI c).toNatClampNeg = c from tn_nI (by omega)]
        refine pk_le 16 c (fun h => absurd h (by omega)) (fun _ => ⟨pk_in c 16 hc16, ?_⟩)
        rw [nI_2, nI_1]
        refine ih (k + 2) (c + 1) _ (by omega) (by omega) (by omega) (by omega) (by rw [e2, if_pos yes, hc]) (fun x hx hb => ?_)
        by_cases e : x < k
        · have h1 := fb_ct_succ (FoolB 2) x
          rw [if_pos hb] at h1
          have h2 := fb_ct_mono (FoolB 2) (show x + 1 ≤ k by omega)
          rw [pk_un (by omega)]
          exact hf x e hb
        · rcases (show x = k ∨ x = k + 1 by omega) with e | e
          · rw [e, ← hc, pk_us]
          · rw [e, show FoolB 2 (k + 1) = false from cb_f (fun q => by have := q.1; omega)] at hb; cases hb
    have st := key 50000 9 0 (a 9) (by omega) (by omega) (by omega) rfl (fb_ct_zero.mpr (fun x hx => fool_small hx)).symm (fun x hx hb => by rw [fool_small hx] at hb; cases hb)
    rw [up_id] at st
    have eg : va_up g 12 (nI 0) = g := by
      have := up_id g 12
      rw [hz2] at this
      exact this
    rw [eg] at st
    exact st
  · exact ⟨fun q => absurd q hk.1, fun _ => ⟨hk, LiS.rf⟩⟩
def pre_X6_fooled (g : Gs) (a : As) (w : Ws) (p0 p1 p2 : Int32) : Prop := LiInv g a
set_option maxHeartbeats 4000000 in
set_option maxRecDepth 100000 in
theorem met_X6_fooled (l : Launch) (D : va_G) (cy : Nat → ClassId) (ad : Nat → Nat) (sz : Nat) (g : Gs) (a : As) (w : Ws) (p0 : Int32) (p1 : Int32) (p2 : Int32) (post : Int32 → Gs → As → Ws → Prop)
  (hV : ∀ (J39 : Int32 → Int32 → Gs → As → Ws → Prop),
    (∀ (x4 : Int32) (x5 : Int32) (g_ : Gs) (a_ : As) (w_ : Ws), (((g_ 12) ≤ x5 → ((p2 = (-1 : Int32) → post x4 g_ a_ w_) ∧ (¬ p2 = (-1 : Int32) → post (-4 : Int32) g_ a_ w_))) ∧ (¬ (g_ 12) ≤ x5 → vp_in x5 16 ∧ (((p1 < ((a_ 9) x5.toNatClampNeg) → ((p2 = (-1 : Int32) → post x4 g_ a_ w_) ∧ (¬ p2 = (-1 : Int32) → post (-4 : Int32) g_ a_ w_))) ∧ (¬ p1 < ((a_ 9) x5.toNatClampNeg) → vp_in x5 16 ∧ (pre_X6_looksStronglyUpTo ((a_ 9) x5.toNatClampNeg) p0 ∧ (∀ r67 : Int32, post_X6_looksStronglyUpTo ((a_ 9) x5.toNatClampNeg) p0 r67 → ((r67 = 0 → J39 x4 (x5 + 1) g_ a_ w_) ∧ (¬ r67 = 0 → ((x4 = p2 → vp_in x5 16 ∧ (post ((a_ 9) x5.toNatClampNeg) g_ a_ w_)) ∧ (¬ x4 = p2 → J39 (x4 + 1) (x5 + 1) g_ a_ w_))))))))))) → J39 x4 x5 g_ a_ w_) →
    ((p0 < (2 : Int32) → post (-1 : Int32) g a w) ∧ (¬ p0 < (2 : Int32) → (((7 : Int32) < p0 → post (-1 : Int32) g a w) ∧ (¬ (7 : Int32) < p0 → ((p1 < (3 : Int32) → post (-1 : Int32) g a w) ∧ (¬ p1 < (3 : Int32) → (((50001 : Int32) < p1 → post (-1 : Int32) g a w) ∧ (¬ (50001 : Int32) < p1 → (((-1 : Int32) ≤ p2 → pre_X6_findLiarsToTwo g a w ∧ (∀ (g30 : Gs) (a30 : As) (w30 : Ws), post_X6_findLiarsToTwo g a w g30 a30 w30 → J39 (0 : Int32) (0 : Int32) g30 a30 w30)) ∧ (¬ (-1 : Int32) ≤ p2 → post (-1 : Int32) g a w))))))))))) :
  Met l yX6_fooled wsX6_fooled ({ frames := 4, cells := 0, slots := 0, locals := 89 } : Room) (va_Pc [.ref (ad 0), .int p0, .int p1, .int p2] (ArP D cy sz (caW ad cy g a w))) (va_Qi (fun (r : Int32) (u : Gs × As × Ws) => post r u.1 u.2.1 u.2.2) (fun u t => va_P D vwCl (caW ad cy u.1 u.2.1 u.2.2) t.heap) (va_A (caW ad cy g a w) sz)) 0 0 (va_A (caW ad cy g a w) sz) := by
  refine Met.ofW (cc := cX6_fooled) (maxL := 6) (ret := (some .int)) (by decide) rfl ?_
  intro p e s m args below meth c s₁ B hml hv
  obtain ⟨rfl, hsz, hP, hK, hD0, hN⟩ := hv
  have hx := B.exec
  have hb := B.bytes
  have hr := B.returns
  have hts := atoms_spec (ws := wsX6_fooled) B.pre
  have hown : s.vm.findClass RX6 = some m.cls := findClass_of_methodNamed B.named
  have hlocks := B.notSynchronized
  subst hsz
  have hD := hD0.self (sz := s.heap.size)
  have hP : va_P D vwCl (caW ad cy g a w) s.heap := hP
  have hD : va_D (va_A (caW ad cy g a w) s.heap.size) (caW ad cy g a w) := hD
  have hS : va_S (va_A (caW ad cy g a w) s.heap.size) s.heap s.heap [] := va_S.rf
  have hA : ∀ q : Nat, s.heap.size ≤ q → va_A (caW ad cy g a w) s.heap.size q := fun q h => Or.inr h
  obtain ⟨J39, iJ39, oJ39⟩ : ∃ J : Int32 → Int32 → Gs → As → Ws → Prop, (∀ (x4 : Int32) (x5 : Int32) (g_ : Gs) (a_ : As) (w_ : Ws), (∀ (H : Heap) (locs : List Loc), va_P D vwCl (caW ad cy g_ a_ w_) H → va_S (va_A (caW ad cy g a w) s.heap.size) s.heap H locs → ∀ ls : Array Slot, lv_has ls 6 [(0, .ref (ad 0)), (1, .int p0), (2, .int p1), (3, .int p2), (4, .int x4), (5, .int x5)] → W p l e (headSpec wsX6_fooled ({ frames := 4, cells := 0, slots := 0, locals := 89 } : Room)).room s m [.ref (ad 0), .int p0, .int p1, .int p2].toArray below meth c H locs 0 0 (MQ below (va_Qi (fun (r : Int32) (u : Gs × As × Ws) => post r u.1 u.2.1 u.2.2) (fun u t => va_P D vwCl (caW ad cy u.1 u.2.1 u.2.2) t.heap) (va_A (caW ad cy g a w) s.heap.size)) [.ref (ad 0), .int p0, .int p1, .int p2].toArray s 0 0 (va_A (caW ad cy g a w) s.heap.size)) (F0 m 39 ls [])) → J x4 x5 g_ a_ w_) ∧ (∀ (x4 : Int32) (x5 : Int32) (g_ : Gs) (a_ : As) (w_ : Ws), J x4 x5 g_ a_ w_ → (∀ (H : Heap) (locs : List Loc), va_P D vwCl (caW ad cy g_ a_ w_) H → va_S (va_A (caW ad cy g a w) s.heap.size) s.heap H locs → ∀ ls : Array Slot, lv_has ls 6 [(0, .ref (ad 0)), (1, .int p0), (2, .int p1), (3, .int p2), (4, .int x4), (5, .int x5)] → W p l e (headSpec wsX6_fooled ({ frames := 4, cells := 0, slots := 0, locals := 89 } : Room)).room s m [.ref (ad 0), .int p0, .int p1, .int p2].toArray below meth c H locs 0 0 (MQ below (va_Qi (fun (r : Int32) (u : Gs × As × Ws) => post r u.1 u.2.1 u.2.2) (fun u t => va_P D vwCl (caW ad cy u.1 u.2.1 u.2.2) t.heap) (va_A (caW ad cy g a w) s.heap.size)) [.ref (ad 0), .int p0, .int p1, .int p2].toArray s 0 0 (va_A (caW ad cy g a w) s.heap.size)) (F0 m 39 ls []))) := ⟨fun (x4 : Int32) (x5 : Int32) (g_ : Gs) (a_ : As) (w_ : Ws) => (∀ (H : Heap) (locs : List Loc), va_P D vwCl (caW ad cy g_ a_ w_) H → va_S (va_A (caW ad cy g a w) s.heap.size) s.heap H locs → ∀ ls : Array Slot, lv_has ls 6 [(0, .ref (ad 0)), (1, .int p0), (2, .int p1), (3, .int p2), (4, .int x4), (5, .int x5)] → W p l e (headSpec wsX6_fooled ({ frames := 4, cells := 0, slots := 0, locals := 89 } : Room)).room s m [.ref (ad 0), .int p0, .int p1, .int p2].toArray below meth c H locs 0 0 (MQ below (va_Qi (fun (r : Int32) (u : Gs × As × Ws) => post r u.1 u.2.1 u.2.2) (fun u t => va_P D vwCl (caW ad cy u.1 u.2.1 u.2.2) t.heap) (va_A (caW ad cy g a w) s.heap.size)) [.ref (ad 0), .int p0, .int p1, .int p2].toArray s 0 0 (va_A (caW ad cy g a w) s.heap.size)) (F0 m 39 ls [])), fun _ _ _ _ _ h => h, fun _ _ _ _ _ h => h⟩
  have hV := hV J39
  replace hV := hV (by
    intro x4 x5 g_ a_ w_ hV
    refine iJ39 x4 x5 g_ a_ w_ ?_
    intro H locs hP hS ls hl
    refine lv_iload hx hb dX6_fooled_39 (lv_at hl 5 rfl) ?_
    refine lv_aload_n hx hb dX6_fooled_41 rfl (lv_at hl 0 rfl) ?_
    refine va_get (D := D) (ci := 5) (v := .int (g_ 12)) (C := RX6) (T := TX6) (N := 10) hx hb hts (by decide +kernel) hown hK hP 0 rfl rfl 8 (by decide) (hts (.fieldLink RX6 212 "PowerRests" "liars" "I") (by decide +kernel)) (fun _ h9 => h9) rfl dX6_fooled_42 ?_
    refine lv_icmp_ge (tgt := 96) hx hb dX6_fooled_45 (by decide) (fun c_45 => ?_) (fun c_45 => ?_)
    · have hV := hV.1 c_45
      refine lv_iload_n hx hb dX6_fooled_96 rfl (lv_at hl 3 rfl) ?_
      refine lv_iconst (v := (-1 : Int32)) hx hb dX6_fooled_97 (by decide) ?_
      refine lv_icmp_ne (tgt := 106) hx hb dX6_fooled_98 (by decide) (fun c_98 => ?_) (fun c_98 => ?_)
      · have hV := hV.2 c_98
        refine lv_bipush (v := (-4 : Int32)) hx hb dX6_fooled_106 (by decide) ?_
        exact W.iret (v := (-4 : Int32)) hx hb hr (fun t ht hW => ⟨⟨_, (g_, a_, w_), rfl, hV, ar_heap ht hP⟩, hS.F ht⟩) hS.2.2 dX6_fooled_108
      · have hV := hV.1 c_98
        refine lv_iload hx hb dX6_fooled_101 (lv_at hl 4 rfl) ?_
        refine lv_goto (tgt := 108) hx hb dX6_fooled_103 (by decide) ?_
        exact W.iret (v := x4) hx hb hr (fun t ht hW => ⟨⟨_, (g_, a_, w_), rfl, hV, ar_heap ht hP⟩, hS.F ht⟩) hS.2.2 dX6_fooled_108
    · have hV := hV.2 c_45
      refine lv_aload_n hx hb dX6_fooled_48 rfl (lv_at hl 0 rfl) ?_
      refine va_get (D := D) (ci := 5) (v := .ref (ad 25)) (C := RX6) (T := TX6) (N := 10) hx hb hts (by decide +kernel) hown hK hP 0 rfl rfl 7 (by decide) (hts (.fieldLink RX6 51 "PowerRests" "liarsToTwo" "[I") (by decide +kernel)) (fun _ h9 => h9) rfl dX6_fooled_49 ?_
      refine lv_iload hx hb dX6_fooled_52 (lv_at hl 5 rfl) ?_
      obtain ⟨h_54, hV⟩ := hV
      refine va_iald (f := (a_ 9)) hx hb hK hP 25 0 rfl rfl h_54 dX6_fooled_54 ?_
      refine lv_iload_n hx hb dX6_fooled_55 rfl (lv_at hl 2 rfl) ?_
      refine lv_icmp_gt (tgt := 96) hx hb dX6_fooled_56 (by decide) (fun c_56 => ?_) (fun c_56 => ?_)
      · have hV := hV.1 c_56
        refine lv_iload_n hx hb dX6_fooled_96 rfl (lv_at hl 3 rfl) ?_
        refine lv_iconst (v := (-1 : Int32)) hx hb dX6_fooled_97 (by decide) ?_
        refine lv_icmp_ne (tgt := 106) hx hb dX6_fooled_98 (by decide) (fun c_98 => ?_) (fun c_98 => ?_)
        · have hV := hV.2 c_98
          refine lv_bipush (v := (-4 : Int32)) hx hb dX6_fooled_106 (by decide) ?_
          exact W.iret (v := (-4 : Int32)) hx hb hr (fun t ht hW => ⟨⟨_, (g_, a_, w_), rfl, hV, ar_heap ht hP⟩, hS.F ht⟩) hS.2.2 dX6_fooled_108
        · have hV := hV.1 c_98
          refine lv_iload hx hb dX6_fooled_101 (lv_at hl 4 rfl) ?_
          refine lv_goto (tgt := 108) hx hb dX6_fooled_103 (by decide) ?_
          exact W.iret (v := x4) hx hb hr (fun t ht hW => ⟨⟨_, (g_, a_, w_), rfl, hV, ar_heap ht hP⟩, hS.F ht⟩) hS.2.2 dX6_fooled_108
      · have hV := hV.2 c_56
        refine lv_aload_n hx hb dX6_fooled_59 rfl (lv_at hl 0 rfl) ?_
        refine va_get (D := D) (ci := 5) (v := .ref (ad 25)) (C := RX6) (T := TX6) (N := 10) hx hb hts (by decide +kernel) hown hK hP 0 rfl rfl 7 (by decide) (hts (.fieldLink RX6 51 "PowerRests" "liarsToTwo" "[I") (by decide +kernel)) (fun _ h9 => h9) rfl dX6_fooled_60 ?_
        refine lv_iload hx hb dX6_fooled_63 (lv_at hl 5 rfl) ?_
        obtain ⟨h_65, hV⟩ := hV
        refine va_iald (f := (a_ 9)) hx hb hK hP 25 0 rfl rfl h_65 dX6_fooled_65 ?_
        refine lv_iload_n hx hb dX6_fooled_66 rfl (lv_at hl 1 rfl) ?_
        obtain ⟨h_67, hV⟩ := hV
        refine cp_i (va_runS (As := [.int ((a_ 9) x5.toNatClampNeg), .int p0]) (rest := []) ⟨hx, hb, hml, hown, hts⟩ (spec_X6_looksStronglyUpTo l ((a_ 9) x5.toNatClampNeg) p0 h_67) (va_cwS 2 hts gX6_fooled_X6_looksStronglyUpTo rfl rfl rfl (by decide +kernel) ⟨Nat.le_of_ble_eq_true rfl, Nat.le_of_ble_eq_true rfl⟩) cp_pre rfl rfl hl.1 rfl (lv_room (Nat.le_of_ble_eq_true rfl)) dX6_fooled_67 ⟨Nat.zero_le _, Nat.zero_le _⟩) (fun r67 q_67 => ?_)
        have hV := hV r67 q_67
        refine lv_if_eq (tgt := 90) hx hb dX6_fooled_70 (by decide) (fun c_70 => ?_) (fun c_70 => ?_)
        · have hV := hV.1 c_70
          refine lv_iinc (v := x5 + 1) (lv' := [(5, .int (x5 + 1)), (0, .ref (ad 0)), (1, .int p0), (2, .int p1), (3, .int p2), (4, .int x4)]) hx hb dX6_fooled_90 hl (k := 5) rfl rfl (by decide) rfl (fun ls hl => ?_)
          refine lv_goto (tgt := 39) hx hb dX6_fooled_93 (by decide) ?_
          exact oJ39 _ _ _ _ _ hV _ _ hP hS _ (lv_sub hl [1, 2, 3, 4, 5, 0] rfl)
        · have hV := hV.2 c_70
          refine lv_iload hx hb dX6_fooled_73 (lv_at hl 4 rfl) ?_
          refine lv_iload_n hx hb dX6_fooled_75 rfl (lv_at hl 3 rfl) ?_
          refine lv_icmp_ne (tgt := 87) hx hb dX6_fooled_76 (by decide) (fun c_76 => ?_) (fun c_76 => ?_)
          · have hV := hV.2 c_76
            refine lv_iinc (v := x4 + 1) (lv' := [(4, .int (x4 + 1)), (0, .ref (ad 0)), (1, .int p0), (2, .int p1), (3, .int p2), (5, .int x5)]) hx hb dX6_fooled_87 hl (k := 4) rfl rfl (by decide) rfl (fun ls hl => ?_)
            refine lv_iinc (v := x5 + 1) (lv' := [(5, .int (x5 + 1)), (4, .int (x4 + 1)), (0, .ref (ad 0)), (1, .int p0), (2, .int p1), (3, .int p2)]) hx hb dX6_fooled_90 hl (k := 5) rfl rfl (by decide) rfl (fun ls hl => ?_)
            refine lv_goto (tgt := 39) hx hb dX6_fooled_93 (by decide) ?_
            exact oJ39 _ _ _ _ _ hV _ _ hP hS _ (lv_sub hl [2, 3, 4, 5, 1, 0] rfl)
          · have hV := hV.1 c_76
            refine lv_aload_n hx hb dX6_fooled_79 rfl (lv_at hl 0 rfl) ?_
            refine va_get (D := D) (ci := 5) (v := .ref (ad 25)) (C := RX6) (T := TX6) (N := 10) hx hb hts (by decide +kernel) hown hK hP 0 rfl rfl 7 (by decide) (hts (.fieldLink RX6 51 "PowerRests" "liarsToTwo" "[I") (by decide +kernel)) (fun _ h9 => h9) rfl dX6_fooled_80 ?_
            refine lv_iload hx hb dX6_fooled_83 (lv_at hl 5 rfl) ?_
            obtain ⟨h_85, hV⟩ := hV
            refine va_iald (f := (a_ 9)) hx hb hK hP 25 0 rfl rfl h_85 dX6_fooled_85 ?_
            exact W.iret (v := (a_ 9) x5.toNatClampNeg) hx hb hr (fun t ht hW => ⟨⟨_, (g_, a_, w_), rfl, hV, ar_heap ht hP⟩, hS.F ht⟩) hS.2.2 dX6_fooled_86)
  have hl := lv_entry ([.ref (ad 0), .int p0, .int p1, .int p2]) (n := 6) (Nat.le_of_ble_eq_true rfl)
  rw [lg_entry_eq]
  generalize (lg_sl ([.ref (ad 0), .int p0, .int p1, .int p2]) ++ List.replicate (6 - (lg_sl ([.ref (ad 0), .int p0, .int p1, .int p2])).length) Slot.unset).toArray = ls at hl ⊢
  have hl : lv_has ls 6 [(0, .ref (ad 0)), (1, .int p0), (2, .int p1), (3, .int p2)] := hl
  refine lv_iload_n hx hb dX6_fooled_0 rfl (lv_at hl 1 rfl) ?_
  refine lv_iconst (v := (2 : Int32)) hx hb dX6_fooled_1 (by decide) ?_
  refine lv_icmp_lt (tgt := 27) hx hb dX6_fooled_2 (by decide) (fun c_2 => ?_) (fun c_2 => ?_)
  · have hV := hV.1 c_2
    refine lv_iconst (v := (-1 : Int32)) hx hb dX6_fooled_27 (by decide) ?_
    exact W.iret (v := (-1 : Int32)) hx hb hr (fun t ht hW => ⟨⟨_, (g, a, w), rfl, hV, ar_heap ht hP⟩, hS.F ht⟩) hS.2.2 dX6_fooled_28
  · have hV := hV.2 c_2
    refine lv_iload_n hx hb dX6_fooled_5 rfl (lv_at hl 1 rfl) ?_
    refine lv_bipush (v := (7 : Int32)) hx hb dX6_fooled_6 (by decide) ?_
    refine lv_icmp_gt (tgt := 27) hx hb dX6_fooled_8 (by decide) (fun c_8 => ?_) (fun c_8 => ?_)
    · have hV := hV.1 c_8
      refine lv_iconst (v := (-1 : Int32)) hx hb dX6_fooled_27 (by decide) ?_
      exact W.iret (v := (-1 : Int32)) hx hb hr (fun t ht hW => ⟨⟨_, (g, a, w), rfl, hV, ar_heap ht hP⟩, hS.F ht⟩) hS.2.2 dX6_fooled_28
    · have hV := hV.2 c_8
      refine lv_iload_n hx hb dX6_fooled_11 rfl (lv_at hl 2 rfl) ?_
      refine lv_iconst (v := (3 : Int32)) hx hb dX6_fooled_12 (by decide) ?_
      refine lv_icmp_lt (tgt := 27) hx hb dX6_fooled_13 (by decide) (fun c_13 => ?_) (fun c_13 => ?_)
      · have hV := hV.1 c_13
        refine lv_iconst (v := (-1 : Int32)) hx hb dX6_fooled_27 (by decide) ?_
        exact W.iret (v := (-1 : Int32)) hx hb hr (fun t ht hW => ⟨⟨_, (g, a, w), rfl, hV, ar_heap ht hP⟩, hS.F ht⟩) hS.2.2 dX6_fooled_28
      · have hV := hV.2 c_13
        refine lv_iload_n hx hb dX6_fooled_16 rfl (lv_at hl 2 rfl) ?_
        refine lv_ldc (v := (50001 : Int32)) hx hb hown (hts (.constant RX6 208 (50001)) (by decide +kernel)) dX6_fooled_17 ?_
        refine lv_icmp_gt (tgt := 27) hx hb dX6_fooled_19 (by decide) (fun c_19 => ?_) (fun c_19 => ?_)
        · have hV := hV.1 c_19
          refine lv_iconst (v := (-1 : Int32)) hx hb dX6_fooled_27 (by decide) ?_
          exact W.iret (v := (-1 : Int32)) hx hb hr (fun t ht hW => ⟨⟨_, (g, a, w), rfl, hV, ar_heap ht hP⟩, hS.F ht⟩) hS.2.2 dX6_fooled_28
        · have hV := hV.2 c_19
          refine lv_iload_n hx hb dX6_fooled_22 rfl (lv_at hl 3 rfl) ?_
          refine lv_iconst (v := (-1 : Int32)) hx hb dX6_fooled_23 (by decide) ?_
          refine lv_icmp_ge (tgt := 29) hx hb dX6_fooled_24 (by decide) (fun c_24 => ?_) (fun c_24 => ?_)
          · have hV := hV.1 c_24
            refine lv_aload_n hx hb dX6_fooled_29 rfl (lv_at hl 0 rfl) ?_
            obtain ⟨h_30, hV⟩ := hV
            refine cw_v (va_runV (As := []) (rest := []) ⟨hx, hb, hml, hown, hts⟩ (spec_X6_findLiarsToTwo l D cy ad _ g a w h_30) (cwV 0 hts gX6_fooled_X6_findLiarsToTwo rfl rfl rfl (by decide +kernel) ⟨Nat.le_of_ble_eq_true rfl, Nat.le_of_ble_eq_true rfl⟩) (ar_preV hN hK hP (caD hD) (ci := 5) (q0 := 0) rfl rfl) rfl rfl hl.1 rfl (lv_room (Nat.le_of_ble_eq_true rfl)) dX6_fooled_30 ⟨Nat.zero_le _, Nat.zero_le _⟩) hS (caD hD) hA (fun u_30 H locs q_30 hP hS => ?_)
            obtain ⟨g30, a30, w30⟩ := u_30
            have hV := hV g30 a30 w30 q_30
            have hP : va_P D vwCl (caW ad cy g30 a30 w30) H := hP
            refine lv_iconst (v := (0 : Int32)) hx hb dX6_fooled_33 (by decide) ?_
            refine lv_istore (lv' := [(4, .int (0 : Int32)), (0, .ref (ad 0)), (1, .int p0), (2, .int p1), (3, .int p2)]) hx hb dX6_fooled_34 hl (by decide) rfl (fun ls hl => ?_)
            refine lv_iconst (v := (0 : Int32)) hx hb dX6_fooled_36 (by decide) ?_
            refine lv_istore (lv' := [(5, .int (0 : Int32)), (4, .int (0 : Int32)), (0, .ref (ad 0)), (1, .int p0), (2, .int p1), (3, .int p2)]) hx hb dX6_fooled_37 hl (by decide) rfl (fun ls hl => ?_)
            exact oJ39 _ _ _ _ _ hV _ _ hP hS _ (lv_sub hl [2, 3, 4, 5, 1, 0] rfl)
          · have hV := hV.2 c_24
            refine lv_iconst (v := (-1 : Int32)) hx hb dX6_fooled_27 (by decide) ?_
            exact W.iret (v := (-1 : Int32)) hx hb hr (fun t ht hW => ⟨⟨_, (g, a, w), rfl, hV, ar_heap ht hP⟩, hS.F ht⟩) hS.2.2 dX6_fooled_28
def post_X6_fooled (g : Gs) (a : As) (w : Ws) (p0 p1 p2 r : Int32) (g' : Gs) (a' : As) (w' : Ws) : Prop := FoolAns p0 p1 p2 r ∧ LiS g a w g' a' w'
set_option maxRecDepth 4000 in
theorem spec_X6_fooled (l : Launch) (D : va_G) (cy : Nat → ClassId) (ad : Nat → Nat) (sz : Nat) (g : Gs) (a : As) (w : Ws) (p0 : Int32) (p1 : Int32) (p2 : Int32) (hpre : pre_X6_fooled g a w p0 p1 p2) : Met l yX6_fooled wsX6_fooled ({ frames := 4, cells := 0, slots := 0, locals := 89 } : Room) (va_Pc [.ref (ad 0), .int p0, .int p1, .int p2] (ArP D cy sz (caW ad cy g a w))) (va_Qi (fun (r : Int32) (u : Gs × As × Ws) => (post_X6_fooled g a w p0 p1 p2) r u.1 u.2.1 u.2.2) (fun u t => va_P D vwCl (caW ad cy u.1 u.2.1 u.2.2) t.heap) (va_A (caW ad cy g a w) sz)) 0 0 (va_A (caW ad cy g a w) sz) := by
  apply met_X6_fooled
  intro J hJ
  have hL : LiInv g a := hpre
  have e2 : (2 : Int32).toInt = 2 := rfl
  have e7 : (7 : Int32).toInt = 7 := rfl
  have e3 : (3 : Int32).toInt = 3 := rfl
  have e5 : (50001 : Int32).toInt = 50001 := rfl
  have hm1 : (-1 : Int32).toInt = -1 := rfl
  refine ⟨fun h => ⟨Or.inl ⟨Or.inl (by rw [i_lt, e2] at h; exact h), rfl⟩, LiS.rf⟩, fun h => ⟨fun h2 => ⟨Or.inl ⟨Or.inr (Or.inl (by rw [i_lt, e7] at h2; exact h2)), rfl⟩, LiS.rf⟩, fun h2 => ⟨fun h3 => ⟨Or.inl ⟨Or.inr (Or.inr (Or.inl (by rw [i_lt, e3] at h3; exact h3))), rfl⟩, LiS.rf⟩, fun h3 => ⟨fun h4 => ⟨Or.inl ⟨Or.inr (Or.inr (Or.inr (Or.inl (by rw [i_lt, e5] at h4; exact h4)))), rfl⟩, LiS.rf⟩, fun h4 => ⟨fun h5 => ⟨hL, fun g1 a1 w1 hfl => ?_⟩, fun h5 => ⟨Or.inl ⟨Or.inr (Or.inr (Or.inr (Or.inr (by rw [i_le, hm1] at h5; omega)))), rfl⟩, LiS.rf⟩⟩⟩⟩⟩⟩
  rw [i_lt, e2] at h
  rw [i_lt, e7] at h2
  rw [i_lt, e3] at h3
  rw [i_lt, e5] at h4
  rw [i_le, hm1] at h5
  obtain ⟨⟨-, hc, hrow⟩, hLS⟩ := hfl
  have few := fool_few
  obtain ⟨t, ht, rfl, ht2⟩ := of_i (x := p0) (by omega)
  obtain ⟨m, hm, rfl, hm2⟩ := of_i (x := p1) (by omega)
  have tnm : tn (nI m) = m := tn_nI hm
  have tnt : tn (nI t) = t := tn_nI ht
  have hsub : ∀ z, FoolB t z = true → FoolB 2 z = true := fun z hz => by
    obtain ⟨q1, q2, q3, q4⟩ := cb_of hz
    exact cb_t ⟨q1, q2, q3, fun y y1 y2 => q4 y y1 (by omega)⟩
  have good : ∀ r, Ith (FoolB t) (m + 1) p2 r → post_X6_fooled g a w (nI t) (nI m) p2 r g1 a1 w1 := fun r hr => ⟨Or.inr ⟨⟨by omega, by omega, by omega, by omega, h5⟩, by rw [tnm, tnt]; exact hr⟩, hLS⟩
  have ends : ∀ f, f = fb_ct (FoolB t) (m + 1) → (0 ≤ p2.toInt → (f : Int) ≤ p2.toInt) → ((p2 = -1 → post_X6_fooled g a w (nI t) (nI m) p2 (nI f) g1 a1 w1) ∧ (¬ p2 = -1 → post_X6_fooled g a w (nI t) (nI m) p2 (-4) g1 a1 w1)) := by
    intro f hf hfi
    refine ⟨fun e => good _ (Or.inl ⟨e, by rw [hf]⟩), fun e => good _ (Or.inr (Or.inr ⟨?_, ?_, rfl⟩))⟩
    · have : p2.toInt ≠ -1 := fun q => e (i_m1.mp q)
      omega
    · have : p2.toInt ≠ -1 := fun q => e (i_m1.mp q)
      rw [← hf]
      exact hfi (by omega)
  have key : ∀ (d k X f : Nat), k + d = fb_ct (FoolB 2) 50002 → X ≤ m + 1 → fb_ct (FoolB 2) X = k → f = fb_ct (FoolB t) X → (0 ≤ p2.toInt → (f : Int) ≤ p2.toInt) → J (nI f) (nI k) g1 a1 w1 := by
    intro d
    induction d with
    | zero =>
      intro k X f hk hX hkX hf hfi
      refine hJ _ _ _ _ _ (pk_le (fb_ct (FoolB 2) 50002) k (fun _ => ends f ?_ hfi) (fun h => absurd h (by omega)) hc)
      rw [hf]
      have h1 := fb_ct_mono (FoolB 2) hX
      have h2 := fb_ct_mono (FoolB 2) (show m + 1 ≤ 50002 by omega)
      exact ct_flat hX (by omega) hsub
    | succ d ih =>
      intro k X f hk hX hkX hf hfi
      obtain ⟨x, x1, x2, x3⟩ := fb_ct_kth (p := FoolB 2) (k := k) (n := 50002) (by omega)
      have hXx : X ≤ x := Nat.not_lt.mp fun q => by
        have h1 := fb_ct_succ (FoolB 2) x
        rw [if_pos x2] at h1
        have h2 := fb_ct_mono (FoolB 2) (show x + 1 ≤ X by omega)
        omega
      have hfx : f = fb_ct (FoolB t) x := by rw [hf]; exact ct_flat hXx (by omega) hsub
      have hin : vp_in (nI k) 16 := pk_in k 16 (by omega)
      have hft := fb_ct_le (FoolB t) x
      refine hJ _ _ _ _ _ (pk_le (fb_ct (FoolB 2) 50002) k (fun h => absurd h (by omega)) (fun _ => ⟨hin, ?_⟩) hc)
      have er : a1 9 k = nI x := by rw [← x3]; exact hrow x x1 x2
      rw [show (nI k).toNatClampNeg = k from tn_nI (by omega), er]
      refine pk_lt m x (fun q => ends f ?_ hfi) (fun q => ⟨hin, ⟨by rw [nI_toInt (by omega)]; have := (cb_of x2).2.1; omega, by omega, by omega⟩, fun r hr => ?_⟩)
      · rw [hf]
        have h1 := fb_ct_mono (FoolB 2) hX
        have h2 := fb_ct_mono (FoolB 2) (show m + 1 ≤ x by omega)
        exact ct_flat hX (by omega) hsub
      · unfold post_X6_looksStronglyUpTo at hr
        rw [tnt, tn_nI (by omega)] at hr
        subst hr
        have e1 := fb_ct_succ (FoolB 2) x
        rw [if_pos x2] at e1
        have e2 := fb_ct_succ (FoolB t) x
        obtain ⟨q1, q2, q3, q4⟩ := cb_of x2
        refine ⟨fun c => ?_, fun c => ?_⟩
        · have no : FoolB t x = false := cb_f (fun z => zb_0 c (fun y y1 y2 => z.2.2.2 y (by omega) y2))
          rw [nI_1]
          exact ih (k + 1) (x + 1) f (by omega) (by omega) (by omega) (by rw [e2, no, ← hfx]; rfl) hfi
        · have yes : FoolB t x = true := cb_t ⟨q1, q2, q3, fun y y1 y2 => by
            by_cases e : y = 2
            · subst e; exact q4 2 (by omega) (by omega)
            · exact zb_1 c y (by omega) y2⟩
          have ft : (nI f).toInt = (f : Int) := nI_toInt (by omega)
          rw [nI_1, nI_1]
          refine ⟨fun e => ⟨hin, good _ (Or.inr (Or.inl ⟨by rw [← e, ft]; omega, x, by omega, yes, by rw [← e, ft, hfx], rfl⟩))⟩, fun e => ih (k + 1) (x + 1) (f + 1) (by omega) (by omega) (by omega) (by rw [e2, if_pos yes, ← hfx]) (fun h => ?_)⟩
          have a1 := hfi h
          have a2 : (f : Int) ≠ p2.toInt := fun q => e (i_eq.mpr (by rw [ft]; exact q))
          omega
  exact key (fb_ct (FoolB 2) 50002) 0 0 0 (by omega) (by omega) rfl rfl (fun h => h)
