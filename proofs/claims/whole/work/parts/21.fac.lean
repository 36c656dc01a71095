def un (P T : Nat → Nat) (i : Nat) : Nat := P i ^ T i - P i ^ T i / P i
def cyF (P T : Nat → Nat) (i : Nat) : Nat := if P i = 2 ∧ 2 < T i then un P T i / 2 else un P T i
def lcmF (f : Nat → Nat) : Nat → Nat
  | 0 => 1
  | k + 1 => Nat.lcm (lcmF f k) (f k)
def rooA (e : Nat) (P T : Nat → Nat) (i : Nat) : Nat := if P i = 2 ∧ 2 < T i then Nat.gcd e 2 * Nat.gcd e (un P T i / 2) else Nat.gcd e (un P T i)
theorem un_eq {P T : Nat → Nat} {i : Nat} (hp : 2 ≤ P i) (ht : 1 ≤ T i) : un P T i = P i ^ (T i - 1) * (P i - 1) := by
  obtain ⟨s, hs⟩ : ∃ s, T i = s + 1 := ⟨T i - 1, by omega⟩
  unfold un
  rw [hs, Nat.pow_succ, Nat.mul_div_cancel _ (by omega), Nat.add_sub_cancel, Nat.mul_sub, Nat.mul_one]
theorem un_b {P T : Nat → Nat} {i : Nat} (hp : 2 ≤ P i) : 1 ≤ un P T i ∧ un P T i ≤ P i ^ T i := by
  have h1 : 1 ≤ P i ^ T i := Nat.pow_pos (by omega)
  have h2 : P i ^ T i / P i < P i ^ T i := Nat.div_lt_self h1 (by omega)
  exact ⟨Nat.sub_pos_of_lt h2, Nat.sub_le _ _⟩
theorem cy_b {P T : Nat → Nat} {i : Nat} (hp : 2 ≤ P i) (ht : 1 ≤ T i) : 1 ≤ cyF P T i ∧ cyF P T i ≤ un P T i := by
  unfold cyF
  by_cases h : P i = 2 ∧ 2 < T i
  · rw [if_pos h]
    have h1 := un_eq (P := P) (T := T) hp ht
    have h2 : 2 ^ 2 ≤ 2 ^ (T i - 1) := Nat.pow_le_pow_right (by decide) (by omega)
    rw [h.1] at h1
    have h3 : (2 : Nat) ^ 2 = 4 := rfl
    omega
  · rw [if_neg h]
    exact ⟨(un_b hp).1, Nat.le_refl _⟩
theorem roo_b {e : Nat} {P T : Nat → Nat} {i : Nat} (hp : 2 ≤ P i) (ht : 1 ≤ T i) : 1 ≤ rooA e P T i ∧ rooA e P T i ≤ un P T i := by
  have hc := cy_b (P := P) (T := T) hp ht
  have hu := un_b (P := P) (T := T) hp
  unfold rooA
  unfold cyF at hc
  by_cases h : P i = 2 ∧ 2 < T i
  · rw [if_pos h] at hc ⊢
    have h1 : Nat.gcd e 2 ≤ 2 := Nat.gcd_le_right e (by decide)
    have h2 := Nat.gcd_le_right e (show 0 < un P T i / 2 by omega)
    have h3 := Nat.gcd_pos_of_pos_right e (show 0 < 2 by decide)
    have h4 := Nat.gcd_pos_of_pos_right e (show 0 < un P T i / 2 by omega)
    refine ⟨Nat.mul_pos h3 h4, Nat.le_trans (Nat.mul_le_mul h1 h2) ?_⟩
    omega
  · rw [if_neg h] at hc ⊢
    exact ⟨Nat.gcd_pos_of_pos_right e (by omega), Nat.gcd_le_right e (by omega)⟩
theorem lcmF_pos {f : Nat → Nat} : ∀ {m : Nat}, (∀ i, i < m → 1 ≤ f i) → 1 ≤ lcmF f m
  | 0, _ => Nat.le_refl 1
  | m + 1, h => Nat.lcm_pos (lcmF_pos (fun i hi => h i (by omega))) (h m (by omega))
theorem lcmF_le {f : Nat → Nat} : ∀ {m : Nat}, (∀ i, i < m → 1 ≤ f i) → lcmF f m ≤ prodF f m
  | 0, _ => Nat.le_refl 1
  | m + 1, h => by
    have h1 := lcmF_le (f := f) (m := m) (fun i hi => h i (by omega))
    have h2 := lcmF_pos (f := f) (m := m) (fun i hi => h i (by omega))
    exact Nat.le_trans (Nat.lcm_le_mul h2 (h m (by omega))) (Nat.mul_le_mul_right _ h1)
theorem fac_pr {n : Nat} {P T : Nat → Nat} {m : Nat} (h : FacF n P T m) {k : Nat} (hk : k ≤ m) {f : Nat → Nat} (hf : ∀ i, i < m → 1 ≤ f i ∧ f i ≤ P i ^ T i) : prodF f k ≤ n := by
  refine Nat.le_trans (prodF_mono (f := f) hk (fun i hi => (hf i hi).1)) ?_
  rw [h.1]
  exact prodF_le (fun i hi => (hf i hi).2)
theorem fac_un {n : Nat} {P T : Nat → Nat} {m : Nat} (h : FacF n P T m) : ∀ i, i < m → 1 ≤ un P T i ∧ un P T i ≤ P i ^ T i := fun i hi => un_b (h.2.1 i hi).1.1
theorem fac_cy {n : Nat} {P T : Nat → Nat} {m : Nat} (h : FacF n P T m) : ∀ i, i < m → 1 ≤ cyF P T i ∧ cyF P T i ≤ P i ^ T i := fun i hi => by
  have h1 := cy_b (P := P) (T := T) (h.2.1 i hi).1.1 (h.2.1 i hi).2
  have h2 := fac_un h i hi
  omega
theorem fac_roo {n e : Nat} {P T : Nat → Nat} {m : Nat} (h : FacF n P T m) : ∀ i, i < m → 1 ≤ rooA e P T i ∧ rooA e P T i ≤ P i ^ T i := fun i hi => by
  have h1 := roo_b (e := e) (P := P) (T := T) (h.2.1 i hi).1.1 (h.2.1 i hi).2
  have h2 := fac_un h i hi
  omega
/-- what the rows say at a place -/
theorem Fac.at {b n : Nat} {g : Gs} {a : As} (h : Fac b n g a) {k : Nat} (hk : k < tn (g b)) : vp_in (nI k) 8 ∧ tn (nI k) = k ∧ a b k = nI (PP b a k) ∧ a (b + 2) k = nI (TT b a k) ∧ 2 ≤ PP b a k ∧ 1 ≤ TT b a k ∧ PP b a k ^ TT b a k ≤ 100000 ∧ PP b a k ≤ 100000 ∧ TT b a k ≤ 100000 := by
  have h7 := h.few
  have h1 := fac_at h.1 hk
  have h2 := h.2.1
  obtain ⟨h3, h4⟩ := h.2.2.2 k hk
  exact ⟨pk_in k 8 (by omega), tn_nI (by omega), h3, h4, h1.2.1, h1.2.2.1, by omega, by omega, by omega⟩
def pre_X0_sharesWith (b : Nat) (g : Gs) (a : As) (w : Ws) (p0 : Int32) : Prop := 0 ≤ p0.toInt ∧ ∃ n, Fac b n g a
set_option maxHeartbeats 4000000 in
set_option maxRecDepth 100000 in
theorem met_X0_sharesWith (l : Launch) (b : Nat) (hb2 : b < 2) (D : va_G) (cy : Nat → ClassId) (ad : Nat → Nat) (sz : Nat) (g : Gs) (a : As) (w : Ws) (p0 : Int32) (post : Int32 → Prop)
  (hV : ∀ (J2 : Int32 → Prop),
    (∀ (x2 : Int32), (((g b) ≤ x2 → post (0 : Int32)) ∧ (¬ (g b) ≤ x2 → vp_in x2 8 ∧ (∀ r18 : Int32, post_X4_rest p0.toInt64 ((a b) x2.toNatClampNeg) r18 → ((r18 = 0 → post (1 : Int32)) ∧ (¬ r18 = 0 → J2 (x2 + 1)))))) → J2 x2) →
    J2 (0 : Int32)) :
  Met l yX0_sharesWith wsX0_sharesWith ({ frames := 1, cells := 0, slots := 0, locals := 22 } : Room) (va_Pc [.ref (ad (1 + 3 * b)), .int p0] (ArP D cy sz (caW ad cy g a w))) (Qpi post) 0 0 noF := by
  match b, hb2 with
  | 0, _ =>
    refine Met.ofW (cc := cX0_sharesWith) (maxL := 3) (ret := (some .boolean)) (by decide) rfl ?_
    intro p e s m args below meth c s₁ B hml hv
    obtain ⟨rfl, hsz, hP, hK, hD0, hN⟩ := hv
    have hx := B.exec
    have hb := B.bytes
    have hr := B.returns
    have hts := atoms_spec (ws := wsX0_sharesWith) B.pre
    have hown : s.vm.findClass RX0 = some m.cls := findClass_of_methodNamed B.named
    have hlocks := B.notSynchronized
    subst hsz
    have hP : va_P D vwCl (caW ad cy g a w) s.heap := hP
    have hD : va_D (fun _ => True) (caW ad cy g a w) := hD0
    obtain ⟨J2, iJ2, oJ2⟩ : ∃ J : Int32 → Prop, (∀ (x2 : Int32), (∀ ls : Array Slot, lv_has ls 3 [(0, .ref (ad 1)), (1, .int p0), (2, .int x2)] → W p l e (headSpec wsX0_sharesWith ({ frames := 1, cells := 0, slots := 0, locals := 22 } : Room)).room s m [.ref (ad 1), .int p0].toArray below meth c s.heap [] 0 0 (MQ below (Qpi post) [.ref (ad 1), .int p0].toArray s 0 0 noF) (F0 m 2 ls [])) → J x2) ∧ (∀ (x2 : Int32), J x2 → (∀ ls : Array Slot, lv_has ls 3 [(0, .ref (ad 1)), (1, .int p0), (2, .int x2)] → W p l e (headSpec wsX0_sharesWith ({ frames := 1, cells := 0, slots := 0, locals := 22 } : Room)).room s m [.ref (ad 1), .int p0].toArray below meth c s.heap [] 0 0 (MQ below (Qpi post) [.ref (ad 1), .int p0].toArray s 0 0 noF) (F0 m 2 ls []))) := ⟨fun (x2 : Int32) => (∀ ls : Array Slot, lv_has ls 3 [(0, .ref (ad 1)), (1, .int p0), (2, .int x2)] → W p l e (headSpec wsX0_sharesWith ({ frames := 1, cells := 0, slots := 0, locals := 22 } : Room)).room s m [.ref (ad 1), .int p0].toArray below meth c s.heap [] 0 0 (MQ below (Qpi post) [.ref (ad 1), .int p0].toArray s 0 0 noF) (F0 m 2 ls [])), fun _ h => h, fun _ h => h⟩
    have hV := hV J2
    replace hV := hV (by
      intro x2 hV
      refine iJ2 x2 ?_
      intro ls hl
      refine lv_iload_n hx hb dX0_sharesWith_2 rfl (lv_at hl 2 rfl) ?_
      refine lv_aload_n hx hb dX0_sharesWith_3 rfl (lv_at hl 0 rfl) ?_
      refine va_get (D := D) (ci := 0) (v := .int (g 0)) (C := RX0) (T := TX0) (N := 3) hx hb hts (by decide +kernel) hown hK hP 1 rfl rfl 2 (by decide) (hts (.fieldLink RX0 16 "PowerRests$Factors" "kinds" "I") (by decide +kernel)) (fun _ h9 => h9) rfl dX0_sharesWith_4 ?_
      refine lv_icmp_ge (tgt := 32) hx hb dX0_sharesWith_7 (by decide) (fun c_7 => ?_) (fun c_7 => ?_)
      · have hV := hV.1 c_7
        refine lv_iconst (v := (0 : Int32)) hx hb dX0_sharesWith_32 (by decide) ?_
        exact W.zret (v := (0 : Int32)) hx hb hr rfl (fun t ht hW => ⟨_, rfl, hV, ht⟩) (fun _ h => by cases h) dX0_sharesWith_33
      · have hV := hV.2 c_7
        refine lv_iload_n hx hb dX0_sharesWith_10 rfl (lv_at hl 1 rfl) ?_
        refine lv_i2l (v := p0.toInt64) hx hb dX0_sharesWith_11 rfl ?_
        refine lv_aload_n hx hb dX0_sharesWith_12 rfl (lv_at hl 0 rfl) ?_
        refine va_get (D := D) (ci := 0) (v := .ref (ad 2)) (C := RX0) (T := TX0) (N := 3) hx hb hts (by decide +kernel) hown hK hP 1 rfl rfl 0 (by decide) (hts (.fieldLink RX0 9 "PowerRests$Factors" "primes" "[I") (by decide +kernel)) (fun _ h9 => h9) rfl dX0_sharesWith_13 ?_
        refine lv_iload_n hx hb dX0_sharesWith_16 rfl (lv_at hl 2 rfl) ?_
        obtain ⟨h_17, hV⟩ := hV
        refine va_iald (f := (a 0)) hx hb hK hP 2 0 rfl rfl h_17 dX0_sharesWith_17 ?_
        refine cp_i (va_runS (As := [.long p0.toInt64, .int ((a 0) x2.toNatClampNeg)]) (rest := []) ⟨hx, hb, hml, hown, hts⟩ (spec_X4_rest l p0.toInt64 ((a 0) x2.toNatClampNeg)) (va_cwS 2 hts gX0_sharesWith_X4_rest rfl rfl rfl (by decide +kernel) ⟨Nat.le_of_ble_eq_true rfl, Nat.le_of_ble_eq_true rfl⟩) cp_pre rfl rfl hl.1 rfl (lv_room (Nat.le_of_ble_eq_true rfl)) dX0_sharesWith_18 ⟨Nat.zero_le _, Nat.zero_le _⟩) (fun r18 q_18 => ?_)
        have hV := hV r18 q_18
        refine lv_if_ne (tgt := 26) hx hb dX0_sharesWith_21 (by decide) (fun c_21 => ?_) (fun c_21 => ?_)
        · have hV := hV.2 c_21
          refine lv_iinc (v := x2 + 1) (lv' := [(2, .int (x2 + 1)), (0, .ref (ad 1)), (1, .int p0)]) hx hb dX0_sharesWith_26 hl (k := 2) rfl rfl (by decide) rfl (fun ls hl => ?_)
          refine lv_goto (tgt := 2) hx hb dX0_sharesWith_29 (by decide) ?_
          exact oJ2 _ hV _ (lv_sub hl [1, 2, 0] rfl)
        · have hV := hV.1 c_21
          refine lv_iconst (v := (1 : Int32)) hx hb dX0_sharesWith_24 (by decide) ?_
          exact W.zret (v := (1 : Int32)) hx hb hr rfl (fun t ht hW => ⟨_, rfl, hV, ht⟩) (fun _ h => by cases h) dX0_sharesWith_25)
    have hl := lv_entry ([.ref (ad 1), .int p0]) (n := 3) (Nat.le_of_ble_eq_true rfl)
    rw [lg_entry_eq]
    generalize (lg_sl ([.ref (ad 1), .int p0]) ++ List.replicate (3 - (lg_sl ([.ref (ad 1), .int p0])).length) Slot.unset).toArray = ls at hl ⊢
    have hl : lv_has ls 3 [(0, .ref (ad 1)), (1, .int p0)] := hl
    refine lv_iconst (v := (0 : Int32)) hx hb dX0_sharesWith_0 (by decide) ?_
    refine lv_istore_n (lv' := [(2, .int (0 : Int32)), (0, .ref (ad 1)), (1, .int p0)]) hx hb dX0_sharesWith_1 rfl hl (by decide) rfl (fun ls hl => ?_)
    exact oJ2 _ hV _ (lv_sub hl [1, 2, 0] rfl)
  | 1, _ =>
    refine Met.ofW (cc := cX0_sharesWith) (maxL := 3) (ret := (some .boolean)) (by decide) rfl ?_
    intro p e s m args below meth c s₁ B hml hv
    obtain ⟨rfl, hsz, hP, hK, hD0, hN⟩ := hv
    have hx := B.exec
    have hb := B.bytes
    have hr := B.returns
    have hts := atoms_spec (ws := wsX0_sharesWith) B.pre
    have hown : s.vm.findClass RX0 = some m.cls := findClass_of_methodNamed B.named
    have hlocks := B.notSynchronized
    subst hsz
    have hP : va_P D vwCl (caW ad cy g a w) s.heap := hP
    have hD : va_D (fun _ => True) (caW ad cy g a w) := hD0
    obtain ⟨J2, iJ2, oJ2⟩ : ∃ J : Int32 → Prop, (∀ (x2 : Int32), (∀ ls : Array Slot, lv_has ls 3 [(0, .ref (ad 4)), (1, .int p0), (2, .int x2)] → W p l e (headSpec wsX0_sharesWith ({ frames := 1, cells := 0, slots := 0, locals := 22 } : Room)).room s m [.ref (ad 4), .int p0].toArray below meth c s.heap [] 0 0 (MQ below (Qpi post) [.ref (ad 4), .int p0].toArray s 0 0 noF) (F0 m 2 ls [])) → J x2) ∧ (∀ (x2 : Int32), J x2 → (∀ ls : Array Slot, lv_has ls 3 [(0, .ref (ad 4)), (1, .int p0), (2, .int x2)] → W p l e (headSpec wsX0_sharesWith ({ frames := 1, cells := 0, slots := 0, locals := 22 } : Room)).room s m [.ref (ad 4), .int p0].toArray below meth c s.heap [] 0 0 (MQ below (Qpi post) [.ref (ad 4), .int p0].toArray s 0 0 noF) (F0 m 2 ls []))) := ⟨fun (x2 : Int32) => (∀ ls : Array Slot, lv_has ls 3 [(0, .ref (ad 4)), (1, .int p0), (2, .int x2)] → W p l e (headSpec wsX0_sharesWith ({ frames := 1, cells := 0, slots := 0, locals := 22 } : Room)).room s m [.ref (ad 4), .int p0].toArray below meth c s.heap [] 0 0 (MQ below (Qpi post) [.ref (ad 4), .int p0].toArray s 0 0 noF) (F0 m 2 ls [])), fun _ h => h, fun _ h => h⟩
    have hV := hV J2
    replace hV := hV (by
      intro x2 hV
      refine iJ2 x2 ?_
      intro ls hl
      refine lv_iload_n hx hb dX0_sharesWith_2 rfl (lv_at hl 2 rfl) ?_
      refine lv_aload_n hx hb dX0_sharesWith_3 rfl (lv_at hl 0 rfl) ?_
      refine va_get (D := D) (ci := 0) (v := .int (g 1)) (C := RX0) (T := TX0) (N := 3) hx hb hts (by decide +kernel) hown hK hP 4 rfl rfl 2 (by decide) (hts (.fieldLink RX0 16 "PowerRests$Factors" "kinds" "I") (by decide +kernel)) (fun _ h9 => h9) rfl dX0_sharesWith_4 ?_
      refine lv_icmp_ge (tgt := 32) hx hb dX0_sharesWith_7 (by decide) (fun c_7 => ?_) (fun c_7 => ?_)
      · have hV := hV.1 c_7
        refine lv_iconst (v := (0 : Int32)) hx hb dX0_sharesWith_32 (by decide) ?_
        exact W.zret (v := (0 : Int32)) hx hb hr rfl (fun t ht hW => ⟨_, rfl, hV, ht⟩) (fun _ h => by cases h) dX0_sharesWith_33
      · have hV := hV.2 c_7
        refine lv_iload_n hx hb dX0_sharesWith_10 rfl (lv_at hl 1 rfl) ?_
        refine lv_i2l (v := p0.toInt64) hx hb dX0_sharesWith_11 rfl ?_
        refine lv_aload_n hx hb dX0_sharesWith_12 rfl (lv_at hl 0 rfl) ?_
        refine va_get (D := D) (ci := 0) (v := .ref (ad 5)) (C := RX0) (T := TX0) (N := 3) hx hb hts (by decide +kernel) hown hK hP 4 rfl rfl 0 (by decide) (hts (.fieldLink RX0 9 "PowerRests$Factors" "primes" "[I") (by decide +kernel)) (fun _ h9 => h9) rfl dX0_sharesWith_13 ?_
        refine lv_iload_n hx hb dX0_sharesWith_16 rfl (lv_at hl 2 rfl) ?_
        obtain ⟨h_17, hV⟩ := hV
        refine va_iald (f := (a 1)) hx hb hK hP 5 0 rfl rfl h_17 dX0_sharesWith_17 ?_
        refine cp_i (va_runS (As := [.long p0.toInt64, .int ((a 1) x2.toNatClampNeg)]) (rest := []) ⟨hx, hb, hml, hown, hts⟩ (spec_X4_rest l p0.toInt64 ((a 1) x2.toNatClampNeg)) (va_cwS 2 hts gX0_sharesWith_X4_rest rfl rfl rfl (by decide +kernel) ⟨Nat.le_of_ble_eq_true rfl, Nat.le_of_ble_eq_true rfl⟩) cp_pre rfl rfl hl.1 rfl (lv_room (Nat.le_of_ble_eq_true rfl)) dX0_sharesWith_18 ⟨Nat.zero_le _, Nat.zero_le _⟩) (fun r18 q_18 => ?_)
        have hV := hV r18 q_18
        refine lv_if_ne (tgt := 26) hx hb dX0_sharesWith_21 (by decide) (fun c_21 => ?_) (fun c_21 => ?_)
        · have hV := hV.2 c_21
          refine lv_iinc (v := x2 + 1) (lv' := [(2, .int (x2 + 1)), (0, .ref (ad 4)), (1, .int p0)]) hx hb dX0_sharesWith_26 hl (k := 2) rfl rfl (by decide) rfl (fun ls hl => ?_)
          refine lv_goto (tgt := 2) hx hb dX0_sharesWith_29 (by decide) ?_
          exact oJ2 _ hV _ (lv_sub hl [1, 2, 0] rfl)
        · have hV := hV.1 c_21
          refine lv_iconst (v := (1 : Int32)) hx hb dX0_sharesWith_24 (by decide) ?_
          exact W.zret (v := (1 : Int32)) hx hb hr rfl (fun t ht hW => ⟨_, rfl, hV, ht⟩) (fun _ h => by cases h) dX0_sharesWith_25)
    have hl := lv_entry ([.ref (ad 4), .int p0]) (n := 3) (Nat.le_of_ble_eq_true rfl)
    rw [lg_entry_eq]
    generalize (lg_sl ([.ref (ad 4), .int p0]) ++ List.replicate (3 - (lg_sl ([.ref (ad 4), .int p0])).length) Slot.unset).toArray = ls at hl ⊢
    have hl : lv_has ls 3 [(0, .ref (ad 4)), (1, .int p0)] := hl
    refine lv_iconst (v := (0 : Int32)) hx hb dX0_sharesWith_0 (by decide) ?_
    refine lv_istore_n (lv' := [(2, .int (0 : Int32)), (0, .ref (ad 4)), (1, .int p0)]) hx hb dX0_sharesWith_1 rfl hl (by decide) rfl (fun ls hl => ?_)
    exact oJ2 _ hV _ (lv_sub hl [1, 2, 0] rfl)
def post_X0_sharesWith (b : Nat) (g : Gs) (a : As) (w : Ws) (p0 r : Int32) : Prop := r = zb (∃ i, i < tn (g b) ∧ PP b a i ∣ tn p0)
set_option maxRecDepth 4000 in
theorem spec_X0_sharesWith (l : Launch) (b : Nat) (hb2 : b < 2) (D : va_G) (cy : Nat → ClassId) (ad : Nat → Nat) (sz : Nat) (g : Gs) (a : As) (w : Ws) (p0 : Int32) (hpre : pre_X0_sharesWith b g a w p0) : Met l yX0_sharesWith wsX0_sharesWith ({ frames := 1, cells := 0, slots := 0, locals := 22 } : Room) (va_Pc [.ref (ad (1 + 3 * b)), .int p0] (ArP D cy sz (caW ad cy g a w))) (Qpi (post_X0_sharesWith b g a w p0)) 0 0 noF := by
  apply met_X0_sharesWith
  · exact hb2
  intro J hJ
  obtain ⟨h0, n, hF⟩ := hpre
  obtain ⟨x, hx, rfl, -⟩ := of_i h0
  have h7 := hF.few
  have key : ∀ (d k : Nat), k + d = tn (g b) → (∀ i, i < k → ¬ PP b a i ∣ x) → J (nI k) := by
    intro d
    induction d with
    | zero =>
      intro k hk hi
      refine hJ _ ?_
      rw [hF.2.2.1]
      refine pk_le (tn (g b)) k (fun _ => (zb_f ?_).symm) (fun h => absurd h (by omega))
      rw [tn_nI hx]
      rintro ⟨i, h1, h2⟩
      exact hi i (by omega) h2
    | succ d ih =>
      intro k hk hi
      obtain ⟨i1, i2, i3, i4, i5, i6, i7, i8, i9⟩ := hF.at (show k < tn (g b) by omega)
      refine hJ _ ?_
      rw [hF.2.2.1]
      refine pk_le (tn (g b)) k (fun h => absurd h (by omega)) (fun _ => ⟨i1, ?_⟩)
      rw [show (nI k).toNatClampNeg = k from i2, i3, nI_l hx, nI_1]
      have hl := Nat.mod_lt x (show 0 < PP b a k by omega)
      intro r hr
      have hr := rest_eq hr (by omega) (by omega) (by omega)
      subst hr
      refine pk_eq (x % PP b a k) 0 (fun h => (zb_t ?_).symm) (fun h => ih (k + 1) (by omega) (fun i hi2 => ?_))
      · rw [tn_nI hx]
        exact ⟨k, by omega, Nat.dvd_of_mod_eq_zero h⟩
      · by_cases e : i = k
        · subst e; exact fun hd => h (Nat.mod_eq_zero_of_dvd hd)
        · exact hi i (by omega)
  exact key (tn (g b)) 0 (by omega) (fun i h => by omega)
def pre_X0_unitsAt (b : Nat) (g : Gs) (a : As) (w : Ws) (p0 : Int32) : Prop := (∃ n, Fac b n g a) ∧ ∃ k, k < tn (g b) ∧ p0 = nI k
set_option maxHeartbeats 4000000 in
set_option maxRecDepth 100000 in
theorem met_X0_unitsAt (l : Launch) (b : Nat) (hb2 : b < 2) (D : va_G) (cy : Nat → ClassId) (ad : Nat → Nat) (sz : Nat) (g : Gs) (a : As) (w : Ws) (p0 : Int32) (post : Int32 → Prop)
  (hV : ∀ (J11 : Int32 → Int32 → Prop),
    (∀ (x2 : Int32) (x3 : Int32), vp_in p0 8 ∧ (((((a (b + 2)) p0.toNatClampNeg) ≤ x3 → post x2) ∧ (¬ ((a (b + 2)) p0.toNatClampNeg) ≤ x3 → vp_in p0 8 ∧ (J11 (x2 * ((a b) p0.toNatClampNeg)) (x3 + 1))))) → J11 x2 x3) →
    vp_in p0 8 ∧ (J11 (((a b) p0.toNatClampNeg) - (1 : Int32)) (1 : Int32))) :
  Met l yX0_unitsAt wsX0_unitsAt ({ frames := 0, cells := 0, slots := 0, locals := 0 } : Room) (va_Pc [.ref (ad (1 + 3 * b)), .int p0] (ArP D cy sz (caW ad cy g a w))) (Qpi post) 0 0 noF := by
  match b, hb2 with
  | 0, _ =>
    refine Met.ofW (cc := cX0_unitsAt) (maxL := 4) (ret := (some .int)) (by decide) rfl ?_
    intro p e s m args below meth c s₁ B hml hv
    obtain ⟨rfl, hsz, hP, hK, hD0, hN⟩ := hv
    have hx := B.exec
    have hb := B.bytes
    have hr := B.returns
    have hts := atoms_spec (ws := wsX0_unitsAt) B.pre
    have hown : s.vm.findClass RX0 = some m.cls := findClass_of_methodNamed B.named
    have hlocks := B.notSynchronized
    subst hsz
    have hP : va_P D vwCl (caW ad cy g a w) s.heap := hP
    have hD : va_D (fun _ => True) (caW ad cy g a w) := hD0
    obtain ⟨J11, iJ11, oJ11⟩ : ∃ J : Int32 → Int32 → Prop, (∀ (x2 : Int32) (x3 : Int32), (∀ ls : Array Slot, lv_has ls 4 [(0, .ref (ad 1)), (1, .int p0), (2, .int x2), (3, .int x3)] → W p l e (headSpec wsX0_unitsAt ({ frames := 0, cells := 0, slots := 0, locals := 0 } : Room)).room s m [.ref (ad 1), .int p0].toArray below meth c s.heap [] 0 0 (MQ below (Qpi post) [.ref (ad 1), .int p0].toArray s 0 0 noF) (F0 m 11 ls [])) → J x2 x3) ∧ (∀ (x2 : Int32) (x3 : Int32), J x2 x3 → (∀ ls : Array Slot, lv_has ls 4 [(0, .ref (ad 1)), (1, .int p0), (2, .int x2), (3, .int x3)] → W p l e (headSpec wsX0_unitsAt ({ frames := 0, cells := 0, slots := 0, locals := 0 } : Room)).room s m [.ref (ad 1), .int p0].toArray below meth c s.heap [] 0 0 (MQ below (Qpi post) [.ref (ad 1), .int p0].toArray s 0 0 noF) (F0 m 11 ls []))) := ⟨fun (x2 : Int32) (x3 : Int32) => (∀ ls : Array Slot, lv_has ls 4 [(0, .ref (ad 1)), (1, .int p0), (2, .int x2), (3, .int x3)] → W p l e (headSpec wsX0_unitsAt ({ frames := 0, cells := 0, slots := 0, locals := 0 } : Room)).room s m [.ref (ad 1), .int p0].toArray below meth c s.heap [] 0 0 (MQ below (Qpi post) [.ref (ad 1), .int p0].toArray s 0 0 noF) (F0 m 11 ls [])), fun _ _ h => h, fun _ _ h => h⟩
    have hV := hV J11
    replace hV := hV (by
      intro x2 x3 hV
      refine iJ11 x2 x3 ?_
      intro ls hl
      refine lv_iload_n hx hb dX0_unitsAt_11 rfl (lv_at hl 3 rfl) ?_
      refine lv_aload_n hx hb dX0_unitsAt_12 rfl (lv_at hl 0 rfl) ?_
      refine va_get (D := D) (ci := 0) (v := .ref (ad 3)) (C := RX0) (T := TX0) (N := 3) hx hb hts (by decide +kernel) hown hK hP 1 rfl rfl 1 (by decide) (hts (.fieldLink RX0 13 "PowerRests$Factors" "times" "[I") (by decide +kernel)) (fun _ h9 => h9) rfl dX0_unitsAt_13 ?_
      refine lv_iload_n hx hb dX0_unitsAt_16 rfl (lv_at hl 1 rfl) ?_
      obtain ⟨h_17, hV⟩ := hV
      refine va_iald (f := (a 2)) hx hb hK hP 3 0 rfl rfl h_17 dX0_unitsAt_17 ?_
      refine lv_icmp_ge (tgt := 36) hx hb dX0_unitsAt_18 (by decide) (fun c_18 => ?_) (fun c_18 => ?_)
      · have hV := hV.1 c_18
        refine lv_iload_n hx hb dX0_unitsAt_36 rfl (lv_at hl 2 rfl) ?_
        exact W.iret (v := x2) hx hb hr (fun t ht hW => ⟨_, rfl, hV, ht⟩) (fun _ h => by cases h) dX0_unitsAt_37
      · have hV := hV.2 c_18
        refine lv_iload_n hx hb dX0_unitsAt_21 rfl (lv_at hl 2 rfl) ?_
        refine lv_aload_n hx hb dX0_unitsAt_22 rfl (lv_at hl 0 rfl) ?_
        refine va_get (D := D) (ci := 0) (v := .ref (ad 2)) (C := RX0) (T := TX0) (N := 3) hx hb hts (by decide +kernel) hown hK hP 1 rfl rfl 0 (by decide) (hts (.fieldLink RX0 9 "PowerRests$Factors" "primes" "[I") (by decide +kernel)) (fun _ h9 => h9) rfl dX0_unitsAt_23 ?_
        refine lv_iload_n hx hb dX0_unitsAt_26 rfl (lv_at hl 1 rfl) ?_
        obtain ⟨h_27, hV⟩ := hV
        refine va_iald (f := (a 0)) hx hb hK hP 2 0 rfl rfl h_27 dX0_unitsAt_27 ?_
        refine lv_imul hx hb dX0_unitsAt_28 ?_
        refine lv_istore_n (lv' := [(2, .int (x2 * ((a 0) p0.toNatClampNeg))), (0, .ref (ad 1)), (1, .int p0), (3, .int x3)]) hx hb dX0_unitsAt_29 rfl hl (by decide) rfl (fun ls hl => ?_)
        refine lv_iinc (v := x3 + 1) (lv' := [(3, .int (x3 + 1)), (2, .int (x2 * ((a 0) p0.toNatClampNeg))), (0, .ref (ad 1)), (1, .int p0)]) hx hb dX0_unitsAt_30 hl (k := 3) rfl rfl (by decide) rfl (fun ls hl => ?_)
        refine lv_goto (tgt := 11) hx hb dX0_unitsAt_33 (by decide) ?_
        exact oJ11 _ _ hV _ (lv_sub hl [2, 3, 1, 0] rfl))
    have hl := lv_entry ([.ref (ad 1), .int p0]) (n := 4) (Nat.le_of_ble_eq_true rfl)
    rw [lg_entry_eq]
    generalize (lg_sl ([.ref (ad 1), .int p0]) ++ List.replicate (4 - (lg_sl ([.ref (ad 1), .int p0])).length) Slot.unset).toArray = ls at hl ⊢
    have hl : lv_has ls 4 [(0, .ref (ad 1)), (1, .int p0)] := hl
    refine lv_aload_n hx hb dX0_unitsAt_0 rfl (lv_at hl 0 rfl) ?_
    refine va_get (D := D) (ci := 0) (v := .ref (ad 2)) (C := RX0) (T := TX0) (N := 3) hx hb hts (by decide +kernel) hown hK hP 1 rfl rfl 0 (by decide) (hts (.fieldLink RX0 9 "PowerRests$Factors" "primes" "[I") (by decide +kernel)) (fun _ h9 => h9) rfl dX0_unitsAt_1 ?_
    refine lv_iload_n hx hb dX0_unitsAt_4 rfl (lv_at hl 1 rfl) ?_
    obtain ⟨h_5, hV⟩ := hV
    refine va_iald (f := (a 0)) hx hb hK hP 2 0 rfl rfl h_5 dX0_unitsAt_5 ?_
    refine lv_iconst (v := (1 : Int32)) hx hb dX0_unitsAt_6 (by decide) ?_
    refine lv_isub hx hb dX0_unitsAt_7 ?_
    refine lv_istore_n (lv' := [(2, .int (((a 0) p0.toNatClampNeg) - (1 : Int32))), (0, .ref (ad 1)), (1, .int p0)]) hx hb dX0_unitsAt_8 rfl hl (by decide) rfl (fun ls hl => ?_)
    refine lv_iconst (v := (1 : Int32)) hx hb dX0_unitsAt_9 (by decide) ?_
    refine lv_istore_n (lv' := [(3, .int (1 : Int32)), (2, .int (((a 0) p0.toNatClampNeg) - (1 : Int32))), (0, .ref (ad 1)), (1, .int p0)]) hx hb dX0_unitsAt_10 rfl hl (by decide) rfl (fun ls hl => ?_)
    exact oJ11 _ _ hV _ (lv_sub hl [2, 3, 1, 0] rfl)
  | 1, _ =>
    refine Met.ofW (cc := cX0_unitsAt) (maxL := 4) (ret := (some .int)) (by decide) rfl ?_
    intro p e s m args below meth c s₁ B hml hv
    obtain ⟨rfl, hsz, hP, hK, hD0, hN⟩ := hv
    have hx := B.exec
    have hb := B.bytes
    have hr := B.returns
    have hts := atoms_spec (ws := wsX0_unitsAt) B.pre
    have hown : s.vm.findClass RX0 = some m.cls := findClass_of_methodNamed B.named
    have hlocks := B.notSynchronized
    subst hsz
    have hP : va_P D vwCl (caW ad cy g a w) s.heap := hP
    have hD : va_D (fun _ => True) (caW ad cy g a w) := hD0
    obtain ⟨J11, iJ11, oJ11⟩ : ∃ J : Int32 → Int32 → Prop, (∀ (x2 : Int32) (x3 : Int32), (∀ ls : Array Slot, lv_has ls 4 [(0, .ref (ad 4)), (1, .int p0), (2, .int x2), (3, .int x3)] → W p l e (headSpec wsX0_unitsAt ({ frames := 0, cells := 0, slots := 0, locals := 0 } : Room)).room s m [.ref (ad 4), .int p0].toArray below meth c s.heap [] 0 0 (MQ below (Qpi post) [.ref (ad 4), .int p0].toArray s 0 0 noF) (F0 m 11 ls [])) → J x2 x3) ∧ (∀ (x2 : Int32) (x3 : Int32), J x2 x3 → (∀ ls : Array Slot, lv_has ls 4 [(0, .ref (ad 4)), (1, .int p0), (2, .int x2), (3, .int x3)] → W p l e (headSpec wsX0_unitsAt ({ frames := 0, cells := 0, slots := 0, locals := 0 } : Room)).room s m [.ref (ad 4), .int p0].toArray below meth c s.heap [] 0 0 (MQ below (Qpi post) [.ref (ad 4), .int p0].toArray s 0 0 noF) (F0 m 11 ls []))) := ⟨fun (x2 : Int32) (x3 : Int32) => (∀ ls : Array Slot, lv_has ls 4 [(0, .ref (ad 4)), (1, .int p0), (2, .int x2), (3, .int x3)] → W p l e (headSpec wsX0_unitsAt ({ frames := 0, cells := 0, slots := 0, locals := 0 } : Room)).room s m [.ref (ad 4), .int p0].toArray below meth c s.heap [] 0 0 (MQ below (Qpi post) [.ref (ad 4), .int p0].toArray s 0 0 noF) (F0 m 11 ls [])), fun _ _ h => h, fun _ _ h => h⟩
    have hV := hV J11
    replace hV := hV (by
      intro x2 x3 hV
      refine iJ11 x2 x3 ?_
      intro ls hl
      refine lv_iload_n hx hb dX0_unitsAt_11 rfl (lv_at hl 3 rfl) ?_
      refine lv_aload_n hx hb dX0_unitsAt_12 rfl (lv_at hl 0 rfl) ?_
      refine va_get (D := D) (ci := 0) (v := .ref (ad 6)) (C := RX0) (T := TX0) (N := 3) hx hb hts (by decide +kernel) hown hK hP 4 rfl rfl 1 (by decide) (hts (.fieldLink RX0 13 "PowerRests$Factors" "times" "[I") (by decide +kernel)) (fun _ h9 => h9) rfl dX0_unitsAt_13 ?_
      refine lv_iload_n hx hb dX0_unitsAt_16 rfl (lv_at hl 1 rfl) ?_
      obtain ⟨h_17, hV⟩ := hV
      refine va_iald (f := (a 3)) hx hb hK hP 6 0 rfl rfl h_17 dX0_unitsAt_17 ?_
      refine lv_icmp_ge (tgt := 36) hx hb dX0_unitsAt_18 (by decide) (fun c_18 => ?_) (fun c_18 => ?_)
      · have hV := hV.1 c_18
        refine lv_iload_n hx hb dX0_unitsAt_36 rfl (lv_at hl 2 rfl) ?_
        exact W.iret (v := x2) hx hb hr (fun t ht hW => ⟨_, rfl, hV, ht⟩) (fun _ h => by cases h) dX0_unitsAt_37
      · have hV := hV.2 c_18
        refine lv_iload_n hx hb dX0_unitsAt_21 rfl (lv_at hl 2 rfl) ?_
        refine lv_aload_n hx hb dX0_unitsAt_22 rfl (lv_at hl 0 rfl) ?_
        refine va_get (D := D) (ci := 0) (v := .ref (ad 5)) (C := RX0) (T := TX0) (N := 3) hx hb hts (by decide +kernel) hown hK hP 4 rfl rfl 0 (by decide) (hts (.fieldLink RX0 9 "PowerRests$Factors" "primes" "[I") (by decide +kernel)) (fun _ h9 => h9) rfl dX0_unitsAt_23 ?_
        refine lv_iload_n hx hb dX0_unitsAt_26 rfl (lv_at hl 1 rfl) ?_
        obtain ⟨h_27, hV⟩ := hV
        refine va_iald (f := (a 1)) hx hb hK hP 5 0 rfl rfl h_27 dX0_unitsAt_27 ?_
        refine lv_imul hx hb dX0_unitsAt_28 ?_
        refine lv_istore_n (lv' := [(2, .int (x2 * ((a 1) p0.toNatClampNeg))), (0, .ref (ad 4)), (1, .int p0), (3, .int x3)]) hx hb dX0_unitsAt_29 rfl hl (by decide) rfl (fun ls hl => ?_)
        refine lv_iinc (v := x3 + 1) (lv' := [(3, .int (x3 + 1)), (2, .int (x2 * ((a 1) p0.toNatClampNeg))), (0, .ref (ad 4)), (1, .int p0)]) hx hb dX0_unitsAt_30 hl (k := 3) rfl rfl (by decide) rfl (fun ls hl => ?_)
        refine lv_goto (tgt := 11) hx hb dX0_unitsAt_33 (by decide) ?_
        exact oJ11 _ _ hV _ (lv_sub hl [2, 3, 1, 0] rfl))
    have hl := lv_entry ([.ref (ad 4), .int p0]) (n := 4) (Nat.le_of_ble_eq_true rfl)
    rw [lg_entry_eq]
    generalize (lg_sl ([.ref (ad 4), .int p0]) ++ List.replicate (4 - (lg_sl ([.ref (ad 4), .int p0])).length) Slot.unset).toArray = ls at hl ⊢
    have hl : lv_has ls 4 [(0, .ref (ad 4)), (1, .int p0)] := hl
    refine lv_aload_n hx hb dX0_unitsAt_0 rfl (lv_at hl 0 rfl) ?_
    refine va_get (D := D) (ci := 0) (v := .ref (ad 5)) (C := RX0) (T := TX0) (N := 3) hx hb hts (by decide +kernel) hown hK hP 4 rfl rfl 0 (by decide) (hts (.fieldLink RX0 9 "PowerRests$Factors" "primes" "[I") (by decide +kernel)) (fun _ h9 => h9) rfl dX0_unitsAt_1 ?_
    refine lv_iload_n hx hb dX0_unitsAt_4 rfl (lv_at hl 1 rfl) ?_
    obtain ⟨h_5, hV⟩ := hV
    refine va_iald (f := (a 1)) hx hb hK hP 5 0 rfl rfl h_5 dX0_unitsAt_5 ?_
    refine lv_iconst (v := (1 : Int32)) hx hb dX0_unitsAt_6 (by decide) ?_
    refine lv_isub hx hb dX0_unitsAt_7 ?_
    refine lv_istore_n (lv' := [(2, .int (((a 1) p0.toNatClampNeg) - (1 : Int32))), (0, .ref (ad 4)), (1, .int p0)]) hx hb dX0_unitsAt_8 rfl hl (by decide) rfl (fun ls hl => ?_)
    refine lv_iconst (v := (1 : Int32)) hx hb dX0_unitsAt_9 (by decide) ?_
    refine lv_istore_n (lv' := [(3, .int (1 : Int32)), (2, .int (((a 1) p0.toNatClampNeg) - (1 : Int32))), (0, .ref (ad 4)), (1, .int p0)]) hx hb dX0_unitsAt_10 rfl hl (by decide) rfl (fun ls hl => ?_)
    exact oJ11 _ _ hV _ (lv_sub hl [2, 3, 1, 0] rfl)
def post_X0_unitsAt (b : Nat) (g : Gs) (a : As) (w : Ws) (p0 r : Int32) : Prop := r = nI (un (PP b a) (TT b a) (tn p0))
set_option maxRecDepth 4000 in
theorem spec_X0_unitsAt (l : Launch) (b : Nat) (hb2 : b < 2) (D : va_G) (cy : Nat → ClassId) (ad : Nat → Nat) (sz : Nat) (g : Gs) (a : As) (w : Ws) (p0 : Int32) (hpre : pre_X0_unitsAt b g a w p0) : Met l yX0_unitsAt wsX0_unitsAt ({ frames := 0, cells := 0, slots := 0, locals := 0 } : Room) (va_Pc [.ref (ad (1 + 3 * b)), .int p0] (ArP D cy sz (caW ad cy g a w))) (Qpi (post_X0_unitsAt b g a w p0)) 0 0 noF := by
  apply met_X0_unitsAt
  · exact hb2
  intro J hJ
  obtain ⟨⟨n, hF⟩, k, hk, rfl⟩ := hpre
  obtain ⟨i1, i2, i3, i4, i5, i6, i7, i8, i9⟩ := hF.at hk
  have key : ∀ (d t : Nat), t + 1 + d = TT b a k → J (nI (PP b a k ^ t * (PP b a k - 1))) (nI (t + 1)) := by
    intro d
    induction d with
    | zero =>
      intro t ht
      refine hJ _ _ ⟨i1, ?_⟩
      rw [show (nI k).toNatClampNeg = k from i2, i4]
      refine pk_le (TT b a k) (t + 1) (fun _ => ?_) (fun h => absurd h (by omega))
      unfold post_X0_unitsAt
      rw [i2, un_eq (P := PP b a) (T := TT b a) (i := k) i5 i6, show TT b a k - 1 = t by omega]
    | succ d ih =>
      intro t ht
      refine hJ _ _ ⟨i1, ?_⟩
      rw [show (nI k).toNatClampNeg = k from i2, i3, i4]
      refine pk_le (TT b a k) (t + 1) (fun h => absurd h (by omega)) (fun _ => ⟨i1, ?_⟩)
      rw [pk_mul, Nat.mul_right_comm (PP b a k ^ t), ← Nat.pow_succ, nI_1]
      exact ih (t + 1) (by omega)
  refine ⟨i1, ?_⟩
  have e : nI (PP b a k) - (1 : Int32) = nI (PP b a k - 1) := pk_sub (b := 1) (by omega)
  rw [show (nI k).toNatClampNeg = k from i2, i3, e]
  have h := key (TT b a k - 1) 0 (by omega)
  rw [Nat.pow_zero, Nat.one_mul] at h
  exact h
def pre_X0_unitCount (b : Nat) (g : Gs) (a : As) (w : Ws) : Prop := ∃ n, Fac b n g a
set_option maxHeartbeats 4000000 in
set_option maxRecDepth 100000 in
theorem met_X0_unitCount (l : Launch) (b : Nat) (hb2 : b < 2) (D : va_G) (cy : Nat → ClassId) (ad : Nat → Nat) (sz : Nat) (g : Gs) (a : As) (w : Ws) (post : Int32 → Prop)
  (hV : ∀ (J4 : Int32 → Int32 → Prop),
    (∀ (x1 : Int32) (x2 : Int32), (((g b) ≤ x2 → post x1) ∧ (¬ (g b) ≤ x2 → pre_X0_unitsAt b g a w x2 ∧ (∀ r15 : Int32, post_X0_unitsAt b g a w x2 r15 → J4 (x1 * r15) (x2 + 1)))) → J4 x1 x2) →
    J4 (1 : Int32) (0 : Int32)) :
  Met l yX0_unitCount wsX0_unitCount ({ frames := 1, cells := 0, slots := 0, locals := 23 } : Room) (va_Pc [.ref (ad (1 + 3 * b))] (ArP D cy sz (caW ad cy g a w))) (Qpi post) 0 0 noF := by
  match b, hb2 with
  | 0, _ =>
    refine Met.ofW (cc := cX0_unitCount) (maxL := 3) (ret := (some .int)) (by decide) rfl ?_
    intro p e s m args below meth c s₁ B hml hv
    obtain ⟨rfl, hsz, hP, hK, hD0, hN⟩ := hv
    have hx := B.exec
    have hb := B.bytes
    have hr := B.returns
    have hts := atoms_spec (ws := wsX0_unitCount) B.pre
    have hown : s.vm.findClass RX0 = some m.cls := findClass_of_methodNamed B.named
    have hlocks := B.notSynchronized
    subst hsz
    have hP : va_P D vwCl (caW ad cy g a w) s.heap := hP
    have hD : va_D (fun _ => True) (caW ad cy g a w) := hD0
    obtain ⟨J4, iJ4, oJ4⟩ : ∃ J : Int32 → Int32 → Prop, (∀ (x1 : Int32) (x2 : Int32), (∀ ls : Array Slot, lv_has ls 3 [(0, .ref (ad 1)), (1, .int x1), (2, .int x2)] → W p l e (headSpec wsX0_unitCount ({ frames := 1, cells := 0, slots := 0, locals := 23 } : Room)).room s m [.ref (ad 1)].toArray below meth c s.heap [] 0 0 (MQ below (Qpi post) [.ref (ad 1)].toArray s 0 0 noF) (F0 m 4 ls [])) → J x1 x2) ∧ (∀ (x1 : Int32) (x2 : Int32), J x1 x2 → (∀ ls : Array Slot, lv_has ls 3 [(0, .ref (ad 1)), (1, .int x1), (2, .int x2)] → W p l e (headSpec wsX0_unitCount ({ frames := 1, cells := 0, slots := 0, locals := 23 } : Room)).room s m [.ref (ad 1)].toArray below meth c s.heap [] 0 0 (MQ below (Qpi post) [.ref (ad 1)].toArray s 0 0 noF) (F0 m 4 ls []))) := ⟨fun (x1 : Int32) (x2 : Int32) => (∀ ls : Array Slot, lv_has ls 3 [(0, .ref (ad 1)), (1, .int x1), (2, .int x2)] → W p l e (headSpec wsX0_unitCount ({ frames := 1, cells := 0, slots := 0, locals := 23 } : Room)).room s m [.ref (ad 1)].toArray below meth c s.heap [] 0 0 (MQ below (Qpi post) [.ref (ad 1)].toArray s 0 0 noF) (F0 m 4 ls [])), fun _ _ h => h, fun _ _ h => h⟩
    have hV := hV J4
    replace hV := hV (by
      intro x1 x2 hV
      refine iJ4 x1 x2 ?_
      intro ls hl
      refine lv_iload_n hx hb dX0_unitCount_4 rfl (lv_at hl 2 rfl) ?_
      refine lv_aload_n hx hb dX0_unitCount_5 rfl (lv_at hl 0 rfl) ?_
      refine va_get (D := D) (ci := 0) (v := .int (g 0)) (C := RX0) (T := TX0) (N := 3) hx hb hts (by decide +kernel) hown hK hP 1 rfl rfl 2 (by decide) (hts (.fieldLink RX0 16 "PowerRests$Factors" "kinds" "I") (by decide +kernel)) (fun _ h9 => h9) rfl dX0_unitCount_6 ?_
      refine lv_icmp_ge (tgt := 26) hx hb dX0_unitCount_9 (by decide) (fun c_9 => ?_) (fun c_9 => ?_)
      · have hV := hV.1 c_9
        refine lv_iload_n hx hb dX0_unitCount_26 rfl (lv_at hl 1 rfl) ?_
        exact W.iret (v := x1) hx hb hr (fun t ht hW => ⟨_, rfl, hV, ht⟩) (fun _ h => by cases h) dX0_unitCount_27
      · have hV := hV.2 c_9
        refine lv_iload_n hx hb dX0_unitCount_12 rfl (lv_at hl 1 rfl) ?_
        refine lv_aload_n hx hb dX0_unitCount_13 rfl (lv_at hl 0 rfl) ?_
        refine lv_iload_n hx hb dX0_unitCount_14 rfl (lv_at hl 2 rfl) ?_
        obtain ⟨h_15, hV⟩ := hV
        refine cp_i (va_runV (As := [.int x2]) (rest := [.int x1]) ⟨hx, hb, hml, hown, hts⟩ (spec_X0_unitsAt l 0 (by decide) D cy ad s.heap.size g a w x2 h_15) (cwV 1 hts gX0_unitCount_X0_unitsAt rfl rfl rfl (by decide +kernel) ⟨Nat.le_of_ble_eq_true rfl, Nat.le_of_ble_eq_true rfl⟩) (ar_preV hN hK hP hD (ci := 0) (q0 := 1) rfl rfl) rfl rfl hl.1 rfl (lv_room (Nat.le_of_ble_eq_true rfl)) dX0_unitCount_15 ⟨Nat.zero_le _, Nat.zero_le _⟩) (fun r15 q_15 => ?_)
        have hV := hV r15 q_15
        refine lv_imul hx hb dX0_unitCount_18 ?_
        refine lv_istore_n (lv' := [(1, .int (x1 * r15)), (0, .ref (ad 1)), (2, .int x2)]) hx hb dX0_unitCount_19 rfl hl (by decide) rfl (fun ls hl => ?_)
        refine lv_iinc (v := x2 + 1) (lv' := [(2, .int (x2 + 1)), (1, .int (x1 * r15)), (0, .ref (ad 1))]) hx hb dX0_unitCount_20 hl (k := 2) rfl rfl (by decide) rfl (fun ls hl => ?_)
        refine lv_goto (tgt := 4) hx hb dX0_unitCount_23 (by decide) ?_
        exact oJ4 _ _ hV _ (lv_sub hl [2, 1, 0] rfl))
    have hl := lv_entry ([.ref (ad 1)]) (n := 3) (Nat.le_of_ble_eq_true rfl)
    rw [lg_entry_eq]
    generalize (lg_sl ([.ref (ad 1)]) ++ List.replicate (3 - (lg_sl ([.ref (ad 1)])).length) Slot.unset).toArray = ls at hl ⊢
    have hl : lv_has ls 3 [(0, .ref (ad 1))] := hl
    refine lv_iconst (v := (1 : Int32)) hx hb dX0_unitCount_0 (by decide) ?_
    refine lv_istore_n (lv' := [(1, .int (1 : Int32)), (0, .ref (ad 1))]) hx hb dX0_unitCount_1 rfl hl (by decide) rfl (fun ls hl => ?_)
    refine lv_iconst (v := (0 : Int32)) hx hb dX0_unitCount_2 (by decide) ?_
    refine lv_istore_n (lv' := [(2, .int (0 : Int32)), (1, .int (1 : Int32)), (0, .ref (ad 1))]) hx hb dX0_unitCount_3 rfl hl (by decide) rfl (fun ls hl => ?_)
    exact oJ4 _ _ hV _ (lv_sub hl [2, 1, 0] rfl)
  | 1, _ =>
    refine Met.ofW (cc := cX0_unitCount) (maxL := 3) (ret := (some .int)) (by decide) rfl ?_
    intro p e s m args below meth c s₁ B hml hv
    obtain ⟨rfl, hsz, hP, hK, hD0, hN⟩ := hv
    have hx := B.exec
    have hb := B.bytes
    have hr := B.returns
    have hts := atoms_spec (ws := wsX0_unitCount) B.pre
    have hown : s.vm.findClass RX0 = some m.cls := findClass_of_methodNamed B.named
    have hlocks := B.notSynchronized
    subst hsz
    have hP : va_P D vwCl (caW ad cy g a w) s.heap := hP
    have hD : va_D (fun _ => True) (caW ad cy g a w) := hD0
    obtain ⟨J4, iJ4, oJ4⟩ : ∃ J : Int32 → Int32 → Prop, (∀ (x1 : Int32) (x2 : Int32), (∀ ls : Array Slot, lv_has ls 3 [(0, .ref (ad 4)), (1, .int x1), (2, .int x2)] → W p l e (headSpec wsX0_unitCount ({ frames := 1, cells := 0, slots := 0, locals := 23 } : Room)).room s m [.ref (ad 4)].toArray below meth c s.heap [] 0 0 (MQ below (Qpi post) [.ref (ad 4)].toArray s 0 0 noF) (F0 m 4 ls [])) → J x1 x2) ∧ (∀ (x1 : Int32) (x2 : Int32), J x1 x2 → (∀ ls : Array Slot, lv_has ls 3 [(0, .ref (ad 4)), (1, .int x1), (2, .int x2)] → W p l e (headSpec wsX0_unitCount ({ frames := 1, cells := 0, slots := 0, locals := 23 } : Room)).room s m [.ref (ad 4)].toArray below meth c s.heap [] 0 0 (MQ below (Qpi post) [.ref (ad 4)].toArray s 0 0 noF) (F0 m 4 ls []))) := ⟨fun (x1 : Int32) (x2 : Int32) => (∀ ls : Array Slot, lv_has ls 3 [(0, .ref (ad 4)), (1, .int x1), (2, .int x2)] → W p l e (headSpec wsX0_unitCount ({ frames := 1, cells := 0, slots := 0, locals := 23 } : Room)).room s m [.ref (ad 4)].toArray below meth c s.heap [] 0 0 (MQ below (Qpi post) [.ref (ad 4)].toArray s 0 0 noF) (F0 m 4 ls [])), fun _ _ h => h, fun _ _ h => h⟩
    have hV := hV J4
    replace hV := hV (by
      intro x1 x2 hV
      refine iJ4 x1 x2 ?_
      intro ls hl
      refine lv_iload_n hx hb dX0_unitCount_4 rfl (lv_at hl 2 rfl) ?_
      refine lv_aload_n hx hb dX0_unitCount_5 rfl (lv_at hl 0 rfl) ?_
      refine va_get (D := D) (ci := 0) (v := .int (g 1)) (C := RX0) (T := TX0) (N := 3) hx hb hts (by decide +kernel) hown hK hP 4 rfl rfl 2 (by decide) (hts (.fieldLink RX0 16 "PowerRests$Factors" "kinds" "I") (by decide +kernel)) (fun _ h9 => h9) rfl dX0_unitCount_6 ?_
      refine lv_icmp_ge (tgt := 26) hx hb dX0_unitCount_9 (by decide) (fun c_9 => ?_) (fun c_9 => ?_)
      · have hV := hV.1 c_9
        refine lv_iload_n hx hb dX0_unitCount_26 rfl (lv_at hl 1 rfl) ?_
        exact W.iret (v := x1) hx hb hr (fun t ht hW => ⟨_, rfl, hV, ht⟩) (fun _ h => by cases h) dX0_unitCount_27
      · have hV := hV.2 c_9
        refine lv_iload_n hx hb dX0_unitCount_12 rfl (lv_at hl 1 rfl) ?_
        refine lv_aload_n hx hb dX0_unitCount_13 rfl (lv_at hl 0 rfl) ?_
        refine lv_iload_n hx hb dX0_unitCount_14 rfl (lv_at hl 2 rfl) ?_
        obtain ⟨h_15, hV⟩ := hV
        refine cp_i (va_runV (As := [.int x2]) (rest := [.int x1]) ⟨hx, hb, hml, hown, hts⟩ (spec_X0_unitsAt l 1 (by decide) D cy ad s.heap.size g a w x2 h_15) (cwV 1 hts gX0_unitCount_X0_unitsAt rfl rfl rfl (by decide +kernel) ⟨Nat.le_of_ble_eq_true rfl, Nat.le_of_ble_eq_true rfl⟩) (ar_preV hN hK hP hD (ci := 0) (q0 := 4) rfl rfl) rfl rfl hl.1 rfl (lv_room (Nat.le_of_ble_eq_true rfl)) dX0_unitCount_15 ⟨Nat.zero_le _, Nat.zero_le _⟩) (fun r15 q_15 => ?_)
        have hV := hV r15 q_15
        refine lv_imul hx hb dX0_unitCount_18 ?_
        refine lv_istore_n (lv' := [(1, .int (x1 * r15)), (0, .ref (ad 4)), (2, .int x2)]) hx hb dX0_unitCount_19 rfl hl (by decide) rfl (fun ls hl => ?_)
        refine lv_iinc (v := x2 + 1) (lv' := [(2, .int (x2 + 1)), (1, .int (x1 * r15)), (0, .ref (ad 4))]) hx hb dX0_unitCount_20 hl (k := 2) rfl rfl (by decide) rfl (fun ls hl => ?_)
        refine lv_goto (tgt := 4) hx hb dX0_unitCount_23 (by decide) ?_
        exact oJ4 _ _ hV _ (lv_sub hl [2, 1, 0] rfl))
    have hl := lv_entry ([.ref (ad 4)]) (n := 3) (Nat.le_of_ble_eq_true rfl)
    rw [lg_entry_eq]
    generalize (lg_sl ([.ref (ad 4)]) ++ List.replicate (3 - (lg_sl ([.ref (ad 4)])).length) Slot.unset).toArray = ls at hl ⊢
    have hl : lv_has ls 3 [(0, .ref (ad 4))] := hl
    refine lv_iconst (v := (1 : Int32)) hx hb dX0_unitCount_0 (by decide) ?_
    refine lv_istore_n (lv' := [(1, .int (1 : Int32)), (0, .ref (ad 4))]) hx hb dX0_unitCount_1 rfl hl (by decide) rfl (fun ls hl => ?_)
    refine lv_iconst (v := (0 : Int32)) hx hb dX0_unitCount_2 (by decide) ?_
    refine lv_istore_n (lv' := [(2, .int (0 : Int32)), (1, .int (1 : Int32)), (0, .ref (ad 4))]) hx hb dX0_unitCount_3 rfl hl (by decide) rfl (fun ls hl => ?_)
    exact oJ4 _ _ hV _ (lv_sub hl [2, 1, 0] rfl)
def post_X0_unitCount (b : Nat) (g : Gs) (a : As) (w : Ws) (r : Int32) : Prop := r = nI (prodF (un (PP b a) (TT b a)) (tn (g b)))
set_option maxRecDepth 4000 in
theorem spec_X0_unitCount (l : Launch) (b : Nat) (hb2 : b < 2) (D : va_G) (cy : Nat → ClassId) (ad : Nat → Nat) (sz : Nat) (g : Gs) (a : As) (w : Ws) (hpre : pre_X0_unitCount b g a w) : Met l yX0_unitCount wsX0_unitCount ({ frames := 1, cells := 0, slots := 0, locals := 23 } : Room) (va_Pc [.ref (ad (1 + 3 * b))] (ArP D cy sz (caW ad cy g a w))) (Qpi (post_X0_unitCount b g a w)) 0 0 noF := by
  apply met_X0_unitCount
  · exact hb2
  intro J hJ
  obtain ⟨n, hF⟩ := hpre
  have h7 := hF.few
  have key : ∀ (d k : Nat), k + d = tn (g b) → J (nI (prodF (un (PP b a) (TT b a)) k)) (nI k) := by
    intro d
    induction d with
    | zero =>
      intro k hk
      refine hJ _ _ ?_
      rw [hF.2.2.1]
      refine pk_le (tn (g b)) k (fun _ => ?_) (fun h => absurd h (by omega))
      unfold post_X0_unitCount
      rw [show k = tn (g b) by omega]
    | succ d ih =>
      intro k hk
      have hkm : k < tn (g b) := by omega
      refine hJ _ _ ?_
      rw [hF.2.2.1]
      refine pk_le (tn (g b)) k (fun h => absurd h (by omega)) (fun _ => ⟨⟨⟨n, hF⟩, k, hkm, rfl⟩, fun r hr => ?_⟩)
      unfold post_X0_unitsAt at hr
      rw [tn_nI (by omega)] at hr
      rw [hr, pk_mul, nI_1]
      exact ih (k + 1) (by omega)
  exact key (tn (g b)) 0 (by omega)
def pre_X0_hasTwoCycles (b : Nat) (g : Gs) (a : As) (w : Ws) (p0 : Int32) : Prop := (∃ n, Fac b n g a) ∧ ∃ k, k < tn (g b) ∧ p0 = nI k
set_option maxHeartbeats 4000000 in
set_option maxRecDepth 100000 in
theorem met_X0_hasTwoCycles (l : Launch) (b : Nat) (hb2 : b < 2) (D : va_G) (cy : Nat → ClassId) (ad : Nat → Nat) (sz : Nat) (g : Gs) (a : As) (w : Ws) (p0 : Int32) (post : Int32 → Prop)
  (hV : vp_in p0 8 ∧ (((((a b) p0.toNatClampNeg) = (2 : Int32) → vp_in p0 8 ∧ (((((a (b + 2)) p0.toNatClampNeg) ≤ (2 : Int32) → post (0 : Int32)) ∧ (¬ ((a (b + 2)) p0.toNatClampNeg) ≤ (2 : Int32) → post (1 : Int32))))) ∧ (¬ ((a b) p0.toNatClampNeg) = (2 : Int32) → post (0 : Int32))))) :
  Met l yX0_hasTwoCycles wsX0_hasTwoCycles ({ frames := 0, cells := 0, slots := 0, locals := 0 } : Room) (va_Pc [.ref (ad (1 + 3 * b)), .int p0] (ArP D cy sz (caW ad cy g a w))) (Qpi post) 0 0 noF := by
  match b, hb2 with
  | 0, _ =>
    refine Met.ofW (cc := cX0_hasTwoCycles) (maxL := 2) (ret := (some .boolean)) (by decide) rfl ?_
    intro p e s m args below meth c s₁ B hml hv
    obtain ⟨rfl, hsz, hP, hK, hD0, hN⟩ := hv
    have hx := B.exec
    have hb := B.bytes
    have hr := B.returns
    have hts := atoms_spec (ws := wsX0_hasTwoCycles) B.pre
    have hown : s.vm.findClass RX0 = some m.cls := findClass_of_methodNamed B.named
    have hlocks := B.notSynchronized
    subst hsz
    have hP : va_P D vwCl (caW ad cy g a w) s.heap := hP
    have hD : va_D (fun _ => True) (caW ad cy g a w) := hD0
    have hl := lv_entry ([.ref (ad 1), .int p0]) (n := 2) (Nat.le_of_ble_eq_true rfl)
    rw [lg_entry_eq]
    generalize (lg_sl ([.ref (ad 1), .int p0]) ++ List.replicate (2 - (lg_sl ([.ref (ad 1), .int p0])).length) Slot.unset).toArray = ls at hl ⊢
    have hl : lv_has ls 2 [(0, .ref (ad 1)), (1, .int p0)] := hl
    refine lv_aload_n hx hb dX0_hasTwoCycles_0 rfl (lv_at hl 0 rfl) ?_
    refine va_get (D := D) (ci := 0) (v := .ref (ad 2)) (C := RX0) (T := TX0) (N := 3) hx hb hts (by decide +kernel) hown hK hP 1 rfl rfl 0 (by decide) (hts (.fieldLink RX0 9 "PowerRests$Factors" "primes" "[I") (by decide +kernel)) (fun _ h9 => h9) rfl dX0_hasTwoCycles_1 ?_
    refine lv_iload_n hx hb dX0_hasTwoCycles_4 rfl (lv_at hl 1 rfl) ?_
    obtain ⟨h_5, hV⟩ := hV
    refine va_iald (f := (a 0)) hx hb hK hP 2 0 rfl rfl h_5 dX0_hasTwoCycles_5 ?_
    refine lv_iconst (v := (2 : Int32)) hx hb dX0_hasTwoCycles_6 (by decide) ?_
    refine lv_icmp_ne (tgt := 24) hx hb dX0_hasTwoCycles_7 (by decide) (fun c_7 => ?_) (fun c_7 => ?_)
    · have hV := hV.2 c_7
      refine lv_iconst (v := (0 : Int32)) hx hb dX0_hasTwoCycles_24 (by decide) ?_
      exact W.zret (v := (0 : Int32)) hx hb hr rfl (fun t ht hW => ⟨_, rfl, hV, ht⟩) (fun _ h => by cases h) dX0_hasTwoCycles_25
    · have hV := hV.1 c_7
      refine lv_aload_n hx hb dX0_hasTwoCycles_10 rfl (lv_at hl 0 rfl) ?_
      refine va_get (D := D) (ci := 0) (v := .ref (ad 3)) (C := RX0) (T := TX0) (N := 3) hx hb hts (by decide +kernel) hown hK hP 1 rfl rfl 1 (by decide) (hts (.fieldLink RX0 13 "PowerRests$Factors" "times" "[I") (by decide +kernel)) (fun _ h9 => h9) rfl dX0_hasTwoCycles_11 ?_
      refine lv_iload_n hx hb dX0_hasTwoCycles_14 rfl (lv_at hl 1 rfl) ?_
      obtain ⟨h_15, hV⟩ := hV
      refine va_iald (f := (a 2)) hx hb hK hP 3 0 rfl rfl h_15 dX0_hasTwoCycles_15 ?_
      refine lv_iconst (v := (2 : Int32)) hx hb dX0_hasTwoCycles_16 (by decide) ?_
      refine lv_icmp_le (tgt := 24) hx hb dX0_hasTwoCycles_17 (by decide) (fun c_17 => ?_) (fun c_17 => ?_)
      · have hV := hV.1 c_17
        refine lv_iconst (v := (0 : Int32)) hx hb dX0_hasTwoCycles_24 (by decide) ?_
        exact W.zret (v := (0 : Int32)) hx hb hr rfl (fun t ht hW => ⟨_, rfl, hV, ht⟩) (fun _ h => by cases h) dX0_hasTwoCycles_25
      · have hV := hV.2 c_17
        refine lv_iconst (v := (1 : Int32)) hx hb dX0_hasTwoCycles_20 (by decide) ?_
        refine lv_goto (tgt := 25) hx hb dX0_hasTwoCycles_21 (by decide) ?_
        exact W.zret (v := (1 : Int32)) hx hb hr rfl (fun t ht hW => ⟨_, rfl, hV, ht⟩) (fun _ h => by cases h) dX0_hasTwoCycles_25
  | 1, _ =>
    refine Met.ofW (cc := cX0_hasTwoCycles) (maxL := 2) (ret := (some .boolean)) (by decide) rfl ?_
    intro p e s m args below meth c s₁ B hml hv
    obtain ⟨rfl, hsz, hP, hK, hD0, hN⟩ := hv
    have hx := B.exec
    have hb := B.bytes
    have hr := B.returns
    have hts := atoms_spec (ws := wsX0_hasTwoCycles) B.pre
    have hown : s.vm.findClass RX0 = some m.cls := findClass_of_methodNamed B.named
    have hlocks := B.notSynchronized
    subst hsz
    have hP : va_P D vwCl (caW ad cy g a w) s.heap := hP
    have hD : va_D (fun _ => True) (caW ad cy g a w) := hD0
    have hl := lv_entry ([.ref (ad 4), .int p0]) (n := 2) (Nat.le_of_ble_eq_true rfl)
    rw [lg_entry_eq]
    generalize (lg_sl ([.ref (ad 4), .int p0]) ++ List.replicate (2 - (lg_sl ([.ref (ad 4), .int p0])).length) Slot.unset).toArray = ls at hl ⊢
    have hl : lv_has ls 2 [(0, .ref (ad 4)), (1, .int p0)] := hl
    refine lv_aload_n hx hb dX0_hasTwoCycles_0 rfl (lv_at hl 0 rfl) ?_
    refine va_get (D := D) (ci := 0) (v := .ref (ad 5)) (C := RX0) (T := TX0) (N := 3) hx hb hts (by decide +kernel) hown hK hP 4 rfl rfl 0 (by decide) (hts (.fieldLink RX0 9 "PowerRests$Factors" "primes" "[I") (by decide +kernel)) (fun _ h9 => h9) rfl dX0_hasTwoCycles_1 ?_
    refine lv_iload_n hx hb dX0_hasTwoCycles_4 rfl (lv_at hl 1 rfl) ?_
    obtain ⟨h_5, hV⟩ := hV
    refine va_iald (f := (a 1)) hx hb hK hP 5 0 rfl rfl h_5 dX0_hasTwoCycles_5 ?_
    refine lv_iconst (v := (2 : Int32)) hx hb dX0_hasTwoCycles_6 (by decide) ?_
    refine lv_icmp_ne (tgt := 24) hx hb dX0_hasTwoCycles_7 (by decide) (fun c_7 => ?_) (fun c_7 => ?_)
    · have hV := hV.2 c_7
      refine lv_iconst (v := (0 : Int32)) hx hb dX0_hasTwoCycles_24 (by decide) ?_
      exact W.zret (v := (0 : Int32)) hx hb hr rfl (fun t ht hW => ⟨_, rfl, hV, ht⟩) (fun _ h => by cases h) dX0_hasTwoCycles_25
    · have hV := hV.1 c_7
      refine lv_aload_n hx hb dX0_hasTwoCycles_10 rfl (lv_at hl 0 rfl) ?_
      refine va_get (D := D) (ci := 0) (v := .ref (ad 6)) (C := RX0) (T := TX0) (N := 3) hx hb hts (by decide +kernel) hown hK hP 4 rfl rfl 1 (by decide) (hts (.fieldLink RX0 13 "PowerRests$Factors" "times" "[I") (by decide +kernel)) (fun _ h9 => h9) rfl dX0_hasTwoCycles_11 ?_
      refine lv_iload_n hx hb dX0_hasTwoCycles_14 rfl (lv_at hl 1 rfl) ?_
      obtain ⟨h_15, hV⟩ := hV
      refine va_iald (f := (a 3)) hx hb hK hP 6 0 rfl rfl h_15 dX0_hasTwoCycles_15 ?_
      refine lv_iconst (v := (2 : Int32)) hx hb dX0_hasTwoCycles_16 (by decide) ?_
      refine lv_icmp_le (tgt := 24) hx hb dX0_hasTwoCycles_17 (by decide) (fun c_17 => ?_) (fun c_17 => ?_)
      · have hV := hV.1 c_17
        refine lv_iconst (v := (0 : Int32)) hx hb dX0_hasTwoCycles_24 (by decide) ?_
        exact W.zret (v := (0 : Int32)) hx hb hr rfl (fun t ht hW => ⟨_, rfl, hV, ht⟩) (fun _ h => by cases h) dX0_hasTwoCycles_25
      · have hV := hV.2 c_17
        refine lv_iconst (v := (1 : Int32)) hx hb dX0_hasTwoCycles_20 (by decide) ?_
        refine lv_goto (tgt := 25) hx hb dX0_hasTwoCycles_21 (by decide) ?_
        exact W.zret (v := (1 : Int32)) hx hb hr rfl (fun t ht hW => ⟨_, rfl, hV, ht⟩) (fun _ h => by cases h) dX0_hasTwoCycles_25
def post_X0_hasTwoCycles (b : Nat) (g : Gs) (a : As) (w : Ws) (p0 r : Int32) : Prop := r = zb (PP b a (tn p0) = 2 ∧ 2 < TT b a (tn p0))
set_option maxRecDepth 4000 in
theorem spec_X0_hasTwoCycles (l : Launch) (b : Nat) (hb2 : b < 2) (D : va_G) (cy : Nat → ClassId) (ad : Nat → Nat) (sz : Nat) (g : Gs) (a : As) (w : Ws) (p0 : Int32) (hpre : pre_X0_hasTwoCycles b g a w p0) : Met l yX0_hasTwoCycles wsX0_hasTwoCycles ({ frames := 0, cells := 0, slots := 0, locals := 0 } : Room) (va_Pc [.ref (ad (1 + 3 * b)), .int p0] (ArP D cy sz (caW ad cy g a w))) (Qpi (post_X0_hasTwoCycles b g a w p0)) 0 0 noF := by
  apply met_X0_hasTwoCycles
  · exact hb2
  obtain ⟨⟨n, hF⟩, k, hk, rfl⟩ := hpre
  obtain ⟨i1, i2, i3, i4, i5, i6, i7, i8, i9⟩ := hF.at hk
  unfold post_X0_hasTwoCycles
  rw [i2, show (nI k).toNatClampNeg = k from i2, i3, i4]
  exact ⟨i1, pk_eq (PP b a k) 2 (fun h => ⟨i1, pk_le (TT b a k) 2 (fun h2 => (zb_f (fun q => by omega)).symm) (fun h2 => (zb_t ⟨h, h2⟩).symm)⟩) (fun h => (zb_f (fun q => h q.1)).symm)⟩
def pre_X0_greatestOrder (b : Nat) (g : Gs) (a : As) (w : Ws) : Prop := ∃ n, Fac b n g a
set_option maxHeartbeats 4000000 in
set_option maxRecDepth 100000 in
theorem met_X0_greatestOrder (l : Launch) (b : Nat) (hb2 : b < 2) (D : va_G) (cy : Nat → ClassId) (ad : Nat → Nat) (sz : Nat) (g : Gs) (a : As) (w : Ws) (post : Int32 → Prop)
  (hV : ∀ (J4 : Int32 → Int32 → Prop),
    (∀ (x1 : Int32) (x2 : Int32), (((g b) ≤ x2 → post x1) ∧ (¬ (g b) ≤ x2 → pre_X0_hasTwoCycles b g a w x2 ∧ (∀ r14 : Int32, post_X0_hasTwoCycles b g a w x2 r14 → ((r14 = 0 → pre_X0_unitsAt b g a w x2 ∧ (∀ r32 : Int32, post_X0_unitsAt b g a w x2 r32 → pre_X4_commonMultiple x1 r32 ∧ (∀ r38 : Int32, post_X4_commonMultiple x1 r32 r38 → J4 r38 (x2 + 1)))) ∧ (¬ r14 = 0 → pre_X0_unitsAt b g a w x2 ∧ (∀ r22 : Int32, post_X0_unitsAt b g a w x2 r22 → pre_X4_commonMultiple x1 (r22 / (2 : Int32)) ∧ (∀ r38 : Int32, post_X4_commonMultiple x1 (r22 / (2 : Int32)) r38 → J4 r38 (x2 + 1)))))))) → J4 x1 x2) →
    J4 (1 : Int32) (0 : Int32)) :
  Met l yX0_greatestOrder wsX0_greatestOrder ({ frames := 2, cells := 0, slots := 0, locals := 47 } : Room) (va_Pc [.ref (ad (1 + 3 * b))] (ArP D cy sz (caW ad cy g a w))) (Qpi post) 0 0 noF := by
  match b, hb2 with
  | 0, _ =>
    refine Met.ofW (cc := cX0_greatestOrder) (maxL := 4) (ret := (some .int)) (by decide) rfl ?_
    intro p e s m args below meth c s₁ B hml hv
    obtain ⟨rfl, hsz, hP, hK, hD0, hN⟩ := hv
    have hx := B.exec
    have hb := B.bytes
    have hr := B.returns
    have hts := atoms_spec (ws := wsX0_greatestOrder) B.pre
    have hown : s.vm.findClass RX0 = some m.cls := findClass_of_methodNamed B.named
    have hlocks := B.notSynchronized
    subst hsz
    have hP : va_P D vwCl (caW ad cy g a w) s.heap := hP
    have hD : va_D (fun _ => True) (caW ad cy g a w) := hD0
    obtain ⟨J4, iJ4, oJ4⟩ : ∃ J : Int32 → Int32 → Prop, (∀ (x1 : Int32) (x2 : Int32), (∀ ls : Array Slot, lv_has ls 4 [(0, .ref (ad 1)), (1, .int x1), (2, .int x2)] → W p l e (headSpec wsX0_greatestOrder ({ frames := 2, cells := 0, slots := 0, locals := 47 } : Room)).room s m [.ref (ad 1)].toArray below meth c s.heap [] 0 0 (MQ below (Qpi post) [.ref (ad 1)].toArray s 0 0 noF) (F0 m 4 ls [])) → J x1 x2) ∧ (∀ (x1 : Int32) (x2 : Int32), J x1 x2 → (∀ ls : Array Slot, lv_has ls 4 [(0, .ref (ad 1)), (1, .int x1), (2, .int x2)] → W p l e (headSpec wsX0_greatestOrder ({ frames := 2, cells := 0, slots := 0, locals := 47 } : Room)).room s m [.ref (ad 1)].toArray below meth c s.heap [] 0 0 (MQ below (Qpi post) [.ref (ad 1)].toArray s 0 0 noF) (F0 m 4 ls []))) := ⟨fun (x1 : Int32) (x2 : Int32) => (∀ ls : Array Slot, lv_has ls 4 [(0, .ref (ad 1)), (1, .int x1), (2, .int x2)] → W p l e (headSpec wsX0_greatestOrder ({ frames := 2, cells := 0, slots := 0, locals := 47 } : Room)).room s m [.ref (ad 1)].toArray below meth c s.heap [] 0 0 (MQ below (Qpi post) [.ref (ad 1)].toArray s 0 0 noF) (F0 m 4 ls [])), fun _ _ h => h, fun _ _ h => h⟩
    have hV := hV J4
    replace hV := hV (by
      intro x1 x2 hV
      refine iJ4 x1 x2 ?_
      intro ls hl
      refine lv_iload_n hx hb dX0_greatestOrder_4 rfl (lv_at hl 2 rfl) ?_
      refine lv_aload_n hx hb dX0_greatestOrder_5 rfl (lv_at hl 0 rfl) ?_
      refine va_get (D := D) (ci := 0) (v := .int (g 0)) (C := RX0) (T := TX0) (N := 3) hx hb hts (by decide +kernel) hown hK hP 1 rfl rfl 2 (by decide) (hts (.fieldLink RX0 16 "PowerRests$Factors" "kinds" "I") (by decide +kernel)) (fun _ h9 => h9) rfl dX0_greatestOrder_6 ?_
      refine lv_icmp_ge (tgt := 48) hx hb dX0_greatestOrder_9 (by decide) (fun c_9 => ?_) (fun c_9 => ?_)
      · have hV := hV.1 c_9
        refine lv_iload_n hx hb dX0_greatestOrder_48 rfl (lv_at hl 1 rfl) ?_
        exact W.iret (v := x1) hx hb hr (fun t ht hW => ⟨_, rfl, hV, ht⟩) (fun _ h => by cases h) dX0_greatestOrder_49
      · have hV := hV.2 c_9
        refine lv_aload_n hx hb dX0_greatestOrder_12 rfl (lv_at hl 0 rfl) ?_
        refine lv_iload_n hx hb dX0_greatestOrder_13 rfl (lv_at hl 2 rfl) ?_
        obtain ⟨h_14, hV⟩ := hV
        refine cp_i (va_runV (As := [.int x2]) (rest := []) ⟨hx, hb, hml, hown, hts⟩ (spec_X0_hasTwoCycles l 0 (by decide) D cy ad s.heap.size g a w x2 h_14) (cwV 1 hts gX0_greatestOrder_X0_hasTwoCycles rfl rfl rfl (by decide +kernel) ⟨Nat.le_of_ble_eq_true rfl, Nat.le_of_ble_eq_true rfl⟩) (ar_preV hN hK hP hD (ci := 0) (q0 := 1) rfl rfl) rfl rfl hl.1 rfl (lv_room (Nat.le_of_ble_eq_true rfl)) dX0_greatestOrder_14 ⟨Nat.zero_le _, Nat.zero_le _⟩) (fun r14 q_14 => ?_)
        have hV := hV r14 q_14
        refine lv_if_eq (tgt := 30) hx hb dX0_greatestOrder_17 (by decide) (fun c_17 => ?_) (fun c_17 => ?_)
        · have hV := hV.1 c_17
          refine lv_aload_n hx hb dX0_greatestOrder_30 rfl (lv_at hl 0 rfl) ?_
          refine lv_iload_n hx hb dX0_greatestOrder_31 rfl (lv_at hl 2 rfl) ?_
          obtain ⟨h_32, hV⟩ := hV
          refine cp_i (va_runV (As := [.int x2]) (rest := []) ⟨hx, hb, hml, hown, hts⟩ (spec_X0_unitsAt l 0 (by decide) D cy ad s.heap.size g a w x2 h_32) (cwV 1 hts gX0_greatestOrder_X0_unitsAt rfl rfl rfl (by decide +kernel) ⟨Nat.le_of_ble_eq_true rfl, Nat.le_of_ble_eq_true rfl⟩) (ar_preV hN hK hP hD (ci := 0) (q0 := 1) rfl rfl) rfl rfl hl.1 rfl (lv_room (Nat.le_of_ble_eq_true rfl)) dX0_greatestOrder_32 ⟨Nat.zero_le _, Nat.zero_le _⟩) (fun r32 q_32 => ?_)
          have hV := hV r32 q_32
          refine lv_istore_n (lv' := [(3, .int r32), (0, .ref (ad 1)), (1, .int x1), (2, .int x2)]) hx hb dX0_greatestOrder_35 rfl hl (by decide) rfl (fun ls hl => ?_)
          refine lv_iload_n hx hb dX0_greatestOrder_36 rfl (lv_at hl 2 rfl) ?_
          refine lv_iload_n hx hb dX0_greatestOrder_37 rfl (lv_at hl 0 rfl) ?_
          obtain ⟨h_38, hV⟩ := hV
          refine cp_i (va_runS (As := [.int x1, .int r32]) (rest := []) ⟨hx, hb, hml, hown, hts⟩ (spec_X4_commonMultiple l x1 r32 h_38) (va_cwS 2 hts gX0_greatestOrder_X4_commonMultiple rfl rfl rfl (by decide +kernel) ⟨Nat.le_of_ble_eq_true rfl, Nat.le_of_ble_eq_true rfl⟩) cp_pre rfl rfl hl.1 rfl (lv_room (Nat.le_of_ble_eq_true rfl)) dX0_greatestOrder_38 ⟨Nat.zero_le _, Nat.zero_le _⟩) (fun r38 q_38 => ?_)
          have hV := hV r38 q_38
          refine lv_istore_n (lv' := [(1, .int r38), (3, .int r32), (0, .ref (ad 1)), (2, .int x2)]) hx hb dX0_greatestOrder_41 rfl hl (by decide) rfl (fun ls hl => ?_)
          refine lv_iinc (v := x2 + 1) (lv' := [(2, .int (x2 + 1)), (1, .int r38), (3, .int r32), (0, .ref (ad 1))]) hx hb dX0_greatestOrder_42 hl (k := 3) rfl rfl (by decide) rfl (fun ls hl => ?_)
          refine lv_goto (tgt := 4) hx hb dX0_greatestOrder_45 (by decide) ?_
          exact oJ4 _ _ hV _ (lv_sub hl [3, 1, 0] rfl)
        · have hV := hV.2 c_17
          refine lv_aload_n hx hb dX0_greatestOrder_20 rfl (lv_at hl 0 rfl) ?_
          refine lv_iload_n hx hb dX0_greatestOrder_21 rfl (lv_at hl 2 rfl) ?_
          obtain ⟨h_22, hV⟩ := hV
          refine cp_i (va_runV (As := [.int x2]) (rest := []) ⟨hx, hb, hml, hown, hts⟩ (spec_X0_unitsAt l 0 (by decide) D cy ad s.heap.size g a w x2 h_22) (cwV 1 hts gX0_greatestOrder_X0_unitsAt rfl rfl rfl (by decide +kernel) ⟨Nat.le_of_ble_eq_true rfl, Nat.le_of_ble_eq_true rfl⟩) (ar_preV hN hK hP hD (ci := 0) (q0 := 1) rfl rfl) rfl rfl hl.1 rfl (lv_room (Nat.le_of_ble_eq_true rfl)) dX0_greatestOrder_22 ⟨Nat.zero_le _, Nat.zero_le _⟩) (fun r22 q_22 => ?_)
          have hV := hV r22 q_22
          refine lv_iconst (v := (2 : Int32)) hx hb dX0_greatestOrder_25 (by decide) ?_
          refine lv_idiv hx hb dX0_greatestOrder_26 (by decide) ?_
          refine lv_goto (tgt := 35) hx hb dX0_greatestOrder_27 (by decide) ?_
          refine lv_istore_n (lv' := [(3, .int (r22 / (2 : Int32))), (0, .ref (ad 1)), (1, .int x1), (2, .int x2)]) hx hb dX0_greatestOrder_35 rfl hl (by decide) rfl (fun ls hl => ?_)
          refine lv_iload_n hx hb dX0_greatestOrder_36 rfl (lv_at hl 2 rfl) ?_
          refine lv_iload_n hx hb dX0_greatestOrder_37 rfl (lv_at hl 0 rfl) ?_
          obtain ⟨h_38, hV⟩ := hV
          refine cp_i (va_runS (As := [.int x1, .int (r22 / (2 : Int32))]) (rest := []) ⟨hx, hb, hml, hown, hts⟩ (spec_X4_commonMultiple l x1 (r22 / (2 : Int32)) h_38) (va_cwS 2 hts gX0_greatestOrder_X4_commonMultiple rfl rfl rfl (by decide +kernel) ⟨Nat.le_of_ble_eq_true rfl, Nat.le_of_ble_eq_true rfl⟩) cp_pre rfl rfl hl.1 rfl (lv_room (Nat.le_of_ble_eq_true rfl)) dX0_greatestOrder_38 ⟨Nat.zero_le _, Nat.zero_le _⟩) (fun r38 q_38 => ?_)
          have hV := hV r38 q_38
          refine lv_istore_n (lv' := [(1, .int r38), (3, .int (r22 / (2 : Int32))), (0, .ref (ad 1)), (2, .int x2)]) hx hb dX0_greatestOrder_41 rfl hl (by decide) rfl (fun ls hl => ?_)
          refine lv_iinc (v := x2 + 1) (lv' := [(2, .int (x2 + 1)), (1, .int r38), (3, .int (r22 / (2 : Int32))), (0, .ref (ad 1))]) hx hb dX0_greatestOrder_42 hl (k := 3) rfl rfl (by decide) rfl (fun ls hl => ?_)
          refine lv_goto (tgt := 4) hx hb dX0_greatestOrder_45 (by decide) ?_
          exact oJ4 _ _ hV _ (lv_sub hl [3, 1, 0] rfl))
    have hl := lv_entry ([.ref (ad 1)]) (n := 4) (Nat.le_of_ble_eq_true rfl)
    rw [lg_entry_eq]
    generalize (lg_sl ([.ref (ad 1)]) ++ List.replicate (4 - (lg_sl ([.ref (ad 1)])).length) Slot.unset).toArray = ls at hl ⊢
    have hl : lv_has ls 4 [(0, .ref (ad 1))] := hl
    refine lv_iconst (v := (1 : Int32)) hx hb dX0_greatestOrder_0 (by decide) ?_
    refine lv_istore_n (lv' := [(1, .int (1 : Int32)), (0, .ref (ad 1))]) hx hb dX0_greatestOrder_1 rfl hl (by decide) rfl (fun ls hl => ?_)
    refine lv_iconst (v := (0 : Int32)) hx hb dX0_greatestOrder_2 (by decide) ?_
    refine lv_istore_n (lv' := [(2, .int (0 : Int32)), (1, .int (1 : Int32)), (0, .ref (ad 1))]) hx hb dX0_greatestOrder_3 rfl hl (by decide) rfl (fun ls hl => ?_)
    exact oJ4 _ _ hV _ (lv_sub hl [2, 1, 0] rfl)
  | 1, _ =>
    refine Met.ofW (cc := cX0_greatestOrder) (maxL := 4) (ret := (some .int)) (by decide) rfl ?_
    intro p e s m args below meth c s₁ B hml hv
    obtain ⟨rfl, hsz, hP, hK, hD0, hN⟩ := hv
    have hx := B.exec
    have hb := B.bytes
    have hr := B.returns
    have hts := atoms_spec (ws := wsX0_greatestOrder) B.pre
    have hown : s.vm.findClass RX0 = some m.cls := findClass_of_methodNamed B.named
    have hlocks := B.notSynchronized
    subst hsz
    have hP : va_P D vwCl (caW ad cy g a w) s.heap := hP
    have hD : va_D (fun _ => True) (caW ad cy g a w) := hD0
    obtain ⟨J4, iJ4, oJ4⟩ : ∃ J : Int32 → Int32 → Prop, (∀ (x1 : Int32) (x2 : Int32), (∀ ls : Array Slot, lv_has ls 4 [(0, .ref (ad 4)), (1, .int x1), (2, .int x2)] → W p l e (headSpec wsX0_greatestOrder ({ frames := 2, cells := 0, slots := 0, locals := 47 } : Room)).room s m [.ref (ad 4)].toArray below meth c s.heap [] 0 0 (MQ below (Qpi post) [.ref (ad 4)].toArray s 0 0 noF) (F0 m 4 ls [])) → J x1 x2) ∧ (∀ (x1 : Int32) (x2 : Int32), J x1 x2 → (∀ ls : Array Slot, lv_has ls 4 [(0, .ref (ad 4)), (1, .int x1), (2, .int x2)] → W p l e (headSpec wsX0_greatestOrder ({ frames := 2, cells := 0, slots := 0, locals := 47 } : Room)).room s m [.ref (ad 4)].toArray below meth c s.heap [] 0 0 (MQ below (Qpi post) [.ref (ad 4)].toArray s 0 0 noF) (F0 m 4 ls []))) := ⟨fun (x1 : Int32) (x2 : Int32) => (∀ ls : Array Slot, lv_has ls 4 [(0, .ref (ad 4)), (1, .int x1), (2, .int x2)] → W p l e (headSpec wsX0_greatestOrder ({ frames := 2, cells := 0, slots := 0, locals := 47 } : Room)).room s m [.ref (ad 4)].toArray below meth c s.heap [] 0 0 (MQ below (Qpi post) [.ref (ad 4)].toArray s 0 0 noF) (F0 m 4 ls [])), fun _ _ h => h, fun _ _ h => h⟩
    have hV := hV J4
    replace hV := hV (by
      intro x1 x2 hV
      refine iJ4 x1 x2 ?_
      intro ls hl
      refine lv_iload_n hx hb dX0_greatestOrder_4 rfl (lv_at hl 2 rfl) ?_
      refine lv_aload_n hx hb dX0_greatestOrder_5 rfl (lv_at hl 0 rfl) ?_
      refine va_get (D := D) (ci := 0) (v := .int (g 1)) (C := RX0) (T := TX0) (N := 3) hx hb hts (by decide +kernel) hown hK hP 4 rfl rfl 2 (by decide) (hts (.fieldLink RX0 16 "PowerRests$Factors" "kinds" "I") (by decide +kernel)) (fun _ h9 => h9) rfl dX0_greatestOrder_6 ?_
      refine lv_icmp_ge (tgt := 48) hx hb dX0_greatestOrder_9 (by decide) (fun c_9 => ?_) (fun c_9 => ?_)
      · have hV := hV.1 c_9
        refine lv_iload_n hx hb dX0_greatestOrder_48 rfl (lv_at hl 1 rfl) ?_
        exact W.iret (v := x1) hx hb hr (fun t ht hW => ⟨_, rfl, hV, ht⟩) (fun _ h => by cases h) dX0_greatestOrder_49
      · have hV := hV.2 c_9
        refine lv_aload_n hx hb dX0_greatestOrder_12 rfl (lv_at hl 0 rfl) ?_
        refine lv_iload_n hx hb dX0_greatestOrder_13 rfl (lv_at hl 2 rfl) ?_
        obtain ⟨h_14, hV⟩ := hV
        refine cp_i (va_runV (As := [.int x2]) (rest := []) ⟨hx, hb, hml, hown, hts⟩ (spec_X0_hasTwoCycles l 1 (by decide) D cy ad s.heap.size g a w x2 h_14) (cwV 1 hts gX0_greatestOrder_X0_hasTwoCycles rfl rfl rfl (by decide +kernel) ⟨Nat.le_of_ble_eq_true rfl, Nat.le_of_ble_eq_true rfl⟩) (ar_preV hN hK hP hD (ci := 0) (q0 := 4) rfl rfl) rfl rfl hl.1 rfl (lv_room (Nat.le_of_ble_eq_true rfl)) dX0_greatestOrder_14 ⟨Nat.zero_le _, Nat.zero_le _⟩) (fun r14 q_14 => ?_)
        have hV := hV r14 q_14
        refine lv_if_eq (tgt := 30) hx hb dX0_greatestOrder_17 (by decide) (fun c_17 => ?_) (fun c_17 => ?_)
        · have hV := hV.1 c_17
          refine lv_aload_n hx hb dX0_greatestOrder_30 rfl (lv_at hl 0 rfl) ?_
          refine lv_iload_n hx hb dX0_greatestOrder_31 rfl (lv_at hl 2 rfl) ?_
          obtain ⟨h_32, hV⟩ := hV
          refine cp_i (va_runV (As := [.int x2]) (rest := []) ⟨hx, hb, hml, hown, hts⟩ (spec_X0_unitsAt l 1 (by decide) D cy ad s.heap.size g a w x2 h_32) (cwV 1 hts gX0_greatestOrder_X0_unitsAt rfl rfl rfl (by decide +kernel) ⟨Nat.le_of_ble_eq_true rfl, Nat.le_of_ble_eq_true rfl⟩) (ar_preV hN hK hP hD (ci := 0) (q0 := 4) rfl rfl) rfl rfl hl.1 rfl (lv_room (Nat.le_of_ble_eq_true rfl)) dX0_greatestOrder_32 ⟨Nat.zero_le _, Nat.zero_le _⟩) (fun r32 q_32 => ?_)
          have hV := hV r32 q_32
          refine lv_istore_n (lv' := [(3, .int r32), (0, .ref (ad 4)), (1, .int x1), (2, .int x2)]) hx hb dX0_greatestOrder_35 rfl hl (by decide) rfl (fun ls hl => ?_)
          refine lv_iload_n hx hb dX0_greatestOrder_36 rfl (lv_at hl 2 rfl) ?_
          refine lv_iload_n hx hb dX0_greatestOrder_37 rfl (lv_at hl 0 rfl) ?_
          obtain ⟨h_38, hV⟩ := hV
          refine cp_i (va_runS (As := [.int x1, .int r32]) (rest := []) ⟨hx, hb, hml, hown, hts⟩ (spec_X4_commonMultiple l x1 r32 h_38) (va_cwS 2 hts gX0_greatestOrder_X4_commonMultiple rfl rfl rfl (by decide +kernel) ⟨Nat.le_of_ble_eq_true rfl, Nat.le_of_ble_eq_true rfl⟩) cp_pre rfl rfl hl.1 rfl (lv_room (Nat.le_of_ble_eq_true rfl)) dX0_greatestOrder_38 ⟨Nat.zero_le _, Nat.zero_le _⟩) (fun r38 q_38 => ?_)
          have hV := hV r38 q_38
          refine lv_istore_n (lv' := [(1, .int r38), (3, .int r32), (0, .ref (ad 4)), (2, .int x2)]) hx hb dX0_greatestOrder_41 rfl hl (by decide) rfl (fun ls hl => ?_)
          refine lv_iinc (v := x2 + 1) (lv' := [(2, .int (x2 + 1)), (1, .int r38), (3, .int r32), (0, .ref (ad 4))]) hx hb dX0_greatestOrder_42 hl (k := 3) rfl rfl (by decide) rfl (fun ls hl => ?_)
          refine lv_goto (tgt := 4) hx hb dX0_greatestOrder_45 (by decide) ?_
          exact oJ4 _ _ hV _ (lv_sub hl [3, 1, 0] rfl)
        · have hV := hV.2 c_17
          refine lv_aload_n hx hb dX0_greatestOrder_20 rfl (lv_at hl 0 rfl) ?_
          refine lv_iload_n hx hb dX0_greatestOrder_21 rfl (lv_at hl 2 rfl) ?_
          obtain ⟨h_22, hV⟩ := hV
          refine cp_i (va_runV (As := [.int x2]) (rest := []) ⟨hx, hb, hml, hown, hts⟩ (spec_X0_unitsAt l 1 (by decide) D cy ad s.heap.size g a w x2 h_22) (cwV 1 hts gX0_greatestOrder_X0_unitsAt rfl rfl rfl (by decide +kernel) ⟨Nat.le_of_ble_eq_true rfl, Nat.le_of_ble_eq_true rfl⟩) (ar_preV hN hK hP hD (ci := 0) (q0 := 4) rfl rfl) rfl rfl hl.1 rfl (lv_room (Nat.le_of_ble_eq_true rfl)) dX0_greatestOrder_22 ⟨Nat.zero_le _, Nat.zero_le _⟩) (fun r22 q_22 => ?_)
          have hV := hV r22 q_22
          refine lv_iconst (v := (2 : Int32)) hx hb dX0_greatestOrder_25 (by decide) ?_
          refine lv_idiv hx hb dX0_greatestOrder_26 (by decide) ?_
          refine lv_goto (tgt := 35) hx hb dX0_greatestOrder_27 (by decide) ?_
          refine lv_istore_n (lv' := [(3, .int (r22 / (2 : Int32))), (0, .ref (ad 4)), (1, .int x1), (2, .int x2)]) hx hb dX0_greatestOrder_35 rfl hl (by decide) rfl (fun ls hl => ?_)
          refine lv_iload_n hx hb dX0_greatestOrder_36 rfl (lv_at hl 2 rfl) ?_
          refine lv_iload_n hx hb dX0_greatestOrder_37 rfl (lv_at hl 0 rfl) ?_
          obtain ⟨h_38, hV⟩ := hV
          refine cp_i (va_runS (As := [.int x1, .int (r22 / (2 : Int32))]) (rest := []) ⟨hx, hb, hml, hown, hts⟩ (spec_X4_commonMultiple l x1 (r22 / (2 : Int32)) h_38) (va_cwS 2 hts gX0_greatestOrder_X4_commonMultiple rfl rfl rfl (by decide +kernel) ⟨Nat.le_of_ble_eq_true rfl, Nat.le_of_ble_eq_true rfl⟩) cp_pre rfl rfl hl.1 rfl (lv_room (Nat.le_of_ble_eq_true rfl)) dX0_greatestOrder_38 ⟨Nat.zero_le _, Nat.zero_le _⟩) (fun r38 q_38 => ?_)
          have hV := hV r38 q_38
          refine lv_istore_n (lv' := [(1, .int r38), (3, .int (r22 / (2 : Int32))), (0, .ref (ad 4)), (2, .int x2)]) hx hb dX0_greatestOrder_41 rfl hl (by decide) rfl (fun ls hl => ?_)
          refine lv_iinc (v := x2 + 1) (lv' := [(2, .int (x2 + 1)), (1, .int r38), (3, .int (r22 / (2 : Int32))), (0, .ref (ad 4))]) hx hb dX0_greatestOrder_42 hl (k := 3) rfl rfl (by decide) rfl (fun ls hl => ?_)
          refine lv_goto (tgt := 4) hx hb dX0_greatestOrder_45 (by decide) ?_
          exact oJ4 _ _ hV _ (lv_sub hl [3, 1, 0] rfl))
    have hl := lv_entry ([.ref (ad 4)]) (n := 4) (Nat.le_of_ble_eq_true rfl)
    rw [lg_entry_eq]
    generalize (lg_sl ([.ref (ad 4)]) ++ List.replicate (4 - (lg_sl ([.ref (ad 4)])).length) Slot.unset).toArray = ls at hl ⊢
    have hl : lv_has ls 4 [(0, .ref (ad 4))] := hl
    refine lv_iconst (v := (1 : Int32)) hx hb dX0_greatestOrder_0 (by decide) ?_
    refine lv_istore_n (lv' := [(1, .int (1 : Int32)), (0, .ref (ad 4))]) hx hb dX0_greatestOrder_1 rfl hl (by decide) rfl (fun ls hl => ?_)
    refine lv_iconst (v := (0 : Int32)) hx hb dX0_greatestOrder_2 (by decide) ?_
    refine lv_istore_n (lv' := [(2, .int (0 : Int32)), (1, .int (1 : Int32)), (0, .ref (ad 4))]) hx hb dX0_greatestOrder_3 rfl hl (by decide) rfl (fun ls hl => ?_)
    exact oJ4 _ _ hV _ (lv_sub hl [2, 1, 0] rfl)
def post_X0_greatestOrder (b : Nat) (g : Gs) (a : As) (w : Ws) (r : Int32) : Prop := r = nI (lcmF (cyF (PP b a) (TT b a)) (tn (g b)))
set_option maxRecDepth 4000 in
theorem spec_X0_greatestOrder (l : Launch) (b : Nat) (hb2 : b < 2) (D : va_G) (cy : Nat → ClassId) (ad : Nat → Nat) (sz : Nat) (g : Gs) (a : As) (w : Ws) (hpre : pre_X0_greatestOrder b g a w) : Met l yX0_greatestOrder wsX0_greatestOrder ({ frames := 2, cells := 0, slots := 0, locals := 47 } : Room) (va_Pc [.ref (ad (1 + 3 * b))] (ArP D cy sz (caW ad cy g a w))) (Qpi (post_X0_greatestOrder b g a w)) 0 0 noF := by
  apply met_X0_greatestOrder
  · exact hb2
  intro J hJ
  obtain ⟨n, hF⟩ := hpre
  have h7 := hF.few
  have hc := fac_cy hF.1
  have hpr : ∀ k, k ≤ tn (g b) → lcmF (cyF (PP b a) (TT b a)) k ≤ 100000 := fun k hk => by
    have h1 := lcmF_le (f := cyF (PP b a) (TT b a)) (m := k) (fun i hi => (hc i (by omega)).1)
    have h2 := fac_pr hF.1 hk hc
    have := hF.2.1
    omega
  have key : ∀ (d k : Nat), k + d = tn (g b) → J (nI (lcmF (cyF (PP b a) (TT b a)) k)) (nI k) := by
    intro d
    induction d with
    | zero =>
      intro k hk
      refine hJ _ _ ?_
      rw [hF.2.2.1]
      refine pk_le (tn (g b)) k (fun _ => ?_) (fun h => absurd h (by omega))
      unfold post_X0_greatestOrder
      rw [show k = tn (g b) by omega]
    | succ d ih =>
      intro k hk
      have hkm : k < tn (g b) := by omega
      have hp1 := hpr k (by omega)
      have hp2 := hpr (k + 1) (by omega)
      have hck := hc k hkm
      have hat := hF.at hkm
      have huk := un_b (P := PP b a) (T := TT b a) (i := k) hat.2.2.2.2.1
      have hpre2 : ∀ c, c = cyF (PP b a) (TT b a) k → pre_X4_commonMultiple (nI (lcmF (cyF (PP b a) (TT b a)) k)) (nI c) := by
        rintro c rfl
        refine ⟨by rw [nI_toInt (by omega)]; omega, by rw [nI_toInt (by omega)]; omega, ?_⟩
        rw [tn_nI (by omega), tn_nI (by omega)]
        show lcmF (cyF (PP b a) (TT b a)) (k + 1) < 2 ^ 31
        omega
      have hgo : ∀ c r, c = cyF (PP b a) (TT b a) k → post_X4_commonMultiple (nI (lcmF (cyF (PP b a) (TT b a)) k)) (nI c) r → J r (nI k + 1) := by
        rintro c r rfl hr
        unfold post_X4_commonMultiple at hr
        rw [tn_nI (by omega), tn_nI (by omega)] at hr
        rw [hr, nI_1]
        exact ih (k + 1) (by omega)
      refine hJ _ _ ?_
      rw [hF.2.2.1]
      refine pk_le (tn (g b)) k (fun h => absurd h (by omega)) (fun _ => ⟨⟨⟨n, hF⟩, k, hkm, rfl⟩, fun r hr => ?_⟩)
      unfold post_X0_hasTwoCycles at hr
      rw [tn_nI (by omega)] at hr
      refine ⟨fun h => ⟨⟨⟨n, hF⟩, k, hkm, rfl⟩, fun r2 hr2 => ?_⟩, fun h => ⟨⟨⟨n, hF⟩, k, hkm, rfl⟩, fun r2 hr2 => ?_⟩⟩
      · have hn : ¬ (PP b a k = 2 ∧ 2 < TT b a k) := zb_0 (hr ▸ h)
        have e : cyF (PP b a) (TT b a) k = un (PP b a) (TT b a) k := if_neg hn
        unfold post_X0_unitsAt at hr2
        rw [tn_nI (by omega)] at hr2
        rw [hr2]
        exact ⟨hpre2 _ e.symm, fun r3 hr3 => hgo _ r3 e.symm hr3⟩
      · have hy : PP b a k = 2 ∧ 2 < TT b a k := zb_1 (hr ▸ h)
        have e : cyF (PP b a) (TT b a) k = un (PP b a) (TT b a) k / 2 := if_pos hy
        unfold post_X0_unitsAt at hr2
        rw [tn_nI (by omega)] at hr2
        have e3 : nI (un (PP b a) (TT b a) k) / (2 : Int32) = nI (un (PP b a) (TT b a) k / 2) := pk_div (d := 2) (by omega) (by decide) (by decide)
        rw [hr2, e3]
        exact ⟨hpre2 _ e.symm, fun r3 hr3 => hgo _ r3 e.symm hr3⟩
  exact key (tn (g b)) 0 (by omega)
def pre_X0_rootsOfOne (b : Nat) (g : Gs) (a : As) (w : Ws) (p0 : Int32) : Prop := 0 ≤ p0.toInt ∧ ∃ n, Fac b n g a
set_option maxHeartbeats 4000000 in
set_option maxRecDepth 100000 in
theorem met_X0_rootsOfOne (l : Launch) (b : Nat) (hb2 : b < 2) (D : va_G) (cy : Nat → ClassId) (ad : Nat → Nat) (sz : Nat) (g : Gs) (a : As) (w : Ws) (p0 : Int32) (post : Int32 → Prop)
  (hV : ∀ (J4 : Int32 → Int32 → Prop),
    (∀ (x2 : Int32) (x3 : Int32), (((g b) ≤ x3 → post x2) ∧ (¬ (g b) ≤ x3 → pre_X0_hasTwoCycles b g a w x3 ∧ (∀ r14 : Int32, post_X0_hasTwoCycles b g a w x3 r14 → ((r14 = 0 → pre_X0_unitsAt b g a w x3 ∧ (∀ r47 : Int32, post_X0_unitsAt b g a w x3 r47 → pre_X4_commonDivisor p0 r47 ∧ (∀ r50 : Int32, post_X4_commonDivisor p0 r47 r50 → J4 (x2 * r50) (x3 + 1)))) ∧ (¬ r14 = 0 → pre_X4_commonDivisor p0 (2 : Int32) ∧ (∀ r23 : Int32, post_X4_commonDivisor p0 (2 : Int32) r23 → pre_X0_unitsAt b g a w x3 ∧ (∀ r29 : Int32, post_X0_unitsAt b g a w x3 r29 → pre_X4_commonDivisor p0 (r29 / (2 : Int32)) ∧ (∀ r34 : Int32, post_X4_commonDivisor p0 (r29 / (2 : Int32)) r34 → J4 (x2 * (r23 * r34)) (x3 + 1))))))))) → J4 x2 x3) →
    J4 (1 : Int32) (0 : Int32)) :
  Met l yX0_rootsOfOne wsX0_rootsOfOne ({ frames := 1, cells := 0, slots := 0, locals := 25 } : Room) (va_Pc [.ref (ad (1 + 3 * b)), .int p0] (ArP D cy sz (caW ad cy g a w))) (Qpi post) 0 0 noF := by
  match b, hb2 with
  | 0, _ =>
    refine Met.ofW (cc := cX0_rootsOfOne) (maxL := 4) (ret := (some .int)) (by decide) rfl ?_
    intro p e s m args below meth c s₁ B hml hv
    obtain ⟨rfl, hsz, hP, hK, hD0, hN⟩ := hv
    have hx := B.exec
    have hb := B.bytes
    have hr := B.returns
    have hts := atoms_spec (ws := wsX0_rootsOfOne) B.pre
    have hown : s.vm.findClass RX0 = some m.cls := findClass_of_methodNamed B.named
    have hlocks := B.notSynchronized
    subst hsz
    have hP : va_P D vwCl (caW ad cy g a w) s.heap := hP
    have hD : va_D (fun _ => True) (caW ad cy g a w) := hD0
    obtain ⟨J4, iJ4, oJ4⟩ : ∃ J : Int32 → Int32 → Prop, (∀ (x2 : Int32) (x3 : Int32), (∀ ls : Array Slot, lv_has ls 4 [(0, .ref (ad 1)), (1, .int p0), (2, .int x2), (3, .int x3)] → W p l e (headSpec wsX0_rootsOfOne ({ frames := 1, cells := 0, slots := 0, locals := 25 } : Room)).room s m [.ref (ad 1), .int p0].toArray below meth c s.heap [] 0 0 (MQ below (Qpi post) [.ref (ad 1), .int p0].toArray s 0 0 noF) (F0 m 4 ls [])) → J x2 x3) ∧ (∀ (x2 : Int32) (x3 : Int32), J x2 x3 → (∀ ls : Array Slot, lv_has ls 4 [(0, .ref (ad 1)), (1, .int p0), (2, .int x2), (3, .int x3)] → W p l e (headSpec wsX0_rootsOfOne ({ frames := 1, cells := 0, slots := 0, locals := 25 } : Room)).room s m [.ref (ad 1), .int p0].toArray below meth c s.heap [] 0 0 (MQ below (Qpi post) [.ref (ad 1), .int p0].toArray s 0 0 noF) (F0 m 4 ls []))) := ⟨fun (x2 : Int32) (x3 : Int32) => (∀ ls : Array Slot, lv_has ls 4 [(0, .ref (ad 1)), (1, .int p0), (2, .int x2), (3, .int x3)] → W p l e (headSpec wsX0_rootsOfOne ({ frames := 1, cells := 0, slots := 0, locals := 25 } : Room)).room s m [.ref (ad 1), .int p0].toArray below meth c s.heap [] 0 0 (MQ below (Qpi post) [.ref (ad 1), .int p0].toArray s 0 0 noF) (F0 m 4 ls [])), fun _ _ h => h, fun _ _ h => h⟩
    have hV := hV J4
    replace hV := hV (by
      intro x2 x3 hV
      refine iJ4 x2 x3 ?_
      intro ls hl
      refine lv_iload_n hx hb dX0_rootsOfOne_4 rfl (lv_at hl 3 rfl) ?_
      refine lv_aload_n hx hb dX0_rootsOfOne_5 rfl (lv_at hl 0 rfl) ?_
      refine va_get (D := D) (ci := 0) (v := .int (g 0)) (C := RX0) (T := TX0) (N := 3) hx hb hts (by decide +kernel) hown hK hP 1 rfl rfl 2 (by decide) (hts (.fieldLink RX0 16 "PowerRests$Factors" "kinds" "I") (by decide +kernel)) (fun _ h9 => h9) rfl dX0_rootsOfOne_6 ?_
      refine lv_icmp_ge (tgt := 61) hx hb dX0_rootsOfOne_9 (by decide) (fun c_9 => ?_) (fun c_9 => ?_)
      · have hV := hV.1 c_9
        refine lv_iload_n hx hb dX0_rootsOfOne_61 rfl (lv_at hl 2 rfl) ?_
        exact W.iret (v := x2) hx hb hr (fun t ht hW => ⟨_, rfl, hV, ht⟩) (fun _ h => by cases h) dX0_rootsOfOne_62
      · have hV := hV.2 c_9
        refine lv_aload_n hx hb dX0_rootsOfOne_12 rfl (lv_at hl 0 rfl) ?_
        refine lv_iload_n hx hb dX0_rootsOfOne_13 rfl (lv_at hl 3 rfl) ?_
        obtain ⟨h_14, hV⟩ := hV
        refine cp_i (va_runV (As := [.int x3]) (rest := []) ⟨hx, hb, hml, hown, hts⟩ (spec_X0_hasTwoCycles l 0 (by decide) D cy ad s.heap.size g a w x3 h_14) (cwV 1 hts gX0_rootsOfOne_X0_hasTwoCycles rfl rfl rfl (by decide +kernel) ⟨Nat.le_of_ble_eq_true rfl, Nat.le_of_ble_eq_true rfl⟩) (ar_preV hN hK hP hD (ci := 0) (q0 := 1) rfl rfl) rfl rfl hl.1 rfl (lv_room (Nat.le_of_ble_eq_true rfl)) dX0_rootsOfOne_14 ⟨Nat.zero_le _, Nat.zero_le _⟩) (fun r14 q_14 => ?_)
        have hV := hV r14 q_14
        refine lv_if_eq (tgt := 43) hx hb dX0_rootsOfOne_17 (by decide) (fun c_17 => ?_) (fun c_17 => ?_)
        · have hV := hV.1 c_17
          refine lv_iload_n hx hb dX0_rootsOfOne_43 rfl (lv_at hl 2 rfl) ?_
          refine lv_iload_n hx hb dX0_rootsOfOne_44 rfl (lv_at hl 1 rfl) ?_
          refine lv_aload_n hx hb dX0_rootsOfOne_45 rfl (lv_at hl 0 rfl) ?_
          refine lv_iload_n hx hb dX0_rootsOfOne_46 rfl (lv_at hl 3 rfl) ?_
          obtain ⟨h_47, hV⟩ := hV
          refine cp_i (va_runV (As := [.int x3]) (rest := [.int p0, .int x2]) ⟨hx, hb, hml, hown, hts⟩ (spec_X0_unitsAt l 0 (by decide) D cy ad s.heap.size g a w x3 h_47) (cwV 1 hts gX0_rootsOfOne_X0_unitsAt rfl rfl rfl (by decide +kernel) ⟨Nat.le_of_ble_eq_true rfl, Nat.le_of_ble_eq_true rfl⟩) (ar_preV hN hK hP hD (ci := 0) (q0 := 1) rfl rfl) rfl rfl hl.1 rfl (lv_room (Nat.le_of_ble_eq_true rfl)) dX0_rootsOfOne_47 ⟨Nat.zero_le _, Nat.zero_le _⟩) (fun r47 q_47 => ?_)
          have hV := hV r47 q_47
          obtain ⟨h_50, hV⟩ := hV
          refine cp_i (va_runS (As := [.int p0, .int r47]) (rest := [.int x2]) ⟨hx, hb, hml, hown, hts⟩ (spec_X4_commonDivisor l p0 r47 h_50) (va_cwS 2 hts gX0_rootsOfOne_X4_commonDivisor rfl rfl rfl (by decide +kernel) ⟨Nat.le_of_ble_eq_true rfl, Nat.le_of_ble_eq_true rfl⟩) cp_pre rfl rfl hl.1 rfl (lv_room (Nat.le_of_ble_eq_true rfl)) dX0_rootsOfOne_50 ⟨Nat.zero_le _, Nat.zero_le _⟩) (fun r50 q_50 => ?_)
          have hV := hV r50 q_50
          refine lv_imul hx hb dX0_rootsOfOne_53 ?_
          refine lv_istore_n (lv' := [(2, .int (x2 * r50)), (0, .ref (ad 1)), (1, .int p0), (3, .int x3)]) hx hb dX0_rootsOfOne_54 rfl hl (by decide) rfl (fun ls hl => ?_)
          refine lv_iinc (v := x3 + 1) (lv' := [(3, .int (x3 + 1)), (2, .int (x2 * r50)), (0, .ref (ad 1)), (1, .int p0)]) hx hb dX0_rootsOfOne_55 hl (k := 3) rfl rfl (by decide) rfl (fun ls hl => ?_)
          refine lv_goto (tgt := 4) hx hb dX0_rootsOfOne_58 (by decide) ?_
          exact oJ4 _ _ hV _ (lv_sub hl [2, 3, 1, 0] rfl)
        · have hV := hV.2 c_17
          refine lv_iload_n hx hb dX0_rootsOfOne_20 rfl (lv_at hl 2 rfl) ?_
          refine lv_iload_n hx hb dX0_rootsOfOne_21 rfl (lv_at hl 1 rfl) ?_
          refine lv_iconst (v := (2 : Int32)) hx hb dX0_rootsOfOne_22 (by decide) ?_
          obtain ⟨h_23, hV⟩ := hV
          refine cp_i (va_runS (As := [.int p0, .int (2 : Int32)]) (rest := [.int x2]) ⟨hx, hb, hml, hown, hts⟩ (spec_X4_commonDivisor l p0 (2 : Int32) h_23) (va_cwS 2 hts gX0_rootsOfOne_X4_commonDivisor rfl rfl rfl (by decide +kernel) ⟨Nat.le_of_ble_eq_true rfl, Nat.le_of_ble_eq_true rfl⟩) cp_pre rfl rfl hl.1 rfl (lv_room (Nat.le_of_ble_eq_true rfl)) dX0_rootsOfOne_23 ⟨Nat.zero_le _, Nat.zero_le _⟩) (fun r23 q_23 => ?_)
          have hV := hV r23 q_23
          refine lv_iload_n hx hb dX0_rootsOfOne_26 rfl (lv_at hl 1 rfl) ?_
          refine lv_aload_n hx hb dX0_rootsOfOne_27 rfl (lv_at hl 0 rfl) ?_
          refine lv_iload_n hx hb dX0_rootsOfOne_28 rfl (lv_at hl 3 rfl) ?_
          obtain ⟨h_29, hV⟩ := hV
          refine cp_i (va_runV (As := [.int x3]) (rest := [.int p0, .int r23, .int x2]) ⟨hx, hb, hml, hown, hts⟩ (spec_X0_unitsAt l 0 (by decide) D cy ad s.heap.size g a w x3 h_29) (cwV 1 hts gX0_rootsOfOne_X0_unitsAt rfl rfl rfl (by decide +kernel) ⟨Nat.le_of_ble_eq_true rfl, Nat.le_of_ble_eq_true rfl⟩) (ar_preV hN hK hP hD (ci := 0) (q0 := 1) rfl rfl) rfl rfl hl.1 rfl (lv_room (Nat.le_of_ble_eq_true rfl)) dX0_rootsOfOne_29 ⟨Nat.zero_le _, Nat.zero_le _⟩) (fun r29 q_29 => ?_)
          have hV := hV r29 q_29
          refine lv_iconst (v := (2 : Int32)) hx hb dX0_rootsOfOne_32 (by decide) ?_
          refine lv_idiv hx hb dX0_rootsOfOne_33 (by decide) ?_
          obtain ⟨h_34, hV⟩ := hV
          refine cp_i (va_runS (As := [.int p0, .int (r29 / (2 : Int32))]) (rest := [.int r23, .int x2]) ⟨hx, hb, hml, hown, hts⟩ (spec_X4_commonDivisor l p0 (r29 / (2 : Int32)) h_34) (va_cwS 2 hts gX0_rootsOfOne_X4_commonDivisor rfl rfl rfl (by decide +kernel) ⟨Nat.le_of_ble_eq_true rfl, Nat.le_of_ble_eq_true rfl⟩) cp_pre rfl rfl hl.1 rfl (lv_room (Nat.le_of_ble_eq_true rfl)) dX0_rootsOfOne_34 ⟨Nat.zero_le _, Nat.zero_le _⟩) (fun r34 q_34 => ?_)
          have hV := hV r34 q_34
          refine lv_imul hx hb dX0_rootsOfOne_37 ?_
          refine lv_imul hx hb dX0_rootsOfOne_38 ?_
          refine lv_istore_n (lv' := [(2, .int (x2 * (r23 * r34))), (0, .ref (ad 1)), (1, .int p0), (3, .int x3)]) hx hb dX0_rootsOfOne_39 rfl hl (by decide) rfl (fun ls hl => ?_)
          refine lv_goto (tgt := 55) hx hb dX0_rootsOfOne_40 (by decide) ?_
          refine lv_iinc (v := x3 + 1) (lv' := [(3, .int (x3 + 1)), (2, .int (x2 * (r23 * r34))), (0, .ref (ad 1)), (1, .int p0)]) hx hb dX0_rootsOfOne_55 hl (k := 3) rfl rfl (by decide) rfl (fun ls hl => ?_)
          refine lv_goto (tgt := 4) hx hb dX0_rootsOfOne_58 (by decide) ?_
          exact oJ4 _ _ hV _ (lv_sub hl [2, 3, 1, 0] rfl))
    have hl := lv_entry ([.ref (ad 1), .int p0]) (n := 4) (Nat.le_of_ble_eq_true rfl)
    rw [lg_entry_eq]
    generalize (lg_sl ([.ref (ad 1), .int p0]) ++ List.replicate (4 - (lg_sl ([.ref (ad 1), .int p0])).length) Slot.unset).toArray = ls at hl ⊢
    have hl : lv_has ls 4 [(0, .ref (ad 1)), (1, .int p0)] := hl
    refine lv_iconst (v := (1 : Int32)) hx hb dX0_rootsOfOne_0 (by decide) ?_
    refine lv_istore_n (lv' := [(2, .int (1 : Int32)), (0, .ref (ad 1)), (1, .int p0)]) hx hb dX0_rootsOfOne_1 rfl hl (by decide) rfl (fun ls hl => ?_)
    refine lv_iconst (v := (0 : Int32)) hx hb dX0_rootsOfOne_2 (by decide) ?_
    refine lv_istore_n (lv' := [(3, .int (0 : Int32)), (2, .int (1 : Int32)), (0, .ref (ad 1)), (1, .int p0)]) hx hb dX0_rootsOfOne_3 rfl hl (by decide) rfl (fun ls hl => ?_)
    exact oJ4 _ _ hV _ (lv_sub hl [2, 3, 1, 0] rfl)
  | 1, _ =>
    refine Met.ofW (cc := cX0_rootsOfOne) (maxL := 4) (ret := (some .int)) (by decide) rfl ?_
    intro p e s m args below meth c s₁ B hml hv
    obtain ⟨rfl, hsz, hP, hK, hD0, hN⟩ := hv
    have hx := B.exec
    have hb := B.bytes
    have hr := B.returns
    have hts := atoms_spec (ws := wsX0_rootsOfOne) B.pre
    have hown : s.vm.findClass RX0 = some m.cls := findClass_of_methodNamed B.named
    have hlocks := B.notSynchronized
    subst hsz
    have hP : va_P D vwCl (caW ad cy g a w) s.heap := hP
    have hD : va_D (fun _ => True) (caW ad cy g a w) := hD0
    obtain ⟨J4, iJ4, oJ4⟩ : ∃ J : Int32 → Int32 → Prop, (∀ (x2 : Int32) (x3 : Int32), (∀ ls : Array Slot, lv_has ls 4 [(0, .ref (ad 4)), (1, .int p0), (2, .int x2), (3, .int x3)] → W p l e (headSpec wsX0_rootsOfOne ({ frames := 1, cells := 0, slots := 0, locals := 25 } : Room)).room s m [.ref (ad 4), .int p0].toArray below meth c s.heap [] 0 0 (MQ below (Qpi post) [.ref (ad 4), .int p0].toArray s 0 0 noF) (F0 m 4 ls [])) → J x2 x3) ∧ (∀ (x2 : Int32) (x3 : Int32), J x2 x3 → (∀ ls : Array Slot, lv_has ls 4 [(0, .ref (ad 4)), (1, .int p0), (2, .int x2), (3, .int x3)] → W p l e (headSpec wsX0_rootsOfOne ({ frames := 1, cells := 0, slots := 0, locals := 25 } : Room)).room s m [.ref (ad 4), .int p0].toArray below meth c s.heap [] 0 0 (MQ below (Qpi post) [.ref (ad 4), .int p0].toArray s 0 0 noF) (F0 m 4 ls []))) := ⟨fun (x2 : Int32) (x3 : Int32) => (∀ ls : Array Slot, lv_has ls 4 [(0, .ref (ad 4)), (1, .int p0), (2, .int x2), (3, .int x3)] → W p l e (headSpec wsX0_rootsOfOne ({ frames := 1, cells := 0, slots := 0, locals := 25 } : Room)).room s m [.ref (ad 4), .int p0].toArray below meth c s.heap [] 0 0 (MQ below (Qpi post) [.ref (ad 4), .int p0].toArray s 0 0 noF) (F0 m 4 ls [])), fun _ _ h => h, fun _ _ h => h⟩
    have hV := hV J4
    replace hV := hV (by
      intro x2 x3 hV
      refine iJ4 x2 x3 ?_
      intro ls hl
      refine lv_iload_n hx hb dX0_rootsOfOne_4 rfl (lv_at hl 3 rfl) ?_
      refine lv_aload_n hx hb dX0_rootsOfOne_5 rfl (lv_at hl 0 rfl) ?_
      refine va_get (D := D) (ci := 0) (v := .int (g 1)) (C := RX0) (T := TX0) (N := 3) hx hb hts (by decide +kernel) hown hK hP 4 rfl rfl 2 (by decide) (hts (.fieldLink RX0 16 "PowerRests$Factors" "kinds" "I") (by decide +kernel)) (fun _ h9 => h9) rfl dX0_rootsOfOne_6 ?_
      refine lv_icmp_ge (tgt := 61) hx hb dX0_rootsOfOne_9 (by decide) (fun c_9 => ?_) (fun c_9 => ?_)
      · have hV := hV.1 c_9
        refine lv_iload_n hx hb dX0_rootsOfOne_61 rfl (lv_at hl 2 rfl) ?_
        exact W.iret (v := x2) hx hb hr (fun t ht hW => ⟨_, rfl, hV, ht⟩) (fun _ h => by cases h) dX0_rootsOfOne_62
      · have hV := hV.2 c_9
        refine lv_aload_n hx hb dX0_rootsOfOne_12 rfl (lv_at hl 0 rfl) ?_
        refine lv_iload_n hx hb dX0_rootsOfOne_13 rfl (lv_at hl 3 rfl) ?_
        obtain ⟨h_14, hV⟩ := hV
        refine cp_i (va_runV (As := [.int x3]) (rest := []) ⟨hx, hb, hml, hown, hts⟩ (spec_X0_hasTwoCycles l 1 (by decide) D cy ad s.heap.size g a w x3 h_14) (cwV 1 hts gX0_rootsOfOne_X0_hasTwoCycles rfl rfl rfl (by decide +kernel) ⟨Nat.le_of_ble_eq_true rfl, Nat.le_of_ble_eq_true rfl⟩) (ar_preV hN hK hP hD (ci := 0) (q0 := 4) rfl rfl) rfl rfl hl.1 rfl (lv_room (Nat.le_of_ble_eq_true rfl)) dX0_rootsOfOne_14 ⟨Nat.zero_le _, Nat.zero_le _⟩) (fun r14 q_14 => ?_)
        have hV := hV r14 q_14
        refine lv_if_eq (tgt := 43) hx hb dX0_rootsOfOne_17 (by decide) (fun c_17 => ?_) (fun c_17 => ?_)
        · have hV := hV.1 c_17
          refine lv_iload_n hx hb dX0_rootsOfOne_43 rfl (lv_at hl 2 rfl) ?_
          refine lv_iload_n hx hb dX0_rootsOfOne_44 rfl (lv_at hl 1 rfl) ?_
          refine lv_aload_n hx hb dX0_rootsOfOne_45 rfl (lv_at hl 0 rfl) ?_
          refine lv_iload_n hx hb dX0_rootsOfOne_46 rfl (lv_at hl 3 rfl) ?_
          obtain ⟨h_47, hV⟩ := hV
          refine cp_i (va_runV (As := [.int x3]) (rest := [.int p0, .int x2]) ⟨hx, hb, hml, hown, hts⟩ (spec_X0_unitsAt l 1 (by decide) D cy ad s.heap.size g a w x3 h_47) (cwV 1 hts gX0_rootsOfOne_X0_unitsAt rfl rfl rfl (by decide +kernel) ⟨Nat.le_of_ble_eq_true rfl, Nat.le_of_ble_eq_true rfl⟩) (ar_preV hN hK hP hD (ci := 0) (q0 := 4) rfl rfl) rfl rfl hl.1 rfl (lv_room (Nat.le_of_ble_eq_true rfl)) dX0_rootsOfOne_47 ⟨Nat.zero_le _, Nat.zero_le _⟩) (fun r47 q_47 => ?_)
          have hV := hV r47 q_47
          obtain ⟨h_50, hV⟩ := hV
          refine cp_i (va_runS (As := [.int p0, .int r47]) (rest := [.int x2]) ⟨hx, hb, hml, hown, hts⟩ (spec_X4_commonDivisor l p0 r47 h_50) (va_cwS 2 hts gX0_rootsOfOne_X4_commonDivisor rfl rfl rfl (by decide +kernel) ⟨Nat.le_of_ble_eq_true rfl, Nat.le_of_ble_eq_true rfl⟩) cp_pre rfl rfl hl.1 rfl (lv_room (Nat.le_of_ble_eq_true rfl)) dX0_rootsOfOne_50 ⟨Nat.zero_le _, Nat.zero_le _⟩) (fun r50 q_50 => ?_)
          have hV := hV r50 q_50
          refine lv_imul hx hb dX0_rootsOfOne_53 ?_
          refine lv_istore_n (lv' := [(2, .int (x2 * r50)), (0, .ref (ad 4)), (1, .int p0), (3, .int x3)]) hx hb dX0_rootsOfOne_54 rfl hl (by decide) rfl (fun ls hl => ?_)
          refine lv_iinc (v := x3 + 1) (lv' := [(3, .int (x3 + 1)), (2, .int (x2 * r50)), (0, .ref (ad 4)), (1, .int p0)]) hx hb dX0_rootsOfOne_55 hl (k := 3) rfl rfl (by decide) rfl (fun ls hl => ?_)
          refine lv_goto (tgt := 4) hx hb dX0_rootsOfOne_58 (by decide) ?_
          exact oJ4 _ _ hV _ (lv_sub hl [2, 3, 1, 0] rfl)
        · have hV := hV.2 c_17
          refine lv_iload_n hx hb dX0_rootsOfOne_20 rfl (lv_at hl 2 rfl) ?_
          refine lv_iload_n hx hb dX0_rootsOfOne_21 rfl (lv_at hl 1 rfl) ?_
          refine lv_iconst (v := (2 : Int32)) hx hb dX0_rootsOfOne_22 (by decide) ?_
          obtain ⟨h_23, hV⟩ := hV
          refine cp_i (va_runS (As := [.int p0, .int (2 : Int32)]) (rest := [.int x2]) ⟨hx, hb, hml, hown, hts⟩ (spec_X4_commonDivisor l p0 (2 : Int32) h_23) (va_cwS 2 hts gX0_rootsOfOne_X4_commonDivisor rfl rfl rfl (by decide +kernel) ⟨Nat.le_of_ble_eq_true rfl, Nat.le_of_ble_eq_true rfl⟩) cp_pre rfl rfl hl.1 rfl (lv_room (Nat.le_of_ble_eq_true rfl)) dX0_rootsOfOne_23 ⟨Nat.zero_le _, Nat.zero_le _⟩) (fun r23 q_23 => ?_)
          have hV := hV r23 q_23
          refine lv_iload_n hx hb dX0_rootsOfOne_26 rfl (lv_at hl 1 rfl) ?_
          refine lv_aload_n hx hb dX0_rootsOfOne_27 rfl (lv_at hl 0 rfl) ?_
          refine lv_iload_n hx hb dX0_rootsOfOne_28 rfl (lv_at hl 3 rfl) ?_
          obtain ⟨h_29, hV⟩ := hV
          refine cp_i (va_runV (As := [.int x3]) (rest := [.int p0, .int r23, .int x2]) ⟨hx, hb, hml, hown, hts⟩ (spec_X0_unitsAt l 1 (by decide) D cy ad s.heap.size g a w x3 h_29) (cwV 1 hts gX0_rootsOfOne_X0_unitsAt rfl rfl rfl (by decide +kernel) ⟨Nat.le_of_ble_eq_true rfl, Nat.le_of_ble_eq_true rfl⟩) (ar_preV hN hK hP hD (ci := 0) (q0 := 4) rfl rfl) rfl rfl hl.1 rfl (lv_room (Nat.le_of_ble_eq_true rfl)) dX0_rootsOfOne_29 ⟨Nat.zero_le _, Nat.zero_le _⟩) (fun r29 q_29 => ?_)
          have hV := hV r29 q_29
          refine lv_iconst (v := (2 : Int32)) hx hb dX0_rootsOfOne_32 (by decide) ?_
          refine lv_idiv hx hb dX0_rootsOfOne_33 (by decide) ?_
          obtain ⟨h_34, hV⟩ := hV
          refine cp_i (va_runS (As := [.int p0, .int (r29 / (2 : Int32))]) (rest := [.int r23, .int x2]) ⟨hx, hb, hml, hown, hts⟩ (spec_X4_commonDivisor l p0 (r29 / (2 : Int32)) h_34) (va_cwS 2 hts gX0_rootsOfOne_X4_commonDivisor rfl rfl rfl (by decide +kernel) ⟨Nat.le_of_ble_eq_true rfl, Nat.le_of_ble_eq_true rfl⟩) cp_pre rfl rfl hl.1 rfl (lv_room (Nat.le_of_ble_eq_true rfl)) dX0_rootsOfOne_34 ⟨Nat.zero_le _, Nat.zero_le _⟩) (fun r34 q_34 => ?_)
          have hV := hV r34 q_34
          refine lv_imul hx hb dX0_rootsOfOne_37 ?_
          refine lv_imul hx hb dX0_rootsOfOne_38 ?_
          refine lv_istore_n (lv' := [(2, .int (x2 * (r23 * r34))), (0, .ref (ad 4)), (1, .int p0), (3, .int x3)]) hx hb dX0_rootsOfOne_39 rfl hl (by decide) rfl (fun ls hl => ?_)
          refine lv_goto (tgt := 55) hx hb dX0_rootsOfOne_40 (by decide) ?_
          refine lv_iinc (v := x3 + 1) (lv' := [(3, .int (x3 + 1)), (2, .int (x2 * (r23 * r34))), (0, .ref (ad 4)), (1, .int p0)]) hx hb dX0_rootsOfOne_55 hl (k := 3) rfl rfl (by decide) rfl (fun ls hl => ?_)
          refine lv_goto (tgt := 4) hx hb dX0_rootsOfOne_58 (by decide) ?_
          exact oJ4 _ _ hV _ (lv_sub hl [2, 3, 1, 0] rfl))
    have hl := lv_entry ([.ref (ad 4), .int p0]) (n := 4) (Nat.le_of_ble_eq_true rfl)
    rw [lg_entry_eq]
    generalize (lg_sl ([.ref (ad 4), .int p0]) ++ List.replicate (4 - (lg_sl ([.ref (ad 4), .int p0])).length) Slot.unset).toArray = ls at hl ⊢
    have hl : lv_has ls 4 [(0, .ref (ad 4)), (1, .int p0)] := hl
    refine lv_iconst (v := (1 : Int32)) hx hb dX0_rootsOfOne_0 (by decide) ?_
    refine lv_istore_n (lv' := [(2, .int (1 : Int32)), (0, .ref (ad 4)), (1, .int p0)]) hx hb dX0_rootsOfOne_1 rfl hl (by decide) rfl (fun ls hl => ?_)
    refine lv_iconst (v := (0 : Int32)) hx hb dX0_rootsOfOne_2 (by decide) ?_
    refine lv_istore_n (lv' := [(3, .int (0 : Int32)), (2, .int (1 : Int32)), (0, .ref (ad 4)), (1, .int p0)]) hx hb dX0_rootsOfOne_3 rfl hl (by decide) rfl (fun ls hl => ?_)
    exact oJ4 _ _ hV _ (lv_sub hl [2, 3, 1, 0] rfl)
def post_X0_rootsOfOne (b : Nat) (g : Gs) (a : As) (w : Ws) (p0 r : Int32) : Prop := r = nI (prodF (rooA (tn p0) (PP b a) (TT b a)) (tn (g b)))
set_option maxRecDepth 4000 in
theorem spec_X0_rootsOfOne (l : Launch) (b : Nat) (hb2 : b < 2) (D : va_G) (cy : Nat → ClassId) (ad : Nat → Nat) (sz : Nat) (g : Gs) (a : As) (w : Ws) (p0 : Int32) (hpre : pre_X0_rootsOfOne b g a w p0) : Met l yX0_rootsOfOne wsX0_rootsOfOne ({ frames := 1, cells := 0, slots := 0, locals := 25 } : Room) (va_Pc [.ref (ad (1 + 3 * b)), .int p0] (ArP D cy sz (caW ad cy g a w))) (Qpi (post_X0_rootsOfOne b g a w p0)) 0 0 noF := by
  apply met_X0_rootsOfOne
  · exact hb2
  intro J hJ
  obtain ⟨h0, n, hF⟩ := hpre
  obtain ⟨e, he, rfl, he2⟩ := of_i h0
  have h7 := hF.few
  have key : ∀ (d k : Nat), k + d = tn (g b) → J (nI (prodF (rooA e (PP b a) (TT b a)) k)) (nI k) := by
    intro d
    induction d with
    | zero =>
      intro k hk
      refine hJ _ _ ?_
      rw [hF.2.2.1]
      refine pk_le (tn (g b)) k (fun _ => ?_) (fun h => absurd h (by omega))
      unfold post_X0_rootsOfOne
      rw [show k = tn (g b) by omega, tn_nI he]
    | succ d ih =>
      intro k hk
      have hkm : k < tn (g b) := by omega
      have hat := hF.at hkm
      have huk := un_b (P := PP b a) (T := TT b a) (i := k) hat.2.2.2.2.1
      have hu2 : un (PP b a) (TT b a) k < 2 ^ 31 := by omega
      have pd : ∀ u, u < 2 ^ 31 → pre_X4_commonDivisor (nI e) (nI u) := fun u hu => ⟨by omega, by rw [nI_toInt hu]; omega⟩
      refine hJ _ _ ?_
      rw [hF.2.2.1]
      refine pk_le (tn (g b)) k (fun h => absurd h (by omega)) (fun _ => ⟨⟨⟨n, hF⟩, k, hkm, rfl⟩, fun r hr => ?_⟩)
      unfold post_X0_hasTwoCycles at hr
      rw [tn_nI (by omega)] at hr
      refine ⟨fun h => ⟨⟨⟨n, hF⟩, k, hkm, rfl⟩, fun r2 hr2 => ?_⟩, fun h => ⟨pd 2 (by decide), fun r4 hr4 => ⟨⟨⟨n, hF⟩, k, hkm, rfl⟩, fun r2 hr2 => ?_⟩⟩⟩
      · have hn : ¬ (PP b a k = 2 ∧ 2 < TT b a k) := zb_0 (hr ▸ h)
        have e1 : rooA e (PP b a) (TT b a) k = Nat.gcd e (un (PP b a) (TT b a) k) := if_neg hn
        unfold post_X0_unitsAt at hr2
        rw [tn_nI (by omega)] at hr2
        rw [hr2]
        refine ⟨pd _ hu2, fun r3 hr3 => ?_⟩
        unfold post_X4_commonDivisor at hr3
        rw [tn_nI he, tn_nI hu2, ← e1] at hr3
        rw [hr3, pk_mul, nI_1]
        exact ih (k + 1) (by omega)
      · have hy : PP b a k = 2 ∧ 2 < TT b a k := zb_1 (hr ▸ h)
        have e1 : rooA e (PP b a) (TT b a) k = Nat.gcd e 2 * Nat.gcd e (un (PP b a) (TT b a) k / 2) := if_pos hy
        unfold post_X0_unitsAt at hr2
        rw [tn_nI (by omega)] at hr2
        have e3 : nI (un (PP b a) (TT b a) k) / (2 : Int32) = nI (un (PP b a) (TT b a) k / 2) := pk_div (d := 2) (by omega) (by decide) (by decide)
        rw [hr2, e3]
        refine ⟨pd _ (by omega), fun r3 hr3 => ?_⟩
        unfold post_X4_commonDivisor at hr3 hr4
        rw [tn_nI he, tn_nI (by omega)] at hr3
        rw [tn_nI he, show tn (2 : Int32) = 2 from rfl] at hr4
        rw [hr3, hr4, pk_mul, ← e1, pk_mul, nI_1]
        exact ih (k + 1) (by omega)
  exact key (tn (g b)) 0 (by omega)
