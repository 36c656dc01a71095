/-! what is laid, the class -/
abbrev cN (g : Gs) : Nat := tn (g 9)
abbrev cB (a : As) (k : Nat) : Nat := tn (a 6 k)
/-- what the words tell: whether the k-th item allows x -/
def cH (a : As) (w : Ws) (k x : Nat) : Bool := wB (w k ((x / 64) % cB a k)) (x % 64)
def LdC (g : Gs) (a : As) (w : Ws) : Prop := (cN g ≤ 8 ∧ g 9 = nI (cN g)) ∧ ∀ k, k < cN g → (2 ≤ cB a k ∧ cB a k ≤ 200) ∧ a 6 k = nI (cB a k) ∧ ∀ x y, x % cB a k = y % cB a k → cH a w k x = cH a w k y
/-- all items of a set of n allow x -/
noncomputable def AsB (n : Nat) (H : Nat → Nat → Bool) (S x : Nat) : Bool := cb (∀ k, k < n → S.testBit k = true → H k x = true)
def pre_X2_all (g : Gs) (a : As) (w : Ws) : Prop := cN g ≤ 8 ∧ g 9 = nI (cN g)
set_option maxHeartbeats 4000000 in
set_option maxRecDepth 100000 in
theorem met_X2_all (l : Launch) (D : va_G) (cy : Nat → ClassId) (ad : Nat → Nat) (sz : Nat) (g : Gs) (a : As) (w : Ws) (post : Int32 → Prop)
  (hV : post (((1 : Int32) <<< ((g 9) &&& 31)) - (1 : Int32))) :
  Met l yX2_all wsX2_all ({ frames := 0, cells := 0, slots := 0, locals := 0 } : Room) (va_Pc [.ref (ad 12)] (ArP D cy sz (caW ad cy g a w))) (Qpi post) 0 0 noF := by
  refine Met.ofW (cc := cX2_all) (maxL := 1) (ret := (some .int)) (by decide) rfl ?_
  intro p e s m args below meth c s₁ B hml hv
  obtain ⟨rfl, hsz, hP, hK, hD0, hN⟩ := hv
  have hx := B.exec
  have hb := B.bytes
  have hr := B.returns
  have hts := atoms_spec (ws := wsX2_all) B.pre
  have hown : s.vm.findClass RX2 = some m.cls := findClass_of_methodNamed B.named
  have hlocks := B.notSynchronized
  subst hsz
  have hP : va_P D vwCl (caW ad cy g a w) s.heap := hP
  have hD : va_D (fun _ => True) (caW ad cy g a w) := hD0
  have hl := lv_entry ([.ref (ad 12)]) (n := 1) (Nat.le_of_ble_eq_true rfl)
  rw [lg_entry_eq]
  generalize (lg_sl ([.ref (ad 12)]) ++ List.replicate (1 - (lg_sl ([.ref (ad 12)])).length) Slot.unset).toArray = ls at hl ⊢
  have hl : lv_has ls 1 [(0, .ref (ad 12))] := hl
  refine lv_iconst (v := (1 : Int32)) hx hb dX2_all_0 (by decide) ?_
  refine lv_aload_n hx hb dX2_all_1 rfl (lv_at hl 0 rfl) ?_
  refine va_get (D := D) (ci := 2) (v := .int (g 9)) (C := RX2) (T := TX2) (N := 6) hx hb hts (by decide +kernel) hown hK hP 12 rfl rfl 3 (by decide) (hts (.fieldLink RX2 31 "PowerRests$Laid" "items" "I") (by decide +kernel)) (fun _ h9 => h9) rfl dX2_all_2 ?_
  refine lv_ishl hx hb dX2_all_5 ?_
  refine lv_iconst (v := (1 : Int32)) hx hb dX2_all_6 (by decide) ?_
  refine lv_isub hx hb dX2_all_7 ?_
  exact W.iret (v := ((1 : Int32) <<< ((g 9) &&& 31)) - (1 : Int32)) hx hb hr (fun t ht hW => ⟨_, rfl, hV, ht⟩) (fun _ h => by cases h) dX2_all_8
def post_X2_all (g : Gs) (a : As) (w : Ws) (r : Int32) : Prop := r = nI (2 ^ cN g - 1)
set_option maxRecDepth 4000 in
theorem spec_X2_all (l : Launch) (D : va_G) (cy : Nat → ClassId) (ad : Nat → Nat) (sz : Nat) (g : Gs) (a : As) (w : Ws) (hpre : pre_X2_all g a w) : Met l yX2_all wsX2_all ({ frames := 0, cells := 0, slots := 0, locals := 0 } : Room) (va_Pc [.ref (ad 12)] (ArP D cy sz (caW ad cy g a w))) (Qpi (post_X2_all g a w)) 0 0 noF := by
  apply met_X2_all
  obtain ⟨h1, h2⟩ := hpre
  unfold post_X2_all
  rw [h2]
  generalize cN g = n at *
  rw [shl_1 (by omega)]
  exact pk_sub (b := 1) (Nat.two_pow_pos n)
theorem bit_i {S k : Nat} (hS : S < 256) (hk : k < 8) : ((nI S >>> (nI k &&& 31)) &&& 1 = 1) ↔ S.testBit k = true := by
  have h : ∀ S, S < 256 → ∀ k, k < 8 → (((nI S >>> (nI k &&& 31)) &&& 1 = 1) ↔ S.testBit k = true) := by decide +kernel
  exact h S hS k hk
def pre_X2_wordOf (g : Gs) (a : As) (w : Ws) (p0 : Int64) (p1 : Int32) : Prop := LdC g a w ∧ 0 ≤ p0.toInt ∧ ∃ S, S < 256 ∧ p1 = nI S
set_option maxHeartbeats 4000000 in
set_option maxRecDepth 100000 in
theorem met_X2_wordOf (l : Launch) (D : va_G) (cy : Nat → ClassId) (ad : Nat → Nat) (sz : Nat) (g : Gs) (a : As) (w : Ws) (p0 : Int64) (p1 : Int32) (post : Int64 → Prop)
  (hV : ∀ (J8 : Int64 → Int32 → Prop),
    (∀ (x4 : Int64) (x6 : Int32), (((g 9) ≤ x6 → post x4) ∧ (¬ (g 9) ≤ x6 → ((x4 = (0 : Int64) → post x4) ∧ (¬ x4 = (0 : Int64) → ((((p1 >>> (x6 &&& 31)) &&& (1 : Int32)) = (1 : Int32) → vp_in x6 8 ∧ (vp_in x6 8 ∧ (∀ r51 : Int32, post_X4_rest p0 ((a 6) x6.toNatClampNeg) r51 → vp_in r51 200 ∧ (J8 (x4 &&& (w x6.toNatClampNeg r51.toNatClampNeg)) (x6 + 1))))) ∧ (¬ ((p1 >>> (x6 &&& 31)) &&& (1 : Int32)) = (1 : Int32) → J8 x4 (x6 + 1))))))) → J8 x4 x6) →
    J8 (-1 : Int64) (0 : Int32)) :
  Met l yX2_wordOf wsX2_wordOf ({ frames := 1, cells := 0, slots := 0, locals := 22 } : Room) (va_Pc [.ref (ad 12), .long p0, .int p1] (ArP D cy sz (caW ad cy g a w))) (Qpl post) 0 0 noF := by
  refine Met.ofW (cc := cX2_wordOf) (maxL := 7) (ret := (some .long)) (by decide) rfl ?_
  intro p e s m args below meth c s₁ B hml hv
  obtain ⟨rfl, hsz, hP, hK, hD0, hN⟩ := hv
  have hx := B.exec
  have hb := B.bytes
  have hr := B.returns
  have hts := atoms_spec (ws := wsX2_wordOf) B.pre
  have hown : s.vm.findClass RX2 = some m.cls := findClass_of_methodNamed B.named
  have hlocks := B.notSynchronized
  subst hsz
  have hP : va_P D vwCl (caW ad cy g a w) s.heap := hP
  have hD : va_D (fun _ => True) (caW ad cy g a w) := hD0
  obtain ⟨J8, iJ8, oJ8⟩ : ∃ J : Int64 → Int32 → Prop, (∀ (x4 : Int64) (x6 : Int32), (∀ ls : Array Slot, lv_has ls 7 [(0, .ref (ad 12)), (1, .long p0), (3, .int p1), (4, .long x4), (6, .int x6)] → W p l e (headSpec wsX2_wordOf ({ frames := 1, cells := 0, slots := 0, locals := 22 } : Room)).room s m [.ref (ad 12), .long p0, .int p1].toArray below meth c s.heap [] 0 0 (MQ below (Qpl post) [.ref (ad 12), .long p0, .int p1].toArray s 0 0 noF) (F0 m 8 ls [])) → J x4 x6) ∧ (∀ (x4 : Int64) (x6 : Int32), J x4 x6 → (∀ ls : Array Slot, lv_has ls 7 [(0, .ref (ad 12)), (1, .long p0), (3, .int p1), (4, .long x4), (6, .int x6)] → W p l e (headSpec wsX2_wordOf ({ frames := 1, cells := 0, slots := 0, locals := 22 } : Room)).room s m [.ref (ad 12), .long p0, .int p1].toArray below meth c s.heap [] 0 0 (MQ below (Qpl post) [.ref (ad 12), .long p0, .int p1].toArray s 0 0 noF) (F0 m 8 ls []))) := ⟨fun (x4 : Int64) (x6 : Int32) => (∀ ls : Array Slot, lv_has ls 7 [(0, .ref (ad 12)), (1, .long p0), (3, .int p1), (4, .long x4), (6, .int x6)] → W p l e (headSpec wsX2_wordOf ({ frames := 1, cells := 0, slots := 0, locals := 22 } : Room)).room s m [.ref (ad 12), .long p0, .int p1].toArray below meth c s.heap [] 0 0 (MQ below (Qpl post) [.ref (ad 12), .long p0, .int p1].toArray s 0 0 noF) (F0 m 8 ls [])), fun _ _ h => h, fun _ _ h => h⟩
  have hV := hV J8
  replace hV := hV (by
    intro x4 x6 hV
    refine iJ8 x4 x6 ?_
    intro ls hl
    refine lv_iload hx hb dX2_wordOf_8 (lv_at hl 4 rfl) ?_
    refine lv_aload_n hx hb dX2_wordOf_10 rfl (lv_at hl 0 rfl) ?_
    refine va_get (D := D) (ci := 2) (v := .int (g 9)) (C := RX2) (T := TX2) (N := 6) hx hb hts (by decide +kernel) hown hK hP 12 rfl rfl 3 (by decide) (hts (.fieldLink RX2 31 "PowerRests$Laid" "items" "I") (by decide +kernel)) (fun _ h9 => h9) rfl dX2_wordOf_11 ?_
    refine lv_icmp_ge (tgt := 64) hx hb dX2_wordOf_14 (by decide) (fun c_14 => ?_) (fun c_14 => ?_)
    · have hV := hV.1 c_14
      refine lv_lload hx hb dX2_wordOf_64 (lv_at hl 3 rfl) ?_
      exact W.lret (v := x4) hx hb hr (fun t ht hW => ⟨_, rfl, hV, ht⟩) (fun _ h => by cases h) dX2_wordOf_66
    · have hV := hV.2 c_14
      refine lv_lload hx hb dX2_wordOf_17 (lv_at hl 3 rfl) ?_
      refine lv_lconst (v := (0 : Int64)) hx hb dX2_wordOf_19 (by decide) ?_
      refine lc_eq (tgt := 64) hx hb dX2_wordOf_20 dX2_wordOf_21 (by decide) (fun c_20 => ?_) (fun c_20 => ?_)
      · have hV := hV.1 c_20
        refine lv_lload hx hb dX2_wordOf_64 (lv_at hl 3 rfl) ?_
        exact W.lret (v := x4) hx hb hr (fun t ht hW => ⟨_, rfl, hV, ht⟩) (fun _ h => by cases h) dX2_wordOf_66
      · have hV := hV.2 c_20
        refine lv_iload_n hx hb dX2_wordOf_24 rfl (lv_at hl 2 rfl) ?_
        refine lv_iload hx hb dX2_wordOf_25 (lv_at hl 4 rfl) ?_
        refine lv_ishr hx hb dX2_wordOf_27 ?_
        refine lv_iconst (v := (1 : Int32)) hx hb dX2_wordOf_28 (by decide) ?_
        refine lv_iand hx hb dX2_wordOf_29 ?_
        refine lv_iconst (v := (1 : Int32)) hx hb dX2_wordOf_30 (by decide) ?_
        refine lv_icmp_ne (tgt := 58) hx hb dX2_wordOf_31 (by decide) (fun c_31 => ?_) (fun c_31 => ?_)
        · have hV := hV.2 c_31
          refine lv_iinc (v := x6 + 1) (lv' := [(6, .int (x6 + 1)), (0, .ref (ad 12)), (1, .long p0), (3, .int p1), (4, .long x4)]) hx hb dX2_wordOf_58 hl (k := 4) rfl rfl (by decide) rfl (fun ls hl => ?_)
          refine lv_goto (tgt := 8) hx hb dX2_wordOf_61 (by decide) ?_
          exact oJ8 _ _ hV _ (lv_sub hl [1, 2, 3, 4, 0] rfl)
        · have hV := hV.1 c_31
          refine lv_lload hx hb dX2_wordOf_34 (lv_at hl 3 rfl) ?_
          refine lv_aload_n hx hb dX2_wordOf_36 rfl (lv_at hl 0 rfl) ?_
          refine va_get (D := D) (ci := 2) (v := .ref (ad 13)) (C := RX2) (T := TX2) (N := 6) hx hb hts (by decide +kernel) hown hK hP 12 rfl rfl 0 (by decide) (hts (.fieldLink RX2 13 "PowerRests$Laid" "words" "[[J") (by decide +kernel)) (fun _ h9 => h9) rfl dX2_wordOf_37 ?_
          refine lv_iload hx hb dX2_wordOf_40 (lv_at hl 4 rfl) ?_
          obtain ⟨h_42, hV⟩ := hV
          refine ar_words hx hb hK hP h_42 dX2_wordOf_42 ?_
          refine lv_lload_n hx hb dX2_wordOf_43 rfl (lv_at hl 1 rfl) ?_
          refine lv_aload_n hx hb dX2_wordOf_44 rfl (lv_at hl 0 rfl) ?_
          refine va_get (D := D) (ci := 2) (v := .ref (ad 14)) (C := RX2) (T := TX2) (N := 6) hx hb hts (by decide +kernel) hown hK hP 12 rfl rfl 1 (by decide) (hts (.fieldLink RX2 16 "PowerRests$Laid" "divisors" "[I") (by decide +kernel)) (fun _ h9 => h9) rfl dX2_wordOf_45 ?_
          refine lv_iload hx hb dX2_wordOf_48 (lv_at hl 4 rfl) ?_
          obtain ⟨h_50, hV⟩ := hV
          refine va_iald (f := (a 6)) hx hb hK hP 14 0 rfl rfl h_50 dX2_wordOf_50 ?_
          refine cp_i (va_runS (As := [.long p0, .int ((a 6) x6.toNatClampNeg)]) (rest := [.ref (ad (16 + x6.toNatClampNeg)), .long x4]) ⟨hx, hb, hml, hown, hts⟩ (spec_X4_rest l p0 ((a 6) x6.toNatClampNeg)) (va_cwS 2 hts gX2_wordOf_X4_rest rfl rfl rfl (by decide +kernel) ⟨Nat.le_of_ble_eq_true rfl, Nat.le_of_ble_eq_true rfl⟩) cp_pre rfl rfl hl.1 rfl (lv_room (Nat.le_of_ble_eq_true rfl)) dX2_wordOf_51 ⟨Nat.zero_le _, Nat.zero_le _⟩) (fun r51 q_51 => ?_)
          have hV := hV r51 q_51
          obtain ⟨h_54, hV⟩ := hV
          refine ar_rowld hx hb hK hP h_42 h_54 dX2_wordOf_54 ?_
          refine lv_land hx hb dX2_wordOf_55 ?_
          refine lv_lstore (lv' := [(4, .long (x4 &&& (w x6.toNatClampNeg r51.toNatClampNeg))), (0, .ref (ad 12)), (1, .long p0), (3, .int p1), (6, .int x6)]) hx hb dX2_wordOf_56 hl (by decide) rfl (fun ls hl => ?_)
          refine lv_iinc (v := x6 + 1) (lv' := [(6, .int (x6 + 1)), (4, .long (x4 &&& (w x6.toNatClampNeg r51.toNatClampNeg))), (0, .ref (ad 12)), (1, .long p0), (3, .int p1)]) hx hb dX2_wordOf_58 hl (k := 4) rfl rfl (by decide) rfl (fun ls hl => ?_)
          refine lv_goto (tgt := 8) hx hb dX2_wordOf_61 (by decide) ?_
          exact oJ8 _ _ hV _ (lv_sub hl [2, 3, 4, 1, 0] rfl))
  have hl := lv_entry ([.ref (ad 12), .long p0, .int p1]) (n := 7) (Nat.le_of_ble_eq_true rfl)
  rw [lg_entry_eq]
  generalize (lg_sl ([.ref (ad 12), .long p0, .int p1]) ++ List.replicate (7 - (lg_sl ([.ref (ad 12), .long p0, .int p1])).length) Slot.unset).toArray = ls at hl ⊢
  have hl : lv_has ls 7 [(0, .ref (ad 12)), (1, .long p0), (3, .int p1)] := hl
  refine lv_ldc2 (v := (-1 : Int64)) hx hb hown (hts (.constantLong RX2 43 (-1)) (by decide +kernel)) dX2_wordOf_0 ?_
  refine lv_lstore (lv' := [(4, .long (-1 : Int64)), (0, .ref (ad 12)), (1, .long p0), (3, .int p1)]) hx hb dX2_wordOf_3 hl (by decide) rfl (fun ls hl => ?_)
  refine lv_iconst (v := (0 : Int32)) hx hb dX2_wordOf_5 (by decide) ?_
  refine lv_istore (lv' := [(6, .int (0 : Int32)), (4, .long (-1 : Int64)), (0, .ref (ad 12)), (1, .long p0), (3, .int p1)]) hx hb dX2_wordOf_6 hl (by decide) rfl (fun ls hl => ?_)
  exact oJ8 _ _ hV _ (lv_sub hl [2, 3, 4, 1, 0] rfl)
def post_X2_wordOf (g : Gs) (a : As) (w : Ws) (p0 : Int64) (p1 : Int32) (r : Int64) : Prop := ∀ j, j < 64 → wB r j = AsB (cN g) (cH a w) (tn p1) (64 * tl p0 + j)
set_option maxRecDepth 4000 in
theorem spec_X2_wordOf (l : Launch) (D : va_G) (cy : Nat → ClassId) (ad : Nat → Nat) (sz : Nat) (g : Gs) (a : As) (w : Ws) (p0 : Int64) (p1 : Int32) (hpre : pre_X2_wordOf g a w p0 p1) : Met l yX2_wordOf wsX2_wordOf ({ frames := 1, cells := 0, slots := 0, locals := 22 } : Room) (va_Pc [.ref (ad 12), .long p0, .int p1] (ArP D cy sz (caW ad cy g a w))) (Qpl (post_X2_wordOf g a w p0 p1)) 0 0 noF := by
  apply met_X2_wordOf
  intro J hJ
  obtain ⟨⟨⟨hn, hg9⟩, hit⟩, h0, S, hS, rfl⟩ := hpre
  obtain ⟨q, hq, rfl, hq2⟩ := of_l h0
  have tnS : tn (nI S) = S := tn_nI (by omega)
  have tlq : tl (lN q) = q := tl_lN hq
  rw [hg9] at hJ
  have good : ∀ r, (∀ j, j < 64 → wB r j = AsB (cN g) (cH a w) S (64 * q + j)) → post_X2_wordOf g a w (lN q) (nI S) r := fun r h => by
    unfold post_X2_wordOf
    rw [tnS, tlq]; exact h
  generalize hnd : cN g = n at *
  have key : ∀ (d k : Nat) (x : Int64), k + d = n → (∀ j, j < 64 → wB x j = AsB k (cH a w) S (64 * q + j)) → J x (nI k) := by
    intro d
    induction d with
    | zero =>
      intro k x hk hx
      have : k = n := by omega
      subst this
      exact hJ _ _ (pk_le k k (fun _ => good _ hx) (fun h => absurd h (by omega)))
    | succ d ih =>
      intro k x hk hx
      obtain ⟨⟨b1, b2⟩, hb, hper⟩ := hit k (by omega)
      refine hJ _ _ (pk_le n k (fun h => absurd h (by omega)) (fun _ => ⟨fun hz => good _ (fun j hj => ?_), fun hz => ?_⟩))
      · rw [(wB_nz.mp hz) j hj]
        refine (cb_f (fun hall => ?_)).symm
        have h1 := hx j hj
        rw [(wB_nz.mp hz) j hj] at h1
        have : AsB k (cH a w) S (64 * q + j) = true := cb_t (fun i hi => hall i (by omega))
        rw [this] at h1
        exact Bool.noConfusion h1
      · rw [bit_i hS (by omega), show (nI k).toNatClampNeg = k from tn_nI (by omega), hb, nI_1]
        generalize hbd : cB a k = b at *
        have hml := Nat.mod_lt q (show 0 < b by omega)
        have vk := vp_in_nI (n := k) (N := 8) (by omega) (by omega)
        refine ⟨fun ht => ⟨vk, vk, fun r hr => ?_⟩, fun ht => ?_⟩
        · have hr := rest_eq hr (by omega) (by omega) (by omega)
          subst hr
          rw [show (nI (q % b)).toNatClampNeg = q % b from tn_nI (by omega)]
          refine ⟨vp_in_nI (by omega) (by omega), ?_⟩
          refine ih (k + 1) _ (by omega) (fun j hj => ?_)
          have hH : cH a w k (64 * q + j) = wB (w k (q % b)) j := by
            unfold cH
            rw [hbd, show (64 * q + j) / 64 = q by omega, show (64 * q + j) % 64 = j by omega]
          rw [wB_and, hx j hj, ← hH]
          cases hc : cH a w k (64 * q + j)
          · rw [Bool.and_false]
            refine (cb_f (fun hall => ?_)).symm
            have := hall k (by omega) ht
            rw [hc] at this
            exact Bool.noConfusion this
          · rw [Bool.and_true]
            refine cb_iff ⟨fun hall i hi hs => ?_, fun hall i hi hs => hall i (by omega) hs⟩
            by_cases hik : i = k
            · rw [hik]; exact hc
            · exact hall i (by omega) hs
        · refine ih (k + 1) _ (by omega) (fun j hj => ?_)
          rw [hx j hj]
          refine cb_iff ⟨fun hall i hi hs => ?_, fun hall i hi hs => hall i (by omega) hs⟩
          by_cases hik : i = k
          · rw [hik] at hs; exact absurd hs ht
          · exact hall i (by omega) hs
  exact key n 0 (-1) (by omega) (fun j hj => by rw [wB_m1 hj]; exact (cb_t (fun i hi => by omega)).symm)
def pre_X2_lowestBit (p0 : Int64) : Prop := ¬ p0 = 0
set_option maxHeartbeats 4000000 in
set_option maxRecDepth 100000 in
theorem met_X2_lowestBit (l : Launch) (p0 : Int64) (post : Int32 → Prop)
  (hV : ∀ r6 : Int32, post_J13_bitCount_95d88 ((p0 &&& (-p0)) - (1 : Int64)) r6 → post r6) :
  Met l yX2_lowestBit wsX2_lowestBit ({ frames := 1, cells := 0, slots := 0, locals := 21 } : Room) (va_Pc [.long p0] (fun _ => True)) (Qpi post) 0 0 noF := by
  refine Met.ofW (cc := cX2_lowestBit) (maxL := 2) (ret := (some .int)) (by decide) rfl ?_
  intro p e s m args below meth c s₁ B hml hv
  obtain ⟨rfl, -⟩ := hv
  have hx := B.exec
  have hb := B.bytes
  have hr := B.returns
  have hts := atoms_spec (ws := wsX2_lowestBit) B.pre
  have hown : s.vm.findClass RX2 = some m.cls := findClass_of_methodNamed B.named
  have hlocks := B.notSynchronized
  have hl := lv_entry ([.long p0]) (n := 2) (Nat.le_of_ble_eq_true rfl)
  rw [lg_entry_eq]
  generalize (lg_sl ([.long p0]) ++ List.replicate (2 - (lg_sl ([.long p0])).length) Slot.unset).toArray = ls at hl ⊢
  have hl : lv_has ls 2 [(0, .long p0)] := hl
  refine lv_lload_n hx hb dX2_lowestBit_0 rfl (lv_at hl 0 rfl) ?_
  refine lv_lload_n hx hb dX2_lowestBit_1 rfl (lv_at hl 0 rfl) ?_
  refine lv_lneg hx hb dX2_lowestBit_2 ?_
  refine lv_land hx hb dX2_lowestBit_3 ?_
  refine lv_lconst (v := (1 : Int64)) hx hb dX2_lowestBit_4 (by decide) ?_
  refine lv_lsub hx hb dX2_lowestBit_5 ?_
  refine cp_i (va_runS (As := [.long ((p0 &&& (-p0)) - (1 : Int64))]) (rest := []) ⟨hx, hb, hml, hown, hts⟩ (spec_J13_bitCount_95d88 l ((p0 &&& (-p0)) - (1 : Int64))) (va_cwS 1 hts gX2_lowestBit_J13_bitCount_95d88 rfl rfl rfl (by decide +kernel) ⟨Nat.le_of_ble_eq_true rfl, Nat.le_of_ble_eq_true rfl⟩) cp_pre rfl rfl hl.1 rfl (lv_room (Nat.le_of_ble_eq_true rfl)) dX2_lowestBit_6 ⟨Nat.zero_le _, Nat.zero_le _⟩) (fun r6 q_6 => ?_)
  have hV := hV r6 q_6
  exact W.iret (v := r6) hx hb hr (fun t ht hW => ⟨_, rfl, hV, ht⟩) (fun _ h => by cases h) dX2_lowestBit_9
def LowB (W : Int64) (t : Nat) : Prop := t < 64 ∧ wB W t = true ∧ ∀ j, j < t → wB W j = false
def post_X2_lowestBit (p0 : Int64) (r : Int32) : Prop := ∃ t, LowB p0 t ∧ r = nI t
set_option maxRecDepth 4000 in
theorem spec_X2_lowestBit (l : Launch) (p0 : Int64) (hpre : pre_X2_lowestBit p0) : Met l yX2_lowestBit wsX2_lowestBit ({ frames := 1, cells := 0, slots := 0, locals := 21 } : Room) (va_Pc [.long p0] (fun _ => True)) (Qpi (post_X2_lowestBit p0)) 0 0 noF := by
  apply met_X2_lowestBit
  intro r hr
  obtain ⟨t, h1, h2, h3, h4, -⟩ := low_word hpre
  unfold post_J13_bitCount_95d88 at hr
  have h0 := Nat.two_pow_pos t
  have h64 := wb_lt2 h1
  rw [h4, uN_lN (by omega)] at hr
  refine ⟨t, ⟨h1, h2, h3⟩, ?_⟩
  rw [hr, fb_ct_cong (q := fun j => decide (j < t)) (fun j _ => Nat.testBit_two_pow_sub_one ..), ct_below (by omega)]
def pre_X2_bitAt (p0 : Int64) (p1 : Int32) : Prop := ∃ i, i < fb_ct (wB p0) 64 ∧ p1 = nI i
set_option maxHeartbeats 4000000 in
set_option maxRecDepth 100000 in
theorem met_X2_bitAt (l : Launch) (p0 : Int64) (p1 : Int32) (post : Int32 → Prop)
  (hV : ∀ (J5 : Int64 → Int32 → Prop),
    (∀ (x3 : Int64) (x5 : Int32), ((p1 ≤ x5 → pre_X2_lowestBit x3 ∧ (∀ r24 : Int32, post_X2_lowestBit x3 r24 → post r24)) ∧ (¬ p1 ≤ x5 → J5 (x3 &&& (x3 - (1 : Int64))) (x5 + 1))) → J5 x3 x5) →
    J5 p0 (0 : Int32)) :
  Met l yX2_bitAt wsX2_bitAt ({ frames := 2, cells := 0, slots := 0, locals := 42 } : Room) (va_Pc [.long p0, .int p1] (fun _ => True)) (Qpi post) 0 0 noF := by
  refine Met.ofW (cc := cX2_bitAt) (maxL := 6) (ret := (some .int)) (by decide) rfl ?_
  intro p e s m args below meth c s₁ B hml hv
  obtain ⟨rfl, -⟩ := hv
  have hx := B.exec
  have hb := B.bytes
  have hr := B.returns
  have hts := atoms_spec (ws := wsX2_bitAt) B.pre
  have hown : s.vm.findClass RX2 = some m.cls := findClass_of_methodNamed B.named
  have hlocks := B.notSynchronized
  obtain ⟨J5, iJ5, oJ5⟩ : ∃ J : Int64 → Int32 → Prop, (∀ (x3 : Int64) (x5 : Int32), (∀ ls : Array Slot, lv_has ls 6 [(2, .int p1), (3, .long x3), (5, .int x5)] → W p l e (headSpec wsX2_bitAt ({ frames := 2, cells := 0, slots := 0, locals := 42 } : Room)).room s m [.long p0, .int p1].toArray below meth c s.heap [] 0 0 (MQ below (Qpi post) [.long p0, .int p1].toArray s 0 0 noF) (F0 m 5 ls [])) → J x3 x5) ∧ (∀ (x3 : Int64) (x5 : Int32), J x3 x5 → (∀ ls : Array Slot, lv_has ls 6 [(2, .int p1), (3, .long x3), (5, .int x5)] → W p l e (headSpec wsX2_bitAt ({ frames := 2, cells := 0, slots := 0, locals := 42 } : Room)).room s m [.long p0, .int p1].toArray below meth c s.heap [] 0 0 (MQ below (Qpi post) [.long p0, .int p1].toArray s 0 0 noF) (F0 m 5 ls []))) := ⟨fun (x3 : Int64) (x5 : Int32) => (∀ ls : Array Slot, lv_has ls 6 [(2, .int p1), (3, .long x3), (5, .int x5)] → W p l e (headSpec wsX2_bitAt ({ frames := 2, cells := 0, slots := 0, locals := 42 } : Room)).room s m [.long p0, .int p1].toArray below meth c s.heap [] 0 0 (MQ below (Qpi post) [.long p0, .int p1].toArray s 0 0 noF) (F0 m 5 ls [])), fun _ _ h => h, fun _ _ h => h⟩
  have hV := hV J5
  replace hV := hV (by
    intro x3 x5 hV
    refine iJ5 x3 x5 ?_
    intro ls hl
    refine lv_iload hx hb dX2_bitAt_5 (lv_at hl 2 rfl) ?_
    refine lv_iload_n hx hb dX2_bitAt_7 rfl (lv_at hl 0 rfl) ?_
    refine lv_icmp_ge (tgt := 23) hx hb dX2_bitAt_8 (by decide) (fun c_8 => ?_) (fun c_8 => ?_)
    · have hV := hV.1 c_8
      refine lv_lload_n hx hb dX2_bitAt_23 rfl (lv_at hl 1 rfl) ?_
      obtain ⟨h_24, hV⟩ := hV
      refine cp_i (va_runS (As := [.long x3]) (rest := []) ⟨hx, hb, hml, hown, hts⟩ (spec_X2_lowestBit l x3 h_24) (va_cwS 1 hts gX2_bitAt_X2_lowestBit rfl rfl rfl (by decide +kernel) ⟨Nat.le_of_ble_eq_true rfl, Nat.le_of_ble_eq_true rfl⟩) cp_pre rfl rfl hl.1 rfl (lv_room (Nat.le_of_ble_eq_true rfl)) dX2_bitAt_24 ⟨Nat.zero_le _, Nat.zero_le _⟩) (fun r24 q_24 => ?_)
      have hV := hV r24 q_24
      exact W.iret (v := r24) hx hb hr (fun t ht hW => ⟨_, rfl, hV, ht⟩) (fun _ h => by cases h) dX2_bitAt_27
    · have hV := hV.2 c_8
      refine lv_lload_n hx hb dX2_bitAt_11 rfl (lv_at hl 1 rfl) ?_
      refine lv_lload_n hx hb dX2_bitAt_12 rfl (lv_at hl 1 rfl) ?_
      refine lv_lconst (v := (1 : Int64)) hx hb dX2_bitAt_13 (by decide) ?_
      refine lv_lsub hx hb dX2_bitAt_14 ?_
      refine lv_land hx hb dX2_bitAt_15 ?_
      refine lv_lstore_n (lv' := [(3, .long (x3 &&& (x3 - (1 : Int64)))), (2, .int p1), (5, .int x5)]) hx hb dX2_bitAt_16 rfl hl (by decide) rfl (fun ls hl => ?_)
      refine lv_iinc (v := x5 + 1) (lv' := [(5, .int (x5 + 1)), (3, .long (x3 &&& (x3 - (1 : Int64)))), (2, .int p1)]) hx hb dX2_bitAt_17 hl (k := 2) rfl rfl (by decide) rfl (fun ls hl => ?_)
      refine lv_goto (tgt := 5) hx hb dX2_bitAt_20 (by decide) ?_
      exact oJ5 _ _ hV _ (lv_sub hl [2, 1, 0] rfl))
  have hl := lv_entry ([.long p0, .int p1]) (n := 6) (Nat.le_of_ble_eq_true rfl)
  rw [lg_entry_eq]
  generalize (lg_sl ([.long p0, .int p1]) ++ List.replicate (6 - (lg_sl ([.long p0, .int p1])).length) Slot.unset).toArray = ls at hl ⊢
  have hl : lv_has ls 6 [(0, .long p0), (2, .int p1)] := hl
  refine lv_lload_n hx hb dX2_bitAt_0 rfl (lv_at hl 0 rfl) ?_
  refine lv_lstore_n (lv' := [(3, .long p0), (0, .long p0), (2, .int p1)]) hx hb dX2_bitAt_1 rfl hl (by decide) rfl (fun ls hl => ?_)
  refine lv_iconst (v := (0 : Int32)) hx hb dX2_bitAt_2 (by decide) ?_
  refine lv_istore (lv' := [(5, .int (0 : Int32)), (3, .long p0), (0, .long p0), (2, .int p1)]) hx hb dX2_bitAt_3 hl (by decide) rfl (fun ls hl => ?_)
  exact oJ5 _ _ hV _ (lv_sub hl [3, 1, 0] rfl)
def post_X2_bitAt (p0 : Int64) (p1 r : Int32) : Prop := ∃ t, t < 64 ∧ wB p0 t = true ∧ fb_ct (wB p0) t = tn p1 ∧ r = nI t
set_option maxRecDepth 4000 in
theorem spec_X2_bitAt (l : Launch) (p0 : Int64) (p1 : Int32) (hpre : pre_X2_bitAt p0 p1) : Met l yX2_bitAt wsX2_bitAt ({ frames := 2, cells := 0, slots := 0, locals := 42 } : Room) (va_Pc [.long p0, .int p1] (fun _ => True)) (Qpi (post_X2_bitAt p0 p1)) 0 0 noF := by
  apply met_X2_bitAt
  intro J hJ
  obtain ⟨i, hi, rfl⟩ := hpre
  have h64 := fb_ct_le (wB p0) 64
  have tni : tn (nI i) = i := tn_nI (by omega)
  -- all below c are gone: k of them
  have key : ∀ (d k c : Nat) (x : Int64), k + d = i → fb_ct (wB p0) c = k → c ≤ 64 → (∀ j, wB x j = (decide (c ≤ j) && wB p0 j)) → J x (nI k) := by
    have nz : ∀ (k c : Nat) (x : Int64), k ≤ i → fb_ct (wB p0) c = k → c ≤ 64 → (∀ j, wB x j = (decide (c ≤ j) && wB p0 j)) → ¬ x = 0 := by
      intro k c x hk hc hc64 hx hz
      have h0 : fb_ct (wB p0) 64 = k := by
        obtain ⟨e, he⟩ : ∃ e, 64 = c + e := ⟨64 - c, by omega⟩
        rw [he, fb_ct_split, hc]
        rw [fb_ct_zero.mpr (fun j hj => ?_), Nat.add_zero]
        have := hx (c + j)
        rw [(wB_nz.mp hz) (c + j) (by omega), decide_eq_true (show c ≤ c + j by omega), Bool.true_and] at this
        exact this.symm
      omega
    intro d
    induction d with
    | zero =>
      intro k c x hk hc hc64 hx
      have : k = i := by omega
      subst this
      have hxz := nz k c x (by omega) hc hc64 hx
      refine hJ _ _ (pk_le k k (fun _ => ⟨hxz, fun r hr => ?_⟩) (fun h => absurd h (by omega)))
      obtain ⟨t, ⟨t1, t2, t3⟩, rfl⟩ := hr
      rw [hx t] at t2
      have hct : c ≤ t := Classical.byContradiction (fun z => by rw [decide_eq_false z, Bool.false_and] at t2; exact Bool.noConfusion t2)
      rw [decide_eq_true hct, Bool.true_and] at t2
      refine ⟨t, t1, t2, ?_, rfl⟩
      rw [tni, ← hc]
      obtain ⟨e, he⟩ : ∃ e, t = c + e := ⟨t - c, by omega⟩
      rw [he, fb_ct_split, (fb_ct_zero (p := fun k => wB p0 (c + k)) (n := e)).mpr (fun j hj => ?_), Nat.add_zero]
      have := t3 (c + j) (by omega)
      rwa [hx, decide_eq_true (show c ≤ c + j by omega), Bool.true_and] at this
    | succ d ih =>
      intro k c x hk hc hc64 hx
      have hxz := nz k c x (by omega) hc hc64 hx
      refine hJ _ _ (pk_le i k (fun h => absurd h (by omega)) (fun _ => ?_))
      obtain ⟨t, t1, t2, t3, -, t5⟩ := low_word hxz
      rw [hx t] at t2
      have hct : c ≤ t := Classical.byContradiction (fun z => by rw [decide_eq_false z, Bool.false_and] at t2; exact Bool.noConfusion t2)
      rw [decide_eq_true hct, Bool.true_and] at t2
      rw [nI_1]
      refine ih (k + 1) (t + 1) _ (by omega) ?_ (by omega) (fun j => ?_)
      · rw [fb_ct_succ, if_pos t2]
        congr 1
        rw [← hc]
        obtain ⟨e, he⟩ : ∃ e, t = c + e := ⟨t - c, by omega⟩
        rw [he, fb_ct_split, (fb_ct_zero (p := fun k => wB p0 (c + k)) (n := e)).mpr (fun j hj => ?_), Nat.add_zero]
        have := t3 (c + j) (by omega)
        rwa [hx, decide_eq_true (show c ≤ c + j by omega), Bool.true_and] at this
      · rw [t5 j, hx j]
        by_cases z : t < j
        · rw [decide_eq_true z, decide_eq_true (show c ≤ j by omega), decide_eq_true (show t + 1 ≤ j by omega)]; rfl
        · rw [decide_eq_false z, decide_eq_false (show ¬ t + 1 ≤ j by omega)]; rfl
  exact key i 0 0 p0 (by omega) rfl (by omega) (fun j => by rw [decide_eq_true (Nat.zero_le j), Bool.true_and])
set_option maxHeartbeats 4000000 in
set_option maxRecDepth 100000 in
theorem met_X2_clear (l : Launch) (D : va_G) (cy : Nat → ClassId) (ad : Nat → Nat) (sz : Nat) (g : Gs) (a : As) (w : Ws) (post : Gs → As → Ws → Prop)
  (hV : post (va_up g 9 (0 : Int32)) a w) :
  Met l yX2_clear wsX2_clear ({ frames := 0, cells := 0, slots := 0, locals := 0 } : Room) (va_Pc [.ref (ad 12)] (ArP D cy sz (caW ad cy g a w))) (va_Qv (fun (u : Gs × As × Ws) => post u.1 u.2.1 u.2.2) (fun u t => va_P D vwCl (caW ad cy u.1 u.2.1 u.2.2) t.heap) (va_A (caW ad cy g a w) sz)) 0 0 (va_A (caW ad cy g a w) sz) := by
  refine Met.ofW (cc := cX2_clear) (maxL := 1) (ret := none) (by decide) rfl ?_
  intro p e s m args below meth c s₁ B hml hv
  obtain ⟨rfl, hsz, hP, hK, hD0, hN⟩ := hv
  have hx := B.exec
  have hb := B.bytes
  have hr := B.returns
  have hts := atoms_spec (ws := wsX2_clear) B.pre
  have hown : s.vm.findClass RX2 = some m.cls := findClass_of_methodNamed B.named
  have hlocks := B.notSynchronized
  subst hsz
  have hD := hD0.self (sz := s.heap.size)
  have hP : va_P D vwCl (caW ad cy g a w) s.heap := hP
  have hD : va_D (va_A (caW ad cy g a w) s.heap.size) (caW ad cy g a w) := hD
  have hS : va_S (va_A (caW ad cy g a w) s.heap.size) s.heap s.heap [] := va_S.rf
  have hA : ∀ q : Nat, s.heap.size ≤ q → va_A (caW ad cy g a w) s.heap.size q := fun q h => Or.inr h
  have hl := lv_entry ([.ref (ad 12)]) (n := 1) (Nat.le_of_ble_eq_true rfl)
  rw [lg_entry_eq]
  generalize (lg_sl ([.ref (ad 12)]) ++ List.replicate (1 - (lg_sl ([.ref (ad 12)])).length) Slot.unset).toArray = ls at hl ⊢
  have hl : lv_has ls 1 [(0, .ref (ad 12))] := hl
  refine lv_aload_n hx hb dX2_clear_0 rfl (lv_at hl 0 rfl) ?_
  refine lv_iconst (v := (0 : Int32)) hx hb dX2_clear_1 (by decide) ?_
  refine va_put (D := D) (ci := 2) (v := .int (0 : Int32)) (ty := .int) (C := RX2) (T := TX2) (N := 6) hx hb hts (by decide +kernel) tyX2 tyX2_ok nmX2 hown hK hP (caD hD) hS 12 rfl rfl 3 (by decide) (hts (.fieldLink RX2 31 "PowerRests$Laid" "items" "I") (by decide +kernel)) (fun _ h9 => h9) rfl (by decide +kernel) rfl rfl (Nat.le_of_ble_eq_true rfl) dX2_clear_2 (fun H locs hP _ hS => ?_)
  have hP : va_P D vwCl (caW ad cy (va_up g 9 (0 : Int32)) a w) H := hP
  exact W.vret hx hb hr (fun t ht hW => ⟨⟨((va_up g 9 (0 : Int32)), a, w), rfl, hV, ar_heap ht hP⟩, hS.F ht⟩) hS.2.2 dX2_clear_5
def post_X2_clear (g : Gs) (a : As) (w : Ws) (g' : Gs) (a' : As) (w' : Ws) : Prop := g' = va_up g 9 0 ∧ a' = a ∧ w' = w
set_option maxRecDepth 4000 in
theorem spec_X2_clear (l : Launch) (D : va_G) (cy : Nat → ClassId) (ad : Nat → Nat) (sz : Nat) (g : Gs) (a : As) (w : Ws) : Met l yX2_clear wsX2_clear ({ frames := 0, cells := 0, slots := 0, locals := 0 } : Room) (va_Pc [.ref (ad 12)] (ArP D cy sz (caW ad cy g a w))) (va_Qv (fun (u : Gs × As × Ws) => (post_X2_clear g a w) u.1 u.2.1 u.2.2) (fun u t => va_P D vwCl (caW ad cy u.1 u.2.1 u.2.2) t.heap) (va_A (caW ad cy g a w) sz)) 0 0 (va_A (caW ad cy g a w) sz) := by
  apply met_X2_clear
  exact ⟨rfl, rfl, rfl⟩
