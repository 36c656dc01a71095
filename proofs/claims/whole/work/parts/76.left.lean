/-! what is left, the class -/
def Per (n : Nat) (H : Nat → Nat → Bool) (P : Nat) : Prop := ∀ k, k < n → ∀ x y, x % P = y % P → H k x = H k y
theorem LdF.per {g : Gs} {a : As} {w : Ws} (h : LdF g a w) : Per (cN g) (cH a w) (cP g) := fun k hk x y hxy => (h.1.2 k hk).2.2 x y (md_dvd (h.2.2.1 k hk) hxy)
theorem AsB_mod {n : Nat} {H : Nat → Nat → Bool} {P : Nat} (h : Per n H P) (S : Nat) {x y : Nat} (hxy : x % P = y % P) : AsB n H S x = AsB n H S y :=
  cb_iff ⟨fun z k hk hs => by rw [← h k hk x y hxy]; exact z k hk hs, fun z k hk hs => by rw [h k hk x y hxy]; exact z k hk hs⟩
theorem LfB_mod {n : Nat} {H : Nat → Nat → Bool} {P : Nat} (h : Per n H P) {x y : Nat} (hxy : x % P = y % P) : LfB n H x = LfB n H y := by
  rw [← AsB_all, ← AsB_all]; exact AsB_mod h _ hxy
/-- the word of a block, all items -/
theorem wd_all {g : Gs} {a : As} {w : Ws} (h : LdC g a w) {q : Nat} (hq : q < 2 ^ 62) {r1 : Int32} {r2 : Int64} (h1 : post_X2_all g a w r1) (h2 : post_X2_wordOf g a w (lN q) r1 r2) : ∀ j, j < 64 → wB r2 j = LfB (cN g) (cH a w) (64 * q + j) := by
  intro j hj
  have h3 := two_le h.1.1
  unfold post_X2_all at h1
  have := h2 j hj
  rw [h1, tn_nI (by omega), tl_lN (by omega), AsB_all] at this
  exact this
theorem wd_pre {g : Gs} {a : As} {w : Ws} (h : LdC g a w) {q : Nat} (hq : q < 2 ^ 62) {r1 : Int32} (h1 : post_X2_all g a w r1) : pre_X2_wordOf g a w (lN q) r1 := by
  refine ⟨h, by rw [pk_lT (by omega)]; omega, _, two_le h.1.1, h1⟩
def LeftAt (n : Nat) (H : Nat → Nat → Bool) (P i : Nat) (r : Int64) : Prop := (fb_ct (LfB n H) P = 0 ∧ r = -4) ∨ (0 < fb_ct (LfB n H) P ∧ ∃ x, x < P ∧ LfB n H x = true ∧ fb_ct (LfB n H) x = i % fb_ct (LfB n H) P ∧ r = lN (i / fb_ct (LfB n H) P * P + x))
theorem LeftAt.one {n : Nat} {H : Nat → Nat → Bool} {P i : Nat} {r r' : Int64} (h : LeftAt n H P i r) (h' : LeftAt n H P i r') : r = r' := by
  rcases h with ⟨h1, h2⟩ | ⟨h1, x, h2, h3, h4, h5⟩ <;> rcases h' with ⟨k1, k2⟩ | ⟨k1, y, k2, k3, k4, k5⟩
  · rw [h2, k2]
  · omega
  · omega
  · rw [h5, k5, fb_ct_kth_one h3 k3 (h4.trans k4.symm)]
def pre_X2_leftAt (g : Gs) (a : As) (w : Ws) (p0 : Int64) : Prop := LdF g a w ∧ 0 ≤ p0.toInt ∧ p0.toInt ≤ 1000000000
set_option maxHeartbeats 4000000 in
set_option maxRecDepth 100000 in
theorem met_X2_leftAt (l : Launch) (D : va_G) (cy : Nat → ClassId) (ad : Nat → Nat) (sz : Nat) (g : Gs) (a : As) (w : Ws) (p0 : Int64) (post : Int64 → Prop)
  (hV : ∀ (J39 : Int64 → Int32 → Int32 → Prop),
    (∀ (x3 : Int64) (x5 : Int32) (x6 : Int32), (((g 10) ≤ ((64 : Int32) * x6) → post (-4 : Int64)) ∧ (¬ (g 10) ≤ ((64 : Int32) * x6) → pre_X2_all g a w ∧ (∀ r56 : Int32, post_X2_all g a w r56 → pre_X2_wordOf g a w x6.toInt64 r56 ∧ (∀ r59 : Int64, post_X2_wordOf g a w x6.toInt64 r56 r59 → ∀ r66 : Int32, post_J13_bitCount_95d88 r59 r66 → ((r66 ≤ x5 → J39 x3 (x5 - r66) (x6 + 1)) ∧ (¬ r66 ≤ x5 → pre_X2_bitAt r59 x5 ∧ (∀ r91 : Int32, post_X2_bitAt r59 x5 r91 → post ((x3 + ((64 : Int64) * x6.toInt64)) + r91.toInt64)))))))) → J39 x3 x5 x6) →
    (((1 : Int32) ≤ (g 11) → ¬ ((g 11).toInt64) = 0 ∧ (J39 ((p0 / ((g 11).toInt64)) * ((g 10).toInt64)) ((p0 - p0 / ((g 11).toInt64) * ((g 11).toInt64)).toInt32) (0 : Int32))) ∧ (¬ (1 : Int32) ≤ (g 11) → post (-4 : Int64)))) :
  Met l yX2_leftAt wsX2_leftAt ({ frames := 3, cells := 0, slots := 0, locals := 67 } : Room) (va_Pc [.ref (ad 12), .long p0] (ArP D cy sz (caW ad cy g a w))) (Qpl post) 0 0 noF := by
  refine Met.ofW (cc := cX2_leftAt) (maxL := 10) (ret := (some .long)) (by decide) rfl ?_
  intro p e s m args below meth c s₁ B hml hv
  obtain ⟨rfl, hsz, hP, hK, hD0, hN⟩ := hv
  have hx := B.exec
  have hb := B.bytes
  have hr := B.returns
  have hts := atoms_spec (ws := wsX2_leftAt) B.pre
  have hown : s.vm.findClass RX2 = some m.cls := findClass_of_methodNamed B.named
  have hlocks := B.notSynchronized
  subst hsz
  have hP : va_P D vwCl (caW ad cy g a w) s.heap := hP
  have hD : va_D (fun _ => True) (caW ad cy g a w) := hD0
  obtain ⟨J39, iJ39, oJ39⟩ : ∃ J : Int64 → Int32 → Int32 → Prop, (∀ (x3 : Int64) (x5 : Int32) (x6 : Int32), (∀ ls : Array Slot, lv_has ls 10 [(0, .ref (ad 12)), (3, .long x3), (5, .int x5), (6, .int x6)] → W p l e (headSpec wsX2_leftAt ({ frames := 3, cells := 0, slots := 0, locals := 67 } : Room)).room s m [.ref (ad 12), .long p0].toArray below meth c s.heap [] 0 0 (MQ below (Qpl post) [.ref (ad 12), .long p0].toArray s 0 0 noF) (F0 m 39 ls [])) → J x3 x5 x6) ∧ (∀ (x3 : Int64) (x5 : Int32) (x6 : Int32), J x3 x5 x6 → (∀ ls : Array Slot, lv_has ls 10 [(0, .ref (ad 12)), (3, .long x3), (5, .int x5), (6, .int x6)] → W p l e (headSpec wsX2_leftAt ({ frames := 3, cells := 0, slots := 0, locals := 67 } : Room)).room s m [.ref (ad 12), .long p0].toArray below meth c s.heap [] 0 0 (MQ below (Qpl post) [.ref (ad 12), .long p0].toArray s 0 0 noF) (F0 m 39 ls []))) := ⟨fun (x3 : Int64) (x5 : Int32) (x6 : Int32) => (∀ ls : Array Slot, lv_has ls 10 [(0, .ref (ad 12)), (3, .long x3), (5, .int x5), (6, .int x6)] → W p l e (headSpec wsX2_leftAt ({ frames := 3, cells := 0, slots := 0, locals := 67 } : Room)).room s m [.ref (ad 12), .long p0].toArray below meth c s.heap [] 0 0 (MQ below (Qpl post) [.ref (ad 12), .long p0].toArray s 0 0 noF) (F0 m 39 ls [])), fun _ _ _ h => h, fun _ _ _ h => h⟩
  have hV := hV J39
  replace hV := hV (by
    intro x3 x5 x6 hV
    refine iJ39 x3 x5 x6 ?_
    intro ls hl
    refine lv_bipush (v := (64 : Int32)) hx hb dX2_leftAt_39 (by decide) ?_
    refine lv_iload hx hb dX2_leftAt_41 (lv_at hl 3 rfl) ?_
    refine lv_imul hx hb dX2_leftAt_43 ?_
    refine lv_aload_n hx hb dX2_leftAt_44 rfl (lv_at hl 0 rfl) ?_
    refine va_get (D := D) (ci := 2) (v := .int (g 10)) (C := RX2) (T := TX2) (N := 6) hx hb hts (by decide +kernel) hown hK hP 12 rfl rfl 4 (by decide) (hts (.fieldLink RX2 24 "PowerRests$Laid" "period" "I") (by decide +kernel)) (fun _ h9 => h9) rfl dX2_leftAt_45 ?_
    refine lv_icmp_ge (tgt := 110) hx hb dX2_leftAt_48 (by decide) (fun c_48 => ?_) (fun c_48 => ?_)
    · have hV := hV.1 c_48
      refine lv_ldc2 (v := (-4 : Int64)) hx hb hown (hts (.constantLong RX2 65 (-4)) (by decide +kernel)) dX2_leftAt_110 ?_
      exact W.lret (v := (-4 : Int64)) hx hb hr (fun t ht hW => ⟨_, rfl, hV, ht⟩) (fun _ h => by cases h) dX2_leftAt_113
    · have hV := hV.2 c_48
      refine lv_aload_n hx hb dX2_leftAt_51 rfl (lv_at hl 0 rfl) ?_
      refine lv_iload hx hb dX2_leftAt_52 (lv_at hl 3 rfl) ?_
      refine lv_i2l (v := x6.toInt64) hx hb dX2_leftAt_54 rfl ?_
      refine lv_aload_n hx hb dX2_leftAt_55 rfl (lv_at hl 0 rfl) ?_
      obtain ⟨h_56, hV⟩ := hV
      refine cp_i (va_runV (As := []) (rest := [.long x6.toInt64, .ref (ad 12)]) ⟨hx, hb, hml, hown, hts⟩ (spec_X2_all l D cy ad s.heap.size g a w h_56) (cwV 0 hts gX2_leftAt_X2_all rfl rfl rfl (by decide +kernel) ⟨Nat.le_of_ble_eq_true rfl, Nat.le_of_ble_eq_true rfl⟩) (ar_preV hN hK hP hD (ci := 2) (q0 := 12) rfl rfl) rfl rfl hl.1 rfl (lv_room (Nat.le_of_ble_eq_true rfl)) dX2_leftAt_56 ⟨Nat.zero_le _, Nat.zero_le _⟩) (fun r56 q_56 => ?_)
      have hV := hV r56 q_56
      obtain ⟨h_59, hV⟩ := hV
      refine cp_l (va_runV (As := [.long x6.toInt64, .int r56]) (rest := []) ⟨hx, hb, hml, hown, hts⟩ (spec_X2_wordOf l D cy ad s.heap.size g a w x6.toInt64 r56 h_59) (cwV 2 hts gX2_leftAt_X2_wordOf rfl rfl rfl (by decide +kernel) ⟨Nat.le_of_ble_eq_true rfl, Nat.le_of_ble_eq_true rfl⟩) (ar_preV hN hK hP hD (ci := 2) (q0 := 12) rfl rfl) rfl rfl hl.1 rfl (lv_room (Nat.le_of_ble_eq_true rfl)) dX2_leftAt_59 ⟨Nat.zero_le _, Nat.zero_le _⟩) (fun r59 q_59 => ?_)
      have hV := hV r59 q_59
      refine lv_lstore (lv' := [(7, .long r59), (0, .ref (ad 12)), (3, .long x3), (5, .int x5), (6, .int x6)]) hx hb dX2_leftAt_62 hl (by decide) rfl (fun ls hl => ?_)
      refine lv_lload hx hb dX2_leftAt_64 (lv_at hl 0 rfl) ?_
      refine cp_i (va_runS (As := [.long r59]) (rest := []) ⟨hx, hb, hml, hown, hts⟩ (spec_J13_bitCount_95d88 l r59) (va_cwS 1 hts gX2_leftAt_J13_bitCount_95d88 rfl rfl rfl (by decide +kernel) ⟨Nat.le_of_ble_eq_true rfl, Nat.le_of_ble_eq_true rfl⟩) cp_pre rfl rfl hl.1 rfl (lv_room (Nat.le_of_ble_eq_true rfl)) dX2_leftAt_66 ⟨Nat.zero_le _, Nat.zero_le _⟩) (fun r66 q_66 => ?_)
      have hV := hV r66 q_66
      refine lv_istore (lv' := [(9, .int r66), (7, .long r59), (0, .ref (ad 12)), (3, .long x3), (5, .int x5), (6, .int x6)]) hx hb dX2_leftAt_69 hl (by decide) rfl (fun ls hl => ?_)
      refine lv_iload hx hb dX2_leftAt_71 (lv_at hl 4 rfl) ?_
      refine lv_iload hx hb dX2_leftAt_73 (lv_at hl 0 rfl) ?_
      refine lv_icmp_ge (tgt := 97) hx hb dX2_leftAt_75 (by decide) (fun c_75 => ?_) (fun c_75 => ?_)
      · have hV := hV.1 c_75
        refine lv_iload hx hb dX2_leftAt_97 (lv_at hl 4 rfl) ?_
        refine lv_iload hx hb dX2_leftAt_99 (lv_at hl 0 rfl) ?_
        refine lv_isub hx hb dX2_leftAt_101 ?_
        refine lv_istore (lv' := [(5, .int (x5 - r66)), (9, .int r66), (7, .long r59), (0, .ref (ad 12)), (3, .long x3), (6, .int x6)]) hx hb dX2_leftAt_102 hl (by decide) rfl (fun ls hl => ?_)
        refine lv_iinc (v := x6 + 1) (lv' := [(6, .int (x6 + 1)), (5, .int (x5 - r66)), (9, .int r66), (7, .long r59), (0, .ref (ad 12)), (3, .long x3)]) hx hb dX2_leftAt_104 hl (k := 5) rfl rfl (by decide) rfl (fun ls hl => ?_)
        refine lv_goto (tgt := 39) hx hb dX2_leftAt_107 (by decide) ?_
        exact oJ39 _ _ _ hV _ (lv_sub hl [4, 5, 1, 0] rfl)
      · have hV := hV.2 c_75
        refine lv_lload_n hx hb dX2_leftAt_78 rfl (lv_at hl 3 rfl) ?_
        refine lv_ldc2 (v := (64 : Int64)) hx hb hown (hts (.constantLong RX2 67 (64)) (by decide +kernel)) dX2_leftAt_79 ?_
        refine lv_iload hx hb dX2_leftAt_82 (lv_at hl 5 rfl) ?_
        refine lv_i2l (v := x6.toInt64) hx hb dX2_leftAt_84 rfl ?_
        refine lv_lmul hx hb dX2_leftAt_85 ?_
        refine lv_ladd hx hb dX2_leftAt_86 ?_
        refine lv_lload hx hb dX2_leftAt_87 (lv_at hl 1 rfl) ?_
        refine lv_iload hx hb dX2_leftAt_89 (lv_at hl 4 rfl) ?_
        obtain ⟨h_91, hV⟩ := hV
        refine cp_i (va_runS (As := [.long r59, .int x5]) (rest := [.long (x3 + ((64 : Int64) * x6.toInt64))]) ⟨hx, hb, hml, hown, hts⟩ (spec_X2_bitAt l r59 x5 h_91) (va_cwS 2 hts gX2_leftAt_X2_bitAt rfl rfl rfl (by decide +kernel) ⟨Nat.le_of_ble_eq_true rfl, Nat.le_of_ble_eq_true rfl⟩) cp_pre rfl rfl hl.1 rfl (lv_room (Nat.le_of_ble_eq_true rfl)) dX2_leftAt_91 ⟨Nat.zero_le _, Nat.zero_le _⟩) (fun r91 q_91 => ?_)
        have hV := hV r91 q_91
        refine lv_i2l (v := r91.toInt64) hx hb dX2_leftAt_94 rfl ?_
        refine lv_ladd hx hb dX2_leftAt_95 ?_
        exact W.lret (v := (x3 + ((64 : Int64) * x6.toInt64)) + r91.toInt64) hx hb hr (fun t ht hW => ⟨_, rfl, hV, ht⟩) (fun _ h => by cases h) dX2_leftAt_96)
  have hl := lv_entry ([.ref (ad 12), .long p0]) (n := 10) (Nat.le_of_ble_eq_true rfl)
  rw [lg_entry_eq]
  generalize (lg_sl ([.ref (ad 12), .long p0]) ++ List.replicate (10 - (lg_sl ([.ref (ad 12), .long p0])).length) Slot.unset).toArray = ls at hl ⊢
  have hl : lv_has ls 10 [(0, .ref (ad 12)), (1, .long p0)] := hl
  refine lv_aload_n hx hb dX2_leftAt_0 rfl (lv_at hl 0 rfl) ?_
  refine va_get (D := D) (ci := 2) (v := .int (g 11)) (C := RX2) (T := TX2) (N := 6) hx hb hts (by decide +kernel) hown hK hP 12 rfl rfl 5 (by decide) (hts (.fieldLink RX2 28 "PowerRests$Laid" "leftMany" "I") (by decide +kernel)) (fun _ h9 => h9) rfl dX2_leftAt_1 ?_
  refine lv_iconst (v := (1 : Int32)) hx hb dX2_leftAt_4 (by decide) ?_
  refine lv_icmp_ge (tgt := 12) hx hb dX2_leftAt_5 (by decide) (fun c_5 => ?_) (fun c_5 => ?_)
  · have hV := hV.1 c_5
    refine lv_lload_n hx hb dX2_leftAt_12 rfl (lv_at hl 1 rfl) ?_
    refine lv_aload_n hx hb dX2_leftAt_13 rfl (lv_at hl 0 rfl) ?_
    refine va_get (D := D) (ci := 2) (v := .int (g 11)) (C := RX2) (T := TX2) (N := 6) hx hb hts (by decide +kernel) hown hK hP 12 rfl rfl 5 (by decide) (hts (.fieldLink RX2 28 "PowerRests$Laid" "leftMany" "I") (by decide +kernel)) (fun _ h9 => h9) rfl dX2_leftAt_14 ?_
    refine lv_i2l (v := (g 11).toInt64) hx hb dX2_leftAt_17 rfl ?_
    obtain ⟨h_18, hV⟩ := hV
    refine lv_ldiv hx hb dX2_leftAt_18 h_18 ?_
    refine lv_aload_n hx hb dX2_leftAt_19 rfl (lv_at hl 0 rfl) ?_
    refine va_get (D := D) (ci := 2) (v := .int (g 10)) (C := RX2) (T := TX2) (N := 6) hx hb hts (by decide +kernel) hown hK hP 12 rfl rfl 4 (by decide) (hts (.fieldLink RX2 24 "PowerRests$Laid" "period" "I") (by decide +kernel)) (fun _ h9 => h9) rfl dX2_leftAt_20 ?_
    refine lv_i2l (v := (g 10).toInt64) hx hb dX2_leftAt_23 rfl ?_
    refine lv_lmul hx hb dX2_leftAt_24 ?_
    refine lv_lstore_n (lv' := [(3, .long ((p0 / ((g 11).toInt64)) * ((g 10).toInt64))), (0, .ref (ad 12)), (1, .long p0)]) hx hb dX2_leftAt_25 rfl hl (by decide) rfl (fun ls hl => ?_)
    refine lv_lload_n hx hb dX2_leftAt_26 rfl (lv_at hl 2 rfl) ?_
    refine lv_aload_n hx hb dX2_leftAt_27 rfl (lv_at hl 1 rfl) ?_
    refine va_get (D := D) (ci := 2) (v := .int (g 11)) (C := RX2) (T := TX2) (N := 6) hx hb hts (by decide +kernel) hown hK hP 12 rfl rfl 5 (by decide) (hts (.fieldLink RX2 28 "PowerRests$Laid" "leftMany" "I") (by decide +kernel)) (fun _ h9 => h9) rfl dX2_leftAt_28 ?_
    refine lv_i2l (v := (g 11).toInt64) hx hb dX2_leftAt_31 rfl ?_
    refine lv_lrem hx hb dX2_leftAt_32 h_18 ?_
    refine lv_l2i (v := (p0 - p0 / ((g 11).toInt64) * ((g 11).toInt64)).toInt32) hx hb dX2_leftAt_33 rfl ?_
    refine lv_istore (lv' := [(5, .int ((p0 - p0 / ((g 11).toInt64) * ((g 11).toInt64)).toInt32)), (3, .long ((p0 / ((g 11).toInt64)) * ((g 10).toInt64))), (0, .ref (ad 12)), (1, .long p0)]) hx hb dX2_leftAt_34 hl (by decide) rfl (fun ls hl => ?_)
    refine lv_iconst (v := (0 : Int32)) hx hb dX2_leftAt_36 (by decide) ?_
    refine lv_istore (lv' := [(6, .int (0 : Int32)), (5, .int ((p0 - p0 / ((g 11).toInt64) * ((g 11).toInt64)).toInt32)), (3, .long ((p0 / ((g 11).toInt64)) * ((g 10).toInt64))), (0, .ref (ad 12)), (1, .long p0)]) hx hb dX2_leftAt_37 hl (by decide) rfl (fun ls hl => ?_)
    exact oJ39 _ _ _ hV _ (lv_sub hl [3, 2, 1, 0] rfl)
  · have hV := hV.2 c_5
    refine lv_ldc2 (v := (-4 : Int64)) hx hb hown (hts (.constantLong RX2 65 (-4)) (by decide +kernel)) dX2_leftAt_8 ?_
    exact W.lret (v := (-4 : Int64)) hx hb hr (fun t ht hW => ⟨_, rfl, hV, ht⟩) (fun _ h => by cases h) dX2_leftAt_11
def post_X2_leftAt (g : Gs) (a : As) (w : Ws) (p0 r : Int64) : Prop := LeftAt (cN g) (cH a w) (cP g) (tl p0) r
set_option maxRecDepth 4000 in
theorem spec_X2_leftAt (l : Launch) (D : va_G) (cy : Nat → ClassId) (ad : Nat → Nat) (sz : Nat) (g : Gs) (a : As) (w : Ws) (p0 : Int64) (hpre : pre_X2_leftAt g a w p0) : Met l yX2_leftAt wsX2_leftAt ({ frames := 3, cells := 0, slots := 0, locals := 67 } : Room) (va_Pc [.ref (ad 12), .long p0] (ArP D cy sz (caW ad cy g a w))) (Qpl (post_X2_leftAt g a w p0)) 0 0 noF := by
  apply met_X2_leftAt
  intro J hJ
  obtain ⟨⟨hLd, ⟨hP1, hP2, hg10⟩, hdv, hg11⟩, h0, h1⟩ := hpre
  obtain ⟨i, hi, rfl, hi2⟩ := of_l h0
  have hcl := fb_ct_le (LfB (cN g) (cH a w)) (cP g)
  have good : ∀ r, LeftAt (cN g) (cH a w) (cP g) i r → post_X2_leftAt g a w (lN i) r := fun r h => by unfold post_X2_leftAt; rw [tl_lN hi]; exact h
  rw [hg11]
  rw [hg10] at hJ ⊢
  obtain ⟨P, hPd⟩ : ∃ P, P = cP g := ⟨_, rfl⟩
  rw [← hPd] at hJ hP1 hP2 good hcl ⊢
  obtain ⟨c, hcd⟩ : ∃ c, c = fb_ct (LfB (cN g) (cH a w)) P := ⟨_, rfl⟩
  rw [← hcd] at hcl ⊢
  refine pk_le 1 c (fun hc => ⟨by rw [nI_l (by omega)]; exact lN_nz (by omega) (by omega), ?_⟩) (fun hc => good _ (Or.inl ⟨by omega, rfl⟩)) rfl rfl (by omega) (by omega)
  have hd : i / c ≤ i := Nat.div_le_self _ _
  have hB : i / c * P ≤ 1000000000 * 2000000 := Nat.mul_le_mul (by omega) hP2
  have hml := Nat.mod_lt i (show 0 < c by omega)
  rw [nI_l (by omega), nI_l (by omega), pk_lRem hi (by omega) (by omega), pk_lDiv hi (by omega) (by omega), lN_mul, lN_i]
  have key : ∀ (d k o : Nat), k + d = (P + 63) / 64 → fb_ct (LfB (cN g) (cH a w)) (64 * k) + o = i % c → J (lN (i / c * P)) (nI o) (nI k) := by
    intro d
    induction d with
    | zero =>
      intro k o hk ho
      have := fb_ct_mono (LfB (cN g) (cH a w)) (show P ≤ 64 * k by omega)
      omega
    | succ d ih =>
      intro k o hk ho
      refine hJ _ _ _ (pk_le P (64 * k) (fun h => absurd h (by omega)) (fun _ => ⟨hLd.1, fun r56 h56 => ?_⟩) rfl (pk_mul 64 k) (by omega) (by omega))
      rw [nI_l (by omega)]
      refine ⟨wd_pre hLd (by omega) h56, fun r59 h59 r66 h66 => ?_⟩
      have hw := wd_all hLd (by omega) h56 h59
      have e66 : r66 = nI (fb_ct (wB r59) 64) := h66
      have hct : fb_ct (wB r59) 64 = fb_ct (fun j => LfB (cN g) (cH a w) (64 * k + j)) 64 := fb_ct_cong hw
      have h64 := fb_ct_le (wB r59) 64
      have hbl := lf_block (p := LfB (cN g) (cH a w)) (i := k)
      rw [e66]
      refine pk_le (fb_ct (wB r59) 64) o (fun hle => ?_) (fun hlt => ⟨⟨o, hlt, rfl⟩, fun r91 h91 => ?_⟩) rfl rfl (by omega) (by omega)
      · rw [pk_sub hle, nI_1]
        exact ih (k + 1) _ (by omega) (by omega)
      · obtain ⟨t, t1, t2, t3, rfl⟩ := h91
        rw [tn_nI (by omega)] at t3
        have hx : fb_ct (LfB (cN g) (cH a w)) (64 * k + t) = i % c := by
          rw [fb_ct_split, ← ho, ← t3]
          congr 1
          exact (fb_ct_cong (fun j hj => hw j (by omega))).symm
        have hxP : 64 * k + t < P := Nat.not_le.mp (fun z => by
          have := fb_ct_mono (LfB (cN g) (cH a w)) z
          omega)
        rw [nI_l (by omega), show (64 : Int64) * lN k = lN (64 * k) from lN_mul 64 k, lN_add, lN_add]
        refine good _ (Or.inr ⟨by omega, 64 * k + t, hxP, by rw [← hw t t1]; exact t2, by rw [hx, hcd], by rw [← hcd, Nat.add_assoc]⟩)
  exact key ((P + 63) / 64) 0 (i % c) (by omega) (by rw [Nat.mul_zero]; exact Nat.zero_add _)
def FromAns (n : Nat) (H : Nat → Nat → Bool) (P m : Nat) (r : Int64) : Prop := (fb_ct (LfB n H) P = 0 ∧ r = -4) ∨ (0 < fb_ct (LfB n H) P ∧ ∃ x, m ≤ x ∧ LfB n H x = true ∧ (∀ y, m ≤ y → y < x → LfB n H y = false) ∧ r = lN x)
theorem FromAns.one {n : Nat} {H : Nat → Nat → Bool} {P m : Nat} {r r' : Int64} (h : FromAns n H P m r) (h' : FromAns n H P m r') : r = r' := by
  rcases h with ⟨h1, h2⟩ | ⟨h1, x, h2, h3, h4, h5⟩ <;> rcases h' with ⟨k1, k2⟩ | ⟨k1, y, k2, k3, k4, k5⟩
  · rw [h2, k2]
  · omega
  · omega
  · have : x = y := by
      rcases Nat.lt_trichotomy x y with z | z | z
      · have := k4 x h2 z; rw [h3] at this; exact Bool.noConfusion this
      · exact z
      · have := h4 y k2 z; rw [k3] at this; exact Bool.noConfusion this
    rw [h5, k5, this]
/-- one that is left, within a period from m on -/
theorem left_near {n : Nat} {H : Nat → Nat → Bool} {P : Nat} (hP : 1 ≤ P) (h : Per n H P) (hc : 0 < fb_ct (LfB n H) P) (m : Nat) : ∃ y, m ≤ y ∧ y < m + P ∧ LfB n H y = true := by
  obtain ⟨x, hx, hL⟩ := fb_ct_pos.mp hc
  have hm := Nat.mod_lt m (show 0 < P by omega)
  have hz := Nat.mod_lt (x + P - m % P) (show 0 < P by omega)
  refine ⟨m + (x + P - m % P) % P, by omega, by omega, ?_⟩
  rw [← hL]
  apply LfB_mod h
  rw [Nat.add_mod_mod]
  have e : m + (x + P - m % P) = x + P * (m / P + 1) := by
    have := Nat.div_add_mod m P
    rw [Nat.mul_add, Nat.mul_one]
    omega
  rw [e, Nat.add_mul_mod_self_left]
def pre_X2_leastFrom (g : Gs) (a : As) (w : Ws) (p0 : Int64) : Prop := LdF g a w ∧ 0 ≤ p0.toInt ∧ p0.toInt ≤ 1000000000000000
set_option maxHeartbeats 4000000 in
set_option maxRecDepth 100000 in
theorem met_X2_leastFrom (l : Launch) (D : va_G) (cy : Nat → ClassId) (ad : Nat → Nat) (sz : Nat) (g : Gs) (a : As) (w : Ws) (p0 : Int64) (post : Int64 → Prop)
  (hV : ∀ (J43 : Int64 → Int64 → Int32 → Prop),
    (∀ (x3 : Int64) (x5 : Int64) (x7 : Int32), (((((g 10) / (64 : Int32)) + (2 : Int32)) ≤ x7 → ((x5 = (0 : Int64) → post (-4 : Int64)) ∧ (¬ x5 = (0 : Int64) → pre_X2_lowestBit x5 ∧ (∀ r105 : Int32, post_X2_lowestBit x5 r105 → post (((64 : Int64) * x3) + r105.toInt64))))) ∧ (¬ (((g 10) / (64 : Int32)) + (2 : Int32)) ≤ x7 → ((x5 = (0 : Int64) → pre_X2_all g a w ∧ (∀ r71 : Int32, post_X2_all g a w r71 → pre_X2_wordOf g a w (x3 + (1 : Int64)) r71 ∧ (∀ r74 : Int64, post_X2_wordOf g a w (x3 + (1 : Int64)) r71 r74 → J43 (x3 + (1 : Int64)) r74 (x7 + 1)))) ∧ (¬ x5 = (0 : Int64) → ((x5 = (0 : Int64) → post (-4 : Int64)) ∧ (¬ x5 = (0 : Int64) → pre_X2_lowestBit x5 ∧ (∀ r105 : Int32, post_X2_lowestBit x5 r105 → post (((64 : Int64) * x3) + r105.toInt64)))))))) → J43 x3 x5 x7) →
    (((1 : Int32) ≤ (g 11) → pre_X2_all g a w ∧ (∀ r21 : Int32, post_X2_all g a w r21 → pre_X2_wordOf g a w (p0 / (64 : Int64)) r21 ∧ (∀ r24 : Int64, post_X2_wordOf g a w (p0 / (64 : Int64)) r21 r24 → J43 (p0 / (64 : Int64)) (r24 &&& ((-1 : Int64) <<< (((p0 - p0 / (64 : Int64) * (64 : Int64)).toInt32).toInt64 &&& 63))) (0 : Int32)))) ∧ (¬ (1 : Int32) ≤ (g 11) → post (-4 : Int64)))) :
  Met l yX2_leastFrom wsX2_leastFrom ({ frames := 2, cells := 0, slots := 0, locals := 48 } : Room) (va_Pc [.ref (ad 12), .long p0] (ArP D cy sz (caW ad cy g a w))) (Qpl post) 0 0 noF := by
  refine Met.ofW (cc := cX2_leastFrom) (maxL := 8) (ret := (some .long)) (by decide) rfl ?_
  intro p e s m args below meth c s₁ B hml hv
  obtain ⟨rfl, hsz, hP, hK, hD0, hN⟩ := hv
  have hx := B.exec
  have hb := B.bytes
  have hr := B.returns
  have hts := atoms_spec (ws := wsX2_leastFrom) B.pre
  have hown : s.vm.findClass RX2 = some m.cls := findClass_of_methodNamed B.named
  have hlocks := B.notSynchronized
  subst hsz
  have hP : va_P D vwCl (caW ad cy g a w) s.heap := hP
  have hD : va_D (fun _ => True) (caW ad cy g a w) := hD0
  obtain ⟨J43, iJ43, oJ43⟩ : ∃ J : Int64 → Int64 → Int32 → Prop, (∀ (x3 : Int64) (x5 : Int64) (x7 : Int32), (∀ ls : Array Slot, lv_has ls 8 [(0, .ref (ad 12)), (3, .long x3), (5, .long x5), (7, .int x7)] → W p l e (headSpec wsX2_leastFrom ({ frames := 2, cells := 0, slots := 0, locals := 48 } : Room)).room s m [.ref (ad 12), .long p0].toArray below meth c s.heap [] 0 0 (MQ below (Qpl post) [.ref (ad 12), .long p0].toArray s 0 0 noF) (F0 m 43 ls [])) → J x3 x5 x7) ∧ (∀ (x3 : Int64) (x5 : Int64) (x7 : Int32), J x3 x5 x7 → (∀ ls : Array Slot, lv_has ls 8 [(0, .ref (ad 12)), (3, .long x3), (5, .long x5), (7, .int x7)] → W p l e (headSpec wsX2_leastFrom ({ frames := 2, cells := 0, slots := 0, locals := 48 } : Room)).room s m [.ref (ad 12), .long p0].toArray below meth c s.heap [] 0 0 (MQ below (Qpl post) [.ref (ad 12), .long p0].toArray s 0 0 noF) (F0 m 43 ls []))) := ⟨fun (x3 : Int64) (x5 : Int64) (x7 : Int32) => (∀ ls : Array Slot, lv_has ls 8 [(0, .ref (ad 12)), (3, .long x3), (5, .long x5), (7, .int x7)] → W p l e (headSpec wsX2_leastFrom ({ frames := 2, cells := 0, slots := 0, locals := 48 } : Room)).room s m [.ref (ad 12), .long p0].toArray below meth c s.heap [] 0 0 (MQ below (Qpl post) [.ref (ad 12), .long p0].toArray s 0 0 noF) (F0 m 43 ls [])), fun _ _ _ h => h, fun _ _ _ h => h⟩
  have hV := hV J43
  replace hV := hV (by
    intro x3 x5 x7 hV
    refine iJ43 x3 x5 x7 ?_
    intro ls hl
    refine lv_iload hx hb dX2_leastFrom_43 (lv_at hl 3 rfl) ?_
    refine lv_aload_n hx hb dX2_leastFrom_45 rfl (lv_at hl 0 rfl) ?_
    refine va_get (D := D) (ci := 2) (v := .int (g 10)) (C := RX2) (T := TX2) (N := 6) hx hb hts (by decide +kernel) hown hK hP 12 rfl rfl 4 (by decide) (hts (.fieldLink RX2 24 "PowerRests$Laid" "period" "I") (by decide +kernel)) (fun _ h9 => h9) rfl dX2_leastFrom_46 ?_
    refine lv_bipush (v := (64 : Int32)) hx hb dX2_leastFrom_49 (by decide) ?_
    refine lv_idiv hx hb dX2_leastFrom_51 (by decide) ?_
    refine lv_iconst (v := (2 : Int32)) hx hb dX2_leastFrom_52 (by decide) ?_
    refine lv_iadd hx hb dX2_leastFrom_53 ?_
    refine lv_icmp_ge (tgt := 85) hx hb dX2_leastFrom_54 (by decide) (fun c_54 => ?_) (fun c_54 => ?_)
    · have hV := hV.1 c_54
      refine lv_lload hx hb dX2_leastFrom_85 (lv_at hl 2 rfl) ?_
      refine lv_lconst (v := (0 : Int64)) hx hb dX2_leastFrom_87 (by decide) ?_
      refine lc_ne (tgt := 98) hx hb dX2_leastFrom_88 dX2_leastFrom_89 (by decide) (fun c_88 => ?_) (fun c_88 => ?_)
      · have hV := hV.2 c_88
        refine lv_ldc2 (v := (64 : Int64)) hx hb hown (hts (.constantLong RX2 67 (64)) (by decide +kernel)) dX2_leastFrom_98 ?_
        refine lv_lload_n hx hb dX2_leastFrom_101 rfl (lv_at hl 1 rfl) ?_
        refine lv_lmul hx hb dX2_leastFrom_102 ?_
        refine lv_lload hx hb dX2_leastFrom_103 (lv_at hl 2 rfl) ?_
        obtain ⟨h_105, hV⟩ := hV
        refine cp_i (va_runS (As := [.long x5]) (rest := [.long ((64 : Int64) * x3)]) ⟨hx, hb, hml, hown, hts⟩ (spec_X2_lowestBit l x5 h_105) (va_cwS 1 hts gX2_leastFrom_X2_lowestBit rfl rfl rfl (by decide +kernel) ⟨Nat.le_of_ble_eq_true rfl, Nat.le_of_ble_eq_true rfl⟩) cp_pre rfl rfl hl.1 rfl (lv_room (Nat.le_of_ble_eq_true rfl)) dX2_leastFrom_105 ⟨Nat.zero_le _, Nat.zero_le _⟩) (fun r105 q_105 => ?_)
        have hV := hV r105 q_105
        refine lv_i2l (v := r105.toInt64) hx hb dX2_leastFrom_108 rfl ?_
        refine lv_ladd hx hb dX2_leastFrom_109 ?_
        exact W.lret (v := ((64 : Int64) * x3) + r105.toInt64) hx hb hr (fun t ht hW => ⟨_, rfl, hV, ht⟩) (fun _ h => by cases h) dX2_leastFrom_110
      · have hV := hV.1 c_88
        refine lv_ldc2 (v := (-4 : Int64)) hx hb hown (hts (.constantLong RX2 65 (-4)) (by decide +kernel)) dX2_leastFrom_92 ?_
        refine lv_goto (tgt := 110) hx hb dX2_leastFrom_95 (by decide) ?_
        exact W.lret (v := (-4 : Int64)) hx hb hr (fun t ht hW => ⟨_, rfl, hV, ht⟩) (fun _ h => by cases h) dX2_leastFrom_110
    · have hV := hV.2 c_54
      refine lv_lload hx hb dX2_leastFrom_57 (lv_at hl 2 rfl) ?_
      refine lv_lconst (v := (0 : Int64)) hx hb dX2_leastFrom_59 (by decide) ?_
      refine lc_ne (tgt := 85) hx hb dX2_leastFrom_60 dX2_leastFrom_61 (by decide) (fun c_60 => ?_) (fun c_60 => ?_)
      · have hV := hV.2 c_60
        refine lv_lload hx hb dX2_leastFrom_85 (lv_at hl 2 rfl) ?_
        refine lv_lconst (v := (0 : Int64)) hx hb dX2_leastFrom_87 (by decide) ?_
        refine lc_ne (tgt := 98) hx hb dX2_leastFrom_88 dX2_leastFrom_89 (by decide) (fun c_88 => ?_) (fun c_88 => ?_)
        · have hV := hV.2 c_88
          refine lv_ldc2 (v := (64 : Int64)) hx hb hown (hts (.constantLong RX2 67 (64)) (by decide +kernel)) dX2_leastFrom_98 ?_
          refine lv_lload_n hx hb dX2_leastFrom_101 rfl (lv_at hl 1 rfl) ?_
          refine lv_lmul hx hb dX2_leastFrom_102 ?_
          refine lv_lload hx hb dX2_leastFrom_103 (lv_at hl 2 rfl) ?_
          obtain ⟨h_105, hV⟩ := hV
          refine cp_i (va_runS (As := [.long x5]) (rest := [.long ((64 : Int64) * x3)]) ⟨hx, hb, hml, hown, hts⟩ (spec_X2_lowestBit l x5 h_105) (va_cwS 1 hts gX2_leastFrom_X2_lowestBit rfl rfl rfl (by decide +kernel) ⟨Nat.le_of_ble_eq_true rfl, Nat.le_of_ble_eq_true rfl⟩) cp_pre rfl rfl hl.1 rfl (lv_room (Nat.le_of_ble_eq_true rfl)) dX2_leastFrom_105 ⟨Nat.zero_le _, Nat.zero_le _⟩) (fun r105 q_105 => ?_)
          have hV := hV r105 q_105
          refine lv_i2l (v := r105.toInt64) hx hb dX2_leastFrom_108 rfl ?_
          refine lv_ladd hx hb dX2_leastFrom_109 ?_
          exact W.lret (v := ((64 : Int64) * x3) + r105.toInt64) hx hb hr (fun t ht hW => ⟨_, rfl, hV, ht⟩) (fun _ h => by cases h) dX2_leastFrom_110
        · have hV := hV.1 c_88
          refine lv_ldc2 (v := (-4 : Int64)) hx hb hown (hts (.constantLong RX2 65 (-4)) (by decide +kernel)) dX2_leastFrom_92 ?_
          refine lv_goto (tgt := 110) hx hb dX2_leastFrom_95 (by decide) ?_
          exact W.lret (v := (-4 : Int64)) hx hb hr (fun t ht hW => ⟨_, rfl, hV, ht⟩) (fun _ h => by cases h) dX2_leastFrom_110
      · have hV := hV.1 c_60
        refine lv_lload_n hx hb dX2_leastFrom_64 rfl (lv_at hl 1 rfl) ?_
        refine lv_lconst (v := (1 : Int64)) hx hb dX2_leastFrom_65 (by decide) ?_
        refine lv_ladd hx hb dX2_leastFrom_66 ?_
        refine lv_lstore_n (lv' := [(3, .long (x3 + (1 : Int64))), (0, .ref (ad 12)), (5, .long x5), (7, .int x7)]) hx hb dX2_leastFrom_67 rfl hl (by decide) rfl (fun ls hl => ?_)
        refine lv_aload_n hx hb dX2_leastFrom_68 rfl (lv_at hl 1 rfl) ?_
        refine lv_lload_n hx hb dX2_leastFrom_69 rfl (lv_at hl 0 rfl) ?_
        refine lv_aload_n hx hb dX2_leastFrom_70 rfl (lv_at hl 1 rfl) ?_
        obtain ⟨h_71, hV⟩ := hV
        refine cp_i (va_runV (As := []) (rest := [.long (x3 + (1 : Int64)), .ref (ad 12)]) ⟨hx, hb, hml, hown, hts⟩ (spec_X2_all l D cy ad s.heap.size g a w h_71) (cwV 0 hts gX2_leastFrom_X2_all rfl rfl rfl (by decide +kernel) ⟨Nat.le_of_ble_eq_true rfl, Nat.le_of_ble_eq_true rfl⟩) (ar_preV hN hK hP hD (ci := 2) (q0 := 12) rfl rfl) rfl rfl hl.1 rfl (lv_room (Nat.le_of_ble_eq_true rfl)) dX2_leastFrom_71 ⟨Nat.zero_le _, Nat.zero_le _⟩) (fun r71 q_71 => ?_)
        have hV := hV r71 q_71
        obtain ⟨h_74, hV⟩ := hV
        refine cp_l (va_runV (As := [.long (x3 + (1 : Int64)), .int r71]) (rest := []) ⟨hx, hb, hml, hown, hts⟩ (spec_X2_wordOf l D cy ad s.heap.size g a w (x3 + (1 : Int64)) r71 h_74) (cwV 2 hts gX2_leastFrom_X2_wordOf rfl rfl rfl (by decide +kernel) ⟨Nat.le_of_ble_eq_true rfl, Nat.le_of_ble_eq_true rfl⟩) (ar_preV hN hK hP hD (ci := 2) (q0 := 12) rfl rfl) rfl rfl hl.1 rfl (lv_room (Nat.le_of_ble_eq_true rfl)) dX2_leastFrom_74 ⟨Nat.zero_le _, Nat.zero_le _⟩) (fun r74 q_74 => ?_)
        have hV := hV r74 q_74
        refine lv_lstore (lv' := [(5, .long r74), (3, .long (x3 + (1 : Int64))), (0, .ref (ad 12)), (7, .int x7)]) hx hb dX2_leastFrom_77 hl (by decide) rfl (fun ls hl => ?_)
        refine lv_iinc (v := x7 + 1) (lv' := [(7, .int (x7 + 1)), (5, .long r74), (3, .long (x3 + (1 : Int64))), (0, .ref (ad 12))]) hx hb dX2_leastFrom_79 hl (k := 3) rfl rfl (by decide) rfl (fun ls hl => ?_)
        refine lv_goto (tgt := 43) hx hb dX2_leastFrom_82 (by decide) ?_
        exact oJ43 _ _ _ hV _ (lv_sub hl [3, 2, 1, 0] rfl))
  have hl := lv_entry ([.ref (ad 12), .long p0]) (n := 8) (Nat.le_of_ble_eq_true rfl)
  rw [lg_entry_eq]
  generalize (lg_sl ([.ref (ad 12), .long p0]) ++ List.replicate (8 - (lg_sl ([.ref (ad 12), .long p0])).length) Slot.unset).toArray = ls at hl ⊢
  have hl : lv_has ls 8 [(0, .ref (ad 12)), (1, .long p0)] := hl
  refine lv_aload_n hx hb dX2_leastFrom_0 rfl (lv_at hl 0 rfl) ?_
  refine va_get (D := D) (ci := 2) (v := .int (g 11)) (C := RX2) (T := TX2) (N := 6) hx hb hts (by decide +kernel) hown hK hP 12 rfl rfl 5 (by decide) (hts (.fieldLink RX2 28 "PowerRests$Laid" "leftMany" "I") (by decide +kernel)) (fun _ h9 => h9) rfl dX2_leastFrom_1 ?_
  refine lv_iconst (v := (1 : Int32)) hx hb dX2_leastFrom_4 (by decide) ?_
  refine lv_icmp_ge (tgt := 12) hx hb dX2_leastFrom_5 (by decide) (fun c_5 => ?_) (fun c_5 => ?_)
  · have hV := hV.1 c_5
    refine lv_lload_n hx hb dX2_leastFrom_12 rfl (lv_at hl 1 rfl) ?_
    refine lv_ldc2 (v := (64 : Int64)) hx hb hown (hts (.constantLong RX2 67 (64)) (by decide +kernel)) dX2_leastFrom_13 ?_
    refine lv_ldiv hx hb dX2_leastFrom_16 (by decide) ?_
    refine lv_lstore_n (lv' := [(3, .long (p0 / (64 : Int64))), (0, .ref (ad 12)), (1, .long p0)]) hx hb dX2_leastFrom_17 rfl hl (by decide) rfl (fun ls hl => ?_)
    refine lv_aload_n hx hb dX2_leastFrom_18 rfl (lv_at hl 1 rfl) ?_
    refine lv_lload_n hx hb dX2_leastFrom_19 rfl (lv_at hl 0 rfl) ?_
    refine lv_aload_n hx hb dX2_leastFrom_20 rfl (lv_at hl 1 rfl) ?_
    obtain ⟨h_21, hV⟩ := hV
    refine cp_i (va_runV (As := []) (rest := [.long (p0 / (64 : Int64)), .ref (ad 12)]) ⟨hx, hb, hml, hown, hts⟩ (spec_X2_all l D cy ad s.heap.size g a w h_21) (cwV 0 hts gX2_leastFrom_X2_all rfl rfl rfl (by decide +kernel) ⟨Nat.le_of_ble_eq_true rfl, Nat.le_of_ble_eq_true rfl⟩) (ar_preV hN hK hP hD (ci := 2) (q0 := 12) rfl rfl) rfl rfl hl.1 rfl (lv_room (Nat.le_of_ble_eq_true rfl)) dX2_leastFrom_21 ⟨Nat.zero_le _, Nat.zero_le _⟩) (fun r21 q_21 => ?_)
    have hV := hV r21 q_21
    obtain ⟨h_24, hV⟩ := hV
    refine cp_l (va_runV (As := [.long (p0 / (64 : Int64)), .int r21]) (rest := []) ⟨hx, hb, hml, hown, hts⟩ (spec_X2_wordOf l D cy ad s.heap.size g a w (p0 / (64 : Int64)) r21 h_24) (cwV 2 hts gX2_leastFrom_X2_wordOf rfl rfl rfl (by decide +kernel) ⟨Nat.le_of_ble_eq_true rfl, Nat.le_of_ble_eq_true rfl⟩) (ar_preV hN hK hP hD (ci := 2) (q0 := 12) rfl rfl) rfl rfl hl.1 rfl (lv_room (Nat.le_of_ble_eq_true rfl)) dX2_leastFrom_24 ⟨Nat.zero_le _, Nat.zero_le _⟩) (fun r24 q_24 => ?_)
    have hV := hV r24 q_24
    refine lv_ldc2 (v := (-1 : Int64)) hx hb hown (hts (.constantLong RX2 43 (-1)) (by decide +kernel)) dX2_leastFrom_27 ?_
    refine lv_lload_n hx hb dX2_leastFrom_30 rfl (lv_at hl 2 rfl) ?_
    refine lv_ldc2 (v := (64 : Int64)) hx hb hown (hts (.constantLong RX2 67 (64)) (by decide +kernel)) dX2_leastFrom_31 ?_
    refine lv_lrem hx hb dX2_leastFrom_34 (by decide) ?_
    refine lv_l2i (v := (p0 - p0 / (64 : Int64) * (64 : Int64)).toInt32) hx hb dX2_leastFrom_35 rfl ?_
    refine lv_lshl (v := (-1 : Int64) <<< (((p0 - p0 / (64 : Int64) * (64 : Int64)).toInt32).toInt64 &&& 63)) hx hb dX2_leastFrom_36 rfl ?_
    refine lv_land hx hb dX2_leastFrom_37 ?_
    refine lv_lstore (lv' := [(5, .long (r24 &&& ((-1 : Int64) <<< (((p0 - p0 / (64 : Int64) * (64 : Int64)).toInt32).toInt64 &&& 63)))), (3, .long (p0 / (64 : Int64))), (0, .ref (ad 12)), (1, .long p0)]) hx hb dX2_leastFrom_38 hl (by decide) rfl (fun ls hl => ?_)
    refine lv_iconst (v := (0 : Int32)) hx hb dX2_leastFrom_40 (by decide) ?_
    refine lv_istore (lv' := [(7, .int (0 : Int32)), (5, .long (r24 &&& ((-1 : Int64) <<< (((p0 - p0 / (64 : Int64) * (64 : Int64)).toInt32).toInt64 &&& 63)))), (3, .long (p0 / (64 : Int64))), (0, .ref (ad 12)), (1, .long p0)]) hx hb dX2_leastFrom_41 hl (by decide) rfl (fun ls hl => ?_)
    exact oJ43 _ _ _ hV _ (lv_sub hl [3, 2, 1, 0] rfl)
  · have hV := hV.2 c_5
    refine lv_ldc2 (v := (-4 : Int64)) hx hb hown (hts (.constantLong RX2 65 (-4)) (by decide +kernel)) dX2_leastFrom_8 ?_
    exact W.lret (v := (-4 : Int64)) hx hb hr (fun t ht hW => ⟨_, rfl, hV, ht⟩) (fun _ h => by cases h) dX2_leastFrom_11
def post_X2_leastFrom (g : Gs) (a : As) (w : Ws) (p0 r : Int64) : Prop := FromAns (cN g) (cH a w) (cP g) (tl p0) r
set_option maxRecDepth 4000 in
theorem spec_X2_leastFrom (l : Launch) (D : va_G) (cy : Nat → ClassId) (ad : Nat → Nat) (sz : Nat) (g : Gs) (a : As) (w : Ws) (p0 : Int64) (hpre : pre_X2_leastFrom g a w p0) : Met l yX2_leastFrom wsX2_leastFrom ({ frames := 2, cells := 0, slots := 0, locals := 48 } : Room) (va_Pc [.ref (ad 12), .long p0] (ArP D cy sz (caW ad cy g a w))) (Qpl (post_X2_leastFrom g a w p0)) 0 0 noF := by
  apply met_X2_leastFrom
  intro J hJ
  obtain ⟨hLdF, h0, h1⟩ := hpre
  have hper := hLdF.per
  obtain ⟨hLd, ⟨hP1, hP2, hg10⟩, hdv, hg11⟩ := hLdF
  obtain ⟨m, hm, rfl, hm2⟩ := of_l h0
  have hcl := fb_ct_le (LfB (cN g) (cH a w)) (cP g)
  have good : ∀ r, FromAns (cN g) (cH a w) (cP g) m r → post_X2_leastFrom g a w (lN m) r := fun r h => by unfold post_X2_leastFrom; rw [tl_lN hm]; exact h
  rw [hg11]
  rw [hg10] at hJ
  obtain ⟨P, hPd⟩ : ∃ P, P = cP g := ⟨_, rfl⟩
  rw [← hPd] at hJ hP1 hP2 good hcl hper ⊢
  refine pk_le 1 _ (fun hc => ⟨hLd.1, fun r21 h21 => ?_⟩) (fun hc => good _ (Or.inl ⟨by omega, rfl⟩)) rfl rfl (by omega) (by omega)
  rw [show lN m / (64 : Int64) = lN (m / 64) from pk_lDiv (b := 64) hm (by omega) (by omega), show lN m - lN (m / 64) * (64 : Int64) = lN (m % 64) by
    have := pk_lRem (b := 64) hm (by omega) (by omega)
    rw [pk_lDiv (b := 64) hm (by omega) (by omega)] at this
    exact this, lN_i]
  refine ⟨wd_pre hLd (by omega) h21, fun r24 h24 => ?_⟩
  have hw0 := wd_all hLd (by omega) h21 h24
  have eQ : nI P / (64 : Int32) + 2 = nI (P / 64 + 2) := by
    rw [show nI P / (64 : Int32) = nI (P / 64) from pk_div (d := 64) (by omega) (by omega) (by omega)]
    exact nI_add _ 2
  rw [eQ] at hJ
  -- a word that is not nothing
  have fin : ∀ (b : Nat) (W : Int64), m / 64 ≤ b → b < 2 ^ 56 → (∀ j, j < 64 → wB W j = (decide (m ≤ 64 * b + j) && LfB (cN g) (cH a w) (64 * b + j))) → (∀ y, m ≤ y → y < 64 * b → LfB (cN g) (cH a w) y = false) → ¬ W = 0 → pre_X2_lowestBit W ∧ ∀ r105, post_X2_lowestBit W r105 → post_X2_leastFrom g a w (lN m) ((64 : Int64) * lN b + r105.toInt64) := by
    intro b W hb1 hb2 hW hno hz
    refine ⟨hz, fun r hr => ?_⟩
    obtain ⟨t, ⟨t1, t2, t3⟩, rfl⟩ := hr
    rw [hW t t1] at t2
    have hmt : m ≤ 64 * b + t := Classical.byContradiction (fun z => by rw [decide_eq_false z, Bool.false_and] at t2; exact Bool.noConfusion t2)
    rw [decide_eq_true hmt, Bool.true_and] at t2
    rw [nI_l (by omega), show (64 : Int64) * lN b = lN (64 * b) from lN_mul 64 b, lN_add]
    refine good _ (Or.inr ⟨by omega, 64 * b + t, hmt, t2, fun y h1 h2 => ?_, rfl⟩)
    by_cases z : y < 64 * b
    · exact hno y h1 z
    · have := t3 (y - 64 * b) (by omega)
      rwa [hW _ (by omega), show 64 * b + (y - 64 * b) = y by omega, decide_eq_true h1, Bool.true_and] at this
  have key : ∀ (d s : Nat) (W : Int64), s + d = P / 64 + 2 → (∀ j, j < 64 → wB W j = (decide (m ≤ 64 * (m / 64 + s) + j) && LfB (cN g) (cH a w) (64 * (m / 64 + s) + j))) → (∀ y, m ≤ y → y < 64 * (m / 64 + s) → LfB (cN g) (cH a w) y = false) → J (lN (m / 64 + s)) W (nI s) := by
    intro d
    have none : ∀ (s : Nat) (W : Int64), W = 0 → (∀ j, j < 64 → wB W j = (decide (m ≤ 64 * (m / 64 + s) + j) && LfB (cN g) (cH a w) (64 * (m / 64 + s) + j))) → (∀ y, m ≤ y → y < 64 * (m / 64 + s) → LfB (cN g) (cH a w) y = false) → ∀ y, m ≤ y → y < 64 * (m / 64 + (s + 1)) → LfB (cN g) (cH a w) y = false := by
      intro s W hz hW hno y h1 h2
      by_cases z : y < 64 * (m / 64 + s)
      · exact hno y h1 z
      · have := hW (y - 64 * (m / 64 + s)) (by omega)
        rw [(wB_nz.mp hz) _ (by omega), show 64 * (m / 64 + s) + (y - 64 * (m / 64 + s)) = y by omega, decide_eq_true h1, Bool.true_and] at this
        exact this.symm
    induction d with
    | zero =>
      intro s W hs hW hno
      refine hJ _ _ _ (pk_le (P / 64 + 2) s (fun _ => ⟨fun hz => ?_, fun hz => fin _ W (by omega) (by omega) hW hno hz⟩) (fun h => absurd h (by omega)))
      obtain ⟨y, y1, y2, y3⟩ := left_near hP1 hper (by omega) m
      have := none s W hz hW hno y y1 (by omega)
      rw [y3] at this
      exact Bool.noConfusion this
    | succ d ih =>
      intro s W hs hW hno
      refine hJ _ _ _ (pk_le (P / 64 + 2) s (fun h => absurd h (by omega)) (fun _ => ⟨fun hz => ⟨hLd.1, fun r71 h71 => ?_⟩, fun hz => ⟨fun z => absurd z hz, fun _ => fin _ W (by omega) (by omega) hW hno hz⟩⟩))
      rw [show lN (m / 64 + s) + (1 : Int64) = lN (m / 64 + (s + 1)) from lN_1 _, nI_1]
      refine ⟨wd_pre hLd (by omega) h71, fun r74 h74 => ?_⟩
      have hw := wd_all hLd (by omega) h71 h74
      refine ih (s + 1) r74 (by omega) (fun j hj => ?_) (none s W hz hW hno)
      rw [hw j hj, decide_eq_true (show m ≤ 64 * (m / 64 + (s + 1)) + j by omega), Bool.true_and]
  refine key (P / 64 + 2) 0 _ (by omega) (fun j hj => ?_) (fun y h1 h2 => by omega)
  rw [wB_and, hw0 j hj, wB_high (by omega) hj, Bool.and_comm, Nat.add_zero]
  congr 1
  exact decide_eq_decide.mpr ⟨fun h => by omega, fun h => by omega⟩
