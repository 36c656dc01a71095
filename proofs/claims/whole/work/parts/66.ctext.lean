/-! the text, the class: what an item allows, writing, the first fault, the period -/
def Hold (l f s b x : Nat) : Prop := (l = 108 → f * (x % b) % b = s) ∧ (l = 112 → (x % b) ^ f % b = s) ∧ (l = 110 → ¬ x % b = s) ∧ (¬ l = 108 → ¬ l = 110 → ¬ l = 112 → f ≤ x % b ∧ x % b ≤ s)
def ItG (g : Gs) (l f s b : Nat) : Prop := (g 4 = nI l ∧ g 5 = nI f ∧ g 6 = nI s ∧ g 7 = nI b) ∧ l < 200 ∧ f < 10000 ∧ s < 200 ∧ 2 ≤ b ∧ b ≤ 200
theorem ItG.one {g : Gs} {l f s b l' f' s' b' : Nat} (h : ItG g l f s b) (h' : ItG g l' f' s' b') : l = l' ∧ f = f' ∧ s = s' ∧ b = b' := by
  obtain ⟨⟨e4, e5, e6, e7⟩, h1, h2, h3, h4, h5⟩ := h
  obtain ⟨⟨k4, k5, k6, k7⟩, j1, j2, j3, j4, j5⟩ := h'
  have z : ∀ {x y : Nat} {u : Int32}, u = nI x → u = nI y → x < 10000 → y < 10000 → x = y := fun h1 h2 h3 h4 => (nI_eq (by omega) (by omega)).mp (h1.symm.trans h2)
  exact ⟨z e4 k4 (by omega) (by omega), z e5 k5 (by omega) (by omega), z e6 k6 (by omega) (by omega), z e7 k7 (by omega) (by omega)⟩
def pre_X1_allows (g : Gs) (a : As) (w : Ws) (p0 : Int32) : Prop := ∃ l f s b x, ItG g l f s b ∧ x < b ∧ p0 = nI x
set_option maxHeartbeats 4000000 in
set_option maxRecDepth 100000 in
theorem met_X1_allows (l : Launch) (D : va_G) (cy : Nat → ClassId) (ad : Nat → Nat) (sz : Nat) (g : Gs) (a : As) (w : Ws) (p0 : Int32) (post : Int32 → Prop)
  (hV : (((g 4) = 108 → (((g 7) ≤ 0 → post (0 : Int32)) ∧ (¬ (g 7) ≤ 0 → ¬ (g 7) = 0 ∧ ((((((g 5) * p0) - ((g 5) * p0) / (g 7) * (g 7)) = (g 6) → post (1 : Int32)) ∧ (¬ (((g 5) * p0) - ((g 5) * p0) / (g 7) * (g 7)) = (g 6) → post (0 : Int32))))))) ∧ ((g 4) = 110 → ((p0 = (g 6) → post (0 : Int32)) ∧ (¬ p0 = (g 6) → post (1 : Int32)))) ∧ ((g 4) = 112 → pre_X4_raise p0.toInt64 ((g 5).toInt64) (g 7) ∧ (∀ r82 : Int32, post_X4_raise p0.toInt64 ((g 5).toInt64) (g 7) r82 → ((r82 = (g 6) → post (1 : Int32)) ∧ (¬ r82 = (g 6) → post (0 : Int32))))) ∧ (¬ (g 4) = 108 → ¬ (g 4) = 110 → ¬ (g 4) = 112 → ((p0 < (g 5) → post (0 : Int32)) ∧ (¬ p0 < (g 5) → (((g 6) < p0 → post (0 : Int32)) ∧ (¬ (g 6) < p0 → post (1 : Int32)))))))) :
  Met l yX1_allows wsX1_allows ({ frames := 1, cells := 0, slots := 0, locals := 31 } : Room) (va_Pc [.ref (ad 11), .int p0] (ArP D cy sz (caW ad cy g a w))) (Qpi post) 0 0 noF := by
  refine Met.ofW (cc := cX1_allows) (maxL := 2) (ret := (some .boolean)) (by decide) rfl ?_
  intro p e s m args below meth c s₁ B hml hv
  obtain ⟨rfl, hsz, hP, hK, hD0, hN⟩ := hv
  have hx := B.exec
  have hb := B.bytes
  have hr := B.returns
  have hts := atoms_spec (ws := wsX1_allows) B.pre
  have hown : s.vm.findClass RX1 = some m.cls := findClass_of_methodNamed B.named
  have hlocks := B.notSynchronized
  subst hsz
  have hP : va_P D vwCl (caW ad cy g a w) s.heap := hP
  have hD : va_D (fun _ => True) (caW ad cy g a w) := hD0
  have hl := lv_entry ([.ref (ad 11), .int p0]) (n := 2) (Nat.le_of_ble_eq_true rfl)
  rw [lg_entry_eq]
  generalize (lg_sl ([.ref (ad 11), .int p0]) ++ List.replicate (2 - (lg_sl ([.ref (ad 11), .int p0])).length) Slot.unset).toArray = ls at hl ⊢
  have hl : lv_has ls 2 [(0, .ref (ad 11)), (1, .int p0)] := hl
  refine lv_aload_n hx hb dX1_allows_0 rfl (lv_at hl 0 rfl) ?_
  refine va_get (D := D) (ci := 1) (v := .int (g 4)) (C := RX1) (T := TX1) (N := 5) hx hb hts (by decide +kernel) hown hK hP 11 rfl rfl 0 (by decide) (hts (.fieldLink RX1 13 "PowerRests$Item" "letter" "I") (by decide +kernel)) (fun _ h9 => h9) rfl dX1_allows_1 ?_
  by_cases e_4_108 : (g 4) = 108
  · refine lv_tableIn (off := 36) (tgt := 40) hx hb dX1_allows_4 (by rw [e_4_108]; decide) (by rw [e_4_108]; decide) (by rw [e_4_108]; decide) (by decide) ?_
    have hV := hV.1 e_4_108
    refine lv_aload_n hx hb dX1_allows_40 rfl (lv_at hl 0 rfl) ?_
    refine va_get (D := D) (ci := 1) (v := .int (g 7)) (C := RX1) (T := TX1) (N := 5) hx hb hts (by decide +kernel) hown hK hP 11 rfl rfl 3 (by decide) (hts (.fieldLink RX1 32 "PowerRests$Item" "by" "I") (by decide +kernel)) (fun _ h9 => h9) rfl dX1_allows_41 ?_
    refine lv_if_le (tgt := 69) hx hb dX1_allows_44 (by decide) (fun c_44 => ?_) (fun c_44 => ?_)
    · have hV := hV.1 c_44
      refine lv_iconst (v := (0 : Int32)) hx hb dX1_allows_69 (by decide) ?_
      exact W.zret (v := (0 : Int32)) hx hb hr rfl (fun t ht hW => ⟨_, rfl, hV, ht⟩) (fun _ h => by cases h) dX1_allows_70
    · have hV := hV.2 c_44
      refine lv_aload_n hx hb dX1_allows_47 rfl (lv_at hl 0 rfl) ?_
      refine va_get (D := D) (ci := 1) (v := .int (g 5)) (C := RX1) (T := TX1) (N := 5) hx hb hts (by decide +kernel) hown hK hP 11 rfl rfl 1 (by decide) (hts (.fieldLink RX1 22 "PowerRests$Item" "first" "I") (by decide +kernel)) (fun _ h9 => h9) rfl dX1_allows_48 ?_
      refine lv_iload_n hx hb dX1_allows_51 rfl (lv_at hl 1 rfl) ?_
      refine lv_imul hx hb dX1_allows_52 ?_
      refine lv_aload_n hx hb dX1_allows_53 rfl (lv_at hl 0 rfl) ?_
      refine va_get (D := D) (ci := 1) (v := .int (g 7)) (C := RX1) (T := TX1) (N := 5) hx hb hts (by decide +kernel) hown hK hP 11 rfl rfl 3 (by decide) (hts (.fieldLink RX1 32 "PowerRests$Item" "by" "I") (by decide +kernel)) (fun _ h9 => h9) rfl dX1_allows_54 ?_
      obtain ⟨h_57, hV⟩ := hV
      refine lv_irem hx hb dX1_allows_57 h_57 ?_
      refine lv_aload_n hx hb dX1_allows_58 rfl (lv_at hl 0 rfl) ?_
      refine va_get (D := D) (ci := 1) (v := .int (g 6)) (C := RX1) (T := TX1) (N := 5) hx hb hts (by decide +kernel) hown hK hP 11 rfl rfl 2 (by decide) (hts (.fieldLink RX1 29 "PowerRests$Item" "second" "I") (by decide +kernel)) (fun _ h9 => h9) rfl dX1_allows_59 ?_
      refine lv_icmp_ne (tgt := 69) hx hb dX1_allows_62 (by decide) (fun c_62 => ?_) (fun c_62 => ?_)
      · have hV := hV.2 c_62
        refine lv_iconst (v := (0 : Int32)) hx hb dX1_allows_69 (by decide) ?_
        exact W.zret (v := (0 : Int32)) hx hb hr rfl (fun t ht hW => ⟨_, rfl, hV, ht⟩) (fun _ h => by cases h) dX1_allows_70
      · have hV := hV.1 c_62
        refine lv_iconst (v := (1 : Int32)) hx hb dX1_allows_65 (by decide) ?_
        refine lv_goto (tgt := 70) hx hb dX1_allows_66 (by decide) ?_
        exact W.zret (v := (1 : Int32)) hx hb hr rfl (fun t ht hW => ⟨_, rfl, hV, ht⟩) (fun _ h => by cases h) dX1_allows_70
  by_cases e_4_110 : (g 4) = 110
  · refine lv_tableIn (off := 94) (tgt := 98) hx hb dX1_allows_4 (by rw [e_4_110]; decide) (by rw [e_4_110]; decide) (by rw [e_4_110]; decide) (by decide) ?_
    have hV := hV.2.1 e_4_110
    refine lv_iload_n hx hb dX1_allows_98 rfl (lv_at hl 1 rfl) ?_
    refine lv_aload_n hx hb dX1_allows_99 rfl (lv_at hl 0 rfl) ?_
    refine va_get (D := D) (ci := 1) (v := .int (g 6)) (C := RX1) (T := TX1) (N := 5) hx hb hts (by decide +kernel) hown hK hP 11 rfl rfl 2 (by decide) (hts (.fieldLink RX1 29 "PowerRests$Item" "second" "I") (by decide +kernel)) (fun _ h9 => h9) rfl dX1_allows_100 ?_
    refine lv_icmp_eq (tgt := 110) hx hb dX1_allows_103 (by decide) (fun c_103 => ?_) (fun c_103 => ?_)
    · have hV := hV.1 c_103
      refine lv_iconst (v := (0 : Int32)) hx hb dX1_allows_110 (by decide) ?_
      exact W.zret (v := (0 : Int32)) hx hb hr rfl (fun t ht hW => ⟨_, rfl, hV, ht⟩) (fun _ h => by cases h) dX1_allows_111
    · have hV := hV.2 c_103
      refine lv_iconst (v := (1 : Int32)) hx hb dX1_allows_106 (by decide) ?_
      refine lv_goto (tgt := 111) hx hb dX1_allows_107 (by decide) ?_
      exact W.zret (v := (1 : Int32)) hx hb hr rfl (fun t ht hW => ⟨_, rfl, hV, ht⟩) (fun _ h => by cases h) dX1_allows_111
  by_cases e_4_112 : (g 4) = 112
  · refine lv_tableIn (off := 67) (tgt := 71) hx hb dX1_allows_4 (by rw [e_4_112]; decide) (by rw [e_4_112]; decide) (by rw [e_4_112]; decide) (by decide) ?_
    have hV := hV.2.2.1 e_4_112
    refine lv_iload_n hx hb dX1_allows_71 rfl (lv_at hl 1 rfl) ?_
    refine lv_i2l (v := p0.toInt64) hx hb dX1_allows_72 rfl ?_
    refine lv_aload_n hx hb dX1_allows_73 rfl (lv_at hl 0 rfl) ?_
    refine va_get (D := D) (ci := 1) (v := .int (g 5)) (C := RX1) (T := TX1) (N := 5) hx hb hts (by decide +kernel) hown hK hP 11 rfl rfl 1 (by decide) (hts (.fieldLink RX1 22 "PowerRests$Item" "first" "I") (by decide +kernel)) (fun _ h9 => h9) rfl dX1_allows_74 ?_
    refine lv_i2l (v := (g 5).toInt64) hx hb dX1_allows_77 rfl ?_
    refine lv_aload_n hx hb dX1_allows_78 rfl (lv_at hl 0 rfl) ?_
    refine va_get (D := D) (ci := 1) (v := .int (g 7)) (C := RX1) (T := TX1) (N := 5) hx hb hts (by decide +kernel) hown hK hP 11 rfl rfl 3 (by decide) (hts (.fieldLink RX1 32 "PowerRests$Item" "by" "I") (by decide +kernel)) (fun _ h9 => h9) rfl dX1_allows_79 ?_
    obtain ⟨h_82, hV⟩ := hV
    refine cp_i (va_runS (As := [.long p0.toInt64, .long ((g 5).toInt64), .int (g 7)]) (rest := []) ⟨hx, hb, hml, hown, hts⟩ (spec_X4_raise l p0.toInt64 ((g 5).toInt64) (g 7) h_82) (va_cwS 3 hts gX1_allows_X4_raise rfl rfl rfl (by decide +kernel) ⟨Nat.le_of_ble_eq_true rfl, Nat.le_of_ble_eq_true rfl⟩) cp_pre rfl rfl hl.1 rfl (lv_room (Nat.le_of_ble_eq_true rfl)) dX1_allows_82 ⟨Nat.zero_le _, Nat.zero_le _⟩) (fun r82 q_82 => ?_)
    have hV := hV r82 q_82
    refine lv_aload_n hx hb dX1_allows_85 rfl (lv_at hl 0 rfl) ?_
    refine va_get (D := D) (ci := 1) (v := .int (g 6)) (C := RX1) (T := TX1) (N := 5) hx hb hts (by decide +kernel) hown hK hP 11 rfl rfl 2 (by decide) (hts (.fieldLink RX1 29 "PowerRests$Item" "second" "I") (by decide +kernel)) (fun _ h9 => h9) rfl dX1_allows_86 ?_
    refine lv_icmp_ne (tgt := 96) hx hb dX1_allows_89 (by decide) (fun c_89 => ?_) (fun c_89 => ?_)
    · have hV := hV.2 c_89
      refine lv_iconst (v := (0 : Int32)) hx hb dX1_allows_96 (by decide) ?_
      exact W.zret (v := (0 : Int32)) hx hb hr rfl (fun t ht hW => ⟨_, rfl, hV, ht⟩) (fun _ h => by cases h) dX1_allows_97
    · have hV := hV.1 c_89
      refine lv_iconst (v := (1 : Int32)) hx hb dX1_allows_92 (by decide) ?_
      refine lv_goto (tgt := 97) hx hb dX1_allows_93 (by decide) ?_
      exact W.zret (v := (1 : Int32)) hx hb hr rfl (fun t ht hW => ⟨_, rfl, hV, ht⟩) (fun _ h => by cases h) dX1_allows_97
  have hV := hV.2.2.2 e_4_108 e_4_110 e_4_112
  refine tb_default (tgt := 112) hx hb dX1_allows_4 (by decide) (gaps := [109, 111]) (by decide) (tb_mem 5 (by decide) (vs := [108, 110, 112]) (by decide) (List.forall_mem_cons.mpr ⟨tb_ne 108 (by decide) e_4_108, (List.forall_mem_cons.mpr ⟨tb_ne 110 (by decide) e_4_110, (List.forall_mem_cons.mpr ⟨tb_ne 112 (by decide) e_4_112, tb_nil⟩)⟩)⟩)) ?_
  refine lv_aload_n hx hb dX1_allows_112 rfl (lv_at hl 0 rfl) ?_
  refine va_get (D := D) (ci := 1) (v := .int (g 5)) (C := RX1) (T := TX1) (N := 5) hx hb hts (by decide +kernel) hown hK hP 11 rfl rfl 1 (by decide) (hts (.fieldLink RX1 22 "PowerRests$Item" "first" "I") (by decide +kernel)) (fun _ h9 => h9) rfl dX1_allows_113 ?_
  refine lv_iload_n hx hb dX1_allows_116 rfl (lv_at hl 1 rfl) ?_
  refine lv_icmp_gt (tgt := 132) hx hb dX1_allows_117 (by decide) (fun c_117 => ?_) (fun c_117 => ?_)
  · have hV := hV.1 c_117
    refine lv_iconst (v := (0 : Int32)) hx hb dX1_allows_132 (by decide) ?_
    exact W.zret (v := (0 : Int32)) hx hb hr rfl (fun t ht hW => ⟨_, rfl, hV, ht⟩) (fun _ h => by cases h) dX1_allows_133
  · have hV := hV.2 c_117
    refine lv_iload_n hx hb dX1_allows_120 rfl (lv_at hl 1 rfl) ?_
    refine lv_aload_n hx hb dX1_allows_121 rfl (lv_at hl 0 rfl) ?_
    refine va_get (D := D) (ci := 1) (v := .int (g 6)) (C := RX1) (T := TX1) (N := 5) hx hb hts (by decide +kernel) hown hK hP 11 rfl rfl 2 (by decide) (hts (.fieldLink RX1 29 "PowerRests$Item" "second" "I") (by decide +kernel)) (fun _ h9 => h9) rfl dX1_allows_122 ?_
    refine lv_icmp_gt (tgt := 132) hx hb dX1_allows_125 (by decide) (fun c_125 => ?_) (fun c_125 => ?_)
    · have hV := hV.1 c_125
      refine lv_iconst (v := (0 : Int32)) hx hb dX1_allows_132 (by decide) ?_
      exact W.zret (v := (0 : Int32)) hx hb hr rfl (fun t ht hW => ⟨_, rfl, hV, ht⟩) (fun _ h => by cases h) dX1_allows_133
    · have hV := hV.2 c_125
      refine lv_iconst (v := (1 : Int32)) hx hb dX1_allows_128 (by decide) ?_
      refine lv_goto (tgt := 133) hx hb dX1_allows_129 (by decide) ?_
      exact W.zret (v := (1 : Int32)) hx hb hr rfl (fun t ht hW => ⟨_, rfl, hV, ht⟩) (fun _ h => by cases h) dX1_allows_133
def post_X1_allows (g : Gs) (a : As) (w : Ws) (p0 r : Int32) : Prop := ∀ l f s b, ItG g l f s b → r = zb (Hold l f s b (tn p0))
set_option maxRecDepth 4000 in
theorem spec_X1_allows (l : Launch) (D : va_G) (cy : Nat → ClassId) (ad : Nat → Nat) (sz : Nat) (g : Gs) (a : As) (w : Ws) (p0 : Int32) (hpre : pre_X1_allows g a w p0) : Met l yX1_allows wsX1_allows ({ frames := 1, cells := 0, slots := 0, locals := 31 } : Room) (va_Pc [.ref (ad 11), .int p0] (ArP D cy sz (caW ad cy g a w))) (Qpi (post_X1_allows g a w p0)) 0 0 noF := by
  apply met_X1_allows
  obtain ⟨l, f, s, b, x, hI, hx, rfl⟩ := hpre
  have hI' := hI
  obtain ⟨⟨e4, e5, e6, e7⟩, hl, hf, hs, hb1, hb2⟩ := hI'
  have tnx : tn (nI x) = x := tn_nI (by omega)
  have good : ∀ r, r = zb (Hold l f s b x) → post_X1_allows g a w (nI x) r := fun r h => by
    intro l' f' s' b' h'
    obtain ⟨rfl, rfl, rfl, rfl⟩ := hI.one h'
    rw [tnx]; exact h
  rw [e4, e5, e6, e7]
  have el : ∀ c : Nat, c < 10000 → (nI l = nI c ↔ l = c) := fun c hc => nI_eq (by omega) (by omega)
  have e108 := el 108 (by omega)
  have e110 := el 110 (by omega)
  have e112 := el 112 (by omega)
  have hxm : x % b = x := Nat.mod_eq_of_lt hx
  refine ⟨fun z => ?_, fun z => ?_, fun z => ?_, fun z1 z2 z3 => ?_⟩
  · have z := e108.mp z
    have hm : f * x ≤ 10000 * 200 := Nat.mul_le_mul (by omega) (by omega)
    refine pk_le b 0 (fun y => absurd y (by omega)) (fun _ => ⟨nI_nz (by omega) (by omega), ?_⟩)
    rw [pk_mul, pk_rem (by omega) (by omega) (by omega)]
    have hml := Nat.mod_lt (f * x) (show 0 < b by omega)
    refine pk_eq (f * x % b) s (fun y => good _ (zb_t ⟨fun _ => by rw [hxm]; exact y, fun q => ?_, fun q => ?_, fun q => absurd z q⟩).symm) (fun y => good _ (zb_f (fun q => y (by have := q.1 z; rwa [hxm] at this))).symm) rfl rfl (by omega) (by omega)
    · omega
    · omega
  · have z := e110.mp z
    refine pk_eq x s (fun y => good _ (zb_f (fun q => q.2.2.1 z (by rw [hxm]; exact y))).symm) (fun y => good _ (zb_t ⟨fun q => ?_, fun q => ?_, fun _ => by rw [hxm]; exact y, fun _ q => absurd z q⟩).symm) rfl rfl (by omega) (by omega)
    · omega
    · omega
  · have z := e112.mp z
    rw [nI_l (by omega), nI_l (by omega)]
    refine ⟨⟨by rw [pk_lT (by omega)]; omega, by rw [pk_lT (by omega)]; omega, by rw [pk_lT (by omega)]; omega, by rw [nI_toInt (by omega)]; omega⟩, fun r hr => ?_⟩
    unfold post_X4_raise at hr
    rw [tl_lN (by omega), tl_lN (by omega), tn_nI (by omega)] at hr
    subst hr
    have hml := Nat.mod_lt (x ^ f) (show 0 < b by omega)
    refine pk_eq (x ^ f % b) s (fun y => good _ (zb_t ⟨fun q => ?_, fun _ => by rw [hxm]; exact y, fun q => ?_, fun _ _ q => absurd z q⟩).symm) (fun y => good _ (zb_f (fun q => y (by have := q.2.1 z; rwa [hxm] at this))).symm) rfl rfl (by omega) (by omega)
    · omega
    · omega
  · have z1 : ¬ l = 108 := fun y => z1 (e108.mpr y)
    have z2 : ¬ l = 110 := fun y => z2 (e110.mpr y)
    have z3 : ¬ l = 112 := fun y => z3 (e112.mpr y)
    refine pk_lt x f (fun y => good _ (zb_f (fun q => ?_)).symm) (fun y => pk_lt s x (fun y2 => good _ (zb_f (fun q => ?_)).symm) (fun y2 => good _ (zb_t ⟨fun q => absurd q z1, fun q => absurd q z3, fun q => absurd q z2, fun _ _ _ => by rw [hxm]; exact ⟨y, y2⟩⟩).symm))
    · have := q.2.2.2 z1 z2 z3; omega
    · have := q.2.2.2 z1 z2 z3; omega
def pre_X5_hasRoom (g : Gs) (a : As) (w : Ws) (p0 : Int32) : Prop := OkC g a ∧ 1 ≤ p0.toInt ∧ p0.toInt ≤ 8
set_option maxHeartbeats 4000000 in
set_option maxRecDepth 100000 in
theorem met_X5_hasRoom (l : Launch) (D : va_G) (cy : Nat → ClassId) (ad : Nat → Nat) (sz : Nat) (g : Gs) (a : As) (w : Ws) (p0 : Int32) (post : Int32 → Prop)
  (hV : (((200 : Int32) < ((g 3) + p0) → post (0 : Int32)) ∧ (¬ (200 : Int32) < ((g 3) + p0) → post (1 : Int32)))) :
  Met l yX5_hasRoom wsX5_hasRoom ({ frames := 0, cells := 0, slots := 0, locals := 0 } : Room) (va_Pc [.ref (ad 9), .int p0] (ArP D cy sz (caW ad cy g a w))) (Qpi post) 0 0 noF := by
  refine Met.ofW (cc := cX5_hasRoom) (maxL := 2) (ret := (some .boolean)) (by decide) rfl ?_
  intro p e s m args below meth c s₁ B hml hv
  obtain ⟨rfl, hsz, hP, hK, hD0, hN⟩ := hv
  have hx := B.exec
  have hb := B.bytes
  have hr := B.returns
  have hts := atoms_spec (ws := wsX5_hasRoom) B.pre
  have hown : s.vm.findClass RX5 = some m.cls := findClass_of_methodNamed B.named
  have hlocks := B.notSynchronized
  subst hsz
  have hP : va_P D vwCl (caW ad cy g a w) s.heap := hP
  have hD : va_D (fun _ => True) (caW ad cy g a w) := hD0
  have hl := lv_entry ([.ref (ad 9), .int p0]) (n := 2) (Nat.le_of_ble_eq_true rfl)
  rw [lg_entry_eq]
  generalize (lg_sl ([.ref (ad 9), .int p0]) ++ List.replicate (2 - (lg_sl ([.ref (ad 9), .int p0])).length) Slot.unset).toArray = ls at hl ⊢
  have hl : lv_has ls 2 [(0, .ref (ad 9)), (1, .int p0)] := hl
  refine lv_aload_n hx hb dX5_hasRoom_0 rfl (lv_at hl 0 rfl) ?_
  refine va_get (D := D) (ci := 4) (v := .int (g 3)) (C := RX5) (T := TX5) (N := 2) hx hb hts (by decide +kernel) hown hK hP 9 rfl rfl 1 (by decide) (hts (.fieldLink RX5 13 "PowerRests$Text" "length" "I") (by decide +kernel)) (fun _ h9 => h9) rfl dX5_hasRoom_1 ?_
  refine lv_iload_n hx hb dX5_hasRoom_4 rfl (lv_at hl 1 rfl) ?_
  refine lv_iadd hx hb dX5_hasRoom_5 ?_
  refine lv_aload_n hx hb dX5_hasRoom_6 rfl (lv_at hl 0 rfl) ?_
  refine va_get (D := D) (ci := 4) (v := .ref (ad 10)) (C := RX5) (T := TX5) (N := 2) hx hb hts (by decide +kernel) hown hK hP 9 rfl rfl 0 (by decide) (hts (.fieldLink RX5 7 "PowerRests$Text" "bytes" "[I") (by decide +kernel)) (fun _ h9 => h9) rfl dX5_hasRoom_7 ?_
  refine va_alen (v := (200 : Int32)) hx hb hK hP 10 0 rfl rfl rfl dX5_hasRoom_10 ?_
  refine lv_icmp_gt (tgt := 18) hx hb dX5_hasRoom_11 (by decide) (fun c_11 => ?_) (fun c_11 => ?_)
  · have hV := hV.1 c_11
    refine lv_iconst (v := (0 : Int32)) hx hb dX5_hasRoom_18 (by decide) ?_
    exact W.zret (v := (0 : Int32)) hx hb hr rfl (fun t ht hW => ⟨_, rfl, hV, ht⟩) (fun _ h => by cases h) dX5_hasRoom_19
  · have hV := hV.2 c_11
    refine lv_iconst (v := (1 : Int32)) hx hb dX5_hasRoom_14 (by decide) ?_
    refine lv_goto (tgt := 19) hx hb dX5_hasRoom_15 (by decide) ?_
    exact W.zret (v := (1 : Int32)) hx hb hr rfl (fun t ht hW => ⟨_, rfl, hV, ht⟩) (fun _ h => by cases h) dX5_hasRoom_19
def post_X5_hasRoom (g : Gs) (a : As) (w : Ws) (p0 r : Int32) : Prop := r = zb (cL g + tn p0 ≤ 200)
set_option maxRecDepth 4000 in
theorem spec_X5_hasRoom (l : Launch) (D : va_G) (cy : Nat → ClassId) (ad : Nat → Nat) (sz : Nat) (g : Gs) (a : As) (w : Ws) (p0 : Int32) (hpre : pre_X5_hasRoom g a w p0) : Met l yX5_hasRoom wsX5_hasRoom ({ frames := 0, cells := 0, slots := 0, locals := 0 } : Room) (va_Pc [.ref (ad 9), .int p0] (ArP D cy sz (caW ad cy g a w))) (Qpi (post_X5_hasRoom g a w p0)) 0 0 noF := by
  apply met_X5_hasRoom
  obtain ⟨⟨h1, h2, -⟩, h3, h4⟩ := hpre
  obtain ⟨n, hn, rfl, hn2⟩ := of_i (x := p0) (by omega)
  have tnn : tn (nI n) = n := tn_nI hn
  unfold post_X5_hasRoom
  rw [tnn]
  have e : g 3 + nI n = nI (cL g + n) := by
    conv => lhs; rw [h2]
    exact nI_add _ _
  rw [e]
  exact pk_lt 200 (cL g + n) (fun z => (zb_f (by omega)).symm) (fun z => (zb_t z).symm) rfl rfl (by omega) (by omega)
theorem low_8 (n : Nat) : nI n &&& 255 = nI (n % 256) := by
  rw [pk_and (nI n) 8 (by decide)]
  have e : (nI n).toBitVec.toNat = n % 2 ^ 32 := BitVec.toNat_ofNat _ _
  rw [e]
  congr 1
  omega
/-- the j-th byte that is written -/
def byW (v : Int64) (n j : Nat) : Nat := uN v / 2 ^ (8 * (n - 1 - j)) % 256
def pre_X5_append (g : Gs) (a : As) (w : Ws) (p0 : Int32) (p1 : Int64) : Prop := OkC g a ∧ 1 ≤ p0.toInt ∧ p0.toInt ≤ 8 ∧ cL g + tn p0 ≤ 200
set_option maxHeartbeats 4000000 in
set_option maxRecDepth 100000 in
theorem met_X5_append (l : Launch) (D : va_G) (cy : Nat → ClassId) (ad : Nat → Nat) (sz : Nat) (g : Gs) (a : As) (w : Ws) (p0 : Int32) (p1 : Int64) (post : Gs → As → Ws → Prop)
  (hV : ∀ (J5 : Int32 → Gs → As → Ws → Prop),
    (∀ (x4 : Int32) (g_ : Gs) (a_ : As) (w_ : Ws), ((x4 < 0 → post g_ a_ w_) ∧ (¬ x4 < 0 → (((200 : Int32) ≤ (g_ 3) → post g_ a_ w_) ∧ (¬ (200 : Int32) ≤ (g_ 3) → vp_in (g_ 3) 200 ∧ (J5 (x4 + (-1 : Int32)) (va_up g_ 3 ((g_ 3) + (1 : Int32))) (va_up a_ 5 (upd (a_ 5) (g_ 3).toNatClampNeg ((((p1.toUInt64 >>> (((8 : Int32) * x4).toInt64.toUInt64 &&& Int64.toUInt64 63)).toInt64).toInt32) &&& (255 : Int32)))) w_))))) → J5 x4 g_ a_ w_) →
    J5 (p0 - (1 : Int32)) g a w) :
  Met l yX5_append wsX5_append ({ frames := 0, cells := 0, slots := 0, locals := 0 } : Room) (va_Pc [.ref (ad 9), .int p0, .long p1] (ArP D cy sz (caW ad cy g a w))) (va_Qv (fun (u : Gs × As × Ws) => post u.1 u.2.1 u.2.2) (fun u t => va_P D vwCl (caW ad cy u.1 u.2.1 u.2.2) t.heap) (va_A (caW ad cy g a w) sz)) 0 0 (va_A (caW ad cy g a w) sz) := by
  refine Met.ofW (cc := cX5_append) (maxL := 5) (ret := none) (by decide) rfl ?_
  intro p e s m args below meth c s₁ B hml hv
  obtain ⟨rfl, hsz, hP, hK, hD0, hN⟩ := hv
  have hx := B.exec
  have hb := B.bytes
  have hr := B.returns
  have hts := atoms_spec (ws := wsX5_append) B.pre
  have hown : s.vm.findClass RX5 = some m.cls := findClass_of_methodNamed B.named
  have hlocks := B.notSynchronized
  subst hsz
  have hD := hD0.self (sz := s.heap.size)
  have hP : va_P D vwCl (caW ad cy g a w) s.heap := hP
  have hD : va_D (va_A (caW ad cy g a w) s.heap.size) (caW ad cy g a w) := hD
  have hS : va_S (va_A (caW ad cy g a w) s.heap.size) s.heap s.heap [] := va_S.rf
  have hA : ∀ q : Nat, s.heap.size ≤ q → va_A (caW ad cy g a w) s.heap.size q := fun q h => Or.inr h
  obtain ⟨J5, iJ5, oJ5⟩ : ∃ J : Int32 → Gs → As → Ws → Prop, (∀ (x4 : Int32) (g_ : Gs) (a_ : As) (w_ : Ws), (∀ (H : Heap) (locs : List Loc), va_P D vwCl (caW ad cy g_ a_ w_) H → va_S (va_A (caW ad cy g a w) s.heap.size) s.heap H locs → ∀ ls : Array Slot, lv_has ls 5 [(0, .ref (ad 9)), (2, .long p1), (4, .int x4)] → W p l e (headSpec wsX5_append ({ frames := 0, cells := 0, slots := 0, locals := 0 } : Room)).room s m [.ref (ad 9), .int p0, .long p1].toArray below meth c H locs 0 0 (MQ below (va_Qv (fun (u : Gs × As × Ws) => post u.1 u.2.1 u.2.2) (fun u t => va_P D vwCl (caW ad cy u.1 u.2.1 u.2.2) t.heap) (va_A (caW ad cy g a w) s.heap.size)) [.ref (ad 9), .int p0, .long p1].toArray s 0 0 (va_A (caW ad cy g a w) s.heap.size)) (F0 m 5 ls [])) → J x4 g_ a_ w_) ∧ (∀ (x4 : Int32) (g_ : Gs) (a_ : As) (w_ : Ws), J x4 g_ a_ w_ → (∀ (H : Heap) (locs : List Loc), va_P D vwCl (caW ad cy g_ a_ w_) H → va_S (va_A (caW ad cy g a w) s.heap.size) s.heap H locs → ∀ ls : Array Slot, lv_has ls 5 [(0, .ref (ad 9)), (2, .long p1), (4, .int x4)] → W p l e (headSpec wsX5_append ({ frames := 0, cells := 0, slots := 0, locals := 0 } : Room)).room s m [.ref (ad 9), .int p0, .long p1].toArray below meth c H locs 0 0 (MQ below (va_Qv (fun (u : Gs × As × Ws) => post u.1 u.2.1 u.2.2) (fun u t => va_P D vwCl (caW ad cy u.1 u.2.1 u.2.2) t.heap) (va_A (caW ad cy g a w) s.heap.size)) [.ref (ad 9), .int p0, .long p1].toArray s 0 0 (va_A (caW ad cy g a w) s.heap.size)) (F0 m 5 ls []))) := ⟨fun (x4 : Int32) (g_ : Gs) (a_ : As) (w_ : Ws) => (∀ (H : Heap) (locs : List Loc), va_P D vwCl (caW ad cy g_ a_ w_) H → va_S (va_A (caW ad cy g a w) s.heap.size) s.heap H locs → ∀ ls : Array Slot, lv_has ls 5 [(0, .ref (ad 9)), (2, .long p1), (4, .int x4)] → W p l e (headSpec wsX5_append ({ frames := 0, cells := 0, slots := 0, locals := 0 } : Room)).room s m [.ref (ad 9), .int p0, .long p1].toArray below meth c H locs 0 0 (MQ below (va_Qv (fun (u : Gs × As × Ws) => post u.1 u.2.1 u.2.2) (fun u t => va_P D vwCl (caW ad cy u.1 u.2.1 u.2.2) t.heap) (va_A (caW ad cy g a w) s.heap.size)) [.ref (ad 9), .int p0, .long p1].toArray s 0 0 (va_A (caW ad cy g a w) s.heap.size)) (F0 m 5 ls [])), fun _ _ _ _ h => h, fun _ _ _ _ h => h⟩
  have hV := hV J5
  replace hV := hV (by
    intro x4 g_ a_ w_ hV
    refine iJ5 x4 g_ a_ w_ ?_
    intro H locs hP hS ls hl
    refine lv_iload hx hb dX5_append_5 (lv_at hl 2 rfl) ?_
    refine lv_if_lt (tgt := 59) hx hb dX5_append_7 (by decide) (fun c_7 => ?_) (fun c_7 => ?_)
    · have hV := hV.1 c_7
      exact W.vret hx hb hr (fun t ht hW => ⟨⟨(g_, a_, w_), rfl, hV, ar_heap ht hP⟩, hS.F ht⟩) hS.2.2 dX5_append_59
    · have hV := hV.2 c_7
      refine lv_aload_n hx hb dX5_append_10 rfl (lv_at hl 0 rfl) ?_
      refine va_get (D := D) (ci := 4) (v := .int (g_ 3)) (C := RX5) (T := TX5) (N := 2) hx hb hts (by decide +kernel) hown hK hP 9 rfl rfl 1 (by decide) (hts (.fieldLink RX5 13 "PowerRests$Text" "length" "I") (by decide +kernel)) (fun _ h9 => h9) rfl dX5_append_11 ?_
      refine lv_aload_n hx hb dX5_append_14 rfl (lv_at hl 0 rfl) ?_
      refine va_get (D := D) (ci := 4) (v := .ref (ad 10)) (C := RX5) (T := TX5) (N := 2) hx hb hts (by decide +kernel) hown hK hP 9 rfl rfl 0 (by decide) (hts (.fieldLink RX5 7 "PowerRests$Text" "bytes" "[I") (by decide +kernel)) (fun _ h9 => h9) rfl dX5_append_15 ?_
      refine va_alen (v := (200 : Int32)) hx hb hK hP 10 0 rfl rfl rfl dX5_append_18 ?_
      refine lv_icmp_ge (tgt := 59) hx hb dX5_append_19 (by decide) (fun c_19 => ?_) (fun c_19 => ?_)
      · have hV := hV.1 c_19
        exact W.vret hx hb hr (fun t ht hW => ⟨⟨(g_, a_, w_), rfl, hV, ar_heap ht hP⟩, hS.F ht⟩) hS.2.2 dX5_append_59
      · have hV := hV.2 c_19
        refine lv_aload_n hx hb dX5_append_22 rfl (lv_at hl 0 rfl) ?_
        refine va_get (D := D) (ci := 4) (v := .ref (ad 10)) (C := RX5) (T := TX5) (N := 2) hx hb hts (by decide +kernel) hown hK hP 9 rfl rfl 0 (by decide) (hts (.fieldLink RX5 7 "PowerRests$Text" "bytes" "[I") (by decide +kernel)) (fun _ h9 => h9) rfl dX5_append_23 ?_
        refine lv_aload_n hx hb dX5_append_26 rfl (lv_at hl 0 rfl) ?_
        refine va_get (D := D) (ci := 4) (v := .int (g_ 3)) (C := RX5) (T := TX5) (N := 2) hx hb hts (by decide +kernel) hown hK hP 9 rfl rfl 1 (by decide) (hts (.fieldLink RX5 13 "PowerRests$Text" "length" "I") (by decide +kernel)) (fun _ h9 => h9) rfl dX5_append_27 ?_
        refine lv_lload_n hx hb dX5_append_30 rfl (lv_at hl 1 rfl) ?_
        refine lv_bipush (v := (8 : Int32)) hx hb dX5_append_31 (by decide) ?_
        refine lv_iload hx hb dX5_append_33 (lv_at hl 2 rfl) ?_
        refine lv_imul hx hb dX5_append_35 ?_
        refine lv_lushr (v := (p1.toUInt64 >>> (((8 : Int32) * x4).toInt64.toUInt64 &&& Int64.toUInt64 63)).toInt64) hx hb dX5_append_36 rfl ?_
        refine lv_l2i (v := ((p1.toUInt64 >>> (((8 : Int32) * x4).toInt64.toUInt64 &&& Int64.toUInt64 63)).toInt64).toInt32) hx hb dX5_append_37 rfl ?_
        refine lv_sipush (v := (255 : Int32)) hx hb dX5_append_38 (by decide) ?_
        refine lv_iand hx hb dX5_append_41 ?_
        obtain ⟨h_42, hV⟩ := hV
        refine va_iast (f := (a_ 5)) hx hb hK hP (caD hD) hS 10 0 rfl rfl h_42 dX5_append_42 (fun H locs hP _ hS => ?_)
        have hP : va_P D vwCl (caW ad cy g_ (va_up a_ 5 (upd (a_ 5) (g_ 3).toNatClampNeg ((((p1.toUInt64 >>> (((8 : Int32) * x4).toInt64.toUInt64 &&& Int64.toUInt64 63)).toInt64).toInt32) &&& (255 : Int32)))) w_) H := hP
        refine lv_aload_n hx hb dX5_append_43 rfl (lv_at hl 0 rfl) ?_
        refine lv_dup hx hb dX5_append_44 rfl ?_
        refine va_get (D := D) (ci := 4) (v := .int (g_ 3)) (C := RX5) (T := TX5) (N := 2) hx hb hts (by decide +kernel) hown hK hP 9 rfl rfl 1 (by decide) (hts (.fieldLink RX5 13 "PowerRests$Text" "length" "I") (by decide +kernel)) (fun _ h9 => h9) rfl dX5_append_45 ?_
        refine lv_iconst (v := (1 : Int32)) hx hb dX5_append_48 (by decide) ?_
        refine lv_iadd hx hb dX5_append_49 ?_
        refine va_put (D := D) (ci := 4) (v := .int ((g_ 3) + (1 : Int32))) (ty := .int) (C := RX5) (T := TX5) (N := 2) hx hb hts (by decide +kernel) tyX5 tyX5_ok nmX5 hown hK hP (caD hD) hS 9 rfl rfl 1 (by decide) (hts (.fieldLink RX5 13 "PowerRests$Text" "length" "I") (by decide +kernel)) (fun _ h9 => h9) rfl (by decide +kernel) rfl rfl (Nat.le_of_ble_eq_true rfl) dX5_append_50 (fun H locs hP _ hS => ?_)
        have hP : va_P D vwCl (caW ad cy (va_up g_ 3 ((g_ 3) + (1 : Int32))) (va_up a_ 5 (upd (a_ 5) (g_ 3).toNatClampNeg ((((p1.toUInt64 >>> (((8 : Int32) * x4).toInt64.toUInt64 &&& Int64.toUInt64 63)).toInt64).toInt32) &&& (255 : Int32)))) w_) H := hP
        refine lv_iinc (v := x4 + (-1 : Int32)) (lv' := [(4, .int (x4 + (-1 : Int32))), (0, .ref (ad 9)), (2, .long p1)]) hx hb dX5_append_53 hl (k := 2) rfl rfl (by decide) rfl (fun ls hl => ?_)
        refine lv_goto (tgt := 5) hx hb dX5_append_56 (by decide) ?_
        exact oJ5 _ _ _ _ hV _ _ hP hS _ (lv_sub hl [1, 2, 0] rfl))
  have hl := lv_entry ([.ref (ad 9), .int p0, .long p1]) (n := 5) (Nat.le_of_ble_eq_true rfl)
  rw [lg_entry_eq]
  generalize (lg_sl ([.ref (ad 9), .int p0, .long p1]) ++ List.replicate (5 - (lg_sl ([.ref (ad 9), .int p0, .long p1])).length) Slot.unset).toArray = ls at hl ⊢
  have hl : lv_has ls 5 [(0, .ref (ad 9)), (1, .int p0), (2, .long p1)] := hl
  refine lv_iload_n hx hb dX5_append_0 rfl (lv_at hl 1 rfl) ?_
  refine lv_iconst (v := (1 : Int32)) hx hb dX5_append_1 (by decide) ?_
  refine lv_isub hx hb dX5_append_2 ?_
  refine lv_istore (lv' := [(4, .int (p0 - (1 : Int32))), (0, .ref (ad 9)), (1, .int p0), (2, .long p1)]) hx hb dX5_append_3 hl (by decide) rfl (fun ls hl => ?_)
  exact oJ5 _ _ _ _ hV _ _ hP hS _ (lv_sub hl [1, 3, 0] rfl)
def AppC (g : Gs) (a : As) (n : Nat) (v : Int64) (g' : Gs) (a' : As) : Prop := g' = va_up g 3 (nI (cL g + n)) ∧ ∃ f, a' = va_up a 5 f ∧ (∀ i, i < cL g → f i = a 5 i) ∧ ∀ j, j < n → f (cL g + j) = nI (byW v n j)
def post_X5_append (g : Gs) (a : As) (w : Ws) (p0 : Int32) (p1 : Int64) (g' : Gs) (a' : As) (w' : Ws) : Prop := w' = w ∧ AppC g a (tn p0) p1 g' a'
set_option maxRecDepth 4000 in
theorem spec_X5_append (l : Launch) (D : va_G) (cy : Nat → ClassId) (ad : Nat → Nat) (sz : Nat) (g : Gs) (a : As) (w : Ws) (p0 : Int32) (p1 : Int64) (hpre : pre_X5_append g a w p0 p1) : Met l yX5_append wsX5_append ({ frames := 0, cells := 0, slots := 0, locals := 0 } : Room) (va_Pc [.ref (ad 9), .int p0, .long p1] (ArP D cy sz (caW ad cy g a w))) (va_Qv (fun (u : Gs × As × Ws) => (post_X5_append g a w p0 p1) u.1 u.2.1 u.2.2) (fun u t => va_P D vwCl (caW ad cy u.1 u.2.1 u.2.2) t.heap) (va_A (caW ad cy g a w) sz)) 0 0 (va_A (caW ad cy g a w) sz) := by
  apply met_X5_append
  intro J hJ
  obtain ⟨⟨h1, h2, -⟩, h3, h4, h5⟩ := hpre
  obtain ⟨n, hn, rfl, hn2⟩ := of_i (x := p0) (by omega)
  have tnn : tn (nI n) = n := tn_nI hn
  rw [tnn] at h5
  obtain ⟨V, hV, rfl⟩ := wb_of p1
  have eV : uN (lN V) = V := wb_tn hV
  generalize hLd : cL g = L at *
  have key : ∀ (d j : Nat) (f : Nat → Int32), j + d = n → (∀ i, i < L → f i = a 5 i) → (∀ i, i < j → f (L + i) = nI (byW (lN V) n i)) → J (nI d - 1) (va_up g 3 (nI (L + j))) (va_up a 5 f) w := by
    intro d
    induction d with
    | zero =>
      intro j f hj hf1 hf2
      have : j = n := by omega
      subst this
      refine hJ _ _ _ _ ⟨fun _ => ⟨rfl, by rw [tnn, hLd], f, rfl, by rw [hLd]; exact hf1, by rw [hLd, tnn]; exact hf2⟩, fun z => absurd (by decide) z⟩
    | succ d ih =>
      intro j f hj hf1 hf2
      rw [show nI (d + 1) - (1 : Int32) = nI d from nI_pred d]
      refine hJ _ _ _ _ ⟨fun z => absurd z (nI_pos (by omega)), fun _ => ?_⟩
      rw [up_0, up_0, up_up, up_up, show (nI (L + j)).toNatClampNeg = L + j from tn_nI (by omega), show nI (L + j) + (1 : Int32) = nI (L + (j + 1)) from nI_1 _, show nI d + (-1 : Int32) = nI d - 1 from (Int32.sub_eq_add_neg (nI d) 1).symm]
      refine pk_le 200 (L + j) (fun z => absurd z (by omega)) (fun _ => ⟨vp_in_nI (by omega) (by omega), ?_⟩)
      refine ih (j + 1) _ (by omega) (fun i hi => by rw [pk_un (by omega)]; exact hf1 i hi) (fun i hi => ?_)
      by_cases hij : i = j
      · subst hij
        rw [pk_us, show (8 : Int32) * nI d = nI (8 * d) from pk_mul 8 d, wb_shr hV (by omega), lN_i, low_8]
        unfold byW
        rw [eV, show n - 1 - i = d by omega]
      · rw [pk_un (by omega)]; exact hf2 i (by omega)
  have := key n 0 (a 5) (by omega) (fun _ _ => rfl) (fun i hi => by omega)
  rw [Nat.add_zero, ← h2, up_id, up_id] at this
  exact this
def WrC (g : Gs) (a : As) (n : Int32) (v : Int64) (r : Int32) (g' : Gs) (a' : As) : Prop := (¬ (1 ≤ n.toInt ∧ n.toInt ≤ 8) ∧ r = -1 ∧ g' = g ∧ a' = a) ∨ ((1 ≤ n.toInt ∧ n.toInt ≤ 8) ∧ ((200 < cL g + tn n ∧ r = -3 ∧ g' = g ∧ a' = a) ∨ (cL g + tn n ≤ 200 ∧ r = nI (cL g + tn n) ∧ AppC g a (tn n) v g' a')))
def pre_X6_write (g : Gs) (a : As) (w : Ws) (p0 : Int32) (p1 : Int64) : Prop := OkC g a
set_option maxHeartbeats 4000000 in
set_option maxRecDepth 100000 in
theorem met_X6_write (l : Launch) (D : va_G) (cy : Nat → ClassId) (ad : Nat → Nat) (sz : Nat) (g : Gs) (a : As) (w : Ws) (p0 : Int32) (p1 : Int64) (post : Int32 → Gs → As → Ws → Prop)
  (hV : ((p0 < (1 : Int32) → post (-1 : Int32) g a w) ∧ (¬ p0 < (1 : Int32) → ((p0 ≤ (8 : Int32) → pre_X5_hasRoom g a w p0 ∧ (∀ r18 : Int32, post_X5_hasRoom g a w p0 r18 → ((r18 = 0 → post (-3 : Int32) g a w) ∧ (¬ r18 = 0 → pre_X5_append g a w p0 p1 ∧ (∀ (g33 : Gs) (a33 : As) (w33 : Ws), post_X5_append g a w p0 p1 g33 a33 w33 → post (g33 3) g33 a33 w33))))) ∧ (¬ p0 ≤ (8 : Int32) → post (-1 : Int32) g a w))))) :
  Met l yX6_write wsX6_write ({ frames := 1, cells := 0, slots := 0, locals := 24 } : Room) (va_Pc [.ref (ad 0), .int p0, .long p1] (ArP D cy sz (caW ad cy g a w))) (va_Qi (fun (r : Int32) (u : Gs × As × Ws) => post r u.1 u.2.1 u.2.2) (fun u t => va_P D vwCl (caW ad cy u.1 u.2.1 u.2.2) t.heap) (va_A (caW ad cy g a w) sz)) 0 0 (va_A (caW ad cy g a w) sz) := by
  refine Met.ofW (cc := cX6_write) (maxL := 4) (ret := (some .int)) (by decide) rfl ?_
  intro p e s m args below meth c s₁ B hml hv
  obtain ⟨rfl, hsz, hP, hK, hD0, hN⟩ := hv
  have hx := B.exec
  have hb := B.bytes
  have hr := B.returns
  have hts := atoms_spec (ws := wsX6_write) B.pre
  have hown : s.vm.findClass RX6 = some m.cls := findClass_of_methodNamed B.named
  have hlocks := B.notSynchronized
  subst hsz
  have hD := hD0.self (sz := s.heap.size)
  have hP : va_P D vwCl (caW ad cy g a w) s.heap := hP
  have hD : va_D (va_A (caW ad cy g a w) s.heap.size) (caW ad cy g a w) := hD
  have hS : va_S (va_A (caW ad cy g a w) s.heap.size) s.heap s.heap [] := va_S.rf
  have hA : ∀ q : Nat, s.heap.size ≤ q → va_A (caW ad cy g a w) s.heap.size q := fun q h => Or.inr h
  have hl := lv_entry ([.ref (ad 0), .int p0, .long p1]) (n := 4) (Nat.le_of_ble_eq_true rfl)
  rw [lg_entry_eq]
  generalize (lg_sl ([.ref (ad 0), .int p0, .long p1]) ++ List.replicate (4 - (lg_sl ([.ref (ad 0), .int p0, .long p1])).length) Slot.unset).toArray = ls at hl ⊢
  have hl : lv_has ls 4 [(0, .ref (ad 0)), (1, .int p0), (2, .long p1)] := hl
  refine lv_iload_n hx hb dX6_write_0 rfl (lv_at hl 1 rfl) ?_
  refine lv_iconst (v := (1 : Int32)) hx hb dX6_write_1 (by decide) ?_
  refine lv_icmp_lt (tgt := 11) hx hb dX6_write_2 (by decide) (fun c_2 => ?_) (fun c_2 => ?_)
  · have hV := hV.1 c_2
    refine lv_iconst (v := (-1 : Int32)) hx hb dX6_write_11 (by decide) ?_
    exact W.iret (v := (-1 : Int32)) hx hb hr (fun t ht hW => ⟨⟨_, (g, a, w), rfl, hV, ar_heap ht hP⟩, hS.F ht⟩) hS.2.2 dX6_write_12
  · have hV := hV.2 c_2
    refine lv_iload_n hx hb dX6_write_5 rfl (lv_at hl 1 rfl) ?_
    refine lv_bipush (v := (8 : Int32)) hx hb dX6_write_6 (by decide) ?_
    refine lv_icmp_le (tgt := 13) hx hb dX6_write_8 (by decide) (fun c_8 => ?_) (fun c_8 => ?_)
    · have hV := hV.1 c_8
      refine lv_aload_n hx hb dX6_write_13 rfl (lv_at hl 0 rfl) ?_
      refine va_get (D := D) (ci := 5) (v := .ref (ad 9)) (C := RX6) (T := TX6) (N := 10) hx hb hts (by decide +kernel) hown hK hP 0 rfl rfl 3 (by decide) (hts (.fieldLink RX6 29 "PowerRests" "text" "LPowerRests$Text;") (by decide +kernel)) (fun _ h9 => h9) rfl dX6_write_14 ?_
      refine lv_iload_n hx hb dX6_write_17 rfl (lv_at hl 1 rfl) ?_
      obtain ⟨h_18, hV⟩ := hV
      refine cp_i (va_runV (As := [.int p0]) (rest := []) ⟨hx, hb, hml, hown, hts⟩ (spec_X5_hasRoom l D cy ad _ g a w p0 h_18) (cwV 1 hts gX6_write_X5_hasRoom rfl rfl rfl (by decide +kernel) ⟨Nat.le_of_ble_eq_true rfl, Nat.le_of_ble_eq_true rfl⟩) (ar_preV hN hK hP (caD hD) (ci := 4) (q0 := 9) rfl rfl) rfl rfl hl.1 rfl (lv_room (Nat.le_of_ble_eq_true rfl)) dX6_write_18 ⟨Nat.zero_le _, Nat.zero_le _⟩) (fun r18 q_18 => ?_)
      have hV := hV r18 q_18
      refine lv_if_ne (tgt := 27) hx hb dX6_write_21 (by decide) (fun c_21 => ?_) (fun c_21 => ?_)
      · have hV := hV.2 c_21
        refine lv_aload_n hx hb dX6_write_27 rfl (lv_at hl 0 rfl) ?_
        refine va_get (D := D) (ci := 5) (v := .ref (ad 9)) (C := RX6) (T := TX6) (N := 10) hx hb hts (by decide +kernel) hown hK hP 0 rfl rfl 3 (by decide) (hts (.fieldLink RX6 29 "PowerRests" "text" "LPowerRests$Text;") (by decide +kernel)) (fun _ h9 => h9) rfl dX6_write_28 ?_
        refine lv_iload_n hx hb dX6_write_31 rfl (lv_at hl 1 rfl) ?_
        refine lv_lload_n hx hb dX6_write_32 rfl (lv_at hl 2 rfl) ?_
        obtain ⟨h_33, hV⟩ := hV
        refine cw_v (va_runV (As := [.int p0, .long p1]) (rest := []) ⟨hx, hb, hml, hown, hts⟩ (spec_X5_append l D cy ad _ g a w p0 p1 h_33) (cwV 2 hts gX6_write_X5_append rfl rfl rfl (by decide +kernel) ⟨Nat.le_of_ble_eq_true rfl, Nat.le_of_ble_eq_true rfl⟩) (ar_preV hN hK hP (caD hD) (ci := 4) (q0 := 9) rfl rfl) rfl rfl hl.1 rfl (lv_room (Nat.le_of_ble_eq_true rfl)) dX6_write_33 ⟨Nat.zero_le _, Nat.zero_le _⟩) hS (caD hD) hA (fun u_33 H locs q_33 hP hS => ?_)
        obtain ⟨g33, a33, w33⟩ := u_33
        have hV := hV g33 a33 w33 q_33
        have hP : va_P D vwCl (caW ad cy g33 a33 w33) H := hP
        refine lv_aload_n hx hb dX6_write_36 rfl (lv_at hl 0 rfl) ?_
        refine va_get (D := D) (ci := 5) (v := .ref (ad 9)) (C := RX6) (T := TX6) (N := 10) hx hb hts (by decide +kernel) hown hK hP 0 rfl rfl 3 (by decide) (hts (.fieldLink RX6 29 "PowerRests" "text" "LPowerRests$Text;") (by decide +kernel)) (fun _ h9 => h9) rfl dX6_write_37 ?_
        refine va_getN (D := D) (ci := 4) (v := .int (g33 3)) (C := RX5) (T := TX5) (N := 2) hx hb hts (by decide +kernel) hown hK hP 9 rfl rfl 1 (by decide) (hN.use 3 (q := (RX6, 135, RX5, "length", "I")) rfl) (fun _ h9 => h9) rfl dX6_write_40 ?_
        exact W.iret (v := (g33 3)) hx hb hr (fun t ht hW => ⟨⟨_, (g33, a33, w33), rfl, hV, ar_heap ht hP⟩, hS.F ht⟩) hS.2.2 dX6_write_43
      · have hV := hV.1 c_21
        refine lv_bipush (v := (-3 : Int32)) hx hb dX6_write_24 (by decide) ?_
        exact W.iret (v := (-3 : Int32)) hx hb hr (fun t ht hW => ⟨⟨_, (g, a, w), rfl, hV, ar_heap ht hP⟩, hS.F ht⟩) hS.2.2 dX6_write_26
    · have hV := hV.2 c_8
      refine lv_iconst (v := (-1 : Int32)) hx hb dX6_write_11 (by decide) ?_
      exact W.iret (v := (-1 : Int32)) hx hb hr (fun t ht hW => ⟨⟨_, (g, a, w), rfl, hV, ar_heap ht hP⟩, hS.F ht⟩) hS.2.2 dX6_write_12
def post_X6_write (g : Gs) (a : As) (w : Ws) (p0 : Int32) (p1 : Int64) (r : Int32) (g' : Gs) (a' : As) (w' : Ws) : Prop := w' = w ∧ WrC g a p0 p1 r g' a'
set_option maxRecDepth 4000 in
theorem spec_X6_write (l : Launch) (D : va_G) (cy : Nat → ClassId) (ad : Nat → Nat) (sz : Nat) (g : Gs) (a : As) (w : Ws) (p0 : Int32) (p1 : Int64) (hpre : pre_X6_write g a w p0 p1) : Met l yX6_write wsX6_write ({ frames := 1, cells := 0, slots := 0, locals := 24 } : Room) (va_Pc [.ref (ad 0), .int p0, .long p1] (ArP D cy sz (caW ad cy g a w))) (va_Qi (fun (r : Int32) (u : Gs × As × Ws) => (post_X6_write g a w p0 p1) r u.1 u.2.1 u.2.2) (fun u t => va_P D vwCl (caW ad cy u.1 u.2.1 u.2.2) t.heap) (va_A (caW ad cy g a w) sz)) 0 0 (va_A (caW ad cy g a w) sz) := by
  apply met_X6_write
  have hO : OkC g a := hpre
  have i1 : (1 : Int32).toInt = 1 := rfl
  have i8 : (8 : Int32).toInt = 8 := rfl
  refine ⟨fun h => ⟨rfl, Or.inl ⟨?_, rfl, rfl, rfl⟩⟩, fun h => ⟨fun h2 => ?_, fun h2 => ⟨rfl, Or.inl ⟨?_, rfl, rfl, rfl⟩⟩⟩⟩
  · rw [i_lt, i1] at h; omega
  · rw [i_lt, i1] at h
    rw [i_le, i8] at h2
    refine ⟨⟨hO, by omega, by omega⟩, fun r hr => ?_⟩
    unfold post_X5_hasRoom at hr
    subst hr
    refine ⟨fun z => ⟨rfl, Or.inr ⟨⟨by omega, by omega⟩, Or.inl ⟨by have := zb_0 z; omega, rfl, rfl, rfl⟩⟩⟩, fun z => ⟨⟨hO, by omega, by omega, zb_1 z⟩, fun g1 a1 w1 hr => ?_⟩⟩
    obtain ⟨rfl, hA⟩ := hr
    refine ⟨rfl, Or.inr ⟨⟨by omega, by omega⟩, Or.inr ⟨zb_1 z, ?_, hA⟩⟩⟩
    rw [hA.1, up_0]
  · rw [i_le, i8] at h2; omega
set_option maxHeartbeats 4000000 in
set_option maxRecDepth 100000 in
theorem met_X6_wipe (l : Launch) (D : va_G) (cy : Nat → ClassId) (ad : Nat → Nat) (sz : Nat) (g : Gs) (a : As) (w : Ws) (post : Int32 → Gs → As → Ws → Prop)
  (hV : post (g 3) (va_up g 3 (0 : Int32)) a w) :
  Met l yX6_wipe wsX6_wipe ({ frames := 0, cells := 0, slots := 0, locals := 0 } : Room) (va_Pc [.ref (ad 0)] (ArP D cy sz (caW ad cy g a w))) (va_Qi (fun (r : Int32) (u : Gs × As × Ws) => post r u.1 u.2.1 u.2.2) (fun u t => va_P D vwCl (caW ad cy u.1 u.2.1 u.2.2) t.heap) (va_A (caW ad cy g a w) sz)) 0 0 (va_A (caW ad cy g a w) sz) := by
  refine Met.ofW (cc := cX6_wipe) (maxL := 2) (ret := (some .int)) (by decide) rfl ?_
  intro p e s m args below meth c s₁ B hml hv
  obtain ⟨rfl, hsz, hP, hK, hD0, hN⟩ := hv
  have hx := B.exec
  have hb := B.bytes
  have hr := B.returns
  have hts := atoms_spec (ws := wsX6_wipe) B.pre
  have hown : s.vm.findClass RX6 = some m.cls := findClass_of_methodNamed B.named
  have hlocks := B.notSynchronized
  subst hsz
  have hD := hD0.self (sz := s.heap.size)
  have hP : va_P D vwCl (caW ad cy g a w) s.heap := hP
  have hD : va_D (va_A (caW ad cy g a w) s.heap.size) (caW ad cy g a w) := hD
  have hS : va_S (va_A (caW ad cy g a w) s.heap.size) s.heap s.heap [] := va_S.rf
  have hA : ∀ q : Nat, s.heap.size ≤ q → va_A (caW ad cy g a w) s.heap.size q := fun q h => Or.inr h
  have hl := lv_entry ([.ref (ad 0)]) (n := 2) (Nat.le_of_ble_eq_true rfl)
  rw [lg_entry_eq]
  generalize (lg_sl ([.ref (ad 0)]) ++ List.replicate (2 - (lg_sl ([.ref (ad 0)])).length) Slot.unset).toArray = ls at hl ⊢
  have hl : lv_has ls 2 [(0, .ref (ad 0))] := hl
  refine lv_aload_n hx hb dX6_wipe_0 rfl (lv_at hl 0 rfl) ?_
  refine va_get (D := D) (ci := 5) (v := .ref (ad 9)) (C := RX6) (T := TX6) (N := 10) hx hb hts (by decide +kernel) hown hK hP 0 rfl rfl 3 (by decide) (hts (.fieldLink RX6 29 "PowerRests" "text" "LPowerRests$Text;") (by decide +kernel)) (fun _ h9 => h9) rfl dX6_wipe_1 ?_
  refine va_getN (D := D) (ci := 4) (v := .int (g 3)) (C := RX5) (T := TX5) (N := 2) hx hb hts (by decide +kernel) hown hK hP 9 rfl rfl 1 (by decide) (hN.use 3 (q := (RX6, 135, RX5, "length", "I")) rfl) (fun _ h9 => h9) rfl dX6_wipe_4 ?_
  refine lv_istore_n (lv' := [(1, .int (g 3)), (0, .ref (ad 0))]) hx hb dX6_wipe_7 rfl hl (by decide) rfl (fun ls hl => ?_)
  refine lv_aload_n hx hb dX6_wipe_8 rfl (lv_at hl 1 rfl) ?_
  refine va_get (D := D) (ci := 5) (v := .ref (ad 9)) (C := RX6) (T := TX6) (N := 10) hx hb hts (by decide +kernel) hown hK hP 0 rfl rfl 3 (by decide) (hts (.fieldLink RX6 29 "PowerRests" "text" "LPowerRests$Text;") (by decide +kernel)) (fun _ h9 => h9) rfl dX6_wipe_9 ?_
  refine lv_iconst (v := (0 : Int32)) hx hb dX6_wipe_12 (by decide) ?_
  refine va_putN (D := D) (ci := 4) (v := .int (0 : Int32)) (ty := .int) (C := RX5) (T := TX5) (N := 2) hx hb hts (by decide +kernel) tyX5 tyX5_ok nmX5 hown hK hP (caD hD) hS 9 rfl rfl 1 (by decide) (hN.use 3 (q := (RX6, 135, RX5, "length", "I")) rfl) (fun _ h9 => h9) rfl (by decide +kernel) rfl rfl (Nat.le_of_ble_eq_true rfl) dX6_wipe_13 (fun H locs hP _ hS => ?_)
  have hP : va_P D vwCl (caW ad cy (va_up g 3 (0 : Int32)) a w) H := hP
  refine lv_iload_n hx hb dX6_wipe_16 rfl (lv_at hl 0 rfl) ?_
  exact W.iret (v := (g 3)) hx hb hr (fun t ht hW => ⟨⟨_, ((va_up g 3 (0 : Int32)), a, w), rfl, hV, ar_heap ht hP⟩, hS.F ht⟩) hS.2.2 dX6_wipe_17
def post_X6_wipe (g : Gs) (a : As) (w : Ws) (r : Int32) (g' : Gs) (a' : As) (w' : Ws) : Prop := r = g 3 ∧ g' = va_up g 3 0 ∧ a' = a ∧ w' = w
set_option maxRecDepth 4000 in
theorem spec_X6_wipe (l : Launch) (D : va_G) (cy : Nat → ClassId) (ad : Nat → Nat) (sz : Nat) (g : Gs) (a : As) (w : Ws) : Met l yX6_wipe wsX6_wipe ({ frames := 0, cells := 0, slots := 0, locals := 0 } : Room) (va_Pc [.ref (ad 0)] (ArP D cy sz (caW ad cy g a w))) (va_Qi (fun (r : Int32) (u : Gs × As × Ws) => (post_X6_wipe g a w) r u.1 u.2.1 u.2.2) (fun u t => va_P D vwCl (caW ad cy u.1 u.2.1 u.2.2) t.heap) (va_A (caW ad cy g a w) sz)) 0 0 (va_A (caW ad cy g a w) sz) := by
  apply met_X6_wipe
  exact ⟨rfl, rfl, rfl, rfl⟩
/-- the item at a place, if there is one -/
noncomputable def itm (T : Nat → Nat) (L p : Nat) : Nat × Nat × Nat × Nat × Nat := @dite _ (∃ t : Nat × Nat × Nat × Nat × Nat, It T L p t.1 t.2.1 t.2.2.1 t.2.2.2.1 t.2.2.2.2) (Classical.propDecidable _) (fun h => h.choose) (fun _ => (p, 0, 0, 0, 0))
theorem itm_eq {T : Nat → Nat} {L p q l f s b : Nat} (h : It T L p q l f s b) : itm T L p = (q, l, f, s, b) := by
  have hex : ∃ t : Nat × Nat × Nat × Nat × Nat, It T L p t.1 t.2.1 t.2.2.1 t.2.2.2.1 t.2.2.2.2 := ⟨(q, l, f, s, b), h⟩
  unfold itm
  rw [dif_pos hex]
  have := hex.choose_spec
  obtain ⟨h1, h2, h3, h4, h5⟩ := this.one h
  exact Prod.ext h1 (Prod.ext h2 (Prod.ext h3 (Prod.ext h4 h5)))
/-- where the k-th item begins -/
noncomputable def pos (T : Nat → Nat) (L : Nat) : Nat → Nat
  | 0 => 0
  | k + 1 => (itm T L (pos T L k)).1
def isIt (T : Nat → Nat) (L k : Nat) : Prop := ∃ q l f s b, It T L (pos T L k) q l f s b
noncomputable def xl (T : Nat → Nat) (L k : Nat) : Nat := (itm T L (pos T L k)).2.1
noncomputable def xf (T : Nat → Nat) (L k : Nat) : Nat := (itm T L (pos T L k)).2.2.1
noncomputable def xs (T : Nat → Nat) (L k : Nat) : Nat := (itm T L (pos T L k)).2.2.2.1
noncomputable def xb (T : Nat → Nat) (L k : Nat) : Nat := (itm T L (pos T L k)).2.2.2.2
theorem isIt.it {T : Nat → Nat} {L k : Nat} (h : isIt T L k) : It T L (pos T L k) (pos T L (k + 1)) (xl T L k) (xf T L k) (xs T L k) (xb T L k) := by
  obtain ⟨q, l, f, s, b, h⟩ := h
  have e := itm_eq h
  unfold xl xf xs xb
  rw [show pos T L (k + 1) = (itm T L (pos T L k)).1 from rfl, e]
  exact h
theorem pos_le {T : Nat → Nat} {L : Nat} : ∀ {k : Nat}, (∀ i, i < k → isIt T L i) → pos T L k ≤ L
  | 0, _ => Nat.zero_le _
  | k + 1, h => (h k (by omega)).it.b.2.1
theorem not_isIt {T : Nat → Nat} {L k : Nat} (h : L ≤ pos T L k) : ¬ isIt T L k := fun ⟨q, l, f, s, b, z⟩ => by have := z.1; omega
/-- after k items the walk stops -/
def Stop (T : Nat → Nat) (L k : Nat) : Prop := k ≤ 8 ∧ (∀ i, i < k → isIt T L i) ∧ (k = 8 ∨ ¬ isIt T L k)
theorem Stop.one {T : Nat → Nat} {L k k' : Nat} (h : Stop T L k) (h' : Stop T L k') : k = k' := by
  obtain ⟨h1, h2, h3⟩ := h
  obtain ⟨k1, k2, k3⟩ := h'
  rcases Nat.lt_trichotomy k k' with z | z | z
  · rcases h3 with y | y
    · omega
    · exact absurd (k2 k z) y
  · exact z
  · rcases k3 with y | y
    · omega
    · exact absurd (h2 k' z) y
theorem Stop.ex (T : Nat → Nat) (L : Nat) : ∃ k, Stop T L k := by
  have key : ∀ d k, k + d = 8 → (∀ i, i < k → isIt T L i) → ∃ k, Stop T L k := by
    intro d
    induction d with
    | zero => intro k hk h; exact ⟨k, by omega, h, Or.inl (by omega)⟩
    | succ d ih =>
      intro k hk h
      by_cases z : isIt T L k
      · refine ih (k + 1) (by omega) (fun i hi => ?_)
        by_cases y : i = k
        · rw [y]; exact z
        · exact h i (by omega)
      · exact ⟨k, by omega, h, Or.inr z⟩
  exact key 8 0 (by omega) (fun i hi => by omega)
def FaultAns (T : Nat → Nat) (L : Nat) (r : Int32) : Prop := ∃ k, Stop T L k ∧ r = if pos T L k < L then nI (pos T L k) else -4
theorem FaultAns.one {T : Nat → Nat} {L : Nat} {r r' : Int32} (h : FaultAns T L r) (h' : FaultAns T L r') : r = r' := by
  obtain ⟨k, h1, h2⟩ := h
  obtain ⟨k', h3, h4⟩ := h'
  have := h1.one h3
  subst this
  rw [h2, h4]
/-- the text is right: n items -/
def Right (T : Nat → Nat) (L n : Nat) : Prop := Stop T L n ∧ pos T L n = L
theorem FaultAns.right {T : Nat → Nat} {L : Nat} {r : Int32} (hL : L ≤ 200) (h : FaultAns T L r) : r = -4 ↔ ∃ n, Right T L n := by
  obtain ⟨k, h1, h2⟩ := h
  have hp := pos_le h1.2.1
  by_cases z : pos T L k < L
  · rw [if_pos z] at h2
    refine ⟨fun y => ?_, fun ⟨n, y1, y2⟩ => ?_⟩
    · rw [h2, i_eq, nI_toInt (by omega)] at y
      have : (-4 : Int32).toInt = -4 := rfl
      omega
    · have := h1.one y1
      subst this
      omega
  · rw [if_neg z] at h2
    exact ⟨fun _ => ⟨k, h1, by omega⟩, fun _ => h2⟩
theorem OkC.up {g g' : Gs} {a : As} (h : OkC g a) (k : RdK g g') : OkC g' a := by
  unfold OkC
  have : cL g' = cL g := by show tn (g' 3) = tn (g 3); rw [k 3 (by omega)]
  rw [this]
  exact k.tx h
def pre_X6_fault (g : Gs) (a : As) (w : Ws) : Prop := OkC g a
set_option maxHeartbeats 4000000 in
set_option maxRecDepth 100000 in
theorem met_X6_fault (l : Launch) (D : va_G) (cy : Nat → ClassId) (ad : Nat → Nat) (sz : Nat) (g : Gs) (a : As) (w : Ws) (post : Int32 → Gs → As → Ws → Prop)
  (hV : ∀ (J4 : Int32 → Int32 → Gs → As → Ws → Prop),
    (∀ (x1 : Int32) (x2 : Int32) (g_ : Gs) (a_ : As) (w_ : Ws), (((8 : Int32) ≤ x2 → (((g_ 3) ≤ x1 → post (-4 : Int32) g_ a_ w_) ∧ (¬ (g_ 3) ≤ x1 → post x1 g_ a_ w_))) ∧ (¬ (8 : Int32) ≤ x2 → (((g_ 3) ≤ x1 → (((g_ 3) ≤ x1 → post (-4 : Int32) g_ a_ w_) ∧ (¬ (g_ 3) ≤ x1 → post x1 g_ a_ w_))) ∧ (¬ (g_ 3) ≤ x1 → pre_X1_read g_ a_ w_ x1 ∧ (∀ (r30 : Int32) (g30 : Gs) (a30 : As) (w30 : Ws), post_X1_read g_ a_ w_ x1 r30 g30 a30 w30 → ((r30 = 0 → post x1 g30 a30 w30) ∧ (¬ r30 = 0 → J4 (g30 8) (x2 + 1) g30 a30 w30))))))) → J4 x1 x2 g_ a_ w_) →
    J4 (0 : Int32) (0 : Int32) g a w) :
  Met l yX6_fault wsX6_fault ({ frames := 3, cells := 0, slots := 0, locals := 68 } : Room) (va_Pc [.ref (ad 0)] (ArP D cy sz (caW ad cy g a w))) (va_Qi (fun (r : Int32) (u : Gs × As × Ws) => post r u.1 u.2.1 u.2.2) (fun u t => va_P D vwCl (caW ad cy u.1 u.2.1 u.2.2) t.heap) (va_A (caW ad cy g a w) sz)) 0 0 (va_A (caW ad cy g a w) sz) := by
  refine Met.ofW (cc := cX6_fault) (maxL := 3) (ret := (some .int)) (by decide) rfl ?_
  intro p e s m args below meth c s₁ B hml hv
  obtain ⟨rfl, hsz, hP, hK, hD0, hN⟩ := hv
  have hx := B.exec
  have hb := B.bytes
  have hr := B.returns
  have hts := atoms_spec (ws := wsX6_fault) B.pre
  have hown : s.vm.findClass RX6 = some m.cls := findClass_of_methodNamed B.named
  have hlocks := B.notSynchronized
  subst hsz
  have hD := hD0.self (sz := s.heap.size)
  have hP : va_P D vwCl (caW ad cy g a w) s.heap := hP
  have hD : va_D (va_A (caW ad cy g a w) s.heap.size) (caW ad cy g a w) := hD
  have hS : va_S (va_A (caW ad cy g a w) s.heap.size) s.heap s.heap [] := va_S.rf
  have hA : ∀ q : Nat, s.heap.size ≤ q → va_A (caW ad cy g a w) s.heap.size q := fun q h => Or.inr h
  obtain ⟨J4, iJ4, oJ4⟩ : ∃ J : Int32 → Int32 → Gs → As → Ws → Prop, (∀ (x1 : Int32) (x2 : Int32) (g_ : Gs) (a_ : As) (w_ : Ws), (∀ (H : Heap) (locs : List Loc), va_P D vwCl (caW ad cy g_ a_ w_) H → va_S (va_A (caW ad cy g a w) s.heap.size) s.heap H locs → ∀ ls : Array Slot, lv_has ls 3 [(0, .ref (ad 0)), (1, .int x1), (2, .int x2)] → W p l e (headSpec wsX6_fault ({ frames := 3, cells := 0, slots := 0, locals := 68 } : Room)).room s m [.ref (ad 0)].toArray below meth c H locs 0 0 (MQ below (va_Qi (fun (r : Int32) (u : Gs × As × Ws) => post r u.1 u.2.1 u.2.2) (fun u t => va_P D vwCl (caW ad cy u.1 u.2.1 u.2.2) t.heap) (va_A (caW ad cy g a w) s.heap.size)) [.ref (ad 0)].toArray s 0 0 (va_A (caW ad cy g a w) s.heap.size)) (F0 m 4 ls [])) → J x1 x2 g_ a_ w_) ∧ (∀ (x1 : Int32) (x2 : Int32) (g_ : Gs) (a_ : As) (w_ : Ws), J x1 x2 g_ a_ w_ → (∀ (H : Heap) (locs : List Loc), va_P D vwCl (caW ad cy g_ a_ w_) H → va_S (va_A (caW ad cy g a w) s.heap.size) s.heap H locs → ∀ ls : Array Slot, lv_has ls 3 [(0, .ref (ad 0)), (1, .int x1), (2, .int x2)] → W p l e (headSpec wsX6_fault ({ frames := 3, cells := 0, slots := 0, locals := 68 } : Room)).room s m [.ref (ad 0)].toArray below meth c H locs 0 0 (MQ below (va_Qi (fun (r : Int32) (u : Gs × As × Ws) => post r u.1 u.2.1 u.2.2) (fun u t => va_P D vwCl (caW ad cy u.1 u.2.1 u.2.2) t.heap) (va_A (caW ad cy g a w) s.heap.size)) [.ref (ad 0)].toArray s 0 0 (va_A (caW ad cy g a w) s.heap.size)) (F0 m 4 ls []))) := ⟨fun (x1 : Int32) (x2 : Int32) (g_ : Gs) (a_ : As) (w_ : Ws) => (∀ (H : Heap) (locs : List Loc), va_P D vwCl (caW ad cy g_ a_ w_) H → va_S (va_A (caW ad cy g a w) s.heap.size) s.heap H locs → ∀ ls : Array Slot, lv_has ls 3 [(0, .ref (ad 0)), (1, .int x1), (2, .int x2)] → W p l e (headSpec wsX6_fault ({ frames := 3, cells := 0, slots := 0, locals := 68 } : Room)).room s m [.ref (ad 0)].toArray below meth c H locs 0 0 (MQ below (va_Qi (fun (r : Int32) (u : Gs × As × Ws) => post r u.1 u.2.1 u.2.2) (fun u t => va_P D vwCl (caW ad cy u.1 u.2.1 u.2.2) t.heap) (va_A (caW ad cy g a w) s.heap.size)) [.ref (ad 0)].toArray s 0 0 (va_A (caW ad cy g a w) s.heap.size)) (F0 m 4 ls [])), fun _ _ _ _ _ h => h, fun _ _ _ _ _ h => h⟩
  have hV := hV J4
  replace hV := hV (by
    intro x1 x2 g_ a_ w_ hV
    refine iJ4 x1 x2 g_ a_ w_ ?_
    intro H locs hP hS ls hl
    refine lv_iload_n hx hb dX6_fault_4 rfl (lv_at hl 2 rfl) ?_
    refine lv_bipush (v := (8 : Int32)) hx hb dX6_fault_5 (by decide) ?_
    refine lv_icmp_ge (tgt := 52) hx hb dX6_fault_7 (by decide) (fun c_7 => ?_) (fun c_7 => ?_)
    · have hV := hV.1 c_7
      refine lv_iload_n hx hb dX6_fault_52 rfl (lv_at hl 1 rfl) ?_
      refine lv_aload_n hx hb dX6_fault_53 rfl (lv_at hl 0 rfl) ?_
      refine va_get (D := D) (ci := 5) (v := .ref (ad 9)) (C := RX6) (T := TX6) (N := 10) hx hb hts (by decide +kernel) hown hK hP 0 rfl rfl 3 (by decide) (hts (.fieldLink RX6 29 "PowerRests" "text" "LPowerRests$Text;") (by decide +kernel)) (fun _ h9 => h9) rfl dX6_fault_54 ?_
      refine va_getN (D := D) (ci := 4) (v := .int (g_ 3)) (C := RX5) (T := TX5) (N := 2) hx hb hts (by decide +kernel) hown hK hP 9 rfl rfl 1 (by decide) (hN.use 3 (q := (RX6, 135, RX5, "length", "I")) rfl) (fun _ h9 => h9) rfl dX6_fault_57 ?_
      refine lv_icmp_ge (tgt := 67) hx hb dX6_fault_60 (by decide) (fun c_60 => ?_) (fun c_60 => ?_)
      · have hV := hV.1 c_60
        refine lv_bipush (v := (-4 : Int32)) hx hb dX6_fault_67 (by decide) ?_
        exact W.iret (v := (-4 : Int32)) hx hb hr (fun t ht hW => ⟨⟨_, (g_, a_, w_), rfl, hV, ar_heap ht hP⟩, hS.F ht⟩) hS.2.2 dX6_fault_69
      · have hV := hV.2 c_60
        refine lv_iload_n hx hb dX6_fault_63 rfl (lv_at hl 1 rfl) ?_
        refine lv_goto (tgt := 69) hx hb dX6_fault_64 (by decide) ?_
        exact W.iret (v := x1) hx hb hr (fun t ht hW => ⟨⟨_, (g_, a_, w_), rfl, hV, ar_heap ht hP⟩, hS.F ht⟩) hS.2.2 dX6_fault_69
    · have hV := hV.2 c_7
      refine lv_iload_n hx hb dX6_fault_10 rfl (lv_at hl 1 rfl) ?_
      refine lv_aload_n hx hb dX6_fault_11 rfl (lv_at hl 0 rfl) ?_
      refine va_get (D := D) (ci := 5) (v := .ref (ad 9)) (C := RX6) (T := TX6) (N := 10) hx hb hts (by decide +kernel) hown hK hP 0 rfl rfl 3 (by decide) (hts (.fieldLink RX6 29 "PowerRests" "text" "LPowerRests$Text;") (by decide +kernel)) (fun _ h9 => h9) rfl dX6_fault_12 ?_
      refine va_getN (D := D) (ci := 4) (v := .int (g_ 3)) (C := RX5) (T := TX5) (N := 2) hx hb hts (by decide +kernel) hown hK hP 9 rfl rfl 1 (by decide) (hN.use 3 (q := (RX6, 135, RX5, "length", "I")) rfl) (fun _ h9 => h9) rfl dX6_fault_15 ?_
      refine lv_icmp_ge (tgt := 52) hx hb dX6_fault_18 (by decide) (fun c_18 => ?_) (fun c_18 => ?_)
      · have hV := hV.1 c_18
        refine lv_iload_n hx hb dX6_fault_52 rfl (lv_at hl 1 rfl) ?_
        refine lv_aload_n hx hb dX6_fault_53 rfl (lv_at hl 0 rfl) ?_
        refine va_get (D := D) (ci := 5) (v := .ref (ad 9)) (C := RX6) (T := TX6) (N := 10) hx hb hts (by decide +kernel) hown hK hP 0 rfl rfl 3 (by decide) (hts (.fieldLink RX6 29 "PowerRests" "text" "LPowerRests$Text;") (by decide +kernel)) (fun _ h9 => h9) rfl dX6_fault_54 ?_
        refine va_getN (D := D) (ci := 4) (v := .int (g_ 3)) (C := RX5) (T := TX5) (N := 2) hx hb hts (by decide +kernel) hown hK hP 9 rfl rfl 1 (by decide) (hN.use 3 (q := (RX6, 135, RX5, "length", "I")) rfl) (fun _ h9 => h9) rfl dX6_fault_57 ?_
        refine lv_icmp_ge (tgt := 67) hx hb dX6_fault_60 (by decide) (fun c_60 => ?_) (fun c_60 => ?_)
        · have hV := hV.1 c_60
          refine lv_bipush (v := (-4 : Int32)) hx hb dX6_fault_67 (by decide) ?_
          exact W.iret (v := (-4 : Int32)) hx hb hr (fun t ht hW => ⟨⟨_, (g_, a_, w_), rfl, hV, ar_heap ht hP⟩, hS.F ht⟩) hS.2.2 dX6_fault_69
        · have hV := hV.2 c_60
          refine lv_iload_n hx hb dX6_fault_63 rfl (lv_at hl 1 rfl) ?_
          refine lv_goto (tgt := 69) hx hb dX6_fault_64 (by decide) ?_
          exact W.iret (v := x1) hx hb hr (fun t ht hW => ⟨⟨_, (g_, a_, w_), rfl, hV, ar_heap ht hP⟩, hS.F ht⟩) hS.2.2 dX6_fault_69
      · have hV := hV.2 c_18
        refine lv_aload_n hx hb dX6_fault_21 rfl (lv_at hl 0 rfl) ?_
        refine va_get (D := D) (ci := 5) (v := .ref (ad 11)) (C := RX6) (T := TX6) (N := 10) hx hb hts (by decide +kernel) hown hK hP 0 rfl rfl 4 (by decide) (hts (.fieldLink RX6 36 "PowerRests" "reader" "LPowerRests$Item;") (by decide +kernel)) (fun _ h9 => h9) rfl dX6_fault_22 ?_
        refine lv_aload_n hx hb dX6_fault_25 rfl (lv_at hl 0 rfl) ?_
        refine va_get (D := D) (ci := 5) (v := .ref (ad 9)) (C := RX6) (T := TX6) (N := 10) hx hb hts (by decide +kernel) hown hK hP 0 rfl rfl 3 (by decide) (hts (.fieldLink RX6 29 "PowerRests" "text" "LPowerRests$Text;") (by decide +kernel)) (fun _ h9 => h9) rfl dX6_fault_26 ?_
        refine lv_iload_n hx hb dX6_fault_29 rfl (lv_at hl 1 rfl) ?_
        obtain ⟨h_30, hV⟩ := hV
        refine cw_i (va_runV (As := [.ref (ad 9), .int x1]) (rest := []) ⟨hx, hb, hml, hown, hts⟩ (spec_X1_read l D cy ad _ g_ a_ w_ x1 h_30) (cwV 2 hts gX6_fault_X1_read rfl rfl rfl (by decide +kernel) ⟨Nat.le_of_ble_eq_true rfl, Nat.le_of_ble_eq_true rfl⟩) (ar_preV hN hK hP (caD hD) (ci := 1) (q0 := 11) rfl rfl) rfl rfl hl.1 rfl (lv_room (Nat.le_of_ble_eq_true rfl)) dX6_fault_30 ⟨Nat.zero_le _, Nat.zero_le _⟩) hS (caD hD) hA (fun r30 u_30 H locs q_30 hP hS => ?_)
        obtain ⟨g30, a30, w30⟩ := u_30
        have hV := hV r30 g30 a30 w30 q_30
        have hP : va_P D vwCl (caW ad cy g30 a30 w30) H := hP
        refine lv_if_ne (tgt := 38) hx hb dX6_fault_33 (by decide) (fun c_33 => ?_) (fun c_33 => ?_)
        · have hV := hV.2 c_33
          refine lv_aload_n hx hb dX6_fault_38 rfl (lv_at hl 0 rfl) ?_
          refine va_get (D := D) (ci := 5) (v := .ref (ad 11)) (C := RX6) (T := TX6) (N := 10) hx hb hts (by decide +kernel) hown hK hP 0 rfl rfl 4 (by decide) (hts (.fieldLink RX6 36 "PowerRests" "reader" "LPowerRests$Item;") (by decide +kernel)) (fun _ h9 => h9) rfl dX6_fault_39 ?_
          refine va_getN (D := D) (ci := 1) (v := .int (g30 8)) (C := RX1) (T := TX1) (N := 5) hx hb hts (by decide +kernel) hown hK hP 11 rfl rfl 4 (by decide) (hN.use 4 (q := (RX6, 142, RX1, "end", "I")) rfl) (fun _ h9 => h9) rfl dX6_fault_42 ?_
          refine lv_istore_n (lv' := [(1, .int (g30 8)), (0, .ref (ad 0)), (2, .int x2)]) hx hb dX6_fault_45 rfl hl (by decide) rfl (fun ls hl => ?_)
          refine lv_iinc (v := x2 + 1) (lv' := [(2, .int (x2 + 1)), (1, .int (g30 8)), (0, .ref (ad 0))]) hx hb dX6_fault_46 hl (k := 2) rfl rfl (by decide) rfl (fun ls hl => ?_)
          refine lv_goto (tgt := 4) hx hb dX6_fault_49 (by decide) ?_
          exact oJ4 _ _ _ _ _ hV _ _ hP hS _ (lv_sub hl [2, 1, 0] rfl)
        · have hV := hV.1 c_33
          refine lv_iload_n hx hb dX6_fault_36 rfl (lv_at hl 1 rfl) ?_
          exact W.iret (v := x1) hx hb hr (fun t ht hW => ⟨⟨_, (g30, a30, w30), rfl, hV, ar_heap ht hP⟩, hS.F ht⟩) hS.2.2 dX6_fault_37)
  have hl := lv_entry ([.ref (ad 0)]) (n := 3) (Nat.le_of_ble_eq_true rfl)
  rw [lg_entry_eq]
  generalize (lg_sl ([.ref (ad 0)]) ++ List.replicate (3 - (lg_sl ([.ref (ad 0)])).length) Slot.unset).toArray = ls at hl ⊢
  have hl : lv_has ls 3 [(0, .ref (ad 0))] := hl
  refine lv_iconst (v := (0 : Int32)) hx hb dX6_fault_0 (by decide) ?_
  refine lv_istore_n (lv' := [(1, .int (0 : Int32)), (0, .ref (ad 0))]) hx hb dX6_fault_1 rfl hl (by decide) rfl (fun ls hl => ?_)
  refine lv_iconst (v := (0 : Int32)) hx hb dX6_fault_2 (by decide) ?_
  refine lv_istore_n (lv' := [(2, .int (0 : Int32)), (1, .int (0 : Int32)), (0, .ref (ad 0))]) hx hb dX6_fault_3 rfl hl (by decide) rfl (fun ls hl => ?_)
  exact oJ4 _ _ _ _ _ hV _ _ hP hS _ (lv_sub hl [2, 1, 0] rfl)
def post_X6_fault (g : Gs) (a : As) (w : Ws) (r : Int32) (g' : Gs) (a' : As) (w' : Ws) : Prop := (a' = a ∧ w' = w ∧ RdK g g') ∧ FaultAns (cT a) (cL g) r
set_option maxRecDepth 4000 in
theorem spec_X6_fault (l : Launch) (D : va_G) (cy : Nat → ClassId) (ad : Nat → Nat) (sz : Nat) (g : Gs) (a : As) (w : Ws) (hpre : pre_X6_fault g a w) : Met l yX6_fault wsX6_fault ({ frames := 3, cells := 0, slots := 0, locals := 68 } : Room) (va_Pc [.ref (ad 0)] (ArP D cy sz (caW ad cy g a w))) (va_Qi (fun (r : Int32) (u : Gs × As × Ws) => (post_X6_fault g a w) r u.1 u.2.1 u.2.2) (fun u t => va_P D vwCl (caW ad cy u.1 u.2.1 u.2.2) t.heap) (va_A (caW ad cy g a w) sz)) 0 0 (va_A (caW ad cy g a w) sz) := by
  apply met_X6_fault
  intro J hJ
  have hO : OkC g a := hpre
  have hL := hO.1
  have key : ∀ (d k : Nat) (g1 : Gs), k + d = 8 → RdK g g1 → (∀ i, i < k → isIt (cT a) (cL g) i) → J (nI (pos (cT a) (cL g) k)) (nI k) g1 a w := by
    intro d
    have fin : ∀ (k : Nat) (g1 : Gs), RdK g g1 → (∀ i, i < k → isIt (cT a) (cL g) i) → k ≤ 8 → (k = 8 ∨ cL g ≤ pos (cT a) (cL g) k) → ((g1 3 ≤ nI (pos (cT a) (cL g) k) → post_X6_fault g a w (-4) g1 a w) ∧ (¬ g1 3 ≤ nI (pos (cT a) (cL g) k) → post_X6_fault g a w (nI (pos (cT a) (cL g) k)) g1 a w)) := by
      intro k g1 hk hi hk8 hs
      have hp := pos_le hi
      have hst : Stop (cT a) (cL g) k := ⟨hk8, hi, hs.imp id not_isIt⟩
      refine pk_le (cL g) (pos (cT a) (cL g) k) (fun z => ⟨⟨rfl, rfl, hk⟩, k, hst, by rw [if_neg (by omega)]⟩) (fun z => ⟨⟨rfl, rfl, hk⟩, k, hst, by rw [if_pos z]⟩) (by rw [hk 3 (by omega)]; exact hO.2.1) rfl (by omega) (by omega)
    induction d with
    | zero =>
      intro k g1 hk hr hi
      have : k = 8 := by omega
      subst this
      exact hJ _ _ _ _ _ (pk_le 8 8 (fun _ => fin 8 g1 hr hi (by omega) (Or.inl rfl)) (fun h => absurd h (by omega)))
    | succ d ih =>
      intro k g1 hk hr hi
      have hp := pos_le hi
      refine hJ _ _ _ _ _ (pk_le 8 k (fun h => absurd h (by omega)) (fun _ => pk_le (cL g) (pos (cT a) (cL g) k) (fun z => fin k g1 hr hi (by omega) (Or.inr z)) (fun z => ⟨⟨hO.up hr, by rw [nI_toInt (by omega)]; omega, by rw [nI_toInt (by omega)]; omega⟩, fun r g2 a2 w2 h2 => ?_⟩) (by rw [hr 3 (by omega)]; exact hO.2.1) rfl (by omega) (by omega)))
      obtain ⟨⟨rfl, rfl, hr2⟩, hA⟩ := h2
      rw [show cL g1 = cL g by show tn (g1 3) = tn (g 3); rw [hr 3 (by omega)], tn_nI (by omega)] at hA
      rcases hA with ⟨hno, rfl⟩ | ⟨q, l, f, s, b, hit, rfl, -, -, -, -, e8⟩
      · refine ⟨fun _ => ⟨⟨rfl, rfl, hr.tr hr2⟩, k, ⟨by omega, hi, Or.inr hno⟩, by rw [if_pos z]⟩, fun y => absurd rfl y⟩
      · refine ⟨fun y => absurd y (by decide), fun _ => ?_⟩
        have hk2 : isIt (cT a2) (cL g) k := ⟨q, l, f, s, b, hit⟩
        have eq : q = pos (cT a2) (cL g) (k + 1) := (hit.one hk2.it).1
        rw [e8, eq, nI_1]
        refine ih (k + 1) g2 (by omega) (hr.tr hr2) (fun i hi2 => ?_)
        by_cases y : i = k
        · rw [y]; exact hk2
        · exact hi i (by omega)
  exact key 8 0 g (by omega) RdK.rf (fun i hi => by omega)
theorem lcmF_dvd {f : Nat → Nat} {k : Nat} : ∀ {m : Nat}, k ≤ m → lcmF f k ∣ lcmF f m
  | 0, h => by rw [show k = 0 by omega]; exact Nat.dvd_refl _
  | m + 1, h => by
    by_cases e : k = m + 1
    · rw [e]; exact Nat.dvd_refl _
    · exact Nat.dvd_trans (lcmF_dvd (m := m) (by omega)) (Nat.dvd_lcm_left _ _)
theorem lcmF_mem {f : Nat → Nat} : ∀ {m i : Nat}, i < m → f i ∣ lcmF f m
  | 0, i, h => by omega
  | m + 1, i, h => by
    by_cases e : i = m
    · rw [e]; exact Nat.dvd_lcm_right _ _
    · exact Nat.dvd_trans (lcmF_mem (m := m) (by omega)) (Nat.dvd_lcm_left _ _)
def pre_X6_periodOfText (g : Gs) (a : As) (w : Ws) : Prop := OkC g a ∧ ∃ n, Right (cT a) (cL g) n
set_option maxHeartbeats 4000000 in
set_option maxRecDepth 100000 in
theorem met_X6_periodOfText (l : Launch) (D : va_G) (cy : Nat → ClassId) (ad : Nat → Nat) (sz : Nat) (g : Gs) (a : As) (w : Ws) (post : Int32 → Gs → As → Ws → Prop)
  (hV : ∀ (J6 : Int32 → Int32 → Int32 → Gs → As → Ws → Prop),
    (∀ (x1 : Int32) (x2 : Int32) (x3 : Int32) (g_ : Gs) (a_ : As) (w_ : Ws), (((8 : Int32) ≤ x3 → post x1 g_ a_ w_) ∧ (¬ (8 : Int32) ≤ x3 → (((2000000 : Int32) < x1 → post x1 g_ a_ w_) ∧ (¬ (2000000 : Int32) < x1 → pre_X1_read g_ a_ w_ x2 ∧ (∀ (r27 : Int32) (g27 : Gs) (a27 : As) (w27 : Ws), post_X1_read g_ a_ w_ x2 r27 g27 a27 w27 → ((r27 = 0 → post x1 g27 a27 w27) ∧ (¬ r27 = 0 → pre_X4_commonMultiple x1 (g27 7) ∧ (∀ r41 : Int32, post_X4_commonMultiple x1 (g27 7) r41 → J6 r41 (g27 8) (x3 + 1) g27 a27 w27)))))))) → J6 x1 x2 x3 g_ a_ w_) →
    J6 (1 : Int32) (0 : Int32) (0 : Int32) g a w) :
  Met l yX6_periodOfText wsX6_periodOfText ({ frames := 3, cells := 0, slots := 0, locals := 68 } : Room) (va_Pc [.ref (ad 0)] (ArP D cy sz (caW ad cy g a w))) (va_Qi (fun (r : Int32) (u : Gs × As × Ws) => post r u.1 u.2.1 u.2.2) (fun u t => va_P D vwCl (caW ad cy u.1 u.2.1 u.2.2) t.heap) (va_A (caW ad cy g a w) sz)) 0 0 (va_A (caW ad cy g a w) sz) := by
  refine Met.ofW (cc := cX6_periodOfText) (maxL := 4) (ret := (some .int)) (by decide) rfl ?_
  intro p e s m args below meth c s₁ B hml hv
  obtain ⟨rfl, hsz, hP, hK, hD0, hN⟩ := hv
  have hx := B.exec
  have hb := B.bytes
  have hr := B.returns
  have hts := atoms_spec (ws := wsX6_periodOfText) B.pre
  have hown : s.vm.findClass RX6 = some m.cls := findClass_of_methodNamed B.named
  have hlocks := B.notSynchronized
  subst hsz
  have hD := hD0.self (sz := s.heap.size)
  have hP : va_P D vwCl (caW ad cy g a w) s.heap := hP
  have hD : va_D (va_A (caW ad cy g a w) s.heap.size) (caW ad cy g a w) := hD
  have hS : va_S (va_A (caW ad cy g a w) s.heap.size) s.heap s.heap [] := va_S.rf
  have hA : ∀ q : Nat, s.heap.size ≤ q → va_A (caW ad cy g a w) s.heap.size q := fun q h => Or.inr h
  obtain ⟨J6, iJ6, oJ6⟩ : ∃ J : Int32 → Int32 → Int32 → Gs → As → Ws → Prop, (∀ (x1 : Int32) (x2 : Int32) (x3 : Int32) (g_ : Gs) (a_ : As) (w_ : Ws), (∀ (H : Heap) (locs : List Loc), va_P D vwCl (caW ad cy g_ a_ w_) H → va_S (va_A (caW ad cy g a w) s.heap.size) s.heap H locs → ∀ ls : Array Slot, lv_has ls 4 [(0, .ref (ad 0)), (1, .int x1), (2, .int x2), (3, .int x3)] → W p l e (headSpec wsX6_periodOfText ({ frames := 3, cells := 0, slots := 0, locals := 68 } : Room)).room s m [.ref (ad 0)].toArray below meth c H locs 0 0 (MQ below (va_Qi (fun (r : Int32) (u : Gs × As × Ws) => post r u.1 u.2.1 u.2.2) (fun u t => va_P D vwCl (caW ad cy u.1 u.2.1 u.2.2) t.heap) (va_A (caW ad cy g a w) s.heap.size)) [.ref (ad 0)].toArray s 0 0 (va_A (caW ad cy g a w) s.heap.size)) (F0 m 6 ls [])) → J x1 x2 x3 g_ a_ w_) ∧ (∀ (x1 : Int32) (x2 : Int32) (x3 : Int32) (g_ : Gs) (a_ : As) (w_ : Ws), J x1 x2 x3 g_ a_ w_ → (∀ (H : Heap) (locs : List Loc), va_P D vwCl (caW ad cy g_ a_ w_) H → va_S (va_A (caW ad cy g a w) s.heap.size) s.heap H locs → ∀ ls : Array Slot, lv_has ls 4 [(0, .ref (ad 0)), (1, .int x1), (2, .int x2), (3, .int x3)] → W p l e (headSpec wsX6_periodOfText ({ frames := 3, cells := 0, slots := 0, locals := 68 } : Room)).room s m [.ref (ad 0)].toArray below meth c H locs 0 0 (MQ below (va_Qi (fun (r : Int32) (u : Gs × As × Ws) => post r u.1 u.2.1 u.2.2) (fun u t => va_P D vwCl (caW ad cy u.1 u.2.1 u.2.2) t.heap) (va_A (caW ad cy g a w) s.heap.size)) [.ref (ad 0)].toArray s 0 0 (va_A (caW ad cy g a w) s.heap.size)) (F0 m 6 ls []))) := ⟨fun (x1 : Int32) (x2 : Int32) (x3 : Int32) (g_ : Gs) (a_ : As) (w_ : Ws) => (∀ (H : Heap) (locs : List Loc), va_P D vwCl (caW ad cy g_ a_ w_) H → va_S (va_A (caW ad cy g a w) s.heap.size) s.heap H locs → ∀ ls : Array Slot, lv_has ls 4 [(0, .ref (ad 0)), (1, .int x1), (2, .int x2), (3, .int x3)] → W p l e (headSpec wsX6_periodOfText ({ frames := 3, cells := 0, slots := 0, locals := 68 } : Room)).room s m [.ref (ad 0)].toArray below meth c H locs 0 0 (MQ below (va_Qi (fun (r : Int32) (u : Gs × As × Ws) => post r u.1 u.2.1 u.2.2) (fun u t => va_P D vwCl (caW ad cy u.1 u.2.1 u.2.2) t.heap) (va_A (caW ad cy g a w) s.heap.size)) [.ref (ad 0)].toArray s 0 0 (va_A (caW ad cy g a w) s.heap.size)) (F0 m 6 ls [])), fun _ _ _ _ _ _ h => h, fun _ _ _ _ _ _ h => h⟩
  have hV := hV J6
  replace hV := hV (by
    intro x1 x2 x3 g_ a_ w_ hV
    refine iJ6 x1 x2 x3 g_ a_ w_ ?_
    intro H locs hP hS ls hl
    refine lv_iload_n hx hb dX6_periodOfText_6 rfl (lv_at hl 3 rfl) ?_
    refine lv_bipush (v := (8 : Int32)) hx hb dX6_periodOfText_7 (by decide) ?_
    refine lv_icmp_ge (tgt := 59) hx hb dX6_periodOfText_9 (by decide) (fun c_9 => ?_) (fun c_9 => ?_)
    · have hV := hV.1 c_9
      refine lv_iload_n hx hb dX6_periodOfText_59 rfl (lv_at hl 1 rfl) ?_
      exact W.iret (v := x1) hx hb hr (fun t ht hW => ⟨⟨_, (g_, a_, w_), rfl, hV, ar_heap ht hP⟩, hS.F ht⟩) hS.2.2 dX6_periodOfText_60
    · have hV := hV.2 c_9
      refine lv_iload_n hx hb dX6_periodOfText_12 rfl (lv_at hl 1 rfl) ?_
      refine lv_ldc (v := (2000000 : Int32)) hx hb hown (hts (.constant RX6 151 (2000000)) (by decide +kernel)) dX6_periodOfText_13 ?_
      refine lv_icmp_gt (tgt := 59) hx hb dX6_periodOfText_15 (by decide) (fun c_15 => ?_) (fun c_15 => ?_)
      · have hV := hV.1 c_15
        refine lv_iload_n hx hb dX6_periodOfText_59 rfl (lv_at hl 1 rfl) ?_
        exact W.iret (v := x1) hx hb hr (fun t ht hW => ⟨⟨_, (g_, a_, w_), rfl, hV, ar_heap ht hP⟩, hS.F ht⟩) hS.2.2 dX6_periodOfText_60
      · have hV := hV.2 c_15
        refine lv_aload_n hx hb dX6_periodOfText_18 rfl (lv_at hl 0 rfl) ?_
        refine va_get (D := D) (ci := 5) (v := .ref (ad 11)) (C := RX6) (T := TX6) (N := 10) hx hb hts (by decide +kernel) hown hK hP 0 rfl rfl 4 (by decide) (hts (.fieldLink RX6 36 "PowerRests" "reader" "LPowerRests$Item;") (by decide +kernel)) (fun _ h9 => h9) rfl dX6_periodOfText_19 ?_
        refine lv_aload_n hx hb dX6_periodOfText_22 rfl (lv_at hl 0 rfl) ?_
        refine va_get (D := D) (ci := 5) (v := .ref (ad 9)) (C := RX6) (T := TX6) (N := 10) hx hb hts (by decide +kernel) hown hK hP 0 rfl rfl 3 (by decide) (hts (.fieldLink RX6 29 "PowerRests" "text" "LPowerRests$Text;") (by decide +kernel)) (fun _ h9 => h9) rfl dX6_periodOfText_23 ?_
        refine lv_iload_n hx hb dX6_periodOfText_26 rfl (lv_at hl 2 rfl) ?_
        obtain ⟨h_27, hV⟩ := hV
        refine cw_i (va_runV (As := [.ref (ad 9), .int x2]) (rest := []) ⟨hx, hb, hml, hown, hts⟩ (spec_X1_read l D cy ad _ g_ a_ w_ x2 h_27) (cwV 2 hts gX6_periodOfText_X1_read rfl rfl rfl (by decide +kernel) ⟨Nat.le_of_ble_eq_true rfl, Nat.le_of_ble_eq_true rfl⟩) (ar_preV hN hK hP (caD hD) (ci := 1) (q0 := 11) rfl rfl) rfl rfl hl.1 rfl (lv_room (Nat.le_of_ble_eq_true rfl)) dX6_periodOfText_27 ⟨Nat.zero_le _, Nat.zero_le _⟩) hS (caD hD) hA (fun r27 u_27 H locs q_27 hP hS => ?_)
        obtain ⟨g27, a27, w27⟩ := u_27
        have hV := hV r27 g27 a27 w27 q_27
        have hP : va_P D vwCl (caW ad cy g27 a27 w27) H := hP
        refine lv_if_eq (tgt := 59) hx hb dX6_periodOfText_30 (by decide) (fun c_30 => ?_) (fun c_30 => ?_)
        · have hV := hV.1 c_30
          refine lv_iload_n hx hb dX6_periodOfText_59 rfl (lv_at hl 1 rfl) ?_
          exact W.iret (v := x1) hx hb hr (fun t ht hW => ⟨⟨_, (g27, a27, w27), rfl, hV, ar_heap ht hP⟩, hS.F ht⟩) hS.2.2 dX6_periodOfText_60
        · have hV := hV.2 c_30
          refine lv_iload_n hx hb dX6_periodOfText_33 rfl (lv_at hl 1 rfl) ?_
          refine lv_aload_n hx hb dX6_periodOfText_34 rfl (lv_at hl 0 rfl) ?_
          refine va_get (D := D) (ci := 5) (v := .ref (ad 11)) (C := RX6) (T := TX6) (N := 10) hx hb hts (by decide +kernel) hown hK hP 0 rfl rfl 4 (by decide) (hts (.fieldLink RX6 36 "PowerRests" "reader" "LPowerRests$Item;") (by decide +kernel)) (fun _ h9 => h9) rfl dX6_periodOfText_35 ?_
          refine va_getN (D := D) (ci := 1) (v := .int (g27 7)) (C := RX1) (T := TX1) (N := 5) hx hb hts (by decide +kernel) hown hK hP 11 rfl rfl 3 (by decide) (hN.use 8 (q := (RX6, 291, RX1, "by", "I")) rfl) (fun _ h9 => h9) rfl dX6_periodOfText_38 ?_
          obtain ⟨h_41, hV⟩ := hV
          refine cp_i (va_runS (As := [.int x1, .int (g27 7)]) (rest := []) ⟨hx, hb, hml, hown, hts⟩ (spec_X4_commonMultiple l x1 (g27 7) h_41) (va_cwS 2 hts gX6_periodOfText_X4_commonMultiple rfl rfl rfl (by decide +kernel) ⟨Nat.le_of_ble_eq_true rfl, Nat.le_of_ble_eq_true rfl⟩) cp_pre rfl rfl hl.1 rfl (lv_room (Nat.le_of_ble_eq_true rfl)) dX6_periodOfText_41 ⟨Nat.zero_le _, Nat.zero_le _⟩) (fun r41 q_41 => ?_)
          have hV := hV r41 q_41
          refine lv_istore_n (lv' := [(1, .int r41), (0, .ref (ad 0)), (2, .int x2), (3, .int x3)]) hx hb dX6_periodOfText_44 rfl hl (by decide) rfl (fun ls hl => ?_)
          refine lv_aload_n hx hb dX6_periodOfText_45 rfl (lv_at hl 1 rfl) ?_
          refine va_get (D := D) (ci := 5) (v := .ref (ad 11)) (C := RX6) (T := TX6) (N := 10) hx hb hts (by decide +kernel) hown hK hP 0 rfl rfl 4 (by decide) (hts (.fieldLink RX6 36 "PowerRests" "reader" "LPowerRests$Item;") (by decide +kernel)) (fun _ h9 => h9) rfl dX6_periodOfText_46 ?_
          refine va_getN (D := D) (ci := 1) (v := .int (g27 8)) (C := RX1) (T := TX1) (N := 5) hx hb hts (by decide +kernel) hown hK hP 11 rfl rfl 4 (by decide) (hN.use 4 (q := (RX6, 142, RX1, "end", "I")) rfl) (fun _ h9 => h9) rfl dX6_periodOfText_49 ?_
          refine lv_istore_n (lv' := [(2, .int (g27 8)), (1, .int r41), (0, .ref (ad 0)), (3, .int x3)]) hx hb dX6_periodOfText_52 rfl hl (by decide) rfl (fun ls hl => ?_)
          refine lv_iinc (v := x3 + 1) (lv' := [(3, .int (x3 + 1)), (2, .int (g27 8)), (1, .int r41), (0, .ref (ad 0))]) hx hb dX6_periodOfText_53 hl (k := 3) rfl rfl (by decide) rfl (fun ls hl => ?_)
          refine lv_goto (tgt := 6) hx hb dX6_periodOfText_56 (by decide) ?_
          exact oJ6 _ _ _ _ _ _ hV _ _ hP hS _ (lv_sub hl [3, 2, 1, 0] rfl))
  have hl := lv_entry ([.ref (ad 0)]) (n := 4) (Nat.le_of_ble_eq_true rfl)
  rw [lg_entry_eq]
  generalize (lg_sl ([.ref (ad 0)]) ++ List.replicate (4 - (lg_sl ([.ref (ad 0)])).length) Slot.unset).toArray = ls at hl ⊢
  have hl : lv_has ls 4 [(0, .ref (ad 0))] := hl
  refine lv_iconst (v := (1 : Int32)) hx hb dX6_periodOfText_0 (by decide) ?_
  refine lv_istore_n (lv' := [(1, .int (1 : Int32)), (0, .ref (ad 0))]) hx hb dX6_periodOfText_1 rfl hl (by decide) rfl (fun ls hl => ?_)
  refine lv_iconst (v := (0 : Int32)) hx hb dX6_periodOfText_2 (by decide) ?_
  refine lv_istore_n (lv' := [(2, .int (0 : Int32)), (1, .int (1 : Int32)), (0, .ref (ad 0))]) hx hb dX6_periodOfText_3 rfl hl (by decide) rfl (fun ls hl => ?_)
  refine lv_iconst (v := (0 : Int32)) hx hb dX6_periodOfText_4 (by decide) ?_
  refine lv_istore_n (lv' := [(3, .int (0 : Int32)), (2, .int (0 : Int32)), (1, .int (1 : Int32)), (0, .ref (ad 0))]) hx hb dX6_periodOfText_5 rfl hl (by decide) rfl (fun ls hl => ?_)
  exact oJ6 _ _ _ _ _ _ hV _ _ hP hS _ (lv_sub hl [3, 2, 1, 0] rfl)
def post_X6_periodOfText (g : Gs) (a : As) (w : Ws) (r : Int32) (g' : Gs) (a' : As) (w' : Ws) : Prop := (a' = a ∧ w' = w ∧ RdK g g') ∧ ∃ n P, Right (cT a) (cL g) n ∧ r = nI P ∧ P ≤ 400000000 ∧ (P ≤ 2000000 ↔ lcmF (xb (cT a) (cL g)) n ≤ 2000000) ∧ (P ≤ 2000000 → P = lcmF (xb (cT a) (cL g)) n)
set_option maxRecDepth 4000 in
theorem spec_X6_periodOfText (l : Launch) (D : va_G) (cy : Nat → ClassId) (ad : Nat → Nat) (sz : Nat) (g : Gs) (a : As) (w : Ws) (hpre : pre_X6_periodOfText g a w) : Met l yX6_periodOfText wsX6_periodOfText ({ frames := 3, cells := 0, slots := 0, locals := 68 } : Room) (va_Pc [.ref (ad 0)] (ArP D cy sz (caW ad cy g a w))) (va_Qi (fun (r : Int32) (u : Gs × As × Ws) => (post_X6_periodOfText g a w) r u.1 u.2.1 u.2.2) (fun u t => va_P D vwCl (caW ad cy u.1 u.2.1 u.2.2) t.heap) (va_A (caW ad cy g a w) sz)) 0 0 (va_A (caW ad cy g a w) sz) := by
  apply met_X6_periodOfText
  intro J hJ
  obtain ⟨hO, n, hR⟩ := hpre
  have hL := hO.1
  obtain ⟨⟨hn8, hall, hstop⟩, hend⟩ := id hR
  have hb : ∀ i, i < n → 2 ≤ xb (cT a) (cL g) i ∧ xb (cT a) (cL g) i ≤ 200 := fun i hi => by
    have := (hall i hi).it.b
    omega
  have hlp : ∀ k, k ≤ n → 1 ≤ lcmF (xb (cT a) (cL g)) k := fun k hk => lcmF_pos (fun i hi => by have := hb i (by omega); omega)
  have key : ∀ (d k : Nat) (g1 : Gs), k + d = n → RdK g g1 → lcmF (xb (cT a) (cL g)) k ≤ 400000000 → J (nI (lcmF (xb (cT a) (cL g)) k)) (nI (pos (cT a) (cL g) k)) (nI k) g1 a w := by
    intro d
    induction d with
    | zero =>
      intro k g1 hk hr hl
      have : k = n := by omega
      subst this
      have fin : ∀ g2, RdK g g2 → post_X6_periodOfText g a w (nI (lcmF (xb (cT a) (cL g)) k)) g2 a w := fun g2 h => ⟨⟨rfl, rfl, h⟩, k, _, hR, rfl, hl, Iff.rfl, fun _ => rfl⟩
      refine hJ _ _ _ _ _ _ (pk_le 8 k (fun _ => fin g1 hr) (fun h8 => pk_lt 2000000 _ (fun _ => fin g1 hr) (fun hle => ⟨⟨hO.up hr, by rw [nI_toInt (by omega)]; omega, by rw [nI_toInt (by omega)]; omega⟩, fun r g2 a2 w2 h2 => ?_⟩) rfl rfl (by omega) (by omega)))
      obtain ⟨⟨rfl, rfl, hr2⟩, hA⟩ := h2
      rw [show cL g1 = cL g by show tn (g1 3) = tn (g 3); rw [hr 3 (by omega)], tn_nI (by omega)] at hA
      rcases hA with ⟨hno, rfl⟩ | ⟨q, l, f, s, b, hit, rfl, -, -, -, -, e8⟩
      · exact ⟨fun _ => fin g2 (hr.tr hr2), fun y => absurd rfl y⟩
      · have := hit.1; omega
    | succ d ih =>
      intro k g1 hk hr hl
      have hp := pos_le (fun i hi => hall i (by omega) : ∀ i, i < k → isIt (cT a) (cL g) i)
      have hbk := hb k (by omega)
      refine hJ _ _ _ _ _ _ (pk_le 8 k (fun h => absurd h (by omega)) (fun h8 => pk_lt 2000000 _ (fun hgt => ?_) (fun hle => ⟨⟨hO.up hr, by rw [nI_toInt (by omega)]; omega, by rw [nI_toInt (by omega)]; omega⟩, fun r g2 a2 w2 h2 => ?_⟩) rfl rfl (by omega) (by omega)))
      · have hd := Nat.le_of_dvd (hlp n (Nat.le_refl n)) (lcmF_dvd (f := xb (cT a) (cL g)) (show k ≤ n by omega))
        exact ⟨⟨rfl, rfl, hr⟩, n, _, hR, rfl, hl, ⟨fun z => by omega, fun z => by omega⟩, fun z => by omega⟩
      · obtain ⟨⟨rfl, rfl, hr2⟩, hA⟩ := h2
        rw [show cL g1 = cL g by show tn (g1 3) = tn (g 3); rw [hr 3 (by omega)], tn_nI (by omega)] at hA
        have hik := hall k (by omega)
        rcases hA with ⟨hno, rfl⟩ | ⟨q, l, f, s, b, hit, rfl, -, -, -, e7, e8⟩
        · exact absurd hik hno
        · refine ⟨fun y => absurd y (by decide), fun _ => ?_⟩
          obtain ⟨eq, -, -, -, eb⟩ := hit.one hik.it
          rw [e7, e8, eq, eb, nI_1]
          have hl1 := hlp k (by omega)
          have hll := lcm_le_mul (a := lcmF (xb (cT a2) (cL g)) k) (b := xb (cT a2) (cL g) k) (by omega) (by omega)
          have hmm : lcmF (xb (cT a2) (cL g)) k * xb (cT a2) (cL g) k ≤ 2000000 * 200 := Nat.mul_le_mul hle (by omega)
          refine ⟨⟨by rw [nI_toInt (by omega)]; omega, by rw [nI_toInt (by omega)]; omega, by rw [tn_nI (by omega), tn_nI (by omega)]; omega⟩, fun r hr3 => ?_⟩
          unfold post_X4_commonMultiple at hr3
          rw [tn_nI (by omega), tn_nI (by omega)] at hr3
          subst hr3
          exact ih (k + 1) g2 (by omega) (hr.tr hr2) (by show Nat.lcm _ _ ≤ _; omega)
  exact key n 0 g (by omega) RdK.rf (by show 1 ≤ _; omega)
