/-! an item, the class -/
abbrev cT (a : As) : Nat → Nat := fun i => tn (a 5 i)
abbrev cL (g : Gs) : Nat := tn (g 3)
def OkC (g : Gs) (a : As) : Prop := TxC (cT a) (cL g) g a
def InB (l f s b : Nat) : Prop := s < b ∧ (l = 108 → f < b) ∧ (l = 112 → 1 ≤ f ∧ f ≤ 9) ∧ (¬ l = 108 → ¬ l = 110 → ¬ l = 112 → f ≤ s)
def Let4 (l : Nat) : Prop := l = 108 ∨ l = 112 ∨ l = 110 ∨ l = 98
/-- a right item from p up to q -/
def It (T : Nat → Nat) (L p q l f s b : Nat) : Prop := p < L ∧ l = T p ∧ Let4 l ∧ (∃ q1, ((l = 110 ∧ q1 = p ∧ f = 0) ∨ (¬ l = 110 ∧ NumC T L (p + 1) 44 q1 f)) ∧ ∃ q2, NumC T L (q1 + 1) 44 q2 s ∧ ∃ q3, NumC T L (q2 + 1) 59 q3 b ∧ q = q3 + 1) ∧ (2 ≤ b ∧ b ≤ 200) ∧ InB l f s b
theorem NumC.one {T : Nat → Nat} {L p c q v q' v' : Nat} (h : NumC T L p c q v) (h' : NumC T L p c q' v') : q = q' ∧ v = v' := h.1.one h'.1
theorem It.one {T : Nat → Nat} {L p q l f s b q' l' f' s' b' : Nat} (h : It T L p q l f s b) (h' : It T L p q' l' f' s' b') : q = q' ∧ l = l' ∧ f = f' ∧ s = s' ∧ b = b' := by
  obtain ⟨-, rfl, -, ⟨q1, hq1, q2, hq2, q3, hq3, rfl⟩, -⟩ := h
  obtain ⟨-, rfl, -, ⟨r1, hr1, r2, hr2, r3, hr3, rfl⟩, -⟩ := h'
  have h1 : q1 = r1 ∧ f = f' := by
    rcases hq1 with ⟨z1, z2, z3⟩ | ⟨z1, z2⟩ <;> rcases hr1 with ⟨y1, y2, y3⟩ | ⟨y1, y2⟩
    · exact ⟨z2.trans y2.symm, z3.trans y3.symm⟩
    · exact absurd z1 y1
    · exact absurd y1 z1
    · exact z2.one y2
  obtain ⟨rfl, rfl⟩ := h1
  obtain ⟨rfl, rfl⟩ := hq2.one hr2
  obtain ⟨rfl, rfl⟩ := hq3.one hr3
  exact ⟨rfl, rfl, rfl, rfl, rfl⟩
theorem It.b {T : Nat → Nat} {L p q l f s b : Nat} (h : It T L p q l f s b) : p < q ∧ q ≤ L ∧ l < 200 ∧ f < 10000 ∧ s < 200 ∧ 2 ≤ b ∧ b ≤ 200 := by
  obtain ⟨h0, rfl, h1, ⟨q1, hq1, q2, hq2, q3, hq3, rfl⟩, h2, h3⟩ := h
  have b2 := hq2.1.b
  have b3 := hq3.1.b
  have b4 := hq3.2.1
  have hl : T p < 200 := by rcases h1 with z | z | z | z <;> omega
  have hs := h3.1
  rcases hq1 with ⟨z1, z2, z3⟩ | ⟨z1, z2⟩
  · exact ⟨by omega, by omega, hl, by omega, by omega, h2⟩
  · have b1 := z2.1.b
    exact ⟨by omega, by omega, hl, by omega, by omega, h2⟩
def pre_X1_isInBounds (g : Gs) (a : As) (w : Ws) : Prop := ∃ l f s b, (g 4 = nI l ∧ g 5 = nI f ∧ g 6 = nI s ∧ g 7 = nI b) ∧ l < 10000 ∧ f < 10000 ∧ s < 10000 ∧ b < 10000
set_option maxHeartbeats 4000000 in
set_option maxRecDepth 100000 in
theorem met_X1_isInBounds (l : Launch) (D : va_G) (cy : Nat → ClassId) (ad : Nat → Nat) (sz : Nat) (g : Gs) (a : As) (w : Ws) (post : Int32 → Prop)
  (hV : (((g 4) = 108 → (((g 7) ≤ (g 5) → post (0 : Int32)) ∧ (¬ (g 7) ≤ (g 5) → (((g 7) ≤ (g 6) → post (0 : Int32)) ∧ (¬ (g 7) ≤ (g 6) → post (1 : Int32)))))) ∧ ((g 4) = 110 → (((g 7) ≤ (g 6) → post (0 : Int32)) ∧ (¬ (g 7) ≤ (g 6) → post (1 : Int32)))) ∧ ((g 4) = 112 → (((g 5) < (1 : Int32) → post (0 : Int32)) ∧ (¬ (g 5) < (1 : Int32) → (((9 : Int32) < (g 5) → post (0 : Int32)) ∧ (¬ (9 : Int32) < (g 5) → (((g 7) ≤ (g 6) → post (0 : Int32)) ∧ (¬ (g 7) ≤ (g 6) → post (1 : Int32)))))))) ∧ (¬ (g 4) = 108 → ¬ (g 4) = 110 → ¬ (g 4) = 112 → (((g 6) < (g 5) → post (0 : Int32)) ∧ (¬ (g 6) < (g 5) → (((g 7) ≤ (g 6) → post (0 : Int32)) ∧ (¬ (g 7) ≤ (g 6) → post (1 : Int32)))))))) :
  Met l yX1_isInBounds wsX1_isInBounds ({ frames := 0, cells := 0, slots := 0, locals := 0 } : Room) (va_Pc [.ref (ad 11)] (ArP D cy sz (caW ad cy g a w))) (Qpi post) 0 0 noF := by
  refine Met.ofW (cc := cX1_isInBounds) (maxL := 1) (ret := (some .boolean)) (by decide) rfl ?_
  intro p e s m args below meth c s₁ B hml hv
  obtain ⟨rfl, hsz, hP, hK, hD0, hN⟩ := hv
  have hx := B.exec
  have hb := B.bytes
  have hr := B.returns
  have hts := atoms_spec (ws := wsX1_isInBounds) B.pre
  have hown : s.vm.findClass RX1 = some m.cls := findClass_of_methodNamed B.named
  have hlocks := B.notSynchronized
  subst hsz
  have hP : va_P D vwCl (caW ad cy g a w) s.heap := hP
  have hD : va_D (fun _ => True) (caW ad cy g a w) := hD0
  have hl := lv_entry ([.ref (ad 11)]) (n := 1) (Nat.le_of_ble_eq_true rfl)
  rw [lg_entry_eq]
  generalize (lg_sl ([.ref (ad 11)]) ++ List.replicate (1 - (lg_sl ([.ref (ad 11)])).length) Slot.unset).toArray = ls at hl ⊢
  have hl : lv_has ls 1 [(0, .ref (ad 11))] := hl
  refine lv_aload_n hx hb dX1_isInBounds_0 rfl (lv_at hl 0 rfl) ?_
  refine va_get (D := D) (ci := 1) (v := .int (g 4)) (C := RX1) (T := TX1) (N := 5) hx hb hts (by decide +kernel) hown hK hP 11 rfl rfl 0 (by decide) (hts (.fieldLink RX1 13 "PowerRests$Item" "letter" "I") (by decide +kernel)) (fun _ h9 => h9) rfl dX1_isInBounds_1 ?_
  by_cases e_4_108 : (g 4) = 108
  · refine lv_tableIn (off := 36) (tgt := 40) hx hb dX1_isInBounds_4 (by rw [e_4_108]; decide) (by rw [e_4_108]; decide) (by rw [e_4_108]; decide) (by decide) ?_
    have hV := hV.1 e_4_108
    refine lv_aload_n hx hb dX1_isInBounds_40 rfl (lv_at hl 0 rfl) ?_
    refine va_get (D := D) (ci := 1) (v := .int (g 5)) (C := RX1) (T := TX1) (N := 5) hx hb hts (by decide +kernel) hown hK hP 11 rfl rfl 1 (by decide) (hts (.fieldLink RX1 22 "PowerRests$Item" "first" "I") (by decide +kernel)) (fun _ h9 => h9) rfl dX1_isInBounds_41 ?_
    refine lv_aload_n hx hb dX1_isInBounds_44 rfl (lv_at hl 0 rfl) ?_
    refine va_get (D := D) (ci := 1) (v := .int (g 7)) (C := RX1) (T := TX1) (N := 5) hx hb hts (by decide +kernel) hown hK hP 11 rfl rfl 3 (by decide) (hts (.fieldLink RX1 32 "PowerRests$Item" "by" "I") (by decide +kernel)) (fun _ h9 => h9) rfl dX1_isInBounds_45 ?_
    refine lv_icmp_ge (tgt := 66) hx hb dX1_isInBounds_48 (by decide) (fun c_48 => ?_) (fun c_48 => ?_)
    · have hV := hV.1 c_48
      refine lv_iconst (v := (0 : Int32)) hx hb dX1_isInBounds_66 (by decide) ?_
      exact W.zret (v := (0 : Int32)) hx hb hr rfl (fun t ht hW => ⟨_, rfl, hV, ht⟩) (fun _ h => by cases h) dX1_isInBounds_67
    · have hV := hV.2 c_48
      refine lv_aload_n hx hb dX1_isInBounds_51 rfl (lv_at hl 0 rfl) ?_
      refine va_get (D := D) (ci := 1) (v := .int (g 6)) (C := RX1) (T := TX1) (N := 5) hx hb hts (by decide +kernel) hown hK hP 11 rfl rfl 2 (by decide) (hts (.fieldLink RX1 29 "PowerRests$Item" "second" "I") (by decide +kernel)) (fun _ h9 => h9) rfl dX1_isInBounds_52 ?_
      refine lv_aload_n hx hb dX1_isInBounds_55 rfl (lv_at hl 0 rfl) ?_
      refine va_get (D := D) (ci := 1) (v := .int (g 7)) (C := RX1) (T := TX1) (N := 5) hx hb hts (by decide +kernel) hown hK hP 11 rfl rfl 3 (by decide) (hts (.fieldLink RX1 32 "PowerRests$Item" "by" "I") (by decide +kernel)) (fun _ h9 => h9) rfl dX1_isInBounds_56 ?_
      refine lv_icmp_ge (tgt := 66) hx hb dX1_isInBounds_59 (by decide) (fun c_59 => ?_) (fun c_59 => ?_)
      · have hV := hV.1 c_59
        refine lv_iconst (v := (0 : Int32)) hx hb dX1_isInBounds_66 (by decide) ?_
        exact W.zret (v := (0 : Int32)) hx hb hr rfl (fun t ht hW => ⟨_, rfl, hV, ht⟩) (fun _ h => by cases h) dX1_isInBounds_67
      · have hV := hV.2 c_59
        refine lv_iconst (v := (1 : Int32)) hx hb dX1_isInBounds_62 (by decide) ?_
        refine lv_goto (tgt := 67) hx hb dX1_isInBounds_63 (by decide) ?_
        exact W.zret (v := (1 : Int32)) hx hb hr rfl (fun t ht hW => ⟨_, rfl, hV, ht⟩) (fun _ h => by cases h) dX1_isInBounds_67
  by_cases e_4_110 : (g 4) = 110
  · refine lv_tableIn (off := 98) (tgt := 102) hx hb dX1_isInBounds_4 (by rw [e_4_110]; decide) (by rw [e_4_110]; decide) (by rw [e_4_110]; decide) (by decide) ?_
    have hV := hV.2.1 e_4_110
    refine lv_aload_n hx hb dX1_isInBounds_102 rfl (lv_at hl 0 rfl) ?_
    refine va_get (D := D) (ci := 1) (v := .int (g 6)) (C := RX1) (T := TX1) (N := 5) hx hb hts (by decide +kernel) hown hK hP 11 rfl rfl 2 (by decide) (hts (.fieldLink RX1 29 "PowerRests$Item" "second" "I") (by decide +kernel)) (fun _ h9 => h9) rfl dX1_isInBounds_103 ?_
    refine lv_aload_n hx hb dX1_isInBounds_106 rfl (lv_at hl 0 rfl) ?_
    refine va_get (D := D) (ci := 1) (v := .int (g 7)) (C := RX1) (T := TX1) (N := 5) hx hb hts (by decide +kernel) hown hK hP 11 rfl rfl 3 (by decide) (hts (.fieldLink RX1 32 "PowerRests$Item" "by" "I") (by decide +kernel)) (fun _ h9 => h9) rfl dX1_isInBounds_107 ?_
    refine lv_icmp_ge (tgt := 117) hx hb dX1_isInBounds_110 (by decide) (fun c_110 => ?_) (fun c_110 => ?_)
    · have hV := hV.1 c_110
      refine lv_iconst (v := (0 : Int32)) hx hb dX1_isInBounds_117 (by decide) ?_
      exact W.zret (v := (0 : Int32)) hx hb hr rfl (fun t ht hW => ⟨_, rfl, hV, ht⟩) (fun _ h => by cases h) dX1_isInBounds_118
    · have hV := hV.2 c_110
      refine lv_iconst (v := (1 : Int32)) hx hb dX1_isInBounds_113 (by decide) ?_
      refine lv_goto (tgt := 118) hx hb dX1_isInBounds_114 (by decide) ?_
      exact W.zret (v := (1 : Int32)) hx hb hr rfl (fun t ht hW => ⟨_, rfl, hV, ht⟩) (fun _ h => by cases h) dX1_isInBounds_118
  by_cases e_4_112 : (g 4) = 112
  · refine lv_tableIn (off := 64) (tgt := 68) hx hb dX1_isInBounds_4 (by rw [e_4_112]; decide) (by rw [e_4_112]; decide) (by rw [e_4_112]; decide) (by decide) ?_
    have hV := hV.2.2.1 e_4_112
    refine lv_aload_n hx hb dX1_isInBounds_68 rfl (lv_at hl 0 rfl) ?_
    refine va_get (D := D) (ci := 1) (v := .int (g 5)) (C := RX1) (T := TX1) (N := 5) hx hb hts (by decide +kernel) hown hK hP 11 rfl rfl 1 (by decide) (hts (.fieldLink RX1 22 "PowerRests$Item" "first" "I") (by decide +kernel)) (fun _ h9 => h9) rfl dX1_isInBounds_69 ?_
    refine lv_iconst (v := (1 : Int32)) hx hb dX1_isInBounds_72 (by decide) ?_
    refine lv_icmp_lt (tgt := 100) hx hb dX1_isInBounds_73 (by decide) (fun c_73 => ?_) (fun c_73 => ?_)
    · have hV := hV.1 c_73
      refine lv_iconst (v := (0 : Int32)) hx hb dX1_isInBounds_100 (by decide) ?_
      exact W.zret (v := (0 : Int32)) hx hb hr rfl (fun t ht hW => ⟨_, rfl, hV, ht⟩) (fun _ h => by cases h) dX1_isInBounds_101
    · have hV := hV.2 c_73
      refine lv_aload_n hx hb dX1_isInBounds_76 rfl (lv_at hl 0 rfl) ?_
      refine va_get (D := D) (ci := 1) (v := .int (g 5)) (C := RX1) (T := TX1) (N := 5) hx hb hts (by decide +kernel) hown hK hP 11 rfl rfl 1 (by decide) (hts (.fieldLink RX1 22 "PowerRests$Item" "first" "I") (by decide +kernel)) (fun _ h9 => h9) rfl dX1_isInBounds_77 ?_
      refine lv_bipush (v := (9 : Int32)) hx hb dX1_isInBounds_80 (by decide) ?_
      refine lv_icmp_gt (tgt := 100) hx hb dX1_isInBounds_82 (by decide) (fun c_82 => ?_) (fun c_82 => ?_)
      · have hV := hV.1 c_82
        refine lv_iconst (v := (0 : Int32)) hx hb dX1_isInBounds_100 (by decide) ?_
        exact W.zret (v := (0 : Int32)) hx hb hr rfl (fun t ht hW => ⟨_, rfl, hV, ht⟩) (fun _ h => by cases h) dX1_isInBounds_101
      · have hV := hV.2 c_82
        refine lv_aload_n hx hb dX1_isInBounds_85 rfl (lv_at hl 0 rfl) ?_
        refine va_get (D := D) (ci := 1) (v := .int (g 6)) (C := RX1) (T := TX1) (N := 5) hx hb hts (by decide +kernel) hown hK hP 11 rfl rfl 2 (by decide) (hts (.fieldLink RX1 29 "PowerRests$Item" "second" "I") (by decide +kernel)) (fun _ h9 => h9) rfl dX1_isInBounds_86 ?_
        refine lv_aload_n hx hb dX1_isInBounds_89 rfl (lv_at hl 0 rfl) ?_
        refine va_get (D := D) (ci := 1) (v := .int (g 7)) (C := RX1) (T := TX1) (N := 5) hx hb hts (by decide +kernel) hown hK hP 11 rfl rfl 3 (by decide) (hts (.fieldLink RX1 32 "PowerRests$Item" "by" "I") (by decide +kernel)) (fun _ h9 => h9) rfl dX1_isInBounds_90 ?_
        refine lv_icmp_ge (tgt := 100) hx hb dX1_isInBounds_93 (by decide) (fun c_93 => ?_) (fun c_93 => ?_)
        · have hV := hV.1 c_93
          refine lv_iconst (v := (0 : Int32)) hx hb dX1_isInBounds_100 (by decide) ?_
          exact W.zret (v := (0 : Int32)) hx hb hr rfl (fun t ht hW => ⟨_, rfl, hV, ht⟩) (fun _ h => by cases h) dX1_isInBounds_101
        · have hV := hV.2 c_93
          refine lv_iconst (v := (1 : Int32)) hx hb dX1_isInBounds_96 (by decide) ?_
          refine lv_goto (tgt := 101) hx hb dX1_isInBounds_97 (by decide) ?_
          exact W.zret (v := (1 : Int32)) hx hb hr rfl (fun t ht hW => ⟨_, rfl, hV, ht⟩) (fun _ h => by cases h) dX1_isInBounds_101
  have hV := hV.2.2.2 e_4_108 e_4_110 e_4_112
  refine tb_default (tgt := 119) hx hb dX1_isInBounds_4 (by decide) (gaps := [109, 111]) (by decide) (tb_mem 5 (by decide) (vs := [108, 110, 112]) (by decide) (List.forall_mem_cons.mpr ⟨tb_ne 108 (by decide) e_4_108, (List.forall_mem_cons.mpr ⟨tb_ne 110 (by decide) e_4_110, (List.forall_mem_cons.mpr ⟨tb_ne 112 (by decide) e_4_112, tb_nil⟩)⟩)⟩)) ?_
  refine lv_aload_n hx hb dX1_isInBounds_119 rfl (lv_at hl 0 rfl) ?_
  refine va_get (D := D) (ci := 1) (v := .int (g 5)) (C := RX1) (T := TX1) (N := 5) hx hb hts (by decide +kernel) hown hK hP 11 rfl rfl 1 (by decide) (hts (.fieldLink RX1 22 "PowerRests$Item" "first" "I") (by decide +kernel)) (fun _ h9 => h9) rfl dX1_isInBounds_120 ?_
  refine lv_aload_n hx hb dX1_isInBounds_123 rfl (lv_at hl 0 rfl) ?_
  refine va_get (D := D) (ci := 1) (v := .int (g 6)) (C := RX1) (T := TX1) (N := 5) hx hb hts (by decide +kernel) hown hK hP 11 rfl rfl 2 (by decide) (hts (.fieldLink RX1 29 "PowerRests$Item" "second" "I") (by decide +kernel)) (fun _ h9 => h9) rfl dX1_isInBounds_124 ?_
  refine lv_icmp_gt (tgt := 145) hx hb dX1_isInBounds_127 (by decide) (fun c_127 => ?_) (fun c_127 => ?_)
  · have hV := hV.1 c_127
    refine lv_iconst (v := (0 : Int32)) hx hb dX1_isInBounds_145 (by decide) ?_
    exact W.zret (v := (0 : Int32)) hx hb hr rfl (fun t ht hW => ⟨_, rfl, hV, ht⟩) (fun _ h => by cases h) dX1_isInBounds_146
  · have hV := hV.2 c_127
    refine lv_aload_n hx hb dX1_isInBounds_130 rfl (lv_at hl 0 rfl) ?_
    refine va_get (D := D) (ci := 1) (v := .int (g 6)) (C := RX1) (T := TX1) (N := 5) hx hb hts (by decide +kernel) hown hK hP 11 rfl rfl 2 (by decide) (hts (.fieldLink RX1 29 "PowerRests$Item" "second" "I") (by decide +kernel)) (fun _ h9 => h9) rfl dX1_isInBounds_131 ?_
    refine lv_aload_n hx hb dX1_isInBounds_134 rfl (lv_at hl 0 rfl) ?_
    refine va_get (D := D) (ci := 1) (v := .int (g 7)) (C := RX1) (T := TX1) (N := 5) hx hb hts (by decide +kernel) hown hK hP 11 rfl rfl 3 (by decide) (hts (.fieldLink RX1 32 "PowerRests$Item" "by" "I") (by decide +kernel)) (fun _ h9 => h9) rfl dX1_isInBounds_135 ?_
    refine lv_icmp_ge (tgt := 145) hx hb dX1_isInBounds_138 (by decide) (fun c_138 => ?_) (fun c_138 => ?_)
    · have hV := hV.1 c_138
      refine lv_iconst (v := (0 : Int32)) hx hb dX1_isInBounds_145 (by decide) ?_
      exact W.zret (v := (0 : Int32)) hx hb hr rfl (fun t ht hW => ⟨_, rfl, hV, ht⟩) (fun _ h => by cases h) dX1_isInBounds_146
    · have hV := hV.2 c_138
      refine lv_iconst (v := (1 : Int32)) hx hb dX1_isInBounds_141 (by decide) ?_
      refine lv_goto (tgt := 146) hx hb dX1_isInBounds_142 (by decide) ?_
      exact W.zret (v := (1 : Int32)) hx hb hr rfl (fun t ht hW => ⟨_, rfl, hV, ht⟩) (fun _ h => by cases h) dX1_isInBounds_146
def post_X1_isInBounds (g : Gs) (a : As) (w : Ws) (r : Int32) : Prop := ∀ l f s b, g 4 = nI l → g 5 = nI f → g 6 = nI s → g 7 = nI b → l < 10000 → f < 10000 → s < 10000 → b < 10000 → r = zb (InB l f s b)
set_option maxRecDepth 4000 in
theorem spec_X1_isInBounds (l : Launch) (D : va_G) (cy : Nat → ClassId) (ad : Nat → Nat) (sz : Nat) (g : Gs) (a : As) (w : Ws) (hpre : pre_X1_isInBounds g a w) : Met l yX1_isInBounds wsX1_isInBounds ({ frames := 0, cells := 0, slots := 0, locals := 0 } : Room) (va_Pc [.ref (ad 11)] (ArP D cy sz (caW ad cy g a w))) (Qpi (post_X1_isInBounds g a w)) 0 0 noF := by
  apply met_X1_isInBounds
  obtain ⟨l, f, s, b, ⟨e4, e5, e6, e7⟩, hl, hf, hs, hb⟩ := hpre
  have good : ∀ r, r = zb (InB l f s b) → post_X1_isInBounds g a w r := fun r h => by
    intro l' f' s' b' k4 k5 k6 k7 kl kf ks kb
    have z : ∀ {x y : Nat} {u : Int32}, u = nI x → u = nI y → x < 10000 → y < 10000 → x = y := fun h1 h2 h3 h4 => (nI_eq (by omega) (by omega)).mp (h1.symm.trans h2)
    rw [← z e4 k4 hl kl, ← z e5 k5 hf kf, ← z e6 k6 hs ks, ← z e7 k7 hb kb]
    exact h
  rw [e4, e5, e6, e7]
  have el : ∀ c : Nat, c < 10000 → (nI l = nI c ↔ l = c) := fun c hc => nI_eq (by omega) (by omega)
  have e108 := el 108 (by omega)
  have e110 := el 110 (by omega)
  have e112 := el 112 (by omega)
  refine ⟨fun z => ?_, fun z => ?_, fun z => ?_, fun z1 z2 z3 => ?_⟩
  · have z := e108.mp z
    refine pk_le b f (fun y => good _ (zb_f (fun x => ?_)).symm) (fun y => pk_le b s (fun y2 => good _ (zb_f (fun x => ?_)).symm) (fun y2 => good _ (zb_t ⟨y2, fun _ => y, fun x => ?_, fun x => absurd z x⟩).symm)) 
    · have := x.2.1 z; omega
    · have := x.1; omega
    · omega
  · have z := e110.mp z
    refine pk_le b s (fun y2 => good _ (zb_f (fun x => ?_)).symm) (fun y2 => good _ (zb_t ⟨y2, fun x => ?_, fun x => ?_, fun _ x => absurd z x⟩).symm)
    · have := x.1; omega
    · omega
    · omega
  · have z := e112.mp z
    refine pk_lt f 1 (fun y => good _ (zb_f (fun x => ?_)).symm) (fun y => pk_lt 9 f (fun y2 => good _ (zb_f (fun x => ?_)).symm) (fun y2 => pk_le b s (fun y3 => good _ (zb_f (fun x => ?_)).symm) (fun y3 => good _ (zb_t ⟨y3, fun x => ?_, fun _ => ⟨y, y2⟩, fun _ _ x => absurd z x⟩).symm)))
    · have := x.2.2.1 z; omega
    · have := x.2.2.1 z; omega
    · have := x.1; omega
    · omega
  · have z1 : ¬ l = 108 := fun y => z1 (e108.mpr y)
    have z2 : ¬ l = 110 := fun y => z2 (e110.mpr y)
    have z3 : ¬ l = 112 := fun y => z3 (e112.mpr y)
    refine pk_lt s f (fun y => good _ (zb_f (fun x => ?_)).symm) (fun y => pk_le b s (fun y3 => good _ (zb_f (fun x => ?_)).symm) (fun y3 => good _ (zb_t ⟨y3, fun x => absurd x z1, fun x => absurd x z3, fun _ _ _ => y⟩).symm))
    · have := x.2.2.2 z1 z2 z3; omega
    · have := x.1; omega
def RdK (g : Gs) (g' : Gs) : Prop := ∀ i, i < 4 ∨ 9 ≤ i → g' i = g i
theorem RdK.rf {g : Gs} : RdK g g := fun _ _ => rfl
theorem RdK.up {g g' : Gs} (h : RdK g g') {j : Nat} (hj : 4 ≤ j ∧ j < 9) (x : Int32) : RdK g (va_up g' j x) := fun i hi => by rw [up_n _ _ (by omega)]; exact h i hi
theorem RdK.tr {g g' g2 : Gs} (h : RdK g g') (k : RdK g' g2) : RdK g g2 := fun i hi => (k i hi).trans (h i hi)
theorem RdK.tx {T : Nat → Nat} {L : Nat} {g g' : Gs} {a : As} (h : RdK g g') (k : TxC T L g a) : TxC T L g' a := ⟨k.1, by rw [h 3 (by omega)]; exact k.2.1, k.2.2⟩
def pre_X1_read (g : Gs) (a : As) (w : Ws) (p1 : Int32) : Prop := OkC g a ∧ 0 ≤ p1.toInt ∧ p1.toInt ≤ 250
set_option maxHeartbeats 4000000 in
set_option maxRecDepth 100000 in
theorem met_X1_read (l : Launch) (D : va_G) (cy : Nat → ClassId) (ad : Nat → Nat) (sz : Nat) (g : Gs) (a : As) (w : Ws) (p1 : Int32) (post : Int32 → Gs → As → Ws → Prop)
  (hV : ∀ (J59 : Gs → As → Ws → Prop),
    (∀ (g_ : Gs) (a_ : As) (w_ : Ws), (((g_ 4) = (110 : Int32) → pre_X1_number g_ a_ w_ (44 : Int32) ∧ (∀ (r84 : Int32) (g84 : Gs) (a84 : As) (w84 : Ws), post_X1_number g_ a_ w_ (44 : Int32) r84 g84 a84 w84 → pre_X1_number (va_up g84 6 r84) a84 w84 (59 : Int32) ∧ (∀ (r95 : Int32) (g95 : Gs) (a95 : As) (w95 : Ws), post_X1_number (va_up g84 6 r84) a84 w84 (59 : Int32) r95 g95 a95 w95 → (((g95 5) < 0 → post (0 : Int32) (va_up g95 7 r95) a95 w95) ∧ (¬ (g95 5) < 0 → (((g95 6) < 0 → post (0 : Int32) (va_up g95 7 r95) a95 w95) ∧ (¬ (g95 6) < 0 → ((r95 < (2 : Int32) → post (0 : Int32) (va_up g95 7 r95) a95 w95) ∧ (¬ r95 < (2 : Int32) → (((200 : Int32) < r95 → post (0 : Int32) (va_up g95 7 r95) a95 w95) ∧ (¬ (200 : Int32) < r95 → pre_X1_isInBounds (va_up g95 7 r95) a95 w95 ∧ (∀ r134 : Int32, post_X1_isInBounds (va_up g95 7 r95) a95 w95 r134 → ((r134 = 0 → post (0 : Int32) (va_up g95 7 r95) a95 w95) ∧ (¬ r134 = 0 → post (1 : Int32) (va_up g95 7 r95) a95 w95)))))))))))))) ∧ (¬ (g_ 4) = (110 : Int32) → pre_X1_number g_ a_ w_ (44 : Int32) ∧ (∀ (r73 : Int32) (g73 : Gs) (a73 : As) (w73 : Ws), post_X1_number g_ a_ w_ (44 : Int32) r73 g73 a73 w73 → pre_X1_number (va_up g73 5 r73) a73 w73 (44 : Int32) ∧ (∀ (r84 : Int32) (g84 : Gs) (a84 : As) (w84 : Ws), post_X1_number (va_up g73 5 r73) a73 w73 (44 : Int32) r84 g84 a84 w84 → pre_X1_number (va_up g84 6 r84) a84 w84 (59 : Int32) ∧ (∀ (r95 : Int32) (g95 : Gs) (a95 : As) (w95 : Ws), post_X1_number (va_up g84 6 r84) a84 w84 (59 : Int32) r95 g95 a95 w95 → (((g95 5) < 0 → post (0 : Int32) (va_up g95 7 r95) a95 w95) ∧ (¬ (g95 5) < 0 → (((g95 6) < 0 → post (0 : Int32) (va_up g95 7 r95) a95 w95) ∧ (¬ (g95 6) < 0 → ((r95 < (2 : Int32) → post (0 : Int32) (va_up g95 7 r95) a95 w95) ∧ (¬ r95 < (2 : Int32) → (((200 : Int32) < r95 → post (0 : Int32) (va_up g95 7 r95) a95 w95) ∧ (¬ (200 : Int32) < r95 → pre_X1_isInBounds (va_up g95 7 r95) a95 w95 ∧ (∀ r134 : Int32, post_X1_isInBounds (va_up g95 7 r95) a95 w95 r134 → ((r134 = 0 → post (0 : Int32) (va_up g95 7 r95) a95 w95) ∧ (¬ r134 = 0 → post (1 : Int32) (va_up g95 7 r95) a95 w95)))))))))))))))) → J59 g_ a_ w_) →
    pre_X5_at g a w p1 ∧ (∀ r3 : Int32, post_X5_at g a w p1 r3 → ((r3 = (108 : Int32) → J59 (va_up (va_up (va_up g 4 r3) 5 (0 : Int32)) 8 (p1 + (1 : Int32))) a w) ∧ (¬ r3 = (108 : Int32) → ((r3 = (112 : Int32) → J59 (va_up (va_up (va_up g 4 r3) 5 (0 : Int32)) 8 (p1 + (1 : Int32))) a w) ∧ (¬ r3 = (112 : Int32) → ((r3 = (110 : Int32) → J59 (va_up (va_up (va_up g 4 r3) 5 (0 : Int32)) 8 (p1 + (1 : Int32))) a w) ∧ (¬ r3 = (110 : Int32) → ((r3 = (98 : Int32) → J59 (va_up (va_up (va_up g 4 r3) 5 (0 : Int32)) 8 (p1 + (1 : Int32))) a w) ∧ (¬ r3 = (98 : Int32) → post (0 : Int32) (va_up (va_up (va_up g 4 r3) 5 (0 : Int32)) 8 (p1 + (1 : Int32))) a w)))))))))) :
  Met l yX1_read wsX1_read ({ frames := 2, cells := 0, slots := 0, locals := 46 } : Room) (va_Pc [.ref (ad 11), .ref (ad 9), .int p1] (ArP D cy sz (caW ad cy g a w))) (va_Qi (fun (r : Int32) (u : Gs × As × Ws) => post r u.1 u.2.1 u.2.2) (fun u t => va_P D vwCl (caW ad cy u.1 u.2.1 u.2.2) t.heap) (va_A (caW ad cy g a w) sz)) 0 0 (va_A (caW ad cy g a w) sz) := by
  refine Met.ofW (cc := cX1_read) (maxL := 3) (ret := (some .boolean)) (by decide) rfl ?_
  intro p e s m args below meth c s₁ B hml hv
  obtain ⟨rfl, hsz, hP, hK, hD0, hN⟩ := hv
  have hx := B.exec
  have hb := B.bytes
  have hr := B.returns
  have hts := atoms_spec (ws := wsX1_read) B.pre
  have hown : s.vm.findClass RX1 = some m.cls := findClass_of_methodNamed B.named
  have hlocks := B.notSynchronized
  subst hsz
  have hD := hD0.self (sz := s.heap.size)
  have hP : va_P D vwCl (caW ad cy g a w) s.heap := hP
  have hD : va_D (va_A (caW ad cy g a w) s.heap.size) (caW ad cy g a w) := hD
  have hS : va_S (va_A (caW ad cy g a w) s.heap.size) s.heap s.heap [] := va_S.rf
  have hA : ∀ q : Nat, s.heap.size ≤ q → va_A (caW ad cy g a w) s.heap.size q := fun q h => Or.inr h
  obtain ⟨J59, iJ59, oJ59⟩ : ∃ J : Gs → As → Ws → Prop, (∀ (g_ : Gs) (a_ : As) (w_ : Ws), (∀ (H : Heap) (locs : List Loc), va_P D vwCl (caW ad cy g_ a_ w_) H → va_S (va_A (caW ad cy g a w) s.heap.size) s.heap H locs → ∀ ls : Array Slot, lv_has ls 3 [(0, .ref (ad 11)), (1, .ref (ad 9))] → W p l e (headSpec wsX1_read ({ frames := 2, cells := 0, slots := 0, locals := 46 } : Room)).room s m [.ref (ad 11), .ref (ad 9), .int p1].toArray below meth c H locs 0 0 (MQ below (va_Qi (fun (r : Int32) (u : Gs × As × Ws) => post r u.1 u.2.1 u.2.2) (fun u t => va_P D vwCl (caW ad cy u.1 u.2.1 u.2.2) t.heap) (va_A (caW ad cy g a w) s.heap.size)) [.ref (ad 11), .ref (ad 9), .int p1].toArray s 0 0 (va_A (caW ad cy g a w) s.heap.size)) (F0 m 59 ls [])) → J g_ a_ w_) ∧ (∀ (g_ : Gs) (a_ : As) (w_ : Ws), J g_ a_ w_ → (∀ (H : Heap) (locs : List Loc), va_P D vwCl (caW ad cy g_ a_ w_) H → va_S (va_A (caW ad cy g a w) s.heap.size) s.heap H locs → ∀ ls : Array Slot, lv_has ls 3 [(0, .ref (ad 11)), (1, .ref (ad 9))] → W p l e (headSpec wsX1_read ({ frames := 2, cells := 0, slots := 0, locals := 46 } : Room)).room s m [.ref (ad 11), .ref (ad 9), .int p1].toArray below meth c H locs 0 0 (MQ below (va_Qi (fun (r : Int32) (u : Gs × As × Ws) => post r u.1 u.2.1 u.2.2) (fun u t => va_P D vwCl (caW ad cy u.1 u.2.1 u.2.2) t.heap) (va_A (caW ad cy g a w) s.heap.size)) [.ref (ad 11), .ref (ad 9), .int p1].toArray s 0 0 (va_A (caW ad cy g a w) s.heap.size)) (F0 m 59 ls []))) := ⟨fun (g_ : Gs) (a_ : As) (w_ : Ws) => (∀ (H : Heap) (locs : List Loc), va_P D vwCl (caW ad cy g_ a_ w_) H → va_S (va_A (caW ad cy g a w) s.heap.size) s.heap H locs → ∀ ls : Array Slot, lv_has ls 3 [(0, .ref (ad 11)), (1, .ref (ad 9))] → W p l e (headSpec wsX1_read ({ frames := 2, cells := 0, slots := 0, locals := 46 } : Room)).room s m [.ref (ad 11), .ref (ad 9), .int p1].toArray below meth c H locs 0 0 (MQ below (va_Qi (fun (r : Int32) (u : Gs × As × Ws) => post r u.1 u.2.1 u.2.2) (fun u t => va_P D vwCl (caW ad cy u.1 u.2.1 u.2.2) t.heap) (va_A (caW ad cy g a w) s.heap.size)) [.ref (ad 11), .ref (ad 9), .int p1].toArray s 0 0 (va_A (caW ad cy g a w) s.heap.size)) (F0 m 59 ls [])), fun _ _ _ h => h, fun _ _ _ h => h⟩
  have hV := hV J59
  replace hV := hV (by
    intro g_ a_ w_ hV
    refine iJ59 g_ a_ w_ ?_
    intro H locs hP hS ls hl
    refine lv_aload_n hx hb dX1_read_59 rfl (lv_at hl 0 rfl) ?_
    refine va_get (D := D) (ci := 1) (v := .int (g_ 4)) (C := RX1) (T := TX1) (N := 5) hx hb hts (by decide +kernel) hown hK hP 11 rfl rfl 0 (by decide) (hts (.fieldLink RX1 13 "PowerRests$Item" "letter" "I") (by decide +kernel)) (fun _ h9 => h9) rfl dX1_read_60 ?_
    refine lv_bipush (v := (110 : Int32)) hx hb dX1_read_63 (by decide) ?_
    refine lv_icmp_eq (tgt := 79) hx hb dX1_read_65 (by decide) (fun c_65 => ?_) (fun c_65 => ?_)
    · have hV := hV.1 c_65
      refine lv_aload_n hx hb dX1_read_79 rfl (lv_at hl 0 rfl) ?_
      refine lv_aload_n hx hb dX1_read_80 rfl (lv_at hl 0 rfl) ?_
      refine lv_aload_n hx hb dX1_read_81 rfl (lv_at hl 1 rfl) ?_
      refine lv_bipush (v := (44 : Int32)) hx hb dX1_read_82 (by decide) ?_
      obtain ⟨h_84, hV⟩ := hV
      refine cw_i (va_runV (As := [.ref (ad 9), .int (44 : Int32)]) (rest := [.ref (ad 11)]) ⟨hx, hb, hml, hown, hts⟩ (spec_X1_number l D cy ad _ g_ a_ w_ (44 : Int32) h_84) (cwV 2 hts gX1_read_X1_number rfl rfl rfl (by decide +kernel) ⟨Nat.le_of_ble_eq_true rfl, Nat.le_of_ble_eq_true rfl⟩) (ar_preV hN hK hP (caD hD) (ci := 1) (q0 := 11) rfl rfl) rfl rfl hl.1 rfl (lv_room (Nat.le_of_ble_eq_true rfl)) dX1_read_84 ⟨Nat.zero_le _, Nat.zero_le _⟩) hS (caD hD) hA (fun r84 u_84 H locs q_84 hP hS => ?_)
      obtain ⟨g84, a84, w84⟩ := u_84
      have hV := hV r84 g84 a84 w84 q_84
      have hP : va_P D vwCl (caW ad cy g84 a84 w84) H := hP
      refine va_put (D := D) (ci := 1) (v := .int r84) (ty := .int) (C := RX1) (T := TX1) (N := 5) hx hb hts (by decide +kernel) tyX1 tyX1_ok nmX1 hown hK hP (caD hD) hS 11 rfl rfl 2 (by decide) (hts (.fieldLink RX1 29 "PowerRests$Item" "second" "I") (by decide +kernel)) (fun _ h9 => h9) rfl (by decide +kernel) rfl rfl (Nat.le_of_ble_eq_true rfl) dX1_read_87 (fun H locs hP _ hS => ?_)
      have hP : va_P D vwCl (caW ad cy (va_up g84 6 r84) a84 w84) H := hP
      refine lv_aload_n hx hb dX1_read_90 rfl (lv_at hl 0 rfl) ?_
      refine lv_aload_n hx hb dX1_read_91 rfl (lv_at hl 0 rfl) ?_
      refine lv_aload_n hx hb dX1_read_92 rfl (lv_at hl 1 rfl) ?_
      refine lv_bipush (v := (59 : Int32)) hx hb dX1_read_93 (by decide) ?_
      obtain ⟨h_95, hV⟩ := hV
      refine cw_i (va_runV (As := [.ref (ad 9), .int (59 : Int32)]) (rest := [.ref (ad 11)]) ⟨hx, hb, hml, hown, hts⟩ (spec_X1_number l D cy ad _ (va_up g84 6 r84) a84 w84 (59 : Int32) h_95) (cwV 2 hts gX1_read_X1_number rfl rfl rfl (by decide +kernel) ⟨Nat.le_of_ble_eq_true rfl, Nat.le_of_ble_eq_true rfl⟩) (ar_preV hN hK hP (caD hD) (ci := 1) (q0 := 11) rfl rfl) rfl rfl hl.1 rfl (lv_room (Nat.le_of_ble_eq_true rfl)) dX1_read_95 ⟨Nat.zero_le _, Nat.zero_le _⟩) hS (caD hD) hA (fun r95 u_95 H locs q_95 hP hS => ?_)
      obtain ⟨g95, a95, w95⟩ := u_95
      have hV := hV r95 g95 a95 w95 q_95
      have hP : va_P D vwCl (caW ad cy g95 a95 w95) H := hP
      refine va_put (D := D) (ci := 1) (v := .int r95) (ty := .int) (C := RX1) (T := TX1) (N := 5) hx hb hts (by decide +kernel) tyX1 tyX1_ok nmX1 hown hK hP (caD hD) hS 11 rfl rfl 3 (by decide) (hts (.fieldLink RX1 32 "PowerRests$Item" "by" "I") (by decide +kernel)) (fun _ h9 => h9) rfl (by decide +kernel) rfl rfl (Nat.le_of_ble_eq_true rfl) dX1_read_98 (fun H locs hP _ hS => ?_)
      have hP : va_P D vwCl (caW ad cy (va_up g95 7 r95) a95 w95) H := hP
      refine lv_aload_n hx hb dX1_read_101 rfl (lv_at hl 0 rfl) ?_
      refine va_get (D := D) (ci := 1) (v := .int (g95 5)) (C := RX1) (T := TX1) (N := 5) hx hb hts (by decide +kernel) hown hK hP 11 rfl rfl 1 (by decide) (hts (.fieldLink RX1 22 "PowerRests$Item" "first" "I") (by decide +kernel)) (fun _ h9 => h9) rfl dX1_read_102 ?_
      refine lv_if_lt (tgt := 144) hx hb dX1_read_105 (by decide) (fun c_105 => ?_) (fun c_105 => ?_)
      · have hV := hV.1 c_105
        refine lv_iconst (v := (0 : Int32)) hx hb dX1_read_144 (by decide) ?_
        exact W.zret (v := (0 : Int32)) hx hb hr rfl (fun t ht hW => ⟨⟨_, ((va_up g95 7 r95), a95, w95), rfl, hV, ar_heap ht hP⟩, hS.F ht⟩) hS.2.2 dX1_read_145
      · have hV := hV.2 c_105
        refine lv_aload_n hx hb dX1_read_108 rfl (lv_at hl 0 rfl) ?_
        refine va_get (D := D) (ci := 1) (v := .int (g95 6)) (C := RX1) (T := TX1) (N := 5) hx hb hts (by decide +kernel) hown hK hP 11 rfl rfl 2 (by decide) (hts (.fieldLink RX1 29 "PowerRests$Item" "second" "I") (by decide +kernel)) (fun _ h9 => h9) rfl dX1_read_109 ?_
        refine lv_if_lt (tgt := 144) hx hb dX1_read_112 (by decide) (fun c_112 => ?_) (fun c_112 => ?_)
        · have hV := hV.1 c_112
          refine lv_iconst (v := (0 : Int32)) hx hb dX1_read_144 (by decide) ?_
          exact W.zret (v := (0 : Int32)) hx hb hr rfl (fun t ht hW => ⟨⟨_, ((va_up g95 7 r95), a95, w95), rfl, hV, ar_heap ht hP⟩, hS.F ht⟩) hS.2.2 dX1_read_145
        · have hV := hV.2 c_112
          refine lv_aload_n hx hb dX1_read_115 rfl (lv_at hl 0 rfl) ?_
          refine va_get (D := D) (ci := 1) (v := .int r95) (C := RX1) (T := TX1) (N := 5) hx hb hts (by decide +kernel) hown hK hP 11 rfl rfl 3 (by decide) (hts (.fieldLink RX1 32 "PowerRests$Item" "by" "I") (by decide +kernel)) (fun _ h9 => h9) rfl dX1_read_116 ?_
          refine lv_iconst (v := (2 : Int32)) hx hb dX1_read_119 (by decide) ?_
          refine lv_icmp_lt (tgt := 144) hx hb dX1_read_120 (by decide) (fun c_120 => ?_) (fun c_120 => ?_)
          · have hV := hV.1 c_120
            refine lv_iconst (v := (0 : Int32)) hx hb dX1_read_144 (by decide) ?_
            exact W.zret (v := (0 : Int32)) hx hb hr rfl (fun t ht hW => ⟨⟨_, ((va_up g95 7 r95), a95, w95), rfl, hV, ar_heap ht hP⟩, hS.F ht⟩) hS.2.2 dX1_read_145
          · have hV := hV.2 c_120
            refine lv_aload_n hx hb dX1_read_123 rfl (lv_at hl 0 rfl) ?_
            refine va_get (D := D) (ci := 1) (v := .int r95) (C := RX1) (T := TX1) (N := 5) hx hb hts (by decide +kernel) hown hK hP 11 rfl rfl 3 (by decide) (hts (.fieldLink RX1 32 "PowerRests$Item" "by" "I") (by decide +kernel)) (fun _ h9 => h9) rfl dX1_read_124 ?_
            refine lv_sipush (v := (200 : Int32)) hx hb dX1_read_127 (by decide) ?_
            refine lv_icmp_gt (tgt := 144) hx hb dX1_read_130 (by decide) (fun c_130 => ?_) (fun c_130 => ?_)
            · have hV := hV.1 c_130
              refine lv_iconst (v := (0 : Int32)) hx hb dX1_read_144 (by decide) ?_
              exact W.zret (v := (0 : Int32)) hx hb hr rfl (fun t ht hW => ⟨⟨_, ((va_up g95 7 r95), a95, w95), rfl, hV, ar_heap ht hP⟩, hS.F ht⟩) hS.2.2 dX1_read_145
            · have hV := hV.2 c_130
              refine lv_aload_n hx hb dX1_read_133 rfl (lv_at hl 0 rfl) ?_
              obtain ⟨h_134, hV⟩ := hV
              refine cp_i (va_runV (As := []) (rest := []) ⟨hx, hb, hml, hown, hts⟩ (spec_X1_isInBounds l D cy ad _ (va_up g95 7 r95) a95 w95 h_134) (cwV 0 hts gX1_read_X1_isInBounds rfl rfl rfl (by decide +kernel) ⟨Nat.le_of_ble_eq_true rfl, Nat.le_of_ble_eq_true rfl⟩) (ar_preV hN hK hP (caD hD) (ci := 1) (q0 := 11) rfl rfl) rfl rfl hl.1 rfl (lv_room (Nat.le_of_ble_eq_true rfl)) dX1_read_134 ⟨Nat.zero_le _, Nat.zero_le _⟩) (fun r134 q_134 => ?_)
              have hV := hV r134 q_134
              refine lv_if_eq (tgt := 144) hx hb dX1_read_137 (by decide) (fun c_137 => ?_) (fun c_137 => ?_)
              · have hV := hV.1 c_137
                refine lv_iconst (v := (0 : Int32)) hx hb dX1_read_144 (by decide) ?_
                exact W.zret (v := (0 : Int32)) hx hb hr rfl (fun t ht hW => ⟨⟨_, ((va_up g95 7 r95), a95, w95), rfl, hV, ar_heap ht hP⟩, hS.F ht⟩) hS.2.2 dX1_read_145
              · have hV := hV.2 c_137
                refine lv_iconst (v := (1 : Int32)) hx hb dX1_read_140 (by decide) ?_
                refine lv_goto (tgt := 145) hx hb dX1_read_141 (by decide) ?_
                exact W.zret (v := (1 : Int32)) hx hb hr rfl (fun t ht hW => ⟨⟨_, ((va_up g95 7 r95), a95, w95), rfl, hV, ar_heap ht hP⟩, hS.F ht⟩) hS.2.2 dX1_read_145
    · have hV := hV.2 c_65
      refine lv_aload_n hx hb dX1_read_68 rfl (lv_at hl 0 rfl) ?_
      refine lv_aload_n hx hb dX1_read_69 rfl (lv_at hl 0 rfl) ?_
      refine lv_aload_n hx hb dX1_read_70 rfl (lv_at hl 1 rfl) ?_
      refine lv_bipush (v := (44 : Int32)) hx hb dX1_read_71 (by decide) ?_
      obtain ⟨h_73, hV⟩ := hV
      refine cw_i (va_runV (As := [.ref (ad 9), .int (44 : Int32)]) (rest := [.ref (ad 11)]) ⟨hx, hb, hml, hown, hts⟩ (spec_X1_number l D cy ad _ g_ a_ w_ (44 : Int32) h_73) (cwV 2 hts gX1_read_X1_number rfl rfl rfl (by decide +kernel) ⟨Nat.le_of_ble_eq_true rfl, Nat.le_of_ble_eq_true rfl⟩) (ar_preV hN hK hP (caD hD) (ci := 1) (q0 := 11) rfl rfl) rfl rfl hl.1 rfl (lv_room (Nat.le_of_ble_eq_true rfl)) dX1_read_73 ⟨Nat.zero_le _, Nat.zero_le _⟩) hS (caD hD) hA (fun r73 u_73 H locs q_73 hP hS => ?_)
      obtain ⟨g73, a73, w73⟩ := u_73
      have hV := hV r73 g73 a73 w73 q_73
      have hP : va_P D vwCl (caW ad cy g73 a73 w73) H := hP
      refine va_put (D := D) (ci := 1) (v := .int r73) (ty := .int) (C := RX1) (T := TX1) (N := 5) hx hb hts (by decide +kernel) tyX1 tyX1_ok nmX1 hown hK hP (caD hD) hS 11 rfl rfl 1 (by decide) (hts (.fieldLink RX1 22 "PowerRests$Item" "first" "I") (by decide +kernel)) (fun _ h9 => h9) rfl (by decide +kernel) rfl rfl (Nat.le_of_ble_eq_true rfl) dX1_read_76 (fun H locs hP _ hS => ?_)
      have hP : va_P D vwCl (caW ad cy (va_up g73 5 r73) a73 w73) H := hP
      refine lv_aload_n hx hb dX1_read_79 rfl (lv_at hl 0 rfl) ?_
      refine lv_aload_n hx hb dX1_read_80 rfl (lv_at hl 0 rfl) ?_
      refine lv_aload_n hx hb dX1_read_81 rfl (lv_at hl 1 rfl) ?_
      refine lv_bipush (v := (44 : Int32)) hx hb dX1_read_82 (by decide) ?_
      obtain ⟨h_84, hV⟩ := hV
      refine cw_i (va_runV (As := [.ref (ad 9), .int (44 : Int32)]) (rest := [.ref (ad 11)]) ⟨hx, hb, hml, hown, hts⟩ (spec_X1_number l D cy ad _ (va_up g73 5 r73) a73 w73 (44 : Int32) h_84) (cwV 2 hts gX1_read_X1_number rfl rfl rfl (by decide +kernel) ⟨Nat.le_of_ble_eq_true rfl, Nat.le_of_ble_eq_true rfl⟩) (ar_preV hN hK hP (caD hD) (ci := 1) (q0 := 11) rfl rfl) rfl rfl hl.1 rfl (lv_room (Nat.le_of_ble_eq_true rfl)) dX1_read_84 ⟨Nat.zero_le _, Nat.zero_le _⟩) hS (caD hD) hA (fun r84 u_84 H locs q_84 hP hS => ?_)
      obtain ⟨g84, a84, w84⟩ := u_84
      have hV := hV r84 g84 a84 w84 q_84
      have hP : va_P D vwCl (caW ad cy g84 a84 w84) H := hP
      refine va_put (D := D) (ci := 1) (v := .int r84) (ty := .int) (C := RX1) (T := TX1) (N := 5) hx hb hts (by decide +kernel) tyX1 tyX1_ok nmX1 hown hK hP (caD hD) hS 11 rfl rfl 2 (by decide) (hts (.fieldLink RX1 29 "PowerRests$Item" "second" "I") (by decide +kernel)) (fun _ h9 => h9) rfl (by decide +kernel) rfl rfl (Nat.le_of_ble_eq_true rfl) dX1_read_87 (fun H locs hP _ hS => ?_)
      have hP : va_P D vwCl (caW ad cy (va_up g84 6 r84) a84 w84) H := hP
      refine lv_aload_n hx hb dX1_read_90 rfl (lv_at hl 0 rfl) ?_
      refine lv_aload_n hx hb dX1_read_91 rfl (lv_at hl 0 rfl) ?_
      refine lv_aload_n hx hb dX1_read_92 rfl (lv_at hl 1 rfl) ?_
      refine lv_bipush (v := (59 : Int32)) hx hb dX1_read_93 (by decide) ?_
      obtain ⟨h_95, hV⟩ := hV
      refine cw_i (va_runV (As := [.ref (ad 9), .int (59 : Int32)]) (rest := [.ref (ad 11)]) ⟨hx, hb, hml, hown, hts⟩ (spec_X1_number l D cy ad _ (va_up g84 6 r84) a84 w84 (59 : Int32) h_95) (cwV 2 hts gX1_read_X1_number rfl rfl rfl (by decide +kernel) ⟨Nat.le_of_ble_eq_true rfl, Nat.le_of_ble_eq_true rfl⟩) (ar_preV hN hK hP (caD hD) (ci := 1) (q0 := 11) rfl rfl) rfl rfl hl.1 rfl (lv_room (Nat.le_of_ble_eq_true rfl)) dX1_read_95 ⟨Nat.zero_le _, Nat.zero_le _⟩) hS (caD hD) hA (fun r95 u_95 H locs q_95 hP hS => ?_)
      obtain ⟨g95, a95, w95⟩ := u_95
      have hV := hV r95 g95 a95 w95 q_95
      have hP : va_P D vwCl (caW ad cy g95 a95 w95) H := hP
      refine va_put (D := D) (ci := 1) (v := .int r95) (ty := .int) (C := RX1) (T := TX1) (N := 5) hx hb hts (by decide +kernel) tyX1 tyX1_ok nmX1 hown hK hP (caD hD) hS 11 rfl rfl 3 (by decide) (hts (.fieldLink RX1 32 "PowerRests$Item" "by" "I") (by decide +kernel)) (fun _ h9 => h9) rfl (by decide +kernel) rfl rfl (Nat.le_of_ble_eq_true rfl) dX1_read_98 (fun H locs hP _ hS => ?_)
      have hP : va_P D vwCl (caW ad cy (va_up g95 7 r95) a95 w95) H := hP
      refine lv_aload_n hx hb dX1_read_101 rfl (lv_at hl 0 rfl) ?_
      refine va_get (D := D) (ci := 1) (v := .int (g95 5)) (C := RX1) (T := TX1) (N := 5) hx hb hts (by decide +kernel) hown hK hP 11 rfl rfl 1 (by decide) (hts (.fieldLink RX1 22 "PowerRests$Item" "first" "I") (by decide +kernel)) (fun _ h9 => h9) rfl dX1_read_102 ?_
      refine lv_if_lt (tgt := 144) hx hb dX1_read_105 (by decide) (fun c_105 => ?_) (fun c_105 => ?_)
      · have hV := hV.1 c_105
        refine lv_iconst (v := (0 : Int32)) hx hb dX1_read_144 (by decide) ?_
        exact W.zret (v := (0 : Int32)) hx hb hr rfl (fun t ht hW => ⟨⟨_, ((va_up g95 7 r95), a95, w95), rfl, hV, ar_heap ht hP⟩, hS.F ht⟩) hS.2.2 dX1_read_145
      · have hV := hV.2 c_105
        refine lv_aload_n hx hb dX1_read_108 rfl (lv_at hl 0 rfl) ?_
        refine va_get (D := D) (ci := 1) (v := .int (g95 6)) (C := RX1) (T := TX1) (N := 5) hx hb hts (by decide +kernel) hown hK hP 11 rfl rfl 2 (by decide) (hts (.fieldLink RX1 29 "PowerRests$Item" "second" "I") (by decide +kernel)) (fun _ h9 => h9) rfl dX1_read_109 ?_
        refine lv_if_lt (tgt := 144) hx hb dX1_read_112 (by decide) (fun c_112 => ?_) (fun c_112 => ?_)
        · have hV := hV.1 c_112
          refine lv_iconst (v := (0 : Int32)) hx hb dX1_read_144 (by decide) ?_
          exact W.zret (v := (0 : Int32)) hx hb hr rfl (fun t ht hW => ⟨⟨_, ((va_up g95 7 r95), a95, w95), rfl, hV, ar_heap ht hP⟩, hS.F ht⟩) hS.2.2 dX1_read_145
        · have hV := hV.2 c_112
          refine lv_aload_n hx hb dX1_read_115 rfl (lv_at hl 0 rfl) ?_
          refine va_get (D := D) (ci := 1) (v := .int r95) (C := RX1) (T := TX1) (N := 5) hx hb hts (by decide +kernel) hown hK hP 11 rfl rfl 3 (by decide) (hts (.fieldLink RX1 32 "PowerRests$Item" "by" "I") (by decide +kernel)) (fun _ h9 => h9) rfl dX1_read_116 ?_
          refine lv_iconst (v := (2 : Int32)) hx hb dX1_read_119 (by decide) ?_
          refine lv_icmp_lt (tgt := 144) hx hb dX1_read_120 (by decide) (fun c_120 => ?_) (fun c_120 => ?_)
          · have hV := hV.1 c_120
            refine lv_iconst (v := (0 : Int32)) hx hb dX1_read_144 (by decide) ?_
            exact W.zret (v := (0 : Int32)) hx hb hr rfl (fun t ht hW => ⟨⟨_, ((va_up g95 7 r95), a95, w95), rfl, hV, ar_heap ht hP⟩, hS.F ht⟩) hS.2.2 dX1_read_145
          · have hV := hV.2 c_120
            refine lv_aload_n hx hb dX1_read_123 rfl (lv_at hl 0 rfl) ?_
            refine va_get (D := D) (ci := 1) (v := .int r95) (C := RX1) (T := TX1) (N := 5) hx hb hts (by decide +kernel) hown hK hP 11 rfl rfl 3 (by decide) (hts (.fieldLink RX1 32 "PowerRests$Item" "by" "I") (by decide +kernel)) (fun _ h9 => h9) rfl dX1_read_124 ?_
            refine lv_sipush (v := (200 : Int32)) hx hb dX1_read_127 (by decide) ?_
            refine lv_icmp_gt (tgt := 144) hx hb dX1_read_130 (by decide) (fun c_130 => ?_) (fun c_130 => ?_)
            · have hV := hV.1 c_130
              refine lv_iconst (v := (0 : Int32)) hx hb dX1_read_144 (by decide) ?_
              exact W.zret (v := (0 : Int32)) hx hb hr rfl (fun t ht hW => ⟨⟨_, ((va_up g95 7 r95), a95, w95), rfl, hV, ar_heap ht hP⟩, hS.F ht⟩) hS.2.2 dX1_read_145
            · have hV := hV.2 c_130
              refine lv_aload_n hx hb dX1_read_133 rfl (lv_at hl 0 rfl) ?_
              obtain ⟨h_134, hV⟩ := hV
              refine cp_i (va_runV (As := []) (rest := []) ⟨hx, hb, hml, hown, hts⟩ (spec_X1_isInBounds l D cy ad _ (va_up g95 7 r95) a95 w95 h_134) (cwV 0 hts gX1_read_X1_isInBounds rfl rfl rfl (by decide +kernel) ⟨Nat.le_of_ble_eq_true rfl, Nat.le_of_ble_eq_true rfl⟩) (ar_preV hN hK hP (caD hD) (ci := 1) (q0 := 11) rfl rfl) rfl rfl hl.1 rfl (lv_room (Nat.le_of_ble_eq_true rfl)) dX1_read_134 ⟨Nat.zero_le _, Nat.zero_le _⟩) (fun r134 q_134 => ?_)
              have hV := hV r134 q_134
              refine lv_if_eq (tgt := 144) hx hb dX1_read_137 (by decide) (fun c_137 => ?_) (fun c_137 => ?_)
              · have hV := hV.1 c_137
                refine lv_iconst (v := (0 : Int32)) hx hb dX1_read_144 (by decide) ?_
                exact W.zret (v := (0 : Int32)) hx hb hr rfl (fun t ht hW => ⟨⟨_, ((va_up g95 7 r95), a95, w95), rfl, hV, ar_heap ht hP⟩, hS.F ht⟩) hS.2.2 dX1_read_145
              · have hV := hV.2 c_137
                refine lv_iconst (v := (1 : Int32)) hx hb dX1_read_140 (by decide) ?_
                refine lv_goto (tgt := 145) hx hb dX1_read_141 (by decide) ?_
                exact W.zret (v := (1 : Int32)) hx hb hr rfl (fun t ht hW => ⟨⟨_, ((va_up g95 7 r95), a95, w95), rfl, hV, ar_heap ht hP⟩, hS.F ht⟩) hS.2.2 dX1_read_145)
  have hl := lv_entry ([.ref (ad 11), .ref (ad 9), .int p1]) (n := 3) (Nat.le_of_ble_eq_true rfl)
  rw [lg_entry_eq]
  generalize (lg_sl ([.ref (ad 11), .ref (ad 9), .int p1]) ++ List.replicate (3 - (lg_sl ([.ref (ad 11), .ref (ad 9), .int p1])).length) Slot.unset).toArray = ls at hl ⊢
  have hl : lv_has ls 3 [(0, .ref (ad 11)), (1, .ref (ad 9)), (2, .int p1)] := hl
  refine lv_aload_n hx hb dX1_read_0 rfl (lv_at hl 0 rfl) ?_
  refine lv_aload_n hx hb dX1_read_1 rfl (lv_at hl 1 rfl) ?_
  refine lv_iload_n hx hb dX1_read_2 rfl (lv_at hl 2 rfl) ?_
  obtain ⟨h_3, hV⟩ := hV
  refine cp_i (va_runV (As := [.int p1]) (rest := [.ref (ad 11)]) ⟨hx, hb, hml, hown, hts⟩ (spec_X5_at l D cy ad _ g a w p1 h_3) (cwV 1 hts gX1_read_X5_at rfl rfl rfl (by decide +kernel) ⟨Nat.le_of_ble_eq_true rfl, Nat.le_of_ble_eq_true rfl⟩) (ar_preV hN hK hP (caD hD) (ci := 4) (q0 := 9) rfl rfl) rfl rfl hl.1 rfl (lv_room (Nat.le_of_ble_eq_true rfl)) dX1_read_3 ⟨Nat.zero_le _, Nat.zero_le _⟩) (fun r3 q_3 => ?_)
  have hV := hV r3 q_3
  refine va_put (D := D) (ci := 1) (v := .int r3) (ty := .int) (C := RX1) (T := TX1) (N := 5) hx hb hts (by decide +kernel) tyX1 tyX1_ok nmX1 hown hK hP (caD hD) hS 11 rfl rfl 0 (by decide) (hts (.fieldLink RX1 13 "PowerRests$Item" "letter" "I") (by decide +kernel)) (fun _ h9 => h9) rfl (by decide +kernel) rfl rfl (Nat.le_of_ble_eq_true rfl) dX1_read_6 (fun H locs hP _ hS => ?_)
  have hP : va_P D vwCl (caW ad cy (va_up g 4 r3) a w) H := hP
  refine lv_aload_n hx hb dX1_read_9 rfl (lv_at hl 0 rfl) ?_
  refine lv_iload_n hx hb dX1_read_10 rfl (lv_at hl 2 rfl) ?_
  refine lv_iconst (v := (1 : Int32)) hx hb dX1_read_11 (by decide) ?_
  refine lv_iadd hx hb dX1_read_12 ?_
  refine va_put (D := D) (ci := 1) (v := .int (p1 + (1 : Int32))) (ty := .int) (C := RX1) (T := TX1) (N := 5) hx hb hts (by decide +kernel) tyX1 tyX1_ok nmX1 hown hK hP (caD hD) hS 11 rfl rfl 4 (by decide) (hts (.fieldLink RX1 19 "PowerRests$Item" "end" "I") (by decide +kernel)) (fun _ h9 => h9) rfl (by decide +kernel) rfl rfl (Nat.le_of_ble_eq_true rfl) dX1_read_13 (fun H locs hP _ hS => ?_)
  have hP : va_P D vwCl (caW ad cy (va_up (va_up g 4 r3) 8 (p1 + (1 : Int32))) a w) H := hP
  refine lv_aload_n hx hb dX1_read_16 rfl (lv_at hl 0 rfl) ?_
  refine lv_iconst (v := (0 : Int32)) hx hb dX1_read_17 (by decide) ?_
  refine va_put (D := D) (ci := 1) (v := .int (0 : Int32)) (ty := .int) (C := RX1) (T := TX1) (N := 5) hx hb hts (by decide +kernel) tyX1 tyX1_ok nmX1 hown hK hP (caD hD) hS 11 rfl rfl 1 (by decide) (hts (.fieldLink RX1 22 "PowerRests$Item" "first" "I") (by decide +kernel)) (fun _ h9 => h9) rfl (by decide +kernel) rfl rfl (Nat.le_of_ble_eq_true rfl) dX1_read_18 (fun H locs hP _ hS => ?_)
  have hP : va_P D vwCl (caW ad cy (va_up (va_up (va_up g 4 r3) 5 (0 : Int32)) 8 (p1 + (1 : Int32))) a w) H := hP
  refine lv_aload_n hx hb dX1_read_21 rfl (lv_at hl 0 rfl) ?_
  refine va_get (D := D) (ci := 1) (v := .int r3) (C := RX1) (T := TX1) (N := 5) hx hb hts (by decide +kernel) hown hK hP 11 rfl rfl 0 (by decide) (hts (.fieldLink RX1 13 "PowerRests$Item" "letter" "I") (by decide +kernel)) (fun _ h9 => h9) rfl dX1_read_22 ?_
  refine lv_bipush (v := (108 : Int32)) hx hb dX1_read_25 (by decide) ?_
  refine lv_icmp_eq (tgt := 59) hx hb dX1_read_27 (by decide) (fun c_27 => ?_) (fun c_27 => ?_)
  · have hV := hV.1 c_27
    exact oJ59 _ _ _ hV _ _ hP hS _ (lv_sub hl [0, 1] rfl)
  · have hV := hV.2 c_27
    refine lv_aload_n hx hb dX1_read_30 rfl (lv_at hl 0 rfl) ?_
    refine va_get (D := D) (ci := 1) (v := .int r3) (C := RX1) (T := TX1) (N := 5) hx hb hts (by decide +kernel) hown hK hP 11 rfl rfl 0 (by decide) (hts (.fieldLink RX1 13 "PowerRests$Item" "letter" "I") (by decide +kernel)) (fun _ h9 => h9) rfl dX1_read_31 ?_
    refine lv_bipush (v := (112 : Int32)) hx hb dX1_read_34 (by decide) ?_
    refine lv_icmp_eq (tgt := 59) hx hb dX1_read_36 (by decide) (fun c_36 => ?_) (fun c_36 => ?_)
    · have hV := hV.1 c_36
      exact oJ59 _ _ _ hV _ _ hP hS _ (lv_sub hl [0, 1] rfl)
    · have hV := hV.2 c_36
      refine lv_aload_n hx hb dX1_read_39 rfl (lv_at hl 0 rfl) ?_
      refine va_get (D := D) (ci := 1) (v := .int r3) (C := RX1) (T := TX1) (N := 5) hx hb hts (by decide +kernel) hown hK hP 11 rfl rfl 0 (by decide) (hts (.fieldLink RX1 13 "PowerRests$Item" "letter" "I") (by decide +kernel)) (fun _ h9 => h9) rfl dX1_read_40 ?_
      refine lv_bipush (v := (110 : Int32)) hx hb dX1_read_43 (by decide) ?_
      refine lv_icmp_eq (tgt := 59) hx hb dX1_read_45 (by decide) (fun c_45 => ?_) (fun c_45 => ?_)
      · have hV := hV.1 c_45
        exact oJ59 _ _ _ hV _ _ hP hS _ (lv_sub hl [0, 1] rfl)
      · have hV := hV.2 c_45
        refine lv_aload_n hx hb dX1_read_48 rfl (lv_at hl 0 rfl) ?_
        refine va_get (D := D) (ci := 1) (v := .int r3) (C := RX1) (T := TX1) (N := 5) hx hb hts (by decide +kernel) hown hK hP 11 rfl rfl 0 (by decide) (hts (.fieldLink RX1 13 "PowerRests$Item" "letter" "I") (by decide +kernel)) (fun _ h9 => h9) rfl dX1_read_49 ?_
        refine lv_bipush (v := (98 : Int32)) hx hb dX1_read_52 (by decide) ?_
        refine lv_icmp_eq (tgt := 59) hx hb dX1_read_54 (by decide) (fun c_54 => ?_) (fun c_54 => ?_)
        · have hV := hV.1 c_54
          exact oJ59 _ _ _ hV _ _ hP hS _ (lv_sub hl [0, 1] rfl)
        · have hV := hV.2 c_54
          refine lv_iconst (v := (0 : Int32)) hx hb dX1_read_57 (by decide) ?_
          exact W.zret (v := (0 : Int32)) hx hb hr rfl (fun t ht hW => ⟨⟨_, ((va_up (va_up (va_up g 4 r3) 5 (0 : Int32)) 8 (p1 + (1 : Int32))), a, w), rfl, hV, ar_heap ht hP⟩, hS.F ht⟩) hS.2.2 dX1_read_58
def ReadAns (T : Nat → Nat) (L p : Nat) (r : Int32) (g' : Gs) : Prop := ((¬ ∃ q l f s b, It T L p q l f s b) ∧ r = 0) ∨ ∃ q l f s b, It T L p q l f s b ∧ r = 1 ∧ g' 4 = nI l ∧ g' 5 = nI f ∧ g' 6 = nI s ∧ g' 7 = nI b ∧ g' 8 = nI q
def post_X1_read (g : Gs) (a : As) (w : Ws) (p1 r : Int32) (g' : Gs) (a' : As) (w' : Ws) : Prop := (a' = a ∧ w' = w ∧ RdK g g') ∧ ReadAns (cT a) (cL g) (tn p1) r g'
set_option maxRecDepth 4000 in
theorem spec_X1_read (l : Launch) (D : va_G) (cy : Nat → ClassId) (ad : Nat → Nat) (sz : Nat) (g : Gs) (a : As) (w : Ws) (p1 : Int32) (hpre : pre_X1_read g a w p1) : Met l yX1_read wsX1_read ({ frames := 2, cells := 0, slots := 0, locals := 46 } : Room) (va_Pc [.ref (ad 11), .ref (ad 9), .int p1] (ArP D cy sz (caW ad cy g a w))) (va_Qi (fun (r : Int32) (u : Gs × As × Ws) => (post_X1_read g a w p1) r u.1 u.2.1 u.2.2) (fun u t => va_P D vwCl (caW ad cy u.1 u.2.1 u.2.2) t.heap) (va_A (caW ad cy g a w) sz)) 0 0 (va_A (caW ad cy g a w) sz) := by
  apply met_X1_read
  intro J59 h59
  obtain ⟨hT, h0, h1⟩ := hpre
  obtain ⟨p, hp, rfl, hp2⟩ := of_i h0
  have tnp : tn (nI p) = p := tn_nI hp
  unfold OkC at hT
  generalize hTd : cT a = T at *
  generalize hLd : cL g = L at *
  have hL := hT.1
  have no : ∀ g', (¬ ∃ q l f s b, It T L p q l f s b) → RdK g g' → post_X1_read g a w (nI p) 0 g' a w := fun g' h k => ⟨⟨rfl, rfl, k⟩, Or.inl ⟨by rw [hTd, hLd, tnp]; exact h, rfl⟩⟩
  have yes : ∀ g' q l f s b, It T L p q l f s b → RdK g g' → g' 4 = nI l → g' 5 = nI f → g' 6 = nI s → g' 7 = nI b → g' 8 = nI q → post_X1_read g a w (nI p) 1 g' a w := fun g' q l f s b h k e4 e5 e6 e7 e8 => ⟨⟨rfl, rfl, k⟩, Or.inr ⟨q, l, f, s, b, by rw [hTd, hLd, tnp]; exact h, rfl, e4, e5, e6, e7, e8⟩⟩
  -- what stands when all numbers are read
  have tail : ∀ (l : Nat) (gz : Gs) (B : Int32), l < 10000 → RdK g gz → gz 4 = nI l → (((¬ ∃ q l f s b, It T L p q l f s b) ∧ (gz 5 < 0 ∨ gz 6 < 0 ∨ B < 0)) ∨ ∃ q f s b, gz 5 = nI f ∧ gz 6 = nI s ∧ B = nI b ∧ gz 8 = nI q ∧ f < 10000 ∧ s < 10000 ∧ b < 10000 ∧ ((2 ≤ b ∧ b ≤ 200) ∧ InB l f s b → It T L p q l f s b) ∧ (∀ q' l' f' s' b', It T L p q' l' f' s' b' → b' = b ∧ (2 ≤ b ∧ b ≤ 200) ∧ InB l f s b)) →
      (((gz 5) < 0 → post_X1_read g a w (nI p) 0 (va_up gz 7 B) a w) ∧ (¬ (gz 5) < 0 → (((gz 6) < 0 → post_X1_read g a w (nI p) 0 (va_up gz 7 B) a w) ∧ (¬ (gz 6) < 0 → ((B < 2 → post_X1_read g a w (nI p) 0 (va_up gz 7 B) a w) ∧ (¬ B < 2 → ((200 < B → post_X1_read g a w (nI p) 0 (va_up gz 7 B) a w) ∧ (¬ 200 < B → pre_X1_isInBounds (va_up gz 7 B) a w ∧ ∀ r134 : Int32, post_X1_isInBounds (va_up gz 7 B) a w r134 → ((r134 = 0 → post_X1_read g a w (nI p) 0 (va_up gz 7 B) a w) ∧ (¬ r134 = 0 → post_X1_read g a w (nI p) 1 (va_up gz 7 B) a w)))))))))) := by
    intro l gz B hl hk e4 h
    have hk7 : RdK g (va_up gz 7 B) := hk.up (by decide) B
    rcases h with ⟨hno, hneg⟩ | ⟨q, f, s, b, e5, e6, rfl, e8, hf, hs, hb, hit, hun⟩
    · have n0 := no _ hno hk7
      refine ⟨fun _ => n0, fun z1 => ⟨fun _ => n0, fun z2 => ⟨fun _ => n0, fun z3 => ?_⟩⟩⟩
      rcases hneg with y | y | y
      · exact absurd y z1
      · exact absurd y z2
      · refine absurd ?_ z3
        rw [i_lt, Int32.toInt_zero] at y
        rw [i_lt]
        have : (2 : Int32).toInt = 2 := rfl
        omega
    · rw [e5, e6]
      have u4 : va_up gz 7 (nI b) 4 = nI l := by rw [up_n _ _ (by decide)]; exact e4
      have u5 : va_up gz 7 (nI b) 5 = nI f := by rw [up_n _ _ (by decide)]; exact e5
      have u6 : va_up gz 7 (nI b) 6 = nI s := by rw [up_n _ _ (by decide)]; exact e6
      have u7 : va_up gz 7 (nI b) 7 = nI b := up_0 _ _ _
      have u8 : va_up gz 7 (nI b) 8 = nI q := by rw [up_n _ _ (by decide)]; exact e8
      refine ⟨fun z => absurd z (nI_pos (by omega)), fun _ => ⟨fun z => absurd z (nI_pos (by omega)), fun _ => pk_lt b 2 (fun z => no _ (fun ⟨q', l', f', s', b', y⟩ => by have := (hun q' l' f' s' b' y).2.1; omega) hk7) (fun z => pk_lt 200 b (fun z2 => no _ (fun ⟨q', l', f', s', b', y⟩ => by have := (hun q' l' f' s' b' y).2.1; omega) hk7) (fun z2 => ⟨⟨l, f, s, b, ⟨u4, u5, u6, u7⟩, hl, hf, hs, hb⟩, fun r hr => ?_⟩))⟩⟩
      have := hr l f s b u4 u5 u6 u7 hl hf hs hb
      subst this
      exact ⟨fun y => no _ (fun ⟨q', l', f', s', b', x⟩ => zb_0 y (hun q' l' f' s' b' x).2.2) hk7, fun y => yes _ q l f s b (hit ⟨⟨z, z2⟩, zb_1 y⟩) hk7 u4 u5 u6 u7 u8⟩
  have m1 : (-1 : Int32) < 0 := by decide
  have i44 : tn (44 : Int32) = 44 := rfl
  have i59 : tn (59 : Int32) = 59 := rfl
  have eb : ∀ {p c r e}, p ≤ 280 → NumAns T L p c r e → e ≤ p + 6 := fun {p c r e} hp h => by
    rcases h with ⟨q, v, h1, h2, h3⟩ | ⟨h1, h2, h3⟩
    · have := h1.1.b; omega
    · exact h3
  have main : ∀ l, l < 10000 → p < L → l = T p → Let4 l → J59 (va_up (va_up (va_up g 4 (nI l)) 5 0) 8 (nI (p + 1))) a w := by
    intro l hl hpL hlT hlet
    have k0 : RdK g (va_up (va_up (va_up g 4 (nI l)) 5 0) 8 (nI (p + 1))) := ((RdK.rf.up (by decide) _).up (by decide) _).up (by decide) _
    have e4 : (va_up (va_up (va_up g 4 (nI l)) 5 0) 8 (nI (p + 1))) 4 = nI l := by rw [up_n _ _ (by decide), up_n _ _ (by decide), up_0]
    have e5 : (va_up (va_up (va_up g 4 (nI l)) 5 0) 8 (nI (p + 1))) 5 = 0 := by rw [up_n _ _ (by decide), up_0]
    have e8 : (va_up (va_up (va_up g 4 (nI l)) 5 0) 8 (nI (p + 1))) 8 = nI (p + 1) := up_0 _ _ _
    generalize va_up (va_up (va_up g 4 (nI l)) 5 0) 8 (nI (p + 1)) = gb at *
    refine h59 _ _ _ ?_
    rw [e4]
    refine pk_eq l 110 (fun h => ?_) (fun h => ?_) rfl rfl (by omega) (by omega)
    · refine ⟨⟨⟨T, L, k0.tx hT⟩, ⟨p + 1, by omega, e8⟩, by decide⟩, fun r84 g84 a84 w84 hr84 => ?_⟩
      obtain ⟨rfl, rfl, x1, rfl, hn1⟩ := hr84
      have nn1 := hn1 T L (p + 1) (k0.tx hT) (by omega) e8
      clear hn1
      rw [i44] at nn1
      have hx1 := eb (by omega) nn1
      have k1 : RdK g (va_up (va_up gb 8 (nI x1)) 6 r84) := (k0.up (by decide) _).up (by decide) _
      have f8 : (va_up (va_up gb 8 (nI x1)) 6 r84) 8 = nI x1 := by rw [up_n _ _ (by decide), up_0]
      refine ⟨⟨⟨T, L, k1.tx hT⟩, ⟨x1, by omega, f8⟩, by decide⟩, fun r95 g95 a95 w95 hr95 => ?_⟩
      obtain ⟨rfl, rfl, x2, rfl, hn2⟩ := hr95
      have nn2 := hn2 T L x1 (k1.tx hT) (by omega) f8
      clear hn2
      rw [i59] at nn2
      have k2 : RdK g (va_up (va_up (va_up gb 8 (nI x1)) 6 r84) 8 (nI x2)) := k1.up (by decide) _
      have g4 : (va_up (va_up (va_up gb 8 (nI x1)) 6 r84) 8 (nI x2)) 4 = nI l := by rw [up_n _ _ (by decide), up_n _ _ (by decide), up_n _ _ (by decide)]; exact e4
      have g5 : (va_up (va_up (va_up gb 8 (nI x1)) 6 r84) 8 (nI x2)) 5 = 0 := by rw [up_n _ _ (by decide), up_n _ _ (by decide), up_n _ _ (by decide)]; exact e5
      have g6 : (va_up (va_up (va_up gb 8 (nI x1)) 6 r84) 8 (nI x2)) 6 = r84 := by rw [up_n _ _ (by decide), up_0]
      have g8 : (va_up (va_up (va_up gb 8 (nI x1)) 6 r84) 8 (nI x2)) 8 = nI x2 := up_0 _ _ _
      refine tail l _ r95 hl k2 g4 ?_
      rw [g5, g6, g8]
      have parse : ∀ q' l' f' s' b', It T L p q' l' f' s' b' → l' = l ∧ f' = 0 ∧ ∃ q2, NumC T L (p + 1) 44 q2 s' ∧ ∃ q3, NumC T L (q2 + 1) 59 q3 b' := by
        rintro q' l' f' s' b' ⟨-, z2, -, ⟨q1, y1, q2, y2, q3, y3, -⟩, -⟩
        have : l' = l := z2.trans hlT.symm
        subst this
        rcases y1 with ⟨-, x2, x3⟩ | ⟨x1, -⟩
        · subst x2; exact ⟨rfl, x3, q2, y2, q3, y3⟩
        · exact absurd h x1
      rcases nn1 with ⟨q2, s, c1, rfl, rfl⟩ | ⟨c1, rfl, -⟩
      · rcases nn2 with ⟨q3, b, c2, rfl, rfl⟩ | ⟨c2, rfl, -⟩
        · have bs := c1.1.b
          have bb := c2.1.b
          refine Or.inr ⟨q3 + 1, 0, s, b, rfl, rfl, rfl, rfl, by omega, by omega, by omega, fun z => ⟨hpL, hlT, hlet, ⟨p, Or.inl ⟨h, rfl, rfl⟩, q2, c1, q3, c2, rfl⟩, z⟩, fun q' l' f' s' b' z => ?_⟩
          obtain ⟨rfl, rfl, r2, y2, r3, y3⟩ := parse _ _ _ _ _ z
          obtain ⟨rfl, rfl⟩ := c1.one y2
          obtain ⟨rfl, rfl⟩ := c2.one y3
          exact ⟨rfl, z.2.2.2.2⟩
        · refine Or.inl ⟨fun ⟨q', l', f', s', b', z⟩ => ?_, Or.inr (Or.inr m1)⟩
          obtain ⟨rfl, rfl, r2, y2, r3, y3⟩ := parse _ _ _ _ _ z
          obtain ⟨rfl, rfl⟩ := c1.one y2
          exact c2 ⟨r3, b', y3⟩
      · refine Or.inl ⟨fun ⟨q', l', f', s', b', z⟩ => ?_, Or.inr (Or.inl m1)⟩
        obtain ⟨rfl, rfl, r2, y2, r3, y3⟩ := parse _ _ _ _ _ z
        exact c1 ⟨r2, s', y2⟩
    · refine ⟨⟨⟨T, L, k0.tx hT⟩, ⟨p + 1, by omega, e8⟩, by decide⟩, fun r73 g73 a73 w73 hr73 => ?_⟩
      obtain ⟨rfl, rfl, x0, rfl, hn0⟩ := hr73
      have nn0 := hn0 T L (p + 1) (k0.tx hT) (by omega) e8
      clear hn0
      rw [i44] at nn0
      have hx0 := eb (by omega) nn0
      have k01 : RdK g (va_up (va_up gb 8 (nI x0)) 5 r73) := (k0.up (by decide) _).up (by decide) _
      have f81 : (va_up (va_up gb 8 (nI x0)) 5 r73) 8 = nI x0 := by rw [up_n _ _ (by decide), up_0]
      have f41 : (va_up (va_up gb 8 (nI x0)) 5 r73) 4 = nI l := by rw [up_n _ _ (by decide), up_n _ _ (by decide)]; exact e4
      have f51 : (va_up (va_up gb 8 (nI x0)) 5 r73) 5 = r73 := up_0 _ _ _
      generalize va_up (va_up gb 8 (nI x0)) 5 r73 = gc at *
      refine ⟨⟨⟨T, L, k01.tx hT⟩, ⟨x0, by omega, f81⟩, by decide⟩, fun r84 g84 a84 w84 hr84 => ?_⟩
      obtain ⟨rfl, rfl, x1, rfl, hn1⟩ := hr84
      have nn1 := hn1 T L x0 (k01.tx hT) (by omega) f81
      clear hn1
      rw [i44] at nn1
      have hx1 := eb (by omega) nn1
      have k1 : RdK g (va_up (va_up gc 8 (nI x1)) 6 r84) := (k01.up (by decide) _).up (by decide) _
      have f8 : (va_up (va_up gc 8 (nI x1)) 6 r84) 8 = nI x1 := by rw [up_n _ _ (by decide), up_0]
      refine ⟨⟨⟨T, L, k1.tx hT⟩, ⟨x1, by omega, f8⟩, by decide⟩, fun r95 g95 a95 w95 hr95 => ?_⟩
      obtain ⟨rfl, rfl, x2, rfl, hn2⟩ := hr95
      have nn2 := hn2 T L x1 (k1.tx hT) (by omega) f8
      clear hn2
      rw [i59] at nn2
      have k2 : RdK g (va_up (va_up (va_up gc 8 (nI x1)) 6 r84) 8 (nI x2)) := k1.up (by decide) _
      have g4 : (va_up (va_up (va_up gc 8 (nI x1)) 6 r84) 8 (nI x2)) 4 = nI l := by rw [up_n _ _ (by decide), up_n _ _ (by decide), up_n _ _ (by decide)]; exact f41
      have g5 : (va_up (va_up (va_up gc 8 (nI x1)) 6 r84) 8 (nI x2)) 5 = r73 := by rw [up_n _ _ (by decide), up_n _ _ (by decide), up_n _ _ (by decide)]; exact f51
      have g6 : (va_up (va_up (va_up gc 8 (nI x1)) 6 r84) 8 (nI x2)) 6 = r84 := by rw [up_n _ _ (by decide), up_0]
      have g8 : (va_up (va_up (va_up gc 8 (nI x1)) 6 r84) 8 (nI x2)) 8 = nI x2 := up_0 _ _ _
      refine tail l _ r95 hl k2 g4 ?_
      rw [g5, g6, g8]
      have parse : ∀ q' l' f' s' b', It T L p q' l' f' s' b' → l' = l ∧ ∃ q1, NumC T L (p + 1) 44 q1 f' ∧ ∃ q2, NumC T L (q1 + 1) 44 q2 s' ∧ ∃ q3, NumC T L (q2 + 1) 59 q3 b' := by
        rintro q' l' f' s' b' ⟨-, z2, -, ⟨q1, y1, q2, y2, q3, y3, -⟩, -⟩
        have : l' = l := z2.trans hlT.symm
        subst this
        rcases y1 with ⟨x1, -, -⟩ | ⟨-, x2⟩
        · exact absurd x1 h
        · exact ⟨rfl, q1, x2, q2, y2, q3, y3⟩
      rcases nn0 with ⟨q1, f, c0, rfl, rfl⟩ | ⟨c0, rfl, -⟩
      · rcases nn1 with ⟨q2, s, c1, rfl, rfl⟩ | ⟨c1, rfl, -⟩
        · rcases nn2 with ⟨q3, b, c2, rfl, rfl⟩ | ⟨c2, rfl, -⟩
          · have bf := c0.1.b
            have bs := c1.1.b
            have bb := c2.1.b
            refine Or.inr ⟨q3 + 1, f, s, b, rfl, rfl, rfl, rfl, by omega, by omega, by omega, fun z => ⟨hpL, hlT, hlet, ⟨q1, Or.inr ⟨h, c0⟩, q2, c1, q3, c2, rfl⟩, z⟩, fun q' l' f' s' b' z => ?_⟩
            obtain ⟨rfl, r1, y1, r2, y2, r3, y3⟩ := parse _ _ _ _ _ z
            obtain ⟨rfl, rfl⟩ := c0.one y1
            obtain ⟨rfl, rfl⟩ := c1.one y2
            obtain ⟨rfl, rfl⟩ := c2.one y3
            exact ⟨rfl, z.2.2.2.2⟩
          · refine Or.inl ⟨fun ⟨q', l', f', s', b', z⟩ => ?_, Or.inr (Or.inr m1)⟩
            obtain ⟨rfl, r1, y1, r2, y2, r3, y3⟩ := parse _ _ _ _ _ z
            obtain ⟨rfl, rfl⟩ := c0.one y1
            obtain ⟨rfl, rfl⟩ := c1.one y2
            exact c2 ⟨r3, b', y3⟩
        · refine Or.inl ⟨fun ⟨q', l', f', s', b', z⟩ => ?_, Or.inr (Or.inl m1)⟩
          obtain ⟨rfl, r1, y1, r2, y2, r3, y3⟩ := parse _ _ _ _ _ z
          obtain ⟨rfl, rfl⟩ := c0.one y1
          exact c1 ⟨r2, s', y2⟩
      · refine Or.inl ⟨fun ⟨q', l', f', s', b', z⟩ => ?_, Or.inl m1⟩
        obtain ⟨rfl, r1, y1, r2, y2, r3, y3⟩ := parse _ _ _ _ _ z
        exact c0 ⟨r1, f', y1⟩
  refine ⟨⟨⟨T, L, hT⟩, h0⟩, fun r3 hr3 => ?_⟩
  have e3 := hr3 T L hT
  rw [tnp] at e3
  rw [nI_1]
  have kz : ∀ r, RdK g (va_up (va_up (va_up g 4 r) 5 0) 8 (nI (p + 1))) := fun r => ((RdK.rf.up (by decide) _).up (by decide) _).up (by decide) _
  unfold tAt at e3
  by_cases hpL : p < L
  · rw [if_pos hpL] at e3
    have hb := (hT.2.2 p hpL).1
    rw [e3]
    have mn := fun h => main (T p) (by omega) hpL rfl h
    refine pk_eq (T p) 108 (fun z => mn (Or.inl z)) (fun z => pk_eq (T p) 112 (fun z2 => mn (Or.inr (Or.inl z2))) (fun z2 => pk_eq (T p) 110 (fun z3 => mn (Or.inr (Or.inr (Or.inl z3)))) (fun z3 => pk_eq (T p) 98 (fun z4 => mn (Or.inr (Or.inr (Or.inr z4)))) (fun z4 => no _ (fun ⟨q', l', f', s', b', y⟩ => ?_) (kz _))))) rfl rfl (by omega) (by omega)
    obtain ⟨-, rfl, y2, -⟩ := y
    rcases y2 with y | y | y | y
    · exact z y
    · exact z2 y
    · exact z3 y
    · exact z4 y
  · rw [if_neg hpL] at e3
    subst e3
    refine ⟨fun z => absurd z (by decide), fun _ => ⟨fun z => absurd z (by decide), fun _ => ⟨fun z => absurd z (by decide), fun _ => ⟨fun z => absurd z (by decide), fun _ => no _ (fun ⟨q', l', f', s', b', y⟩ => hpL y.1) (kz _)⟩⟩⟩⟩
