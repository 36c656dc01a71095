/-! what is laid, the reference -/
abbrev mN (g : Gs) : Nat := tn (g 2)
abbrev mP (g : Gs) : Nat := tn (g 3)
abbrev ml (a : As) (k : Nat) : Nat := tn (a 1 k)
abbrev mf (a : As) (k : Nat) : Nat := tn (a 2 k)
abbrev ms (a : As) (k : Nat) : Nat := tn (a 3 k)
abbrev mb (a : As) (k : Nat) : Nat := tn (a 4 k)
noncomputable def mH (a : As) (k x : Nat) : Bool := cb (Hold (ml a k) (mf a k) (ms a k) (mb a k) x)
def LdM (g : Gs) (a : As) : Prop := (mN g ≤ 8 ∧ g 2 = nI (mN g)) ∧ (1 ≤ mP g ∧ mP g ≤ 2000000 ∧ g 3 = nI (mP g)) ∧ ∀ k, k < mN g → (a 1 k = nI (ml a k) ∧ a 2 k = nI (mf a k) ∧ a 3 k = nI (ms a k) ∧ a 4 k = nI (mb a k)) ∧ ml a k < 200 ∧ mf a k < 10000 ∧ ms a k < 200 ∧ (2 ≤ mb a k ∧ mb a k ≤ 200) ∧ (ml a k = 110 → mf a k = ms a k) ∧ mb a k ∣ mP g
theorem LdM.per {g : Gs} {a : As} (h : LdM g a) : Per (mN g) (mH a) (mP g) := fun k hk x y hxy => cb_iff (Hold_mod (md_dvd (h.2.2 k hk).2.2.2.2.2.2 hxy))
def pre_X7_holds (g : Gs) (a : As) (p0 p1 : Int32) : Prop := LdM g a ∧ (∃ k, k < mN g ∧ p0 = nI k) ∧ 0 ≤ p1.toInt
set_option maxHeartbeats 4000000 in
set_option maxRecDepth 100000 in
theorem met_X7_holds (l : Launch) (D : va_G) (cy : Nat → ClassId) (ad : Nat → Nat) (sz : Nat) (g : Gs) (a : As) (p0 : Int32) (p1 : Int32) (post : Int32 → Prop)
  (hV : vp_in p0 8 ∧ (¬ ((a 4) p0.toNatClampNeg) = 0 ∧ (vp_in p0 8 ∧ (((((a 1) p0.toNatClampNeg) = 108 → vp_in p0 8 ∧ (vp_in p0 8 ∧ (((((((a 2) p0.toNatClampNeg) * (p1 - p1 / ((a 4) p0.toNatClampNeg) * ((a 4) p0.toNatClampNeg))) - (((a 2) p0.toNatClampNeg) * (p1 - p1 / ((a 4) p0.toNatClampNeg) * ((a 4) p0.toNatClampNeg))) / ((a 4) p0.toNatClampNeg) * ((a 4) p0.toNatClampNeg)) = ((a 3) p0.toNatClampNeg) → post (1 : Int32)) ∧ (¬ ((((a 2) p0.toNatClampNeg) * (p1 - p1 / ((a 4) p0.toNatClampNeg) * ((a 4) p0.toNatClampNeg))) - (((a 2) p0.toNatClampNeg) * (p1 - p1 / ((a 4) p0.toNatClampNeg) * ((a 4) p0.toNatClampNeg))) / ((a 4) p0.toNatClampNeg) * ((a 4) p0.toNatClampNeg)) = ((a 3) p0.toNatClampNeg) → post (0 : Int32)))))) ∧ (((a 1) p0.toNatClampNeg) = 110 → vp_in p0 8 ∧ ((((p1 - p1 / ((a 4) p0.toNatClampNeg) * ((a 4) p0.toNatClampNeg)) = ((a 2) p0.toNatClampNeg) → post (0 : Int32)) ∧ (¬ (p1 - p1 / ((a 4) p0.toNatClampNeg) * ((a 4) p0.toNatClampNeg)) = ((a 2) p0.toNatClampNeg) → post (1 : Int32))))) ∧ (((a 1) p0.toNatClampNeg) = 112 → vp_in p0 8 ∧ (pre_X7_powerOf ((a 4) p0.toNatClampNeg) (p1 - p1 / ((a 4) p0.toNatClampNeg) * ((a 4) p0.toNatClampNeg)) (((a 2) p0.toNatClampNeg).toInt64) ∧ (∀ r88 : Int32, post_X7_powerOf ((a 4) p0.toNatClampNeg) (p1 - p1 / ((a 4) p0.toNatClampNeg) * ((a 4) p0.toNatClampNeg)) (((a 2) p0.toNatClampNeg).toInt64) r88 → vp_in p0 8 ∧ (((r88 = ((a 3) p0.toNatClampNeg) → post (1 : Int32)) ∧ (¬ r88 = ((a 3) p0.toNatClampNeg) → post (0 : Int32))))))) ∧ (¬ ((a 1) p0.toNatClampNeg) = 108 → ¬ ((a 1) p0.toNatClampNeg) = 110 → ¬ ((a 1) p0.toNatClampNeg) = 112 → vp_in p0 8 ∧ (vp_in p0 8 ∧ (∀ r140 : Int32, post_X7_in ((p1 - p1 / ((a 4) p0.toNatClampNeg) * ((a 4) p0.toNatClampNeg)).toInt64) (((a 2) p0.toNatClampNeg).toInt64) (((a 3) p0.toNatClampNeg).toInt64) r140 → (r140 = 0 ∨ r140 = 1) ∧ post r140)))))))) :
  Met l yX7_holds wsX7_holds ({ frames := 1, cells := 0, slots := 0, locals := 29 } : Room) (va_Pc [.ref (ad 0), .int p0, .int p1] (ArP D cy sz (maW ad cy g a))) (Qpi post) 0 0 noF := by
  refine Met.ofW (cc := cX7_holds) (maxL := 5) (ret := (some .boolean)) (by decide) rfl ?_
  intro p e s m args below meth c s₁ B hml hv
  obtain ⟨rfl, hsz, hP, hK, hD0, hN⟩ := hv
  have hx := B.exec
  have hb := B.bytes
  have hr := B.returns
  have hts := atoms_spec (ws := wsX7_holds) B.pre
  have hown : s.vm.findClass RX7 = some m.cls := findClass_of_methodNamed B.named
  have hlocks := B.notSynchronized
  subst hsz
  have hP : va_P D vwCl (maW ad cy g a) s.heap := hP
  have hD : va_D (fun _ => True) (maW ad cy g a) := hD0
  have hl := lv_entry ([.ref (ad 0), .int p0, .int p1]) (n := 5) (Nat.le_of_ble_eq_true rfl)
  rw [lg_entry_eq]
  generalize (lg_sl ([.ref (ad 0), .int p0, .int p1]) ++ List.replicate (5 - (lg_sl ([.ref (ad 0), .int p0, .int p1])).length) Slot.unset).toArray = ls at hl ⊢
  have hl : lv_has ls 5 [(0, .ref (ad 0)), (1, .int p0), (2, .int p1)] := hl
  refine lv_aload_n hx hb dX7_holds_0 rfl (lv_at hl 0 rfl) ?_
  refine va_get (D := D) (ci := 6) (v := .ref (ad 5)) (C := RX7) (T := TX7) (N := 18) hx hb hts (by decide +kernel) hown hK hP 0 rfl rfl 8 (by decide) (hts (.fieldLink RX7 27 "PowerRestsModel" "by" "[I") (by decide +kernel)) (fun _ h9 => h9) rfl dX7_holds_1 ?_
  refine lv_iload_n hx hb dX7_holds_4 rfl (lv_at hl 1 rfl) ?_
  obtain ⟨h_5, hV⟩ := hV
  refine va_iald (f := (a 4)) hx hb hK hP 5 0 rfl rfl h_5 dX7_holds_5 ?_
  refine lv_istore_n (lv' := [(3, .int ((a 4) p0.toNatClampNeg)), (0, .ref (ad 0)), (1, .int p0), (2, .int p1)]) hx hb dX7_holds_6 rfl hl (by decide) rfl (fun ls hl => ?_)
  refine lv_iload_n hx hb dX7_holds_7 rfl (lv_at hl 3 rfl) ?_
  refine lv_iload_n hx hb dX7_holds_8 rfl (lv_at hl 0 rfl) ?_
  obtain ⟨h_9, hV⟩ := hV
  refine lv_irem hx hb dX7_holds_9 h_9 ?_
  refine lv_istore (lv' := [(4, .int (p1 - p1 / ((a 4) p0.toNatClampNeg) * ((a 4) p0.toNatClampNeg))), (3, .int ((a 4) p0.toNatClampNeg)), (0, .ref (ad 0)), (1, .int p0), (2, .int p1)]) hx hb dX7_holds_10 hl (by decide) rfl (fun ls hl => ?_)
  refine lv_aload_n hx hb dX7_holds_12 rfl (lv_at hl 2 rfl) ?_
  refine va_get (D := D) (ci := 6) (v := .ref (ad 2)) (C := RX7) (T := TX7) (N := 18) hx hb hts (by decide +kernel) hown hK hP 0 rfl rfl 5 (by decide) (hts (.fieldLink RX7 17 "PowerRestsModel" "letter" "[I") (by decide +kernel)) (fun _ h9 => h9) rfl dX7_holds_13 ?_
  refine lv_iload_n hx hb dX7_holds_16 rfl (lv_at hl 3 rfl) ?_
  obtain ⟨h_17, hV⟩ := hV
  refine va_iald (f := (a 1)) hx hb hK hP 2 0 rfl rfl h_17 dX7_holds_17 ?_
  by_cases e_18_108 : ((a 1) p0.toNatClampNeg) = 108
  · refine lv_tableIn (off := 34) (tgt := 52) hx hb dX7_holds_18 (by rw [e_18_108]; decide) (by rw [e_18_108]; decide) (by rw [e_18_108]; decide) (by decide) ?_
    have hV := hV.1 e_18_108
    refine lv_aload_n hx hb dX7_holds_52 rfl (lv_at hl 2 rfl) ?_
    refine va_get (D := D) (ci := 6) (v := .ref (ad 3)) (C := RX7) (T := TX7) (N := 18) hx hb hts (by decide +kernel) hown hK hP 0 rfl rfl 6 (by decide) (hts (.fieldLink RX7 21 "PowerRestsModel" "first" "[I") (by decide +kernel)) (fun _ h9 => h9) rfl dX7_holds_53 ?_
    refine lv_iload_n hx hb dX7_holds_56 rfl (lv_at hl 3 rfl) ?_
    obtain ⟨h_57, hV⟩ := hV
    refine va_iald (f := (a 2)) hx hb hK hP 3 0 rfl rfl h_57 dX7_holds_57 ?_
    refine lv_iload hx hb dX7_holds_58 (lv_at hl 0 rfl) ?_
    refine lv_imul hx hb dX7_holds_60 ?_
    refine lv_iload_n hx hb dX7_holds_61 rfl (lv_at hl 1 rfl) ?_
    refine lv_irem hx hb dX7_holds_62 h_9 ?_
    refine lv_aload_n hx hb dX7_holds_63 rfl (lv_at hl 2 rfl) ?_
    refine va_get (D := D) (ci := 6) (v := .ref (ad 4)) (C := RX7) (T := TX7) (N := 18) hx hb hts (by decide +kernel) hown hK hP 0 rfl rfl 7 (by decide) (hts (.fieldLink RX7 24 "PowerRestsModel" "second" "[I") (by decide +kernel)) (fun _ h9 => h9) rfl dX7_holds_64 ?_
    refine lv_iload_n hx hb dX7_holds_67 rfl (lv_at hl 3 rfl) ?_
    obtain ⟨h_68, hV⟩ := hV
    refine va_iald (f := (a 3)) hx hb hK hP 4 0 rfl rfl h_68 dX7_holds_68 ?_
    refine lv_icmp_ne (tgt := 76) hx hb dX7_holds_69 (by decide) (fun c_69 => ?_) (fun c_69 => ?_)
    · have hV := hV.2 c_69
      refine lv_iconst (v := (0 : Int32)) hx hb dX7_holds_76 (by decide) ?_
      exact W.zret (v := (0 : Int32)) hx hb hr rfl (fun t ht hW => ⟨_, rfl, hV, ht⟩) (fun _ h => by cases h) dX7_holds_77
    · have hV := hV.1 c_69
      refine lv_iconst (v := (1 : Int32)) hx hb dX7_holds_72 (by decide) ?_
      refine lv_goto (tgt := 77) hx hb dX7_holds_73 (by decide) ?_
      exact W.zret (v := (1 : Int32)) hx hb hr rfl (fun t ht hW => ⟨_, rfl, hV, ht⟩) (fun _ h => by cases h) dX7_holds_77
  by_cases e_18_110 : ((a 1) p0.toNatClampNeg) = 110
  · refine lv_tableIn (off := 88) (tgt := 106) hx hb dX7_holds_18 (by rw [e_18_110]; decide) (by rw [e_18_110]; decide) (by rw [e_18_110]; decide) (by decide) ?_
    have hV := hV.2.1 e_18_110
    refine lv_iload hx hb dX7_holds_106 (lv_at hl 0 rfl) ?_
    refine lv_aload_n hx hb dX7_holds_108 rfl (lv_at hl 2 rfl) ?_
    refine va_get (D := D) (ci := 6) (v := .ref (ad 3)) (C := RX7) (T := TX7) (N := 18) hx hb hts (by decide +kernel) hown hK hP 0 rfl rfl 6 (by decide) (hts (.fieldLink RX7 21 "PowerRestsModel" "first" "[I") (by decide +kernel)) (fun _ h9 => h9) rfl dX7_holds_109 ?_
    refine lv_iload_n hx hb dX7_holds_112 rfl (lv_at hl 3 rfl) ?_
    obtain ⟨h_113, hV⟩ := hV
    refine va_iald (f := (a 2)) hx hb hK hP 3 0 rfl rfl h_113 dX7_holds_113 ?_
    refine lv_icmp_eq (tgt := 121) hx hb dX7_holds_114 (by decide) (fun c_114 => ?_) (fun c_114 => ?_)
    · have hV := hV.1 c_114
      refine lv_iconst (v := (0 : Int32)) hx hb dX7_holds_121 (by decide) ?_
      exact W.zret (v := (0 : Int32)) hx hb hr rfl (fun t ht hW => ⟨_, rfl, hV, ht⟩) (fun _ h => by cases h) dX7_holds_122
    · have hV := hV.2 c_114
      refine lv_iconst (v := (1 : Int32)) hx hb dX7_holds_117 (by decide) ?_
      refine lv_goto (tgt := 122) hx hb dX7_holds_118 (by decide) ?_
      exact W.zret (v := (1 : Int32)) hx hb hr rfl (fun t ht hW => ⟨_, rfl, hV, ht⟩) (fun _ h => by cases h) dX7_holds_122
  by_cases e_18_112 : ((a 1) p0.toNatClampNeg) = 112
  · refine lv_tableIn (off := 60) (tgt := 78) hx hb dX7_holds_18 (by rw [e_18_112]; decide) (by rw [e_18_112]; decide) (by rw [e_18_112]; decide) (by decide) ?_
    have hV := hV.2.2.1 e_18_112
    refine lv_iload_n hx hb dX7_holds_78 rfl (lv_at hl 1 rfl) ?_
    refine lv_iload hx hb dX7_holds_79 (lv_at hl 0 rfl) ?_
    refine lv_aload_n hx hb dX7_holds_81 rfl (lv_at hl 2 rfl) ?_
    refine va_get (D := D) (ci := 6) (v := .ref (ad 3)) (C := RX7) (T := TX7) (N := 18) hx hb hts (by decide +kernel) hown hK hP 0 rfl rfl 6 (by decide) (hts (.fieldLink RX7 21 "PowerRestsModel" "first" "[I") (by decide +kernel)) (fun _ h9 => h9) rfl dX7_holds_82 ?_
    refine lv_iload_n hx hb dX7_holds_85 rfl (lv_at hl 3 rfl) ?_
    obtain ⟨h_86, hV⟩ := hV
    refine va_iald (f := (a 2)) hx hb hK hP 3 0 rfl rfl h_86 dX7_holds_86 ?_
    refine lv_i2l (v := ((a 2) p0.toNatClampNeg).toInt64) hx hb dX7_holds_87 rfl ?_
    obtain ⟨h_88, hV⟩ := hV
    refine cp_i (va_runS (As := [.int ((a 4) p0.toNatClampNeg), .int (p1 - p1 / ((a 4) p0.toNatClampNeg) * ((a 4) p0.toNatClampNeg)), .long (((a 2) p0.toNatClampNeg).toInt64)]) (rest := []) ⟨hx, hb, hml, hown, hts⟩ (spec_X7_powerOf l ((a 4) p0.toNatClampNeg) (p1 - p1 / ((a 4) p0.toNatClampNeg) * ((a 4) p0.toNatClampNeg)) (((a 2) p0.toNatClampNeg).toInt64) h_88) (va_cwS 3 hts gX7_holds_X7_powerOf rfl rfl rfl (by decide +kernel) ⟨Nat.le_of_ble_eq_true rfl, Nat.le_of_ble_eq_true rfl⟩) cp_pre rfl rfl hl.1 rfl (lv_room (Nat.le_of_ble_eq_true rfl)) dX7_holds_88 ⟨Nat.zero_le _, Nat.zero_le _⟩) (fun r88 q_88 => ?_)
    have hV := hV r88 q_88
    refine lv_aload_n hx hb dX7_holds_91 rfl (lv_at hl 2 rfl) ?_
    refine va_get (D := D) (ci := 6) (v := .ref (ad 4)) (C := RX7) (T := TX7) (N := 18) hx hb hts (by decide +kernel) hown hK hP 0 rfl rfl 7 (by decide) (hts (.fieldLink RX7 24 "PowerRestsModel" "second" "[I") (by decide +kernel)) (fun _ h9 => h9) rfl dX7_holds_92 ?_
    refine lv_iload_n hx hb dX7_holds_95 rfl (lv_at hl 3 rfl) ?_
    obtain ⟨h_96, hV⟩ := hV
    refine va_iald (f := (a 3)) hx hb hK hP 4 0 rfl rfl h_96 dX7_holds_96 ?_
    refine lv_icmp_ne (tgt := 104) hx hb dX7_holds_97 (by decide) (fun c_97 => ?_) (fun c_97 => ?_)
    · have hV := hV.2 c_97
      refine lv_iconst (v := (0 : Int32)) hx hb dX7_holds_104 (by decide) ?_
      exact W.zret (v := (0 : Int32)) hx hb hr rfl (fun t ht hW => ⟨_, rfl, hV, ht⟩) (fun _ h => by cases h) dX7_holds_105
    · have hV := hV.1 c_97
      refine lv_iconst (v := (1 : Int32)) hx hb dX7_holds_100 (by decide) ?_
      refine lv_goto (tgt := 105) hx hb dX7_holds_101 (by decide) ?_
      exact W.zret (v := (1 : Int32)) hx hb hr rfl (fun t ht hW => ⟨_, rfl, hV, ht⟩) (fun _ h => by cases h) dX7_holds_105
  have hV := hV.2.2.2 e_18_108 e_18_110 e_18_112
  refine tb_default (tgt := 123) hx hb dX7_holds_18 (by decide) (gaps := [109, 111]) (by decide) (tb_mem 5 (by decide) (vs := [108, 110, 112]) (by decide) (List.forall_mem_cons.mpr ⟨tb_ne 108 (by decide) e_18_108, (List.forall_mem_cons.mpr ⟨tb_ne 110 (by decide) e_18_110, (List.forall_mem_cons.mpr ⟨tb_ne 112 (by decide) e_18_112, tb_nil⟩)⟩)⟩)) ?_
  refine lv_iload hx hb dX7_holds_123 (lv_at hl 0 rfl) ?_
  refine lv_i2l (v := (p1 - p1 / ((a 4) p0.toNatClampNeg) * ((a 4) p0.toNatClampNeg)).toInt64) hx hb dX7_holds_125 rfl ?_
  refine lv_aload_n hx hb dX7_holds_126 rfl (lv_at hl 2 rfl) ?_
  refine va_get (D := D) (ci := 6) (v := .ref (ad 3)) (C := RX7) (T := TX7) (N := 18) hx hb hts (by decide +kernel) hown hK hP 0 rfl rfl 6 (by decide) (hts (.fieldLink RX7 21 "PowerRestsModel" "first" "[I") (by decide +kernel)) (fun _ h9 => h9) rfl dX7_holds_127 ?_
  refine lv_iload_n hx hb dX7_holds_130 rfl (lv_at hl 3 rfl) ?_
  obtain ⟨h_131, hV⟩ := hV
  refine va_iald (f := (a 2)) hx hb hK hP 3 0 rfl rfl h_131 dX7_holds_131 ?_
  refine lv_i2l (v := ((a 2) p0.toNatClampNeg).toInt64) hx hb dX7_holds_132 rfl ?_
  refine lv_aload_n hx hb dX7_holds_133 rfl (lv_at hl 2 rfl) ?_
  refine va_get (D := D) (ci := 6) (v := .ref (ad 4)) (C := RX7) (T := TX7) (N := 18) hx hb hts (by decide +kernel) hown hK hP 0 rfl rfl 7 (by decide) (hts (.fieldLink RX7 24 "PowerRestsModel" "second" "[I") (by decide +kernel)) (fun _ h9 => h9) rfl dX7_holds_134 ?_
  refine lv_iload_n hx hb dX7_holds_137 rfl (lv_at hl 3 rfl) ?_
  obtain ⟨h_138, hV⟩ := hV
  refine va_iald (f := (a 3)) hx hb hK hP 4 0 rfl rfl h_138 dX7_holds_138 ?_
  refine lv_i2l (v := ((a 3) p0.toNatClampNeg).toInt64) hx hb dX7_holds_139 rfl ?_
  refine cp_i (va_runS (As := [.long ((p1 - p1 / ((a 4) p0.toNatClampNeg) * ((a 4) p0.toNatClampNeg)).toInt64), .long (((a 2) p0.toNatClampNeg).toInt64), .long (((a 3) p0.toNatClampNeg).toInt64)]) (rest := []) ⟨hx, hb, hml, hown, hts⟩ (spec_X7_in l ((p1 - p1 / ((a 4) p0.toNatClampNeg) * ((a 4) p0.toNatClampNeg)).toInt64) (((a 2) p0.toNatClampNeg).toInt64) (((a 3) p0.toNatClampNeg).toInt64)) (va_cwS 3 hts gX7_holds_X7_in rfl rfl rfl (by decide +kernel) ⟨Nat.le_of_ble_eq_true rfl, Nat.le_of_ble_eq_true rfl⟩) cp_pre rfl rfl hl.1 rfl (lv_room (Nat.le_of_ble_eq_true rfl)) dX7_holds_140 ⟨Nat.zero_le _, Nat.zero_le _⟩) (fun r140 q_140 => ?_)
  have hV := hV r140 q_140
  obtain ⟨h_143, hV⟩ := hV
  exact W.zret (v := r140) hx hb hr (zr_nar h_143) (fun t ht hW => ⟨_, rfl, hV, ht⟩) (fun _ h => by cases h) dX7_holds_143
def post_X7_holds (g : Gs) (a : As) (p0 p1 r : Int32) : Prop := r = zb (Hold (ml a (tn p0)) (mf a (tn p0)) (ms a (tn p0)) (mb a (tn p0)) (tn p1))
set_option maxRecDepth 4000 in
theorem spec_X7_holds (l : Launch) (D : va_G) (cy : Nat → ClassId) (ad : Nat → Nat) (sz : Nat) (g : Gs) (a : As) (p0 : Int32) (p1 : Int32) (hpre : pre_X7_holds g a p0 p1) : Met l yX7_holds wsX7_holds ({ frames := 1, cells := 0, slots := 0, locals := 29 } : Room) (va_Pc [.ref (ad 0), .int p0, .int p1] (ArP D cy sz (maW ad cy g a))) (Qpi (post_X7_holds g a p0 p1)) 0 0 noF := by
  apply met_X7_holds
  obtain ⟨⟨⟨hn8, hg2⟩, -, hrows⟩, ⟨k, hk, rfl⟩, h0⟩ := hpre
  obtain ⟨x, hx, rfl, hx2⟩ := of_i h0
  obtain ⟨⟨e1, e2, e3, e4⟩, hl, hf, hs, ⟨hb1, hb2⟩, hn, -⟩ := hrows k hk
  have tnk : (nI k).toNatClampNeg = k := tn_nI (by omega)
  have vk := vp_in_nI (n := k) (N := 8) (by omega) (by omega)
  have tnk' : tn (nI k) = k := tnk
  have good : ∀ r, r = zb (Hold (ml a k) (mf a k) (ms a k) (mb a k) x) → post_X7_holds g a (nI k) (nI x) r := fun r h => by unfold post_X7_holds; rw [tnk', tn_nI hx]; exact h
  rw [tnk]
  generalize hld : ml a k = l at *
  generalize hfd : mf a k = f at *
  generalize hsd : ms a k = s at *
  generalize hbd : mb a k = b at *
  rw [e1, e2, e3, e4, pk_rem hx (by omega) (by omega)]
  have hml := Nat.mod_lt x (show 0 < b by omega)
  have el : ∀ c : Nat, c < 10000 → (nI l = nI c ↔ l = c) := fun c hc => nI_eq (by omega) (by omega)
  have e108 := el 108 (by omega)
  have e110 := el 110 (by omega)
  have e112 := el 112 (by omega)
  refine ⟨vk, nI_nz (by omega) (by omega), vk, fun z => ⟨vk, vk, ?_⟩, fun z => ⟨vk, ?_⟩, fun z => ⟨vk, ?_⟩, fun z1 z2 z3 => ⟨vk, vk, ?_⟩⟩
  · have z := e108.mp z
    have hm : f * (x % b) ≤ 10000 * 200 := Nat.mul_le_mul (by omega) (by omega)
    have hm2 := Nat.mod_lt (f * (x % b)) (show 0 < b by omega)
    rw [pk_mul, pk_rem (by omega) (by omega) (by omega)]
    refine pk_eq (f * (x % b) % b) s (fun y => good _ (zb_t ⟨fun _ => y, fun q => by omega, fun q => by omega, fun q => absurd z q⟩).symm) (fun y => good _ (zb_f (fun q => y (q.1 z))).symm) rfl rfl (by omega) (by omega)
  · have z := e110.mp z
    have hfs := hn z
    refine pk_eq (x % b) f (fun y => good _ (zb_f (fun q => q.2.2.1 z (by omega))).symm) (fun y => good _ (zb_t ⟨fun q => by omega, fun q => by omega, fun _ => by omega, fun _ q => absurd z q⟩).symm) rfl rfl (by omega) (by omega)
  · have z := e112.mp z
    rw [nI_l (by omega)]
    refine ⟨⟨by rw [nI_toInt (by omega)]; omega, by rw [nI_toInt (by omega)]; omega, by rw [pk_lT (by omega)]; omega⟩, fun r hr => ⟨vk, ?_⟩⟩
    unfold post_X7_powerOf at hr
    rw [tn_nI (by omega), tl_lN (by omega), tn_nI (by omega)] at hr
    subst hr
    have hm2 := Nat.mod_lt ((x % b) ^ f) (show 0 < b by omega)
    refine pk_eq ((x % b) ^ f % b) s (fun y => good _ (zb_t ⟨fun q => by omega, fun _ => y, fun q => by omega, fun _ _ q => absurd z q⟩).symm) (fun y => good _ (zb_f (fun q => y (q.2.1 z))).symm) rfl rfl (by omega) (by omega)
  · have z1 : ¬ l = 108 := fun y => z1 (e108.mpr y)
    have z2 : ¬ l = 110 := fun y => z2 (e110.mpr y)
    have z3 : ¬ l = 112 := fun y => z3 (e112.mpr y)
    intro r hr
    unfold post_X7_in at hr
    rw [il_t, il_t, il_t, nI_toInt (by omega), nI_toInt (by omega), nI_toInt (by omega)] at hr
    subst hr
    refine ⟨zb_01 _, good _ (zb_c ⟨fun y => ⟨fun q => absurd q z1, fun q => absurd q z3, fun q => absurd q z2, fun _ _ _ => by omega⟩, fun y => ?_⟩)⟩
    have := y.2.2.2 z1 z2 z3
    omega
/-- the set of the items that fail, as bits -/
def flS (H : Nat → Nat → Bool) (x : Nat) : Nat → Nat
  | 0 => 0
  | k + 1 => flS H x k + if H k x = true then 0 else 2 ^ k
theorem flS_lt (H : Nat → Nat → Bool) (x : Nat) : ∀ n, flS H x n < 2 ^ n
  | 0 => by show 0 < 2 ^ 0; exact Nat.one_pos
  | n + 1 => by
    have := flS_lt H x n
    show flS H x n + (if H n x = true then 0 else 2 ^ n) < 2 ^ (n + 1)
    rw [Nat.pow_succ]
    split <;> omega
theorem flS_bit (H : Nat → Nat → Bool) (x : Nat) : ∀ n j, (flS H x n).testBit j = (decide (j < n) && !H j x)
  | 0, j => by rw [decide_eq_false (Nat.not_lt_zero j), Bool.false_and]; exact Nat.zero_testBit j
  | n + 1, j => by
    have h1 := flS_lt H x n
    have ih := flS_bit H x n
    have e : flS H x (n + 1) = 2 ^ n * (if H n x = true then 0 else 1) + flS H x n := by
      show flS H x n + (if H n x = true then 0 else 2 ^ n) = _
      split
      · rw [Nat.mul_zero]; omega
      · rw [Nat.mul_one]; omega
    rw [e, Nat.testBit_two_pow_mul_add _ h1]
    by_cases z : j < n
    · rw [if_pos z, ih j, decide_eq_true z, decide_eq_true (show j < n + 1 by omega)]
    · rw [if_neg z]
      by_cases y : j = n
      · rw [y, Nat.sub_self, decide_eq_true (Nat.lt_succ_self n), Bool.true_and]
        cases H n x <;> rfl
      · rw [decide_eq_false (show ¬ j < n + 1 by omega), Bool.false_and]
        split
        · exact Nat.zero_testBit _
        · obtain ⟨i, hi⟩ : ∃ i, j - n = i + 1 := ⟨j - n - 1, by omega⟩
          rw [hi, Nat.testBit_succ]; exact Nat.zero_testBit i
theorem flS_0 {H : Nat → Nat → Bool} {x n : Nat} : flS H x n = 0 ↔ LfB n H x = true := by
  constructor
  · intro h
    refine cb_t (fun k hk => ?_)
    have := flS_bit H x n k
    rw [h, Nat.zero_testBit, decide_eq_true hk, Bool.true_and] at this
    cases hc : H k x
    · rw [hc] at this; exact Bool.noConfusion this
    · rfl
  · intro h
    apply Nat.eq_of_testBit_eq
    intro j
    rw [flS_bit, Nat.zero_testBit]
    by_cases z : j < n
    · rw [cb_of h j z, Bool.not_true, Bool.and_false]
    · rw [decide_eq_false z, Bool.false_and]
def pre_X7_fails (g : Gs) (a : As) (p0 : Int32) : Prop := LdM g a ∧ 0 ≤ p0.toInt
set_option maxHeartbeats 4000000 in
set_option maxRecDepth 100000 in
theorem met_X7_fails (l : Launch) (D : va_G) (cy : Nat → ClassId) (ad : Nat → Nat) (sz : Nat) (g : Gs) (a : As) (p0 : Int32) (post : Int32 → Prop)
  (hV : ∀ (J4 : Int32 → Int32 → Prop),
    (∀ (x2 : Int32) (x3 : Int32), (((g 2) ≤ x3 → post x2) ∧ (¬ (g 2) ≤ x3 → pre_X7_holds g a x3 p0 ∧ (∀ r16 : Int32, post_X7_holds g a x3 p0 r16 → ((r16 = 0 → J4 (x2 ||| ((1 : Int32) <<< (x3 &&& 31))) (x3 + 1)) ∧ (¬ r16 = 0 → J4 (x2 ||| (0 : Int32)) (x3 + 1)))))) → J4 x2 x3) →
    J4 (0 : Int32) (0 : Int32)) :
  Met l yX7_fails wsX7_fails ({ frames := 2, cells := 0, slots := 0, locals := 53 } : Room) (va_Pc [.ref (ad 0), .int p0] (ArP D cy sz (maW ad cy g a))) (Qpi post) 0 0 noF := by
  refine Met.ofW (cc := cX7_fails) (maxL := 4) (ret := (some .int)) (by decide) rfl ?_
  intro p e s m args below meth c s₁ B hml hv
  obtain ⟨rfl, hsz, hP, hK, hD0, hN⟩ := hv
  have hx := B.exec
  have hb := B.bytes
  have hr := B.returns
  have hts := atoms_spec (ws := wsX7_fails) B.pre
  have hown : s.vm.findClass RX7 = some m.cls := findClass_of_methodNamed B.named
  have hlocks := B.notSynchronized
  subst hsz
  have hP : va_P D vwCl (maW ad cy g a) s.heap := hP
  have hD : va_D (fun _ => True) (maW ad cy g a) := hD0
  obtain ⟨J4, iJ4, oJ4⟩ : ∃ J : Int32 → Int32 → Prop, (∀ (x2 : Int32) (x3 : Int32), (∀ ls : Array Slot, lv_has ls 4 [(0, .ref (ad 0)), (1, .int p0), (2, .int x2), (3, .int x3)] → W p l e (headSpec wsX7_fails ({ frames := 2, cells := 0, slots := 0, locals := 53 } : Room)).room s m [.ref (ad 0), .int p0].toArray below meth c s.heap [] 0 0 (MQ below (Qpi post) [.ref (ad 0), .int p0].toArray s 0 0 noF) (F0 m 4 ls [])) → J x2 x3) ∧ (∀ (x2 : Int32) (x3 : Int32), J x2 x3 → (∀ ls : Array Slot, lv_has ls 4 [(0, .ref (ad 0)), (1, .int p0), (2, .int x2), (3, .int x3)] → W p l e (headSpec wsX7_fails ({ frames := 2, cells := 0, slots := 0, locals := 53 } : Room)).room s m [.ref (ad 0), .int p0].toArray below meth c s.heap [] 0 0 (MQ below (Qpi post) [.ref (ad 0), .int p0].toArray s 0 0 noF) (F0 m 4 ls []))) := ⟨fun (x2 : Int32) (x3 : Int32) => (∀ ls : Array Slot, lv_has ls 4 [(0, .ref (ad 0)), (1, .int p0), (2, .int x2), (3, .int x3)] → W p l e (headSpec wsX7_fails ({ frames := 2, cells := 0, slots := 0, locals := 53 } : Room)).room s m [.ref (ad 0), .int p0].toArray below meth c s.heap [] 0 0 (MQ below (Qpi post) [.ref (ad 0), .int p0].toArray s 0 0 noF) (F0 m 4 ls [])), fun _ _ h => h, fun _ _ h => h⟩
  have hV := hV J4
  replace hV := hV (by
    intro x2 x3 hV
    refine iJ4 x2 x3 ?_
    intro ls hl
    refine lv_iload_n hx hb dX7_fails_4 rfl (lv_at hl 3 rfl) ?_
    refine lv_aload_n hx hb dX7_fails_5 rfl (lv_at hl 0 rfl) ?_
    refine va_get (D := D) (ci := 6) (v := .int (g 2)) (C := RX7) (T := TX7) (N := 18) hx hb hts (by decide +kernel) hown hK hP 0 rfl rfl 3 (by decide) (hts (.fieldLink RX7 137 "PowerRestsModel" "items" "I") (by decide +kernel)) (fun _ h9 => h9) rfl dX7_fails_6 ?_
    refine lv_icmp_ge (tgt := 37) hx hb dX7_fails_9 (by decide) (fun c_9 => ?_) (fun c_9 => ?_)
    · have hV := hV.1 c_9
      refine lv_iload_n hx hb dX7_fails_37 rfl (lv_at hl 2 rfl) ?_
      exact W.iret (v := x2) hx hb hr (fun t ht hW => ⟨_, rfl, hV, ht⟩) (fun _ h => by cases h) dX7_fails_38
    · have hV := hV.2 c_9
      refine lv_iload_n hx hb dX7_fails_12 rfl (lv_at hl 2 rfl) ?_
      refine lv_aload_n hx hb dX7_fails_13 rfl (lv_at hl 0 rfl) ?_
      refine lv_iload_n hx hb dX7_fails_14 rfl (lv_at hl 3 rfl) ?_
      refine lv_iload_n hx hb dX7_fails_15 rfl (lv_at hl 1 rfl) ?_
      obtain ⟨h_16, hV⟩ := hV
      refine cp_i (va_runV (As := [.int x3, .int p0]) (rest := [.int x2]) ⟨hx, hb, hml, hown, hts⟩ (spec_X7_holds l D cy ad s.heap.size g a x3 p0 h_16) (cwV 2 hts gX7_fails_X7_holds rfl rfl rfl (by decide +kernel) ⟨Nat.le_of_ble_eq_true rfl, Nat.le_of_ble_eq_true rfl⟩) (ar_preV hN hK hP hD (ci := 6) (q0 := 0) rfl rfl) rfl rfl hl.1 rfl (lv_room (Nat.le_of_ble_eq_true rfl)) dX7_fails_16 ⟨Nat.zero_le _, Nat.zero_le _⟩) (fun r16 q_16 => ?_)
      have hV := hV r16 q_16
      refine lv_if_eq (tgt := 26) hx hb dX7_fails_19 (by decide) (fun c_19 => ?_) (fun c_19 => ?_)
      · have hV := hV.1 c_19
        refine lv_iconst (v := (1 : Int32)) hx hb dX7_fails_26 (by decide) ?_
        refine lv_iload_n hx hb dX7_fails_27 rfl (lv_at hl 3 rfl) ?_
        refine lv_ishl hx hb dX7_fails_28 ?_
        refine lv_ior hx hb dX7_fails_29 ?_
        refine lv_istore_n (lv' := [(2, .int (x2 ||| ((1 : Int32) <<< (x3 &&& 31)))), (0, .ref (ad 0)), (1, .int p0), (3, .int x3)]) hx hb dX7_fails_30 rfl hl (by decide) rfl (fun ls hl => ?_)
        refine lv_iinc (v := x3 + 1) (lv' := [(3, .int (x3 + 1)), (2, .int (x2 ||| ((1 : Int32) <<< (x3 &&& 31)))), (0, .ref (ad 0)), (1, .int p0)]) hx hb dX7_fails_31 hl (k := 3) rfl rfl (by decide) rfl (fun ls hl => ?_)
        refine lv_goto (tgt := 4) hx hb dX7_fails_34 (by decide) ?_
        exact oJ4 _ _ hV _ (lv_sub hl [2, 3, 1, 0] rfl)
      · have hV := hV.2 c_19
        refine lv_iconst (v := (0 : Int32)) hx hb dX7_fails_22 (by decide) ?_
        refine lv_goto (tgt := 29) hx hb dX7_fails_23 (by decide) ?_
        refine lv_ior hx hb dX7_fails_29 ?_
        refine lv_istore_n (lv' := [(2, .int (x2 ||| (0 : Int32))), (0, .ref (ad 0)), (1, .int p0), (3, .int x3)]) hx hb dX7_fails_30 rfl hl (by decide) rfl (fun ls hl => ?_)
        refine lv_iinc (v := x3 + 1) (lv' := [(3, .int (x3 + 1)), (2, .int (x2 ||| (0 : Int32))), (0, .ref (ad 0)), (1, .int p0)]) hx hb dX7_fails_31 hl (k := 3) rfl rfl (by decide) rfl (fun ls hl => ?_)
        refine lv_goto (tgt := 4) hx hb dX7_fails_34 (by decide) ?_
        exact oJ4 _ _ hV _ (lv_sub hl [2, 3, 1, 0] rfl))
  have hl := lv_entry ([.ref (ad 0), .int p0]) (n := 4) (Nat.le_of_ble_eq_true rfl)
  rw [lg_entry_eq]
  generalize (lg_sl ([.ref (ad 0), .int p0]) ++ List.replicate (4 - (lg_sl ([.ref (ad 0), .int p0])).length) Slot.unset).toArray = ls at hl ⊢
  have hl : lv_has ls 4 [(0, .ref (ad 0)), (1, .int p0)] := hl
  refine lv_iconst (v := (0 : Int32)) hx hb dX7_fails_0 (by decide) ?_
  refine lv_istore_n (lv' := [(2, .int (0 : Int32)), (0, .ref (ad 0)), (1, .int p0)]) hx hb dX7_fails_1 rfl hl (by decide) rfl (fun ls hl => ?_)
  refine lv_iconst (v := (0 : Int32)) hx hb dX7_fails_2 (by decide) ?_
  refine lv_istore_n (lv' := [(3, .int (0 : Int32)), (2, .int (0 : Int32)), (0, .ref (ad 0)), (1, .int p0)]) hx hb dX7_fails_3 rfl hl (by decide) rfl (fun ls hl => ?_)
  exact oJ4 _ _ hV _ (lv_sub hl [2, 3, 1, 0] rfl)
def post_X7_fails (g : Gs) (a : As) (p0 r : Int32) : Prop := r = nI (flS (mH a) (tn p0) (mN g))
theorem or_pow {f k : Nat} (h : f < 2 ^ k) (hk : k < 31) : nI f ||| ((1 : Int32) <<< (nI k &&& 31)) = nI (f + 2 ^ k) := by
  rw [shl_1 hk]
  have e : nI f ||| nI (2 ^ k) = nI (f ||| 2 ^ k) := by
    apply Int32.toBitVec_inj.mp
    show BitVec.ofNat 32 f ||| BitVec.ofNat 32 (2 ^ k) = BitVec.ofNat 32 (f ||| 2 ^ k)
    exact BitVec.ofNat_or.symm
  have := Nat.two_pow_add_eq_or_of_lt h 1
  rw [Nat.mul_one] at this
  rw [e, Nat.or_comm, ← this, Nat.add_comm]
set_option maxRecDepth 4000 in
theorem spec_X7_fails (l : Launch) (D : va_G) (cy : Nat → ClassId) (ad : Nat → Nat) (sz : Nat) (g : Gs) (a : As) (p0 : Int32) (hpre : pre_X7_fails g a p0) : Met l yX7_fails wsX7_fails ({ frames := 2, cells := 0, slots := 0, locals := 53 } : Room) (va_Pc [.ref (ad 0), .int p0] (ArP D cy sz (maW ad cy g a))) (Qpi (post_X7_fails g a p0)) 0 0 noF := by
  apply met_X7_fails
  intro J hJ
  obtain ⟨hLd, h0⟩ := hpre
  obtain ⟨x, hx, rfl, hx2⟩ := of_i h0
  obtain ⟨hn8, hg2⟩ := hLd.1
  rw [hg2] at hJ
  have tnx : tn (nI x) = x := tn_nI hx
  have key : ∀ (d k : Nat), k + d = mN g → J (nI (flS (mH a) x k)) (nI k) := by
    intro d
    induction d with
    | zero =>
      intro k hk
      have : k = mN g := by omega
      subst this
      exact hJ _ _ (pk_le (mN g) (mN g) (fun _ => by unfold post_X7_fails; rw [tnx]) (fun h => absurd h (by omega)))
    | succ d ih =>
      intro k hk
      refine hJ _ _ (pk_le (mN g) k (fun h => absurd h (by omega)) (fun _ => ⟨⟨hLd, ⟨k, by omega, rfl⟩, h0⟩, fun r hr => ?_⟩))
      unfold post_X7_holds at hr
      rw [tn_nI (show k < 2 ^ 31 by omega), tnx] at hr
      subst hr
      rw [nI_1, or_pow (flS_lt _ _ _) (by omega), show nI (flS (mH a) x k) ||| (0 : Int32) = nI (flS (mH a) x k) from Int32.or_zero]
      have := ih (k + 1) (by omega)
      refine ⟨fun z => ?_, fun z => ?_⟩
      · have hc : ¬ mH a k x = true := fun y => zb_0 z (cb_of y)
        rwa [show flS (mH a) x (k + 1) = flS (mH a) x k + 2 ^ k by show _ + _ = _; rw [if_neg hc]] at this
      · have hc : mH a k x = true := cb_t (zb_1 z)
        rwa [show flS (mH a) x (k + 1) = flS (mH a) x k by show _ + _ = _; rw [if_pos hc, Nat.add_zero]] at this
  exact key (mN g) 0 (by omega)
theorem fl_b {g : Gs} {a : As} (h : LdM g a) (x : Nat) : flS (mH a) x (mN g) < 256 := by
  have h1 := flS_lt (mH a) x (mN g)
  have h2 := two_le h.1.1
  omega
theorem fl_z {g : Gs} {a : As} (h : LdM g a) (x : Nat) : nI (flS (mH a) x (mN g)) = 0 ↔ LfB (mN g) (mH a) x = true := by
  have hb := fl_b h x
  rw [← flS_0]
  exact nI_eq (b := 0) (by omega) (by omega)
def pre_X7_leftOf (g : Gs) (a : As) : Prop := LdM g a
set_option maxHeartbeats 4000000 in
set_option maxRecDepth 100000 in
theorem met_X7_leftOf (l : Launch) (D : va_G) (cy : Nat → ClassId) (ad : Nat → Nat) (sz : Nat) (g : Gs) (a : As) (post : Int32 → Prop)
  (hV : ∀ (J4 : Int32 → Int32 → Prop),
    (∀ (x1 : Int32) (x2 : Int32), (((g 3) ≤ x2 → post x1) ∧ (¬ (g 3) ≤ x2 → pre_X7_fails g a x2 ∧ (∀ r15 : Int32, post_X7_fails g a x2 r15 → ((r15 = 0 → J4 (x1 + (1 : Int32)) (x2 + 1)) ∧ (¬ r15 = 0 → J4 (x1 + (0 : Int32)) (x2 + 1)))))) → J4 x1 x2) →
    J4 (0 : Int32) (0 : Int32)) :
  Met l yX7_leftOf wsX7_leftOf ({ frames := 3, cells := 0, slots := 0, locals := 76 } : Room) (va_Pc [.ref (ad 0)] (ArP D cy sz (maW ad cy g a))) (Qpi post) 0 0 noF := by
  refine Met.ofW (cc := cX7_leftOf) (maxL := 3) (ret := (some .int)) (by decide) rfl ?_
  intro p e s m args below meth c s₁ B hml hv
  obtain ⟨rfl, hsz, hP, hK, hD0, hN⟩ := hv
  have hx := B.exec
  have hb := B.bytes
  have hr := B.returns
  have hts := atoms_spec (ws := wsX7_leftOf) B.pre
  have hown : s.vm.findClass RX7 = some m.cls := findClass_of_methodNamed B.named
  have hlocks := B.notSynchronized
  subst hsz
  have hP : va_P D vwCl (maW ad cy g a) s.heap := hP
  have hD : va_D (fun _ => True) (maW ad cy g a) := hD0
  obtain ⟨J4, iJ4, oJ4⟩ : ∃ J : Int32 → Int32 → Prop, (∀ (x1 : Int32) (x2 : Int32), (∀ ls : Array Slot, lv_has ls 3 [(0, .ref (ad 0)), (1, .int x1), (2, .int x2)] → W p l e (headSpec wsX7_leftOf ({ frames := 3, cells := 0, slots := 0, locals := 76 } : Room)).room s m [.ref (ad 0)].toArray below meth c s.heap [] 0 0 (MQ below (Qpi post) [.ref (ad 0)].toArray s 0 0 noF) (F0 m 4 ls [])) → J x1 x2) ∧ (∀ (x1 : Int32) (x2 : Int32), J x1 x2 → (∀ ls : Array Slot, lv_has ls 3 [(0, .ref (ad 0)), (1, .int x1), (2, .int x2)] → W p l e (headSpec wsX7_leftOf ({ frames := 3, cells := 0, slots := 0, locals := 76 } : Room)).room s m [.ref (ad 0)].toArray below meth c s.heap [] 0 0 (MQ below (Qpi post) [.ref (ad 0)].toArray s 0 0 noF) (F0 m 4 ls []))) := ⟨fun (x1 : Int32) (x2 : Int32) => (∀ ls : Array Slot, lv_has ls 3 [(0, .ref (ad 0)), (1, .int x1), (2, .int x2)] → W p l e (headSpec wsX7_leftOf ({ frames := 3, cells := 0, slots := 0, locals := 76 } : Room)).room s m [.ref (ad 0)].toArray below meth c s.heap [] 0 0 (MQ below (Qpi post) [.ref (ad 0)].toArray s 0 0 noF) (F0 m 4 ls [])), fun _ _ h => h, fun _ _ h => h⟩
  have hV := hV J4
  replace hV := hV (by
    intro x1 x2 hV
    refine iJ4 x1 x2 ?_
    intro ls hl
    refine lv_iload_n hx hb dX7_leftOf_4 rfl (lv_at hl 2 rfl) ?_
    refine lv_aload_n hx hb dX7_leftOf_5 rfl (lv_at hl 0 rfl) ?_
    refine va_get (D := D) (ci := 6) (v := .int (g 3)) (C := RX7) (T := TX7) (N := 18) hx hb hts (by decide +kernel) hown hK hP 0 rfl rfl 4 (by decide) (hts (.fieldLink RX7 13 "PowerRestsModel" "period" "I") (by decide +kernel)) (fun _ h9 => h9) rfl dX7_leftOf_6 ?_
    refine lv_icmp_ge (tgt := 34) hx hb dX7_leftOf_9 (by decide) (fun c_9 => ?_) (fun c_9 => ?_)
    · have hV := hV.1 c_9
      refine lv_iload_n hx hb dX7_leftOf_34 rfl (lv_at hl 1 rfl) ?_
      exact W.iret (v := x1) hx hb hr (fun t ht hW => ⟨_, rfl, hV, ht⟩) (fun _ h => by cases h) dX7_leftOf_35
    · have hV := hV.2 c_9
      refine lv_iload_n hx hb dX7_leftOf_12 rfl (lv_at hl 1 rfl) ?_
      refine lv_aload_n hx hb dX7_leftOf_13 rfl (lv_at hl 0 rfl) ?_
      refine lv_iload_n hx hb dX7_leftOf_14 rfl (lv_at hl 2 rfl) ?_
      obtain ⟨h_15, hV⟩ := hV
      refine cp_i (va_runV (As := [.int x2]) (rest := [.int x1]) ⟨hx, hb, hml, hown, hts⟩ (spec_X7_fails l D cy ad s.heap.size g a x2 h_15) (cwV 1 hts gX7_leftOf_X7_fails rfl rfl rfl (by decide +kernel) ⟨Nat.le_of_ble_eq_true rfl, Nat.le_of_ble_eq_true rfl⟩) (ar_preV hN hK hP hD (ci := 6) (q0 := 0) rfl rfl) rfl rfl hl.1 rfl (lv_room (Nat.le_of_ble_eq_true rfl)) dX7_leftOf_15 ⟨Nat.zero_le _, Nat.zero_le _⟩) (fun r15 q_15 => ?_)
      have hV := hV r15 q_15
      refine lv_if_ne (tgt := 25) hx hb dX7_leftOf_18 (by decide) (fun c_18 => ?_) (fun c_18 => ?_)
      · have hV := hV.2 c_18
        refine lv_iconst (v := (0 : Int32)) hx hb dX7_leftOf_25 (by decide) ?_
        refine lv_iadd hx hb dX7_leftOf_26 ?_
        refine lv_istore_n (lv' := [(1, .int (x1 + (0 : Int32))), (0, .ref (ad 0)), (2, .int x2)]) hx hb dX7_leftOf_27 rfl hl (by decide) rfl (fun ls hl => ?_)
        refine lv_iinc (v := x2 + 1) (lv' := [(2, .int (x2 + 1)), (1, .int (x1 + (0 : Int32))), (0, .ref (ad 0))]) hx hb dX7_leftOf_28 hl (k := 2) rfl rfl (by decide) rfl (fun ls hl => ?_)
        refine lv_goto (tgt := 4) hx hb dX7_leftOf_31 (by decide) ?_
        exact oJ4 _ _ hV _ (lv_sub hl [2, 1, 0] rfl)
      · have hV := hV.1 c_18
        refine lv_iconst (v := (1 : Int32)) hx hb dX7_leftOf_21 (by decide) ?_
        refine lv_goto (tgt := 26) hx hb dX7_leftOf_22 (by decide) ?_
        refine lv_iadd hx hb dX7_leftOf_26 ?_
        refine lv_istore_n (lv' := [(1, .int (x1 + (1 : Int32))), (0, .ref (ad 0)), (2, .int x2)]) hx hb dX7_leftOf_27 rfl hl (by decide) rfl (fun ls hl => ?_)
        refine lv_iinc (v := x2 + 1) (lv' := [(2, .int (x2 + 1)), (1, .int (x1 + (1 : Int32))), (0, .ref (ad 0))]) hx hb dX7_leftOf_28 hl (k := 2) rfl rfl (by decide) rfl (fun ls hl => ?_)
        refine lv_goto (tgt := 4) hx hb dX7_leftOf_31 (by decide) ?_
        exact oJ4 _ _ hV _ (lv_sub hl [2, 1, 0] rfl))
  have hl := lv_entry ([.ref (ad 0)]) (n := 3) (Nat.le_of_ble_eq_true rfl)
  rw [lg_entry_eq]
  generalize (lg_sl ([.ref (ad 0)]) ++ List.replicate (3 - (lg_sl ([.ref (ad 0)])).length) Slot.unset).toArray = ls at hl ⊢
  have hl : lv_has ls 3 [(0, .ref (ad 0))] := hl
  refine lv_iconst (v := (0 : Int32)) hx hb dX7_leftOf_0 (by decide) ?_
  refine lv_istore_n (lv' := [(1, .int (0 : Int32)), (0, .ref (ad 0))]) hx hb dX7_leftOf_1 rfl hl (by decide) rfl (fun ls hl => ?_)
  refine lv_iconst (v := (0 : Int32)) hx hb dX7_leftOf_2 (by decide) ?_
  refine lv_istore_n (lv' := [(2, .int (0 : Int32)), (1, .int (0 : Int32)), (0, .ref (ad 0))]) hx hb dX7_leftOf_3 rfl hl (by decide) rfl (fun ls hl => ?_)
  exact oJ4 _ _ hV _ (lv_sub hl [2, 1, 0] rfl)
def post_X7_leftOf (g : Gs) (a : As) (r : Int32) : Prop := r = nI (fb_ct (LfB (mN g) (mH a)) (mP g))
set_option maxRecDepth 4000 in
theorem spec_X7_leftOf (l : Launch) (D : va_G) (cy : Nat → ClassId) (ad : Nat → Nat) (sz : Nat) (g : Gs) (a : As) (hpre : pre_X7_leftOf g a) : Met l yX7_leftOf wsX7_leftOf ({ frames := 3, cells := 0, slots := 0, locals := 76 } : Room) (va_Pc [.ref (ad 0)] (ArP D cy sz (maW ad cy g a))) (Qpi (post_X7_leftOf g a)) 0 0 noF := by
  apply met_X7_leftOf
  intro J hJ
  have hLd : LdM g a := hpre
  obtain ⟨hP1, hP2, hg3⟩ := hLd.2.1
  rw [hg3] at hJ
  have key : ∀ (d k : Nat), k + d = mP g → J (nI (fb_ct (LfB (mN g) (mH a)) k)) (nI k) := by
    intro d
    induction d with
    | zero =>
      intro k hk
      have : k = mP g := by omega
      subst this
      exact hJ _ _ (pk_le _ _ (fun _ => rfl) (fun h => absurd h (by omega)) rfl rfl (by omega) (by omega))
    | succ d ih =>
      intro k hk
      refine hJ _ _ (pk_le (mP g) k (fun h => absurd h (by omega)) (fun _ => ⟨⟨hLd, by rw [nI_toInt (by omega)]; omega⟩, fun r hr => ?_⟩) rfl rfl (by omega) (by omega))
      unfold post_X7_fails at hr
      rw [tn_nI (by omega)] at hr
      subst hr
      have := ih (k + 1) (by omega)
      rw [fl_z hLd, nI_1, nI_1, show nI (fb_ct (LfB (mN g) (mH a)) k) + (0 : Int32) = nI (fb_ct (LfB (mN g) (mH a)) k) from Int32.add_zero _]
      refine ⟨fun z => ?_, fun z => ?_⟩
      · rwa [fb_ct_succ, if_pos z] at this
      · rwa [fb_ct_succ, if_neg z, Nat.add_zero] at this
  exact key (mP g) 0 (by omega)
def pre_X7_left (g : Gs) (a : As) : Prop := LdM g a
set_option maxHeartbeats 4000000 in
set_option maxRecDepth 100000 in
theorem met_X7_left (l : Launch) (D : va_G) (cy : Nat → ClassId) (ad : Nat → Nat) (sz : Nat) (g : Gs) (a : As) (post : Int32 → Prop)
  (hV : pre_X7_leftOf g a ∧ (∀ r1 : Int32, post_X7_leftOf g a r1 → post r1)) :
  Met l yX7_left wsX7_left ({ frames := 4, cells := 0, slots := 0, locals := 98 } : Room) (va_Pc [.ref (ad 0)] (ArP D cy sz (maW ad cy g a))) (Qpi post) 0 0 noF := by
  refine Met.ofW (cc := cX7_left) (maxL := 1) (ret := (some .int)) (by decide) rfl ?_
  intro p e s m args below meth c s₁ B hml hv
  obtain ⟨rfl, hsz, hP, hK, hD0, hN⟩ := hv
  have hx := B.exec
  have hb := B.bytes
  have hr := B.returns
  have hts := atoms_spec (ws := wsX7_left) B.pre
  have hown : s.vm.findClass RX7 = some m.cls := findClass_of_methodNamed B.named
  have hlocks := B.notSynchronized
  subst hsz
  have hP : va_P D vwCl (maW ad cy g a) s.heap := hP
  have hD : va_D (fun _ => True) (maW ad cy g a) := hD0
  have hl := lv_entry ([.ref (ad 0)]) (n := 1) (Nat.le_of_ble_eq_true rfl)
  rw [lg_entry_eq]
  generalize (lg_sl ([.ref (ad 0)]) ++ List.replicate (1 - (lg_sl ([.ref (ad 0)])).length) Slot.unset).toArray = ls at hl ⊢
  have hl : lv_has ls 1 [(0, .ref (ad 0))] := hl
  refine lv_aload_n hx hb dX7_left_0 rfl (lv_at hl 0 rfl) ?_
  obtain ⟨h_1, hV⟩ := hV
  refine cp_i (va_runV (As := []) (rest := []) ⟨hx, hb, hml, hown, hts⟩ (spec_X7_leftOf l D cy ad s.heap.size g a h_1) (cwV 0 hts gX7_left_X7_leftOf rfl rfl rfl (by decide +kernel) ⟨Nat.le_of_ble_eq_true rfl, Nat.le_of_ble_eq_true rfl⟩) (ar_preV hN hK hP hD (ci := 6) (q0 := 0) rfl rfl) rfl rfl hl.1 rfl (lv_room (Nat.le_of_ble_eq_true rfl)) dX7_left_1 ⟨Nat.zero_le _, Nat.zero_le _⟩) (fun r1 q_1 => ?_)
  have hV := hV r1 q_1
  exact W.iret (v := r1) hx hb hr (fun t ht hW => ⟨_, rfl, hV, ht⟩) (fun _ h => by cases h) dX7_left_4
def post_X7_left (g : Gs) (a : As) (r : Int32) : Prop := r = nI (fb_ct (LfB (mN g) (mH a)) (mP g))
set_option maxRecDepth 4000 in
theorem spec_X7_left (l : Launch) (D : va_G) (cy : Nat → ClassId) (ad : Nat → Nat) (sz : Nat) (g : Gs) (a : As) (hpre : pre_X7_left g a) : Met l yX7_left wsX7_left ({ frames := 4, cells := 0, slots := 0, locals := 98 } : Room) (va_Pc [.ref (ad 0)] (ArP D cy sz (maW ad cy g a))) (Qpi (post_X7_left g a)) 0 0 noF := by
  apply met_X7_left
  exact ⟨hpre, fun r hr => hr⟩
def pre_X7_ith (g : Gs) (a : As) (p0 : Int64) : Prop := LdM g a
set_option maxHeartbeats 4000000 in
set_option maxRecDepth 100000 in
theorem met_X7_ith (l : Launch) (D : va_G) (cy : Nat → ClassId) (ad : Nat → Nat) (sz : Nat) (g : Gs) (a : As) (p0 : Int64) (post : Int64 → Prop)
  (hV : ∀ (J37 : Int32 → Int64 → Int32 → Prop),
    (∀ (x3 : Int32) (x4 : Int64) (x6 : Int32), pre_X7_fails g a x6 ∧ (∀ r40 : Int32, post_X7_fails g a x6 r40 → ((r40 = 0 → ((x4 ≤ (0 : Int64) → ¬ x3.toInt64 = 0 ∧ (post (((p0 / x3.toInt64) * ((g 3).toInt64)) + x6.toInt64))) ∧ (¬ x4 ≤ (0 : Int64) → pre_X7_fails g a x6 ∧ (∀ r58 : Int32, post_X7_fails g a x6 r58 → ((r58 = 0 → J37 x3 (x4 - (1 : Int64)) (x6 + 1)) ∧ (¬ r58 = 0 → J37 x3 (x4 - (0 : Int64)) (x6 + 1))))))) ∧ (¬ r40 = 0 → pre_X7_fails g a x6 ∧ (∀ r58 : Int32, post_X7_fails g a x6 r58 → ((r58 = 0 → J37 x3 (x4 - (1 : Int64)) (x6 + 1)) ∧ (¬ r58 = 0 → J37 x3 (x4 - (0 : Int64)) (x6 + 1))))))) → J37 x3 x4 x6) →
    ∀ r5 : Int32, post_X7_in p0 (0 : Int64) (1000000000 : Int64) r5 → ((r5 = 0 → post (-1 : Int64)) ∧ (¬ r5 = 0 → pre_X7_leftOf g a ∧ (∀ r16 : Int32, post_X7_leftOf g a r16 → ((r16 = 0 → post (-4 : Int64)) ∧ (¬ r16 = 0 → ¬ r16.toInt64 = 0 ∧ (J37 r16 (p0 - p0 / r16.toInt64 * r16.toInt64) (0 : Int32)))))))) :
  Met l yX7_ith wsX7_ith ({ frames := 4, cells := 0, slots := 0, locals := 98 } : Room) (va_Pc [.ref (ad 0), .long p0] (ArP D cy sz (maW ad cy g a))) (Qpl post) 0 0 noF := by
  refine Met.ofW (cc := cX7_ith) (maxL := 7) (ret := (some .long)) (by decide) rfl ?_
  intro p e s m args below meth c s₁ B hml hv
  obtain ⟨rfl, hsz, hP, hK, hD0, hN⟩ := hv
  have hx := B.exec
  have hb := B.bytes
  have hr := B.returns
  have hts := atoms_spec (ws := wsX7_ith) B.pre
  have hown : s.vm.findClass RX7 = some m.cls := findClass_of_methodNamed B.named
  have hlocks := B.notSynchronized
  subst hsz
  have hP : va_P D vwCl (maW ad cy g a) s.heap := hP
  have hD : va_D (fun _ => True) (maW ad cy g a) := hD0
  obtain ⟨J37, iJ37, oJ37⟩ : ∃ J : Int32 → Int64 → Int32 → Prop, (∀ (x3 : Int32) (x4 : Int64) (x6 : Int32), (∀ ls : Array Slot, lv_has ls 7 [(0, .ref (ad 0)), (1, .long p0), (3, .int x3), (4, .long x4), (6, .int x6)] → W p l e (headSpec wsX7_ith ({ frames := 4, cells := 0, slots := 0, locals := 98 } : Room)).room s m [.ref (ad 0), .long p0].toArray below meth c s.heap [] 0 0 (MQ below (Qpl post) [.ref (ad 0), .long p0].toArray s 0 0 noF) (F0 m 37 ls [])) → J x3 x4 x6) ∧ (∀ (x3 : Int32) (x4 : Int64) (x6 : Int32), J x3 x4 x6 → (∀ ls : Array Slot, lv_has ls 7 [(0, .ref (ad 0)), (1, .long p0), (3, .int x3), (4, .long x4), (6, .int x6)] → W p l e (headSpec wsX7_ith ({ frames := 4, cells := 0, slots := 0, locals := 98 } : Room)).room s m [.ref (ad 0), .long p0].toArray below meth c s.heap [] 0 0 (MQ below (Qpl post) [.ref (ad 0), .long p0].toArray s 0 0 noF) (F0 m 37 ls []))) := ⟨fun (x3 : Int32) (x4 : Int64) (x6 : Int32) => (∀ ls : Array Slot, lv_has ls 7 [(0, .ref (ad 0)), (1, .long p0), (3, .int x3), (4, .long x4), (6, .int x6)] → W p l e (headSpec wsX7_ith ({ frames := 4, cells := 0, slots := 0, locals := 98 } : Room)).room s m [.ref (ad 0), .long p0].toArray below meth c s.heap [] 0 0 (MQ below (Qpl post) [.ref (ad 0), .long p0].toArray s 0 0 noF) (F0 m 37 ls [])), fun _ _ _ h => h, fun _ _ _ h => h⟩
  have hV := hV J37
  replace hV := hV (by
    intro x3 x4 x6 hV
    refine iJ37 x3 x4 x6 ?_
    intro ls hl
    refine lv_aload_n hx hb dX7_ith_37 rfl (lv_at hl 0 rfl) ?_
    refine lv_iload hx hb dX7_ith_38 (lv_at hl 4 rfl) ?_
    obtain ⟨h_40, hV⟩ := hV
    refine cp_i (va_runV (As := [.int x6]) (rest := []) ⟨hx, hb, hml, hown, hts⟩ (spec_X7_fails l D cy ad s.heap.size g a x6 h_40) (cwV 1 hts gX7_ith_X7_fails rfl rfl rfl (by decide +kernel) ⟨Nat.le_of_ble_eq_true rfl, Nat.le_of_ble_eq_true rfl⟩) (ar_preV hN hK hP hD (ci := 6) (q0 := 0) rfl rfl) rfl rfl hl.1 rfl (lv_room (Nat.le_of_ble_eq_true rfl)) dX7_ith_40 ⟨Nat.zero_le _, Nat.zero_le _⟩) (fun r40 q_40 => ?_)
    have hV := hV r40 q_40
    refine lv_if_ne (tgt := 53) hx hb dX7_ith_43 (by decide) (fun c_43 => ?_) (fun c_43 => ?_)
    · have hV := hV.2 c_43
      refine lv_lload hx hb dX7_ith_53 (lv_at hl 3 rfl) ?_
      refine lv_aload_n hx hb dX7_ith_55 rfl (lv_at hl 0 rfl) ?_
      refine lv_iload hx hb dX7_ith_56 (lv_at hl 4 rfl) ?_
      obtain ⟨h_58, hV⟩ := hV
      refine cp_i (va_runV (As := [.int x6]) (rest := [.long x4]) ⟨hx, hb, hml, hown, hts⟩ (spec_X7_fails l D cy ad s.heap.size g a x6 h_58) (cwV 1 hts gX7_ith_X7_fails rfl rfl rfl (by decide +kernel) ⟨Nat.le_of_ble_eq_true rfl, Nat.le_of_ble_eq_true rfl⟩) (ar_preV hN hK hP hD (ci := 6) (q0 := 0) rfl rfl) rfl rfl hl.1 rfl (lv_room (Nat.le_of_ble_eq_true rfl)) dX7_ith_58 ⟨Nat.zero_le _, Nat.zero_le _⟩) (fun r58 q_58 => ?_)
      have hV := hV r58 q_58
      refine lv_if_ne (tgt := 68) hx hb dX7_ith_61 (by decide) (fun c_61 => ?_) (fun c_61 => ?_)
      · have hV := hV.2 c_61
        refine lv_lconst (v := (0 : Int64)) hx hb dX7_ith_68 (by decide) ?_
        refine lv_lsub hx hb dX7_ith_69 ?_
        refine lv_lstore (lv' := [(4, .long (x4 - (0 : Int64))), (0, .ref (ad 0)), (1, .long p0), (3, .int x3), (6, .int x6)]) hx hb dX7_ith_70 hl (by decide) rfl (fun ls hl => ?_)
        refine lv_iinc (v := x6 + 1) (lv' := [(6, .int (x6 + 1)), (4, .long (x4 - (0 : Int64))), (0, .ref (ad 0)), (1, .long p0), (3, .int x3)]) hx hb dX7_ith_72 hl (k := 4) rfl rfl (by decide) rfl (fun ls hl => ?_)
        refine lv_goto (tgt := 37) hx hb dX7_ith_75 (by decide) ?_
        exact oJ37 _ _ _ hV _ (lv_sub hl [2, 3, 4, 1, 0] rfl)
      · have hV := hV.1 c_61
        refine lv_lconst (v := (1 : Int64)) hx hb dX7_ith_64 (by decide) ?_
        refine lv_goto (tgt := 69) hx hb dX7_ith_65 (by decide) ?_
        refine lv_lsub hx hb dX7_ith_69 ?_
        refine lv_lstore (lv' := [(4, .long (x4 - (1 : Int64))), (0, .ref (ad 0)), (1, .long p0), (3, .int x3), (6, .int x6)]) hx hb dX7_ith_70 hl (by decide) rfl (fun ls hl => ?_)
        refine lv_iinc (v := x6 + 1) (lv' := [(6, .int (x6 + 1)), (4, .long (x4 - (1 : Int64))), (0, .ref (ad 0)), (1, .long p0), (3, .int x3)]) hx hb dX7_ith_72 hl (k := 4) rfl rfl (by decide) rfl (fun ls hl => ?_)
        refine lv_goto (tgt := 37) hx hb dX7_ith_75 (by decide) ?_
        exact oJ37 _ _ _ hV _ (lv_sub hl [2, 3, 4, 1, 0] rfl)
    · have hV := hV.1 c_43
      refine lv_lload hx hb dX7_ith_46 (lv_at hl 3 rfl) ?_
      refine lv_lconst (v := (0 : Int64)) hx hb dX7_ith_48 (by decide) ?_
      refine lc_le (tgt := 78) hx hb dX7_ith_49 dX7_ith_50 (by decide) (fun c_49 => ?_) (fun c_49 => ?_)
      · have hV := hV.1 c_49
        refine lv_lload_n hx hb dX7_ith_78 rfl (lv_at hl 1 rfl) ?_
        refine lv_iload_n hx hb dX7_ith_79 rfl (lv_at hl 2 rfl) ?_
        refine lv_i2l (v := x3.toInt64) hx hb dX7_ith_80 rfl ?_
        obtain ⟨h_81, hV⟩ := hV
        refine lv_ldiv hx hb dX7_ith_81 h_81 ?_
        refine lv_aload_n hx hb dX7_ith_82 rfl (lv_at hl 0 rfl) ?_
        refine va_get (D := D) (ci := 6) (v := .int (g 3)) (C := RX7) (T := TX7) (N := 18) hx hb hts (by decide +kernel) hown hK hP 0 rfl rfl 4 (by decide) (hts (.fieldLink RX7 13 "PowerRestsModel" "period" "I") (by decide +kernel)) (fun _ h9 => h9) rfl dX7_ith_83 ?_
        refine lv_i2l (v := (g 3).toInt64) hx hb dX7_ith_86 rfl ?_
        refine lv_lmul hx hb dX7_ith_87 ?_
        refine lv_iload hx hb dX7_ith_88 (lv_at hl 4 rfl) ?_
        refine lv_i2l (v := x6.toInt64) hx hb dX7_ith_90 rfl ?_
        refine lv_ladd hx hb dX7_ith_91 ?_
        exact W.lret (v := ((p0 / x3.toInt64) * ((g 3).toInt64)) + x6.toInt64) hx hb hr (fun t ht hW => ⟨_, rfl, hV, ht⟩) (fun _ h => by cases h) dX7_ith_92
      · have hV := hV.2 c_49
        refine lv_lload hx hb dX7_ith_53 (lv_at hl 3 rfl) ?_
        refine lv_aload_n hx hb dX7_ith_55 rfl (lv_at hl 0 rfl) ?_
        refine lv_iload hx hb dX7_ith_56 (lv_at hl 4 rfl) ?_
        obtain ⟨h_58, hV⟩ := hV
        refine cp_i (va_runV (As := [.int x6]) (rest := [.long x4]) ⟨hx, hb, hml, hown, hts⟩ (spec_X7_fails l D cy ad s.heap.size g a x6 h_58) (cwV 1 hts gX7_ith_X7_fails rfl rfl rfl (by decide +kernel) ⟨Nat.le_of_ble_eq_true rfl, Nat.le_of_ble_eq_true rfl⟩) (ar_preV hN hK hP hD (ci := 6) (q0 := 0) rfl rfl) rfl rfl hl.1 rfl (lv_room (Nat.le_of_ble_eq_true rfl)) dX7_ith_58 ⟨Nat.zero_le _, Nat.zero_le _⟩) (fun r58 q_58 => ?_)
        have hV := hV r58 q_58
        refine lv_if_ne (tgt := 68) hx hb dX7_ith_61 (by decide) (fun c_61 => ?_) (fun c_61 => ?_)
        · have hV := hV.2 c_61
          refine lv_lconst (v := (0 : Int64)) hx hb dX7_ith_68 (by decide) ?_
          refine lv_lsub hx hb dX7_ith_69 ?_
          refine lv_lstore (lv' := [(4, .long (x4 - (0 : Int64))), (0, .ref (ad 0)), (1, .long p0), (3, .int x3), (6, .int x6)]) hx hb dX7_ith_70 hl (by decide) rfl (fun ls hl => ?_)
          refine lv_iinc (v := x6 + 1) (lv' := [(6, .int (x6 + 1)), (4, .long (x4 - (0 : Int64))), (0, .ref (ad 0)), (1, .long p0), (3, .int x3)]) hx hb dX7_ith_72 hl (k := 4) rfl rfl (by decide) rfl (fun ls hl => ?_)
          refine lv_goto (tgt := 37) hx hb dX7_ith_75 (by decide) ?_
          exact oJ37 _ _ _ hV _ (lv_sub hl [2, 3, 4, 1, 0] rfl)
        · have hV := hV.1 c_61
          refine lv_lconst (v := (1 : Int64)) hx hb dX7_ith_64 (by decide) ?_
          refine lv_goto (tgt := 69) hx hb dX7_ith_65 (by decide) ?_
          refine lv_lsub hx hb dX7_ith_69 ?_
          refine lv_lstore (lv' := [(4, .long (x4 - (1 : Int64))), (0, .ref (ad 0)), (1, .long p0), (3, .int x3), (6, .int x6)]) hx hb dX7_ith_70 hl (by decide) rfl (fun ls hl => ?_)
          refine lv_iinc (v := x6 + 1) (lv' := [(6, .int (x6 + 1)), (4, .long (x4 - (1 : Int64))), (0, .ref (ad 0)), (1, .long p0), (3, .int x3)]) hx hb dX7_ith_72 hl (k := 4) rfl rfl (by decide) rfl (fun ls hl => ?_)
          refine lv_goto (tgt := 37) hx hb dX7_ith_75 (by decide) ?_
          exact oJ37 _ _ _ hV _ (lv_sub hl [2, 3, 4, 1, 0] rfl))
  have hl := lv_entry ([.ref (ad 0), .long p0]) (n := 7) (Nat.le_of_ble_eq_true rfl)
  rw [lg_entry_eq]
  generalize (lg_sl ([.ref (ad 0), .long p0]) ++ List.replicate (7 - (lg_sl ([.ref (ad 0), .long p0])).length) Slot.unset).toArray = ls at hl ⊢
  have hl : lv_has ls 7 [(0, .ref (ad 0)), (1, .long p0)] := hl
  refine lv_lload_n hx hb dX7_ith_0 rfl (lv_at hl 1 rfl) ?_
  refine lv_lconst (v := (0 : Int64)) hx hb dX7_ith_1 (by decide) ?_
  refine lv_ldc2 (v := (1000000000 : Int64)) hx hb hown (hts (.constantLong RX7 149 (1000000000)) (by decide +kernel)) dX7_ith_2 ?_
  refine cp_i (va_runS (As := [.long p0, .long (0 : Int64), .long (1000000000 : Int64)]) (rest := []) ⟨hx, hb, hml, hown, hts⟩ (spec_X7_in l p0 (0 : Int64) (1000000000 : Int64)) (va_cwS 3 hts gX7_ith_X7_in rfl rfl rfl (by decide +kernel) ⟨Nat.le_of_ble_eq_true rfl, Nat.le_of_ble_eq_true rfl⟩) cp_pre rfl rfl hl.1 rfl (lv_room (Nat.le_of_ble_eq_true rfl)) dX7_ith_5 ⟨Nat.zero_le _, Nat.zero_le _⟩) (fun r5 q_5 => ?_)
  have hV := hV r5 q_5
  refine lv_if_ne (tgt := 15) hx hb dX7_ith_8 (by decide) (fun c_8 => ?_) (fun c_8 => ?_)
  · have hV := hV.2 c_8
    refine lv_aload_n hx hb dX7_ith_15 rfl (lv_at hl 0 rfl) ?_
    obtain ⟨h_16, hV⟩ := hV
    refine cp_i (va_runV (As := []) (rest := []) ⟨hx, hb, hml, hown, hts⟩ (spec_X7_leftOf l D cy ad s.heap.size g a h_16) (cwV 0 hts gX7_ith_X7_leftOf rfl rfl rfl (by decide +kernel) ⟨Nat.le_of_ble_eq_true rfl, Nat.le_of_ble_eq_true rfl⟩) (ar_preV hN hK hP hD (ci := 6) (q0 := 0) rfl rfl) rfl rfl hl.1 rfl (lv_room (Nat.le_of_ble_eq_true rfl)) dX7_ith_16 ⟨Nat.zero_le _, Nat.zero_le _⟩) (fun r16 q_16 => ?_)
    have hV := hV r16 q_16
    refine lv_istore_n (lv' := [(3, .int r16), (0, .ref (ad 0)), (1, .long p0)]) hx hb dX7_ith_19 rfl hl (by decide) rfl (fun ls hl => ?_)
    refine lv_iload_n hx hb dX7_ith_20 rfl (lv_at hl 0 rfl) ?_
    refine lv_if_ne (tgt := 28) hx hb dX7_ith_21 (by decide) (fun c_21 => ?_) (fun c_21 => ?_)
    · have hV := hV.2 c_21
      refine lv_lload_n hx hb dX7_ith_28 rfl (lv_at hl 2 rfl) ?_
      refine lv_iload_n hx hb dX7_ith_29 rfl (lv_at hl 0 rfl) ?_
      refine lv_i2l (v := r16.toInt64) hx hb dX7_ith_30 rfl ?_
      obtain ⟨h_31, hV⟩ := hV
      refine lv_lrem hx hb dX7_ith_31 h_31 ?_
      refine lv_lstore (lv' := [(4, .long (p0 - p0 / r16.toInt64 * r16.toInt64)), (3, .int r16), (0, .ref (ad 0)), (1, .long p0)]) hx hb dX7_ith_32 hl (by decide) rfl (fun ls hl => ?_)
      refine lv_iconst (v := (0 : Int32)) hx hb dX7_ith_34 (by decide) ?_
      refine lv_istore (lv' := [(6, .int (0 : Int32)), (4, .long (p0 - p0 / r16.toInt64 * r16.toInt64)), (3, .int r16), (0, .ref (ad 0)), (1, .long p0)]) hx hb dX7_ith_35 hl (by decide) rfl (fun ls hl => ?_)
      exact oJ37 _ _ _ hV _ (lv_sub hl [3, 4, 2, 1, 0] rfl)
    · have hV := hV.1 c_21
      refine lv_ldc2 (v := (-4 : Int64)) hx hb hown (hts (.constantLong RX7 153 (-4)) (by decide +kernel)) dX7_ith_24 ?_
      exact W.lret (v := (-4 : Int64)) hx hb hr (fun t ht hW => ⟨_, rfl, hV, ht⟩) (fun _ h => by cases h) dX7_ith_27
  · have hV := hV.1 c_8
    refine lv_ldc2 (v := (-1 : Int64)) hx hb hown (hts (.constantLong RX7 151 (-1)) (by decide +kernel)) dX7_ith_11 ?_
    exact W.lret (v := (-1 : Int64)) hx hb hr (fun t ht hW => ⟨_, rfl, hV, ht⟩) (fun _ h => by cases h) dX7_ith_14
def post_X7_ith (g : Gs) (a : As) (p0 r : Int64) : Prop := IthLAns (mN g) (mH a) (mP g) p0 r
set_option maxRecDepth 4000 in
theorem spec_X7_ith (l : Launch) (D : va_G) (cy : Nat → ClassId) (ad : Nat → Nat) (sz : Nat) (g : Gs) (a : As) (p0 : Int64) (hpre : pre_X7_ith g a p0) : Met l yX7_ith wsX7_ith ({ frames := 4, cells := 0, slots := 0, locals := 98 } : Room) (va_Pc [.ref (ad 0), .long p0] (ArP D cy sz (maW ad cy g a))) (Qpl (post_X7_ith g a p0)) 0 0 noF := by
  apply met_X7_ith
  intro J hJ r5 h5
  have hLd : LdM g a := hpre
  obtain ⟨hP1, hP2, hg3⟩ := hLd.2.1
  have l0 : (0 : Int64).toInt = 0 := rfl
  have l9 : (1000000000 : Int64).toInt = 1000000000 := rfl
  unfold post_X7_in at h5
  rw [l0, l9] at h5
  subst h5
  refine ⟨fun h => Or.inl ⟨zb_0 h, rfl⟩, fun h => ⟨hLd, fun r16 h16 => ?_⟩⟩
  have hin := zb_1 h
  obtain ⟨i, hi, rfl, hi2⟩ := of_l hin.1
  have hcl := fb_ct_le (LfB (mN g) (mH a)) (mP g)
  have good : ∀ r, LeftAt (mN g) (mH a) (mP g) i r → post_X7_ith g a (lN i) r := fun r h => Or.inr ⟨hin, by rw [tl_lN hi]; exact h⟩
  rw [show r16 = nI (fb_ct (LfB (mN g) (mH a)) (mP g)) from h16]
  rw [hg3] at hJ
  obtain ⟨P, hPd⟩ : ∃ P, P = mP g := ⟨_, rfl⟩
  rw [← hPd] at hJ hP1 hP2 good hcl ⊢
  obtain ⟨c, hcd⟩ : ∃ c, c = fb_ct (LfB (mN g) (mH a)) P := ⟨_, rfl⟩
  rw [← hcd] at hcl ⊢
  refine pk_eq c 0 (fun hc => good _ (Or.inl ⟨by omega, rfl⟩)) (fun hc => ?_) rfl rfl (by omega) (by omega)
  have hd : i / c ≤ i := Nat.div_le_self _ _
  have hB : i / c * P ≤ 1000000000 * 2000000 := Nat.mul_le_mul (by omega) hP2
  have hml := Nat.mod_lt i (show 0 < c by omega)
  rw [nI_l (by omega), pk_lRem hi (by omega) (by omega)]
  refine ⟨lN_nz (by omega) (by omega), ?_⟩
  have key : ∀ (d x o : Nat), x + d = P → fb_ct (LfB (mN g) (mH a)) x + o = i % c → J (nI c) (lN o) (nI x) := by
    intro d
    induction d with
    | zero =>
      intro x o hx ho
      have : x = P := by omega
      subst this
      omega
    | succ d ih =>
      intro x o hx ho
      refine hJ _ _ _ ⟨⟨hLd, by rw [nI_toInt (by omega)]; omega⟩, fun r40 h40 => ?_⟩
      unfold post_X7_fails at h40
      rw [tn_nI (by omega)] at h40
      subst h40
      rw [fl_z hLd]
      have again : pre_X7_fails g a (nI x) ∧ ∀ r58, post_X7_fails g a (nI x) r58 → (r58 = 0 ↔ LfB (mN g) (mH a) x = true) := ⟨⟨hLd, by rw [nI_toInt (by omega)]; omega⟩, fun r58 h58 => by
        unfold post_X7_fails at h58
        rw [tn_nI (by omega)] at h58
        rw [h58]; exact fl_z hLd x⟩
      refine ⟨fun z => ql_le o 0 (fun ho0 => ?_) (fun ho0 => ⟨again.1, fun r58 h58 => ⟨fun _ => ?_, fun y => absurd ((again.2 r58 h58).mpr z) y⟩⟩) rfl rfl (by omega) (by omega), fun z => ⟨again.1, fun r58 h58 => ⟨fun y => absurd ((again.2 r58 h58).mp y) z, fun _ => ?_⟩⟩⟩
      · have e0 : o = 0 := by omega
        subst e0
        rw [nI_l (by omega), nI_l (by omega), nI_l (by omega), pk_lDiv hi (by omega) (by omega), lN_mul, lN_add]
        exact ⟨lN_nz (by omega) (by omega), good _ (Or.inr ⟨by omega, x, by omega, z, by rw [← hcd]; omega, by rw [← hcd]⟩)⟩
      · rw [show lN o - (1 : Int64) = lN (o - 1) from lN_sub (b := 1) ho0, nI_1]
        exact ih (x + 1) (o - 1) (by omega) (by rw [fb_ct_succ, if_pos z]; omega)
      · rw [show lN o - (0 : Int64) = lN o from Int64.sub_zero _, nI_1]
        exact ih (x + 1) o (by omega) (by rw [fb_ct_succ, if_neg z]; omega)
  exact key P 0 (i % c) (by omega) (Nat.zero_add _)
def pre_X7_from (g : Gs) (a : As) (p0 : Int64) : Prop := LdM g a
set_option maxHeartbeats 4000000 in
set_option maxRecDepth 100000 in
theorem met_X7_from (l : Launch) (D : va_G) (cy : Nat → ClassId) (ad : Nat → Nat) (sz : Nat) (g : Gs) (a : As) (p0 : Int64) (post : Int64 → Prop)
  (hV : ∀ (J17 : Int32 → Prop),
    (∀ (x3 : Int32), (((g 3) ≤ x3 → post (-4 : Int64)) ∧ (¬ (g 3) ≤ x3 → ¬ ((g 3).toInt64) = 0 ∧ (pre_X7_fails g a (((p0 + x3.toInt64) - (p0 + x3.toInt64) / ((g 3).toInt64) * ((g 3).toInt64)).toInt32) ∧ (∀ r37 : Int32, post_X7_fails g a (((p0 + x3.toInt64) - (p0 + x3.toInt64) / ((g 3).toInt64) * ((g 3).toInt64)).toInt32) r37 → ((r37 = 0 → post (p0 + x3.toInt64)) ∧ (¬ r37 = 0 → J17 (x3 + 1))))))) → J17 x3) →
    ∀ r5 : Int32, post_X7_in p0 (0 : Int64) (1000000000000000 : Int64) r5 → ((r5 = 0 → post (-1 : Int64)) ∧ (¬ r5 = 0 → J17 (0 : Int32)))) :
  Met l yX7_from wsX7_from ({ frames := 3, cells := 0, slots := 0, locals := 76 } : Room) (va_Pc [.ref (ad 0), .long p0] (ArP D cy sz (maW ad cy g a))) (Qpl post) 0 0 noF := by
  refine Met.ofW (cc := cX7_from) (maxL := 4) (ret := (some .long)) (by decide) rfl ?_
  intro p e s m args below meth c s₁ B hml hv
  obtain ⟨rfl, hsz, hP, hK, hD0, hN⟩ := hv
  have hx := B.exec
  have hb := B.bytes
  have hr := B.returns
  have hts := atoms_spec (ws := wsX7_from) B.pre
  have hown : s.vm.findClass RX7 = some m.cls := findClass_of_methodNamed B.named
  have hlocks := B.notSynchronized
  subst hsz
  have hP : va_P D vwCl (maW ad cy g a) s.heap := hP
  have hD : va_D (fun _ => True) (maW ad cy g a) := hD0
  obtain ⟨J17, iJ17, oJ17⟩ : ∃ J : Int32 → Prop, (∀ (x3 : Int32), (∀ ls : Array Slot, lv_has ls 4 [(0, .ref (ad 0)), (1, .long p0), (3, .int x3)] → W p l e (headSpec wsX7_from ({ frames := 3, cells := 0, slots := 0, locals := 76 } : Room)).room s m [.ref (ad 0), .long p0].toArray below meth c s.heap [] 0 0 (MQ below (Qpl post) [.ref (ad 0), .long p0].toArray s 0 0 noF) (F0 m 17 ls [])) → J x3) ∧ (∀ (x3 : Int32), J x3 → (∀ ls : Array Slot, lv_has ls 4 [(0, .ref (ad 0)), (1, .long p0), (3, .int x3)] → W p l e (headSpec wsX7_from ({ frames := 3, cells := 0, slots := 0, locals := 76 } : Room)).room s m [.ref (ad 0), .long p0].toArray below meth c s.heap [] 0 0 (MQ below (Qpl post) [.ref (ad 0), .long p0].toArray s 0 0 noF) (F0 m 17 ls []))) := ⟨fun (x3 : Int32) => (∀ ls : Array Slot, lv_has ls 4 [(0, .ref (ad 0)), (1, .long p0), (3, .int x3)] → W p l e (headSpec wsX7_from ({ frames := 3, cells := 0, slots := 0, locals := 76 } : Room)).room s m [.ref (ad 0), .long p0].toArray below meth c s.heap [] 0 0 (MQ below (Qpl post) [.ref (ad 0), .long p0].toArray s 0 0 noF) (F0 m 17 ls [])), fun _ h => h, fun _ h => h⟩
  have hV := hV J17
  replace hV := hV (by
    intro x3 hV
    refine iJ17 x3 ?_
    intro ls hl
    refine lv_iload_n hx hb dX7_from_17 rfl (lv_at hl 2 rfl) ?_
    refine lv_aload_n hx hb dX7_from_18 rfl (lv_at hl 0 rfl) ?_
    refine va_get (D := D) (ci := 6) (v := .int (g 3)) (C := RX7) (T := TX7) (N := 18) hx hb hts (by decide +kernel) hown hK hP 0 rfl rfl 4 (by decide) (hts (.fieldLink RX7 13 "PowerRestsModel" "period" "I") (by decide +kernel)) (fun _ h9 => h9) rfl dX7_from_19 ?_
    refine lv_icmp_ge (tgt := 54) hx hb dX7_from_22 (by decide) (fun c_22 => ?_) (fun c_22 => ?_)
    · have hV := hV.1 c_22
      refine lv_ldc2 (v := (-4 : Int64)) hx hb hown (hts (.constantLong RX7 153 (-4)) (by decide +kernel)) dX7_from_54 ?_
      exact W.lret (v := (-4 : Int64)) hx hb hr (fun t ht hW => ⟨_, rfl, hV, ht⟩) (fun _ h => by cases h) dX7_from_57
    · have hV := hV.2 c_22
      refine lv_aload_n hx hb dX7_from_25 rfl (lv_at hl 0 rfl) ?_
      refine lv_lload_n hx hb dX7_from_26 rfl (lv_at hl 1 rfl) ?_
      refine lv_iload_n hx hb dX7_from_27 rfl (lv_at hl 2 rfl) ?_
      refine lv_i2l (v := x3.toInt64) hx hb dX7_from_28 rfl ?_
      refine lv_ladd hx hb dX7_from_29 ?_
      refine lv_aload_n hx hb dX7_from_30 rfl (lv_at hl 0 rfl) ?_
      refine va_get (D := D) (ci := 6) (v := .int (g 3)) (C := RX7) (T := TX7) (N := 18) hx hb hts (by decide +kernel) hown hK hP 0 rfl rfl 4 (by decide) (hts (.fieldLink RX7 13 "PowerRestsModel" "period" "I") (by decide +kernel)) (fun _ h9 => h9) rfl dX7_from_31 ?_
      refine lv_i2l (v := (g 3).toInt64) hx hb dX7_from_34 rfl ?_
      obtain ⟨h_35, hV⟩ := hV
      refine lv_lrem hx hb dX7_from_35 h_35 ?_
      refine lv_l2i (v := ((p0 + x3.toInt64) - (p0 + x3.toInt64) / ((g 3).toInt64) * ((g 3).toInt64)).toInt32) hx hb dX7_from_36 rfl ?_
      obtain ⟨h_37, hV⟩ := hV
      refine cp_i (va_runV (As := [.int (((p0 + x3.toInt64) - (p0 + x3.toInt64) / ((g 3).toInt64) * ((g 3).toInt64)).toInt32)]) (rest := []) ⟨hx, hb, hml, hown, hts⟩ (spec_X7_fails l D cy ad s.heap.size g a (((p0 + x3.toInt64) - (p0 + x3.toInt64) / ((g 3).toInt64) * ((g 3).toInt64)).toInt32) h_37) (cwV 1 hts gX7_from_X7_fails rfl rfl rfl (by decide +kernel) ⟨Nat.le_of_ble_eq_true rfl, Nat.le_of_ble_eq_true rfl⟩) (ar_preV hN hK hP hD (ci := 6) (q0 := 0) rfl rfl) rfl rfl hl.1 rfl (lv_room (Nat.le_of_ble_eq_true rfl)) dX7_from_37 ⟨Nat.zero_le _, Nat.zero_le _⟩) (fun r37 q_37 => ?_)
      have hV := hV r37 q_37
      refine lv_if_ne (tgt := 48) hx hb dX7_from_40 (by decide) (fun c_40 => ?_) (fun c_40 => ?_)
      · have hV := hV.2 c_40
        refine lv_iinc (v := x3 + 1) (lv' := [(3, .int (x3 + 1)), (0, .ref (ad 0)), (1, .long p0)]) hx hb dX7_from_48 hl (k := 2) rfl rfl (by decide) rfl (fun ls hl => ?_)
        refine lv_goto (tgt := 17) hx hb dX7_from_51 (by decide) ?_
        exact oJ17 _ hV _ (lv_sub hl [1, 2, 0] rfl)
      · have hV := hV.1 c_40
        refine lv_lload_n hx hb dX7_from_43 rfl (lv_at hl 1 rfl) ?_
        refine lv_iload_n hx hb dX7_from_44 rfl (lv_at hl 2 rfl) ?_
        refine lv_i2l (v := x3.toInt64) hx hb dX7_from_45 rfl ?_
        refine lv_ladd hx hb dX7_from_46 ?_
        exact W.lret (v := p0 + x3.toInt64) hx hb hr (fun t ht hW => ⟨_, rfl, hV, ht⟩) (fun _ h => by cases h) dX7_from_47)
  have hl := lv_entry ([.ref (ad 0), .long p0]) (n := 4) (Nat.le_of_ble_eq_true rfl)
  rw [lg_entry_eq]
  generalize (lg_sl ([.ref (ad 0), .long p0]) ++ List.replicate (4 - (lg_sl ([.ref (ad 0), .long p0])).length) Slot.unset).toArray = ls at hl ⊢
  have hl : lv_has ls 4 [(0, .ref (ad 0)), (1, .long p0)] := hl
  refine lv_lload_n hx hb dX7_from_0 rfl (lv_at hl 1 rfl) ?_
  refine lv_lconst (v := (0 : Int64)) hx hb dX7_from_1 (by decide) ?_
  refine lv_ldc2 (v := (1000000000000000 : Int64)) hx hb hown (hts (.constantLong RX7 155 (1000000000000000)) (by decide +kernel)) dX7_from_2 ?_
  refine cp_i (va_runS (As := [.long p0, .long (0 : Int64), .long (1000000000000000 : Int64)]) (rest := []) ⟨hx, hb, hml, hown, hts⟩ (spec_X7_in l p0 (0 : Int64) (1000000000000000 : Int64)) (va_cwS 3 hts gX7_from_X7_in rfl rfl rfl (by decide +kernel) ⟨Nat.le_of_ble_eq_true rfl, Nat.le_of_ble_eq_true rfl⟩) cp_pre rfl rfl hl.1 rfl (lv_room (Nat.le_of_ble_eq_true rfl)) dX7_from_5 ⟨Nat.zero_le _, Nat.zero_le _⟩) (fun r5 q_5 => ?_)
  have hV := hV r5 q_5
  refine lv_if_ne (tgt := 15) hx hb dX7_from_8 (by decide) (fun c_8 => ?_) (fun c_8 => ?_)
  · have hV := hV.2 c_8
    refine lv_iconst (v := (0 : Int32)) hx hb dX7_from_15 (by decide) ?_
    refine lv_istore_n (lv' := [(3, .int (0 : Int32)), (0, .ref (ad 0)), (1, .long p0)]) hx hb dX7_from_16 rfl hl (by decide) rfl (fun ls hl => ?_)
    exact oJ17 _ hV _ (lv_sub hl [1, 2, 0] rfl)
  · have hV := hV.1 c_8
    refine lv_ldc2 (v := (-1 : Int64)) hx hb hown (hts (.constantLong RX7 151 (-1)) (by decide +kernel)) dX7_from_11 ?_
    exact W.lret (v := (-1 : Int64)) hx hb hr (fun t ht hW => ⟨_, rfl, hV, ht⟩) (fun _ h => by cases h) dX7_from_14
def post_X7_from (g : Gs) (a : As) (p0 r : Int64) : Prop := FroAns (mN g) (mH a) (mP g) p0 r
set_option maxRecDepth 4000 in
theorem spec_X7_from (l : Launch) (D : va_G) (cy : Nat → ClassId) (ad : Nat → Nat) (sz : Nat) (g : Gs) (a : As) (p0 : Int64) (hpre : pre_X7_from g a p0) : Met l yX7_from wsX7_from ({ frames := 3, cells := 0, slots := 0, locals := 76 } : Room) (va_Pc [.ref (ad 0), .long p0] (ArP D cy sz (maW ad cy g a))) (Qpl (post_X7_from g a p0)) 0 0 noF := by
  apply met_X7_from
  intro J hJ r5 h5
  have hLd : LdM g a := hpre
  have hper := hLd.per
  obtain ⟨hP1, hP2, hg3⟩ := hLd.2.1
  have l0 : (0 : Int64).toInt = 0 := rfl
  have l9 : (1000000000000000 : Int64).toInt = 1000000000000000 := rfl
  unfold post_X7_in at h5
  rw [l0, l9] at h5
  subst h5
  refine ⟨fun h => Or.inl ⟨zb_0 h, rfl⟩, fun h => ?_⟩
  have hin := zb_1 h
  obtain ⟨m, hm, rfl, hm2⟩ := of_l hin.1
  have good : ∀ r, FromAns (mN g) (mH a) (mP g) m r → post_X7_from g a (lN m) r := fun r h => Or.inr ⟨hin, by rw [tl_lN hm]; exact h⟩
  rw [hg3] at hJ
  have key : ∀ (d k : Nat), k + d = mP g → (∀ y, m ≤ y → y < m + k → LfB (mN g) (mH a) y = false) → J (nI k) := by
    intro d
    induction d with
    | zero =>
      intro k hk hno
      refine hJ _ (pk_le (mP g) k (fun _ => good _ (Or.inl ⟨?_, rfl⟩)) (fun h => absurd h (by omega)) rfl rfl (by omega) (by omega))
      apply Classical.byContradiction
      intro hc
      obtain ⟨y, y1, y2, y3⟩ := left_near hP1 hper (Nat.pos_of_ne_zero hc) m
      have := hno y y1 (by omega)
      rw [y3] at this
      exact Bool.noConfusion this
    | succ d ih =>
      intro k hk hno
      have hml := Nat.mod_lt (m + k) (show 0 < mP g by omega)
      refine hJ _ (pk_le (mP g) k (fun h => absurd h (by omega)) (fun _ => ?_) rfl rfl (by omega) (by omega))
      rw [nI_l (by omega), nI_l (by omega), lN_add, pk_lRem (by omega) (by omega) (by omega), lN_i]
      refine ⟨lN_nz (by omega) (by omega), ⟨hLd, by rw [nI_toInt (by omega)]; omega⟩, fun r hr => ?_⟩
      unfold post_X7_fails at hr
      rw [tn_nI (by omega)] at hr
      subst hr
      have em : LfB (mN g) (mH a) ((m + k) % mP g) = LfB (mN g) (mH a) (m + k) := LfB_mod hper (Nat.mod_mod _ _)
      rw [fl_z hLd, em, nI_1]
      refine ⟨fun z => good _ (Or.inr ⟨?_, m + k, by omega, z, hno, rfl⟩), fun z => ih (k + 1) (by omega) (fun y h1 h2 => ?_)⟩
      · exact fb_ct_pos.mpr ⟨(m + k) % mP g, hml, by rw [em]; exact z⟩
      · by_cases y3 : y < m + k
        · exact hno y h1 y3
        · rw [show y = m + k by omega]
          cases hc : LfB (mN g) (mH a) (m + k)
          · rfl
          · exact absurd hc z
  exact key (mP g) 0 (by omega) (fun y h1 h2 => by omega)
