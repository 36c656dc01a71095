/-! the law's loop; the law from its entry -/
theorem lf_one (H : Nat → Nat → Bool) : fb_ct (LfB 0 H) 1 = 1 := by
  rw [fb_ct_succ, if_pos (show LfB 0 H 0 = true from cb_t (fun k hk => absurd hk (Nat.not_lt_zero k)))]
  rfl
theorem rel_0 : Rel 0 (fun k => if k = 10 then 1 else if k = 11 then 1 else 0) (fun _ _ => 0) (fun _ _ => 0) (fun k => if k = 3 then 1 else 0) (fun _ _ => 0) := by
  refine ⟨Or.inl ⟨rfl, rfl⟩, ⟨⟨by decide, rfl, fun i hi => absurd hi (Nat.not_lt_zero i)⟩, ⟨by decide, rfl, fun i hi => absurd hi (Nat.not_lt_zero i)⟩, rfl, fun i hi => absurd hi (Nat.not_lt_zero i)⟩, ⟨⟨⟨by decide, rfl⟩, fun k hk => absurd hk (Nat.not_lt_zero k)⟩, ⟨by decide, by decide, rfl⟩, fun k hk => absurd hk (Nat.not_lt_zero k), ?_⟩, ⟨⟨by decide, rfl⟩, ⟨by decide, by decide, rfl⟩, fun k hk => absurd hk (Nat.not_lt_zero k)⟩, rfl, rfl, fun k hk => absurd hk (Nat.not_lt_zero k)⟩
  exact congrArg nI (lf_one _).symm
set_option maxHeartbeats 4000000 in
set_option maxRecDepth 100000 in
theorem law_loop {p : Program} {l : Launch} {e : Env} {s : State} {m : MethodId} {below : List Frame} {meth : Method} {c : Code} {b L : Nat} {xs : Nat → Int32} (hL : L ≤ 2560) (C0 : lw_At p s m meth c b L xs) {D : va_G} {cy : Nat → ClassId} {ad ad' : Nat → Nat} (hK : va_K D vwCl (cyT cy) s) (hN : NestOk s) :
    ∀ (n j : Nat), 5 * j ≤ L + 4 → L + 5 ≤ 5 * (j + n) → ∀ (g : Gs) (a : As) (w : Ws) (g' : Gs) (a' : As) (H : Heap) (locs : List Loc), va_P D vwCl (bW ad ad' cy g a w g' a') H → va_D (fun q : Nat => s.heap.size ≤ q) (bW ad ad' cy g a w g' a') → va_S (fun q : Nat => s.heap.size ≤ q) s.heap H locs → Rel j g a w g' a' → ∀ (ls : Array Slot), lv_has ls 4 [(0, .ref b), (1, .ref (ad 0)), (2, .ref (ad' 0)), (3, .int (nI (5 * j)))] → W p l e room_1 s m #[Value.ref b] below meth c H locs 40 103431 (lw_Z below #[Value.ref b] s) (F0 m 18 ls []) := by
  obtain ⟨hx, hb, hr, hml, hown, hts, hX, hbl, hlocks, hgv⟩ := id C0
  have hbA : ¬ (fun q : Nat => s.heap.size ≤ q) b := Nat.not_le.mpr hbl
  intro n
  induction n with
  | zero =>
    intro j h1 h2
    exact absurd h2 (by omega)
  | succ n ih =>
    intro j h1 h2 g a w g' a' H locs hP hD hS hR ls hl
    refine lv_iload_n hx hb dL_law_18 rfl (lv_at hl 3 rfl) ?_
    refine lv_aload_n hx hb dL_law_19 rfl (lv_at hl 0 rfl) ?_
    refine va_slen hx hb hX hbl hbA hS dL_law_20 ?_
    refine lv_iconst (v := (5 : Int32)) hx hb dL_law_21 (by decide) ?_
    refine lv_isub hx hb dL_law_22 ?_
    have e5 : (Int32.ofNat L - (5 : Int32)).toInt = (L : Int) - 5 := pk_sub_toInt (b := 5) (by omega) (by omega)
    refine lv_icmp_gt (tgt := 1393) hx hb dL_law_23 (by decide) (fun c1 => ?_) (fun c1 => ?_)
    · refine lv_iconst (v := (1 : Int32)) hx hb dL_law_1393 (by decide) ?_
      refine va_forget (fun q hq => hS.2.2 q hq) ?_
      refine W.widen (k := 600000) (n := 7302250) (Nat.le_of_ble_eq_true rfl) (Nat.le_of_ble_eq_true rfl) ?_
      exact lw_ret hx hb hr hlocks dL_law_1394
    · have hi : 5 * j + 5 ≤ L := by
        rw [i_lt, e5, nI_toInt (by omega)] at c1
        omega
      have hj : j < 80000 := by omega
      have kk : LawK p l e s m below meth c b D cy ad ad' j ls := by
        intro g a w g' a' H locs hP hS hR
        refine lv_iinc (v := nI (5 * j) + 5) (lv' := [(3, .int (nI (5 * j) + 5)), (0, .ref b), (1, .ref (ad 0)), (2, .ref (ad' 0))]) hx hb dL_law_1387 hl (k := 3) rfl rfl (by decide) rfl (fun ls hl => ?_)
        refine lv_goto (tgt := 18) hx hb dL_law_1390 (by decide) ?_
        have e : nI (5 * j) + (5 : Int32) = nI (5 * (j + 1)) := nI_add (5 * j) 5
        rw [e] at hl
        exact ih (j + 1) (by omega) (by omega) g a w g' a' H locs hP (bD hD) hS hR ls (lv_sub hl [1, 2, 3, 0] rfl)
      refine lv_aload_n hx hb dL_law_26 rfl (lv_at hl 0 rfl) ?_
      refine lv_iload_n hx hb dL_law_27 rfl (lv_at hl 3 rfl) ?_
      refine va_sld hx hb hX hbl hbA hS (vp_in_nI (by omega) (by omega)) dL_law_28 ?_
      refine lv_bipush (v := (31 : Int32)) hx hb dL_law_29 (by decide) ?_
      refine lv_iand hx hb dL_law_31 ?_
      obtain ⟨t, ht, et⟩ := pk_andE (xs (nI (5 * j)).toNatClampNeg) (m := 31) 5 (by decide)
      rw [et]
      rcases (show t = 0 ∨ t = 1 ∨ t = 2 ∨ t = 3 ∨ t = 4 ∨ t = 5 ∨ t = 6 ∨ t = 7 ∨ t = 8 ∨ t = 9 ∨ t = 10 ∨ t = 11 ∨ t = 12 ∨ t = 13 ∨ t = 14 ∨ t = 15 ∨ t = 16 ∨ t = 17 ∨ t = 18 ∨ t = 19 ∨ t = 20 ∨ t = 21 ∨ t = 22 ∨ t = 23 ∨ t = 24 ∨ t = 25 ∨ t = 26 ∨ t = 27 ∨ t = 28 ∨ t = 29 ∨ t = 30 ∨ t = 31 by omega) with rfl | rfl | rfl | rfl | rfl | rfl | rfl | rfl | rfl | rfl | rfl | rfl | rfl | rfl | rfl | rfl | rfl | rfl | rfl | rfl | rfl | rfl | rfl | rfl | rfl | rfl | rfl | rfl | rfl | rfl | rfl | rfl
      · exact lv_tableIn (off := 140) (tgt := 172) hx hb dL_law_32 (by decide +kernel) (by decide +kernel) rfl (by decide) (law_units hL C0 hK hN hi hj hP hD hS hR hl kk)
      · exact lv_tableIn (off := 173) (tgt := 205) hx hb dL_law_32 (by decide +kernel) (by decide +kernel) rfl (by decide) (law_order hL C0 hK hN hi hj hP hD hS hR hl kk)
      · exact lv_tableIn (off := 206) (tgt := 238) hx hb dL_law_32 (by decide +kernel) (by decide +kernel) rfl (by decide) (law_orders hL C0 hK hN hi hj hP hD hS hR hl kk)
      · exact lv_tableIn (off := 249) (tgt := 281) hx hb dL_law_32 (by decide +kernel) (by decide +kernel) rfl (by decide) (law_makers hL C0 hK hN hi hj hP hD hS hR hl kk)
      · exact lv_tableIn (off := 282) (tgt := 314) hx hb dL_law_32 (by decide +kernel) (by decide +kernel) rfl (by decide) (law_power hL C0 hK hN hi hj hP hD hS hR hl kk)
      · exact lv_tableIn (off := 355) (tgt := 387) hx hb dL_law_32 (by decide +kernel) (by decide +kernel) rfl (by decide) (law_log hL C0 hK hN hi hj hP hD hS hR hl kk)
      · exact lv_tableIn (off := 398) (tgt := 430) hx hb dL_law_32 (by decide +kernel) (by decide +kernel) rfl (by decide) (law_roots hL C0 hK hN hi hj hP hD hS hR hl kk)
      · exact lv_tableIn (off := 451) (tgt := 483) hx hb dL_law_32 (by decide +kernel) (by decide +kernel) rfl (by decide) (law_squares hL C0 hK hN hi hj hP hD hS hR hl kk)
      · exact lv_tableIn (off := 484) (tgt := 516) hx hb dL_law_32 (by decide +kernel) (by decide +kernel) rfl (by decide) (law_sign hL C0 hK hN hi hj hP hD hS hR hl kk)
      · exact lv_tableIn (off := 517) (tgt := 549) hx hb dL_law_32 (by decide +kernel) (by decide +kernel) rfl (by decide) (law_write hL C0 hK hN hi hj hP hD hS hR hl kk)
      · exact lv_tableIn (off := 580) (tgt := 612) hx hb dL_law_32 (by decide +kernel) (by decide +kernel) rfl (by decide) (law_wipe hL C0 hK hN hi hj hP hD hS hR hl kk)
      · exact lv_tableIn (off := 593) (tgt := 625) hx hb dL_law_32 (by decide +kernel) (by decide +kernel) rfl (by decide) (law_fault hL C0 hK hN hi hj hP hD hS hR hl kk)
      · exact lv_tableIn (off := 606) (tgt := 638) hx hb dL_law_32 (by decide +kernel) (by decide +kernel) rfl (by decide) (law_lay hL C0 hK hN hi hj hP hD hS hR hl kk)
      · exact lv_tableIn (off := 619) (tgt := 651) hx hb dL_law_32 (by decide +kernel) (by decide +kernel) rfl (by decide) (law_left hL C0 hK hN hi hj hP hD hS hR hl kk)
      · exact lv_tableIn (off := 632) (tgt := 664) hx hb dL_law_32 (by decide +kernel) (by decide +kernel) rfl (by decide) (law_ith hL C0 hK hN hi hj hP hD hS hR hl kk)
      · exact lv_tableIn (off := 686) (tgt := 718) hx hb dL_law_32 (by decide +kernel) (by decide +kernel) rfl (by decide) (law_from hL C0 hK hN hi hj hP hD hS hR hl kk)
      · exact lv_tableIn (off := 740) (tgt := 772) hx hb dL_law_32 (by decide +kernel) (by decide +kernel) rfl (by decide) (law_needless hL C0 hK hN hi hj hP hD hS hR hl kk)
      · exact lv_tableIn (off := 763) (tgt := 795) hx hb dL_law_32 (by decide +kernel) (by decide +kernel) rfl (by decide) (law_lone hL C0 hK hN hi hj hP hD hS hR hl kk)
      · exact lv_tableIn (off := 776) (tgt := 808) hx hb dL_law_32 (by decide +kernel) (by decide +kernel) rfl (by decide) (law_looks hL C0 hK hN hi hj hP hD hS hR hl kk)
      · exact lv_tableIn (off := 819) (tgt := 851) hx hb dL_law_32 (by decide +kernel) (by decide +kernel) rfl (by decide) (law_lied hL C0 hK hN hi hj hP hD hS hR hl kk)
      · exact lv_tableIn (off := 852) (tgt := 884) hx hb dL_law_32 (by decide +kernel) (by decide +kernel) rfl (by decide) (law_falseOnes hL C0 hK hN hi hj hP hD hS hR hl kk)
      · exact lv_tableIn (off := 885) (tgt := 917) hx hb dL_law_32 (by decide +kernel) (by decide +kernel) rfl (by decide) (law_fooled hL C0 hK hN hi hj hP hD hS hR hl kk)
      · exact lv_tableIn (off := 928) (tgt := 960) hx hb dL_law_32 (by decide +kernel) (by decide +kernel) rfl (by decide) (law_broken hL C0 hK hN hi hj hP hD hS hR hl kk)
      · exact lv_tableIn (off := 971) (tgt := 1003) hx hb dL_law_32 (by decide +kernel) (by decide +kernel) rfl (by decide) (law_figure hL C0 hK hN hi hj hP hD hS hR hl kk)
      · exact lv_tableIn (off := 1014) (tgt := 1046) hx hb dL_law_32 (by decide +kernel) (by decide +kernel) rfl (by decide) (law_soLong hL C0 hK hN hi hj hP hD hS hR hl kk)
      · exact lv_tableIn (off := 1067) (tgt := 1099) hx hb dL_law_32 (by decide +kernel) (by decide +kernel) rfl (by decide) (law_turning hL C0 hK hN hi hj hP hD hS hR hl kk)
      · exact lv_tableIn (off := 1110) (tgt := 1142) hx hb dL_law_32 (by decide +kernel) (by decide +kernel) rfl (by decide) (law_tower hL C0 hK hN hi hj hP hD hS hR hl kk)
      · exact lv_tableIn (off := 1183) (tgt := 1215) hx hb dL_law_32 (by decide +kernel) (by decide +kernel) rfl (by decide) (law_back hL C0 hK hN hi hj hP hD hS hR hl kk)
      · exact lv_tableIn (off := 1226) (tgt := 1258) hx hb dL_law_32 (by decide +kernel) (by decide +kernel) rfl (by decide) (law_stay hL C0 hK hN hi hj hP hD hS hR hl kk)
      · exact lv_tableIn (off := 1279) (tgt := 1311) hx hb dL_law_32 (by decide +kernel) (by decide +kernel) rfl (by decide) (law_rounds hL C0 hK hN hi hj hP hD hS hR hl kk)
      · exact lv_tableIn (off := 1332) (tgt := 1364) hx hb dL_law_32 (by decide +kernel) (by decide +kernel) rfl (by decide) (law_count hL C0 hK hN hi hj hP hD hS hR hl kk)
      · exact lv_tableOut (tgt := 1387) hx hb dL_law_32 (Or.inr (by decide +kernel)) (by decide) (kk g a w g' a' H locs hP hS hR.up)
set_option maxHeartbeats 4000000 in
set_option maxRecDepth 100000 in
theorem nest_in : (∀ q ∈ nestF, nestW q ∈ lw_tbl) ∧ (∀ q ∈ nestM, Cond.methodLinkNest q.1 q.2.1 q.2.2 "PowerRests" ∈ lw_tbl) := ⟨by decide +kernel, by decide +kernel⟩
set_option maxHeartbeats 4000000 in
set_option maxRecDepth 100000 in
/-- THE LAW, from its entry -/
theorem whole_start {p : Program} {e : Env} {s : State} {m : MethodId} {below : List Frame} {meth : Method} {c : Code} (l : Launch) {b L : Nat} {xs : Nat → Int32} (hL : L ≤ 2560) (C0 : lw_At p s m meth c b L xs) : W p l e room_1 s m #[Value.ref b] below meth c s.heap [] 0 0 (lw_Z below #[Value.ref b] s) (entryFrame m ([Value.ref b] : List Value).toArray 4) := by
  obtain ⟨hx, hb, hr, hml, hown0, hts0, hX, hbl, hlocks, hgv⟩ := id C0
  have hts : ∀ w ∈ wsL_law, w.before #[Value.ref b] s = true := fun w h => hts0 w (wsL_law_in w h)
  have hown : s.vm.findClass RL = some m.cls := hown0
  have hA : ∀ q : Nat, s.heap.size ≤ q → (fun q : Nat => s.heap.size ≤ q) q := fun _ h => h
  obtain ⟨c0, iS0, hKn0⟩ := u_known (C := RX0) (T := TX0) (N := 3) (n := 3) hts0 inX0 (hts0 (.instantiable RX0 3) (by decide +kernel))
  obtain ⟨c1, iS1, hKn1⟩ := u_known (C := RX1) (T := TX1) (N := 5) (n := 5) hts0 inX1 (hts0 (.instantiable RX1 5) (by decide +kernel))
  obtain ⟨c2, iS2, hKn2⟩ := u_known (C := RX2) (T := TX2) (N := 6) (n := 6) hts0 inX2 (hts0 (.instantiable RX2 6) (by decide +kernel))
  obtain ⟨c3, iS3, hKn3⟩ := u_known (C := RX3) (T := TX3) (N := 1) (n := 1) hts0 inX3 (hts0 (.instantiable RX3 1) (by decide +kernel))
  obtain ⟨c4, iS4, hKn4⟩ := u_known (C := RX5) (T := TX5) (N := 2) (n := 2) hts0 inX5 (hts0 (.instantiable RX5 2) (by decide +kernel))
  obtain ⟨c5, iS5, hKn5⟩ := u_known (C := RX6) (T := TX6) (N := 10) (n := 10) hts0 inX6 (hts0 (.instantiable RX6 10) (by decide +kernel))
  obtain ⟨c6, iS6, hKn6⟩ := u_known (C := RX7) (T := TX7) (N := 18) (n := 18) hts0 inX7 (hts0 (.instantiable RX7 18) (by decide +kernel))
  obtain ⟨dC, dI, hKc⟩ : ∃ (dC : Nat → ClassId) (dI : Nat → Nat → Nat), ∀ (k : Nat) (q : vw_C), vwCl[k]? = some q → u_Kn s q.1 q.2.1 q.2.2 (dC k) (dI k) := by
    refine ⟨fun k => if k = 0 then c0 else if k = 1 then c1 else if k = 2 then c2 else if k = 3 then c3 else if k = 4 then c4 else if k = 5 then c5 else c6, fun k => if k = 0 then iS0 else if k = 1 then iS1 else if k = 2 then iS2 else if k = 3 then iS3 else if k = 4 then iS4 else if k = 5 then iS5 else iS6, ?_⟩
    intro k q hq
    match k, hq with
    | 0, hq => cases hq; exact hKn0
    | 1, hq => cases hq; exact hKn1
    | 2, hq => cases hq; exact hKn2
    | 3, hq => cases hq; exact hKn3
    | 4, hq => cases hq; exact hKn4
    | 5, hq => cases hq; exact hKn5
    | 6, hq => cases hq; exact hKn6
    | k + 7, hq => simp [vwCl] at hq
  obtain ⟨yI, kI, mI, hI1, hI2, hI3⟩ := Cond.arrayClass_spec (hts0 (.arrayClass .int) (by decide +kernel))
  obtain ⟨yZ, kZ, mZ, hZ1, hZ2, hZ3⟩ := Cond.arrayClass_spec (hts0 (.arrayClass .boolean) (by decide +kernel))
  obtain ⟨yJ, kJ, mJ, hJ1, hJ2, hJ3⟩ := Cond.arrayClass_spec (hts0 (.arrayClass .long) (by decide +kernel))
  obtain ⟨yB, kB, mB, hB1, hB2, hB3⟩ := Cond.arrayClass_spec (hts0 (.arrayClass .byte) (by decide +kernel))
  have hAO : va_AOA .long s := hts0 (.arrayOver (.array .long)) (by decide +kernel)
  obtain ⟨mL, yL, kL, hL1, hL2, hL3, hL4, hL5⟩ := Jvm.Stand.arrayOver_specB hAO
  obtain ⟨cy, hcy⟩ : ∃ cy : Nat → ClassId, cy = (fun k => if k = 0 then yI else if k = 1 then yZ else if k = 2 then yJ else if k = 3 then yL else yB) := ⟨_, rfl⟩
  have hK : va_K (dC, dI) vwCl (cyT cy) s := by
    refine ⟨hKc, fun k q hq => ?_⟩
    subst hcy
    match k, hq with
    | 0, hq => cases hq; exact ⟨fun n z => ⟨fun k h => (by cases h), kI, hI2, mI, hI3⟩, hI1⟩
    | 1, hq => cases hq; exact ⟨fun n z => ⟨fun k h => (by cases h), kZ, hZ2, mZ, hZ3⟩, hZ1⟩
    | 2, hq => cases hq; exact ⟨fun n z => ⟨fun k h => (by cases h), kJ, hJ2, mJ, hJ3⟩, hJ1⟩
    | 3, hq => cases hq; exact ⟨fun n z => ⟨fun k h => (by cases h), kL, hL3, mL, hL4⟩, hL5⟩
    | 4, hq => cases hq; exact ⟨fun n z => ⟨fun k h => (by cases h), kB, hB2, mB, hB3⟩, hB1⟩
    | k + 5, hq => simp [cyT] at hq
  clear hcy
  have hN : NestOk s := fun q hq => va_Nw.of rfl (hts0 _ (nest_in.1 q hq))
  have hCt : CtOk s := ⟨fun q hq => va_Nw.of rfl (hts0 _ (nest_in.2 q hq)), hAO⟩
  have hS : va_S (fun q : Nat => s.heap.size ≤ q) s.heap s.heap [] := va_S.rf
  have hP : va_P (dC, dI) vwCl [] s.heap := fun k q h => by simp at h
  have hD : va_D (fun q : Nat => s.heap.size ≤ q) [] := ⟨fun i j p q h => by simp at h, fun k q h => by simp at h⟩
  have hl := lv_entry ([.ref b]) (n := 4) (Nat.le_of_ble_eq_true rfl)
  rw [lg_entry_eq]
  generalize (lg_sl ([.ref b]) ++ List.replicate (4 - (lg_sl ([.ref b])).length) Slot.unset).toArray = ls at hl ⊢
  have hl : lv_has ls 4 [(0, .ref b)] := hl
  refine va_new (ci := 5) (fs := [.null, .null, .null, .null, .null, .null, .null, .null, .int 0, .int 0]) (C := RX6) (T := TX6) (N := 10) hx hb hts0 inX6 tyX6 tyX6_ok hown (hts (.classLink RL 7 RX6) (List.mem_of_getElem? (i := 0) rfl)) (hts (.instantiable RX6 10) (List.mem_of_getElem? (i := 1) rfl)) (hts (.initialized RX6) (List.mem_of_getElem? (i := 2) rfl)) hK hP hD hS hA rfl (fun j hj => by rcases (show j = 0 ∨ j = 1 ∨ j = 2 ∨ j = 3 ∨ j = 4 ∨ j = 5 ∨ j = 6 ∨ j = 7 ∨ j = 8 ∨ j = 9 by omega) with rfl | rfl | rfl | rfl | rfl | rfl | rfl | rfl | rfl | rfl <;> rfl) (Nat.le_of_ble_eq_true rfl) (Nat.le_of_ble_eq_true rfl) dL_law_0 (fun qc H hP hD hS => ?_)
  have hP : va_P (dC, dI) vwCl [(qc, .inr (5, [.null, .null, .null, .null, .null, .null, .null, .null, .int 0, .int 0]))] H := hP
  have hD : va_D (fun q : Nat => s.heap.size ≤ q) [(qc, .inr (5, [.null, .null, .null, .null, .null, .null, .null, .null, .int 0, .int 0]))] := hD
  refine W.widen (k := 1) (n := 10) (Nat.le_of_ble_eq_true rfl) (Nat.le_of_ble_eq_true rfl) ?_
  refine lv_dup hx hb dL_law_3 rfl ?_
  have hPc := hP.sub (ws' := [(qc, .inr (5, [.null, .null, .null, .null, .null, .null, .null, .null, .int 0, .int 0]))]) [0] rfl
  have hDc := hD.sub (ws' := [(qc, .inr (5, [.null, .null, .null, .null, .null, .null, .null, .null, .int 0, .int 0]))]) [0] (by decide) rfl
  have hFc := va_free (wc := [(qc, .inr (5, [.null, .null, .null, .null, .null, .null, .null, .null, .int 0, .int 0]))]) hD hS hA [0] rfl
  refine va_callv (va_runI (As := []) (rest := [.ref qc]) ⟨hx, hb, hml, hown, hts⟩ (init_X6 l (dC, dI) cy qc H.size) (cwI 0 hts gL_law_X6_init rfl rfl rfl (hts (.initialized RX6) (List.mem_of_getElem? (i := 2) rfl)) (hts (.methodLink RL 9 yX6_init) (List.mem_of_getElem? (i := 7) rfl)) (hts (.instanceMethod yX6_init) (List.mem_of_getElem? (i := 8) rfl)) rfl (by decide +kernel) ⟨Nat.le_of_ble_eq_true rfl, Nat.le_of_ble_eq_true rfl⟩) (ct_pre hCt hK hPc hDc) rfl rfl hl.1 rfl (lv_room (Nat.le_of_ble_eq_true rfl)) dL_law_4 ⟨Nat.le_of_ble_eq_true rfl, Nat.le_of_ble_eq_true rfl⟩) hS (fun q _ h => hFc q h) hFc (fun u t H1 locs ht hvm _ hB hz1 hk1 hS => ?_)
  obtain ⟨q5, q7_9, q15_9, q16, q7_20, q15_20, q27, q8_31, q38, q8_42, q49, q60, q10_64, r_64, q20_64, q29_64, q73, q81, hP1, hD1⟩ := hB
  rw [ht] at hP1
  obtain ⟨hP, hD⟩ := va_join (wr := []) (w1 := [(qc, .inr (5, [.ref q5, .ref q16, .ref q27, .ref q38, .ref q49, .ref q60, .ref q73, .ref q81, .int 0, .int 0])), (q5, .inr (0, [.ref q7_9, .ref q15_9, .int 0])), (q7_9, .inl (cy 0, 8, .inl (fun _ => 0))), (q15_9, .inl (cy 0, 8, .inl (fun _ => 0))), (q16, .inr (0, [.ref q7_20, .ref q15_20, .int 0])), (q7_20, .inl (cy 0, 8, .inl (fun _ => 0))), (q15_20, .inl (cy 0, 8, .inl (fun _ => 0))), (q27, .inr (3, [.ref q8_31])), (q8_31, .inl (cy 2, 782, .inr (.inl (fun _ => 0)))), (q38, .inr (4, [.ref q8_42, .int 0])), (q8_42, .inl (cy 0, 200, .inl (fun _ => 0))), (q49, .inr (1, [.int 0, .int 0, .int 0, .int 0, .int 0])), (q60, .inr (2, [.ref q10_64, .ref q20_64, .ref q29_64, .int 0, .int 1, .int 1])), (q10_64, .inl (cy 3, 8, .inr (.inr (.inr (.inr (fun i => if i < 8 then some (r_64 i) else none)))))), (r_64 0, .inl (cy 2, 200, .inr (.inl (fun _ => 0)))), (r_64 1, .inl (cy 2, 200, .inr (.inl (fun _ => 0)))), (r_64 2, .inl (cy 2, 200, .inr (.inl (fun _ => 0)))), (r_64 3, .inl (cy 2, 200, .inr (.inl (fun _ => 0)))), (r_64 4, .inl (cy 2, 200, .inr (.inl (fun _ => 0)))), (r_64 5, .inl (cy 2, 200, .inr (.inl (fun _ => 0)))), (r_64 6, .inl (cy 2, 200, .inr (.inl (fun _ => 0)))), (r_64 7, .inl (cy 2, 200, .inr (.inl (fun _ => 0)))), (q20_64, .inl (cy 0, 8, .inl (fun _ => 0))), (q29_64, .inl (cy 1, 200, .inl (fun _ => 0))), (q73, .inl (cy 0, 7, .inl (fun _ => 0))), (q81, .inl (cy 0, 16, .inl (fun _ => 0)))]) hP hD [0] [] rfl rfl (by decide) (by decide) hk1 hFc hP1 hD1
  generalize H1 = H at hP hS ⊢
  have hP : va_P (dC, dI) vwCl [(qc, .inr (5, [.ref q5, .ref q16, .ref q27, .ref q38, .ref q49, .ref q60, .ref q73, .ref q81, .int 0, .int 0])), (q5, .inr (0, [.ref q7_9, .ref q15_9, .int 0])), (q7_9, .inl (cy 0, 8, .inl (fun _ => 0))), (q15_9, .inl (cy 0, 8, .inl (fun _ => 0))), (q16, .inr (0, [.ref q7_20, .ref q15_20, .int 0])), (q7_20, .inl (cy 0, 8, .inl (fun _ => 0))), (q15_20, .inl (cy 0, 8, .inl (fun _ => 0))), (q27, .inr (3, [.ref q8_31])), (q8_31, .inl (cy 2, 782, .inr (.inl (fun _ => 0)))), (q38, .inr (4, [.ref q8_42, .int 0])), (q8_42, .inl (cy 0, 200, .inl (fun _ => 0))), (q49, .inr (1, [.int 0, .int 0, .int 0, .int 0, .int 0])), (q60, .inr (2, [.ref q10_64, .ref q20_64, .ref q29_64, .int 0, .int 1, .int 1])), (q10_64, .inl (cy 3, 8, .inr (.inr (.inr (.inr (fun i => if i < 8 then some (r_64 i) else none)))))), (r_64 0, .inl (cy 2, 200, .inr (.inl (fun _ => 0)))), (r_64 1, .inl (cy 2, 200, .inr (.inl (fun _ => 0)))), (r_64 2, .inl (cy 2, 200, .inr (.inl (fun _ => 0)))), (r_64 3, .inl (cy 2, 200, .inr (.inl (fun _ => 0)))), (r_64 4, .inl (cy 2, 200, .inr (.inl (fun _ => 0)))), (r_64 5, .inl (cy 2, 200, .inr (.inl (fun _ => 0)))), (r_64 6, .inl (cy 2, 200, .inr (.inl (fun _ => 0)))), (r_64 7, .inl (cy 2, 200, .inr (.inl (fun _ => 0)))), (q20_64, .inl (cy 0, 8, .inl (fun _ => 0))), (q29_64, .inl (cy 1, 200, .inl (fun _ => 0))), (q73, .inl (cy 0, 7, .inl (fun _ => 0))), (q81, .inl (cy 0, 16, .inl (fun _ => 0)))] H := hP
  have hD : va_D (fun q : Nat => s.heap.size ≤ q) [(qc, .inr (5, [.ref q5, .ref q16, .ref q27, .ref q38, .ref q49, .ref q60, .ref q73, .ref q81, .int 0, .int 0])), (q5, .inr (0, [.ref q7_9, .ref q15_9, .int 0])), (q7_9, .inl (cy 0, 8, .inl (fun _ => 0))), (q15_9, .inl (cy 0, 8, .inl (fun _ => 0))), (q16, .inr (0, [.ref q7_20, .ref q15_20, .int 0])), (q7_20, .inl (cy 0, 8, .inl (fun _ => 0))), (q15_20, .inl (cy 0, 8, .inl (fun _ => 0))), (q27, .inr (3, [.ref q8_31])), (q8_31, .inl (cy 2, 782, .inr (.inl (fun _ => 0)))), (q38, .inr (4, [.ref q8_42, .int 0])), (q8_42, .inl (cy 0, 200, .inl (fun _ => 0))), (q49, .inr (1, [.int 0, .int 0, .int 0, .int 0, .int 0])), (q60, .inr (2, [.ref q10_64, .ref q20_64, .ref q29_64, .int 0, .int 1, .int 1])), (q10_64, .inl (cy 3, 8, .inr (.inr (.inr (.inr (fun i => if i < 8 then some (r_64 i) else none)))))), (r_64 0, .inl (cy 2, 200, .inr (.inl (fun _ => 0)))), (r_64 1, .inl (cy 2, 200, .inr (.inl (fun _ => 0)))), (r_64 2, .inl (cy 2, 200, .inr (.inl (fun _ => 0)))), (r_64 3, .inl (cy 2, 200, .inr (.inl (fun _ => 0)))), (r_64 4, .inl (cy 2, 200, .inr (.inl (fun _ => 0)))), (r_64 5, .inl (cy 2, 200, .inr (.inl (fun _ => 0)))), (r_64 6, .inl (cy 2, 200, .inr (.inl (fun _ => 0)))), (r_64 7, .inl (cy 2, 200, .inr (.inl (fun _ => 0)))), (q20_64, .inl (cy 0, 8, .inl (fun _ => 0))), (q29_64, .inl (cy 1, 200, .inl (fun _ => 0))), (q73, .inl (cy 0, 7, .inl (fun _ => 0))), (q81, .inl (cy 0, 16, .inl (fun _ => 0)))] := hD
  refine W.widen (k := 26) (n := 2883) (Nat.le_of_ble_eq_true rfl) (Nat.le_of_ble_eq_true rfl) ?_
  refine lv_astore_n (lv' := [(1, .ref qc), (0, .ref b)]) hx hb dL_law_7 rfl hl (by decide) rfl (fun ls hl => ?_)
  refine va_new (ci := 6) (fs := [.int 0, .null, .int 0, .int 0, .int 0, .null, .null, .null, .null, .int 0, .null, .null, .null, .null, .null, .null, .null, .null]) (C := RX7) (T := TX7) (N := 18) hx hb hts0 inX7 tyX7 tyX7_ok hown (hts (.classLink RL 10 RX7) (List.mem_of_getElem? (i := 3) rfl)) (hts (.instantiable RX7 18) (List.mem_of_getElem? (i := 4) rfl)) (hts (.initialized RX7) (List.mem_of_getElem? (i := 5) rfl)) hK hP hD hS hA rfl (fun j hj => by rcases (show j = 0 ∨ j = 1 ∨ j = 2 ∨ j = 3 ∨ j = 4 ∨ j = 5 ∨ j = 6 ∨ j = 7 ∨ j = 8 ∨ j = 9 ∨ j = 10 ∨ j = 11 ∨ j = 12 ∨ j = 13 ∨ j = 14 ∨ j = 15 ∨ j = 16 ∨ j = 17 by omega) with rfl | rfl | rfl | rfl | rfl | rfl | rfl | rfl | rfl | rfl | rfl | rfl | rfl | rfl | rfl | rfl | rfl | rfl <;> rfl) (Nat.le_of_ble_eq_true rfl) (Nat.le_of_ble_eq_true rfl) dL_law_8 (fun qm H hP hD hS => ?_)
  have hP : va_P (dC, dI) vwCl [(qc, .inr (5, [.ref q5, .ref q16, .ref q27, .ref q38, .ref q49, .ref q60, .ref q73, .ref q81, .int 0, .int 0])), (q5, .inr (0, [.ref q7_9, .ref q15_9, .int 0])), (q7_9, .inl (cy 0, 8, .inl (fun _ => 0))), (q15_9, .inl (cy 0, 8, .inl (fun _ => 0))), (q16, .inr (0, [.ref q7_20, .ref q15_20, .int 0])), (q7_20, .inl (cy 0, 8, .inl (fun _ => 0))), (q15_20, .inl (cy 0, 8, .inl (fun _ => 0))), (q27, .inr (3, [.ref q8_31])), (q8_31, .inl (cy 2, 782, .inr (.inl (fun _ => 0)))), (q38, .inr (4, [.ref q8_42, .int 0])), (q8_42, .inl (cy 0, 200, .inl (fun _ => 0))), (q49, .inr (1, [.int 0, .int 0, .int 0, .int 0, .int 0])), (q60, .inr (2, [.ref q10_64, .ref q20_64, .ref q29_64, .int 0, .int 1, .int 1])), (q10_64, .inl (cy 3, 8, .inr (.inr (.inr (.inr (fun i => if i < 8 then some (r_64 i) else none)))))), (r_64 0, .inl (cy 2, 200, .inr (.inl (fun _ => 0)))), (r_64 1, .inl (cy 2, 200, .inr (.inl (fun _ => 0)))), (r_64 2, .inl (cy 2, 200, .inr (.inl (fun _ => 0)))), (r_64 3, .inl (cy 2, 200, .inr (.inl (fun _ => 0)))), (r_64 4, .inl (cy 2, 200, .inr (.inl (fun _ => 0)))), (r_64 5, .inl (cy 2, 200, .inr (.inl (fun _ => 0)))), (r_64 6, .inl (cy 2, 200, .inr (.inl (fun _ => 0)))), (r_64 7, .inl (cy 2, 200, .inr (.inl (fun _ => 0)))), (q20_64, .inl (cy 0, 8, .inl (fun _ => 0))), (q29_64, .inl (cy 1, 200, .inl (fun _ => 0))), (q73, .inl (cy 0, 7, .inl (fun _ => 0))), (q81, .inl (cy 0, 16, .inl (fun _ => 0))), (qm, .inr (6, [.int 0, .null, .int 0, .int 0, .int 0, .null, .null, .null, .null, .int 0, .null, .null, .null, .null, .null, .null, .null, .null]))] H := hP
  have hD : va_D (fun q : Nat => s.heap.size ≤ q) [(qc, .inr (5, [.ref q5, .ref q16, .ref q27, .ref q38, .ref q49, .ref q60, .ref q73, .ref q81, .int 0, .int 0])), (q5, .inr (0, [.ref q7_9, .ref q15_9, .int 0])), (q7_9, .inl (cy 0, 8, .inl (fun _ => 0))), (q15_9, .inl (cy 0, 8, .inl (fun _ => 0))), (q16, .inr (0, [.ref q7_20, .ref q15_20, .int 0])), (q7_20, .inl (cy 0, 8, .inl (fun _ => 0))), (q15_20, .inl (cy 0, 8, .inl (fun _ => 0))), (q27, .inr (3, [.ref q8_31])), (q8_31, .inl (cy 2, 782, .inr (.inl (fun _ => 0)))), (q38, .inr (4, [.ref q8_42, .int 0])), (q8_42, .inl (cy 0, 200, .inl (fun _ => 0))), (q49, .inr (1, [.int 0, .int 0, .int 0, .int 0, .int 0])), (q60, .inr (2, [.ref q10_64, .ref q20_64, .ref q29_64, .int 0, .int 1, .int 1])), (q10_64, .inl (cy 3, 8, .inr (.inr (.inr (.inr (fun i => if i < 8 then some (r_64 i) else none)))))), (r_64 0, .inl (cy 2, 200, .inr (.inl (fun _ => 0)))), (r_64 1, .inl (cy 2, 200, .inr (.inl (fun _ => 0)))), (r_64 2, .inl (cy 2, 200, .inr (.inl (fun _ => 0)))), (r_64 3, .inl (cy 2, 200, .inr (.inl (fun _ => 0)))), (r_64 4, .inl (cy 2, 200, .inr (.inl (fun _ => 0)))), (r_64 5, .inl (cy 2, 200, .inr (.inl (fun _ => 0)))), (r_64 6, .inl (cy 2, 200, .inr (.inl (fun _ => 0)))), (r_64 7, .inl (cy 2, 200, .inr (.inl (fun _ => 0)))), (q20_64, .inl (cy 0, 8, .inl (fun _ => 0))), (q29_64, .inl (cy 1, 200, .inl (fun _ => 0))), (q73, .inl (cy 0, 7, .inl (fun _ => 0))), (q81, .inl (cy 0, 16, .inl (fun _ => 0))), (qm, .inr (6, [.int 0, .null, .int 0, .int 0, .int 0, .null, .null, .null, .null, .int 0, .null, .null, .null, .null, .null, .null, .null, .null]))] := hD
  refine W.widen (k := 27) (n := 2901) (Nat.le_of_ble_eq_true rfl) (Nat.le_of_ble_eq_true rfl) ?_
  refine lv_dup hx hb dL_law_11 rfl ?_
  have hPc := hP.sub (ws' := [(qm, .inr (6, [.int 0, .null, .int 0, .int 0, .int 0, .null, .null, .null, .null, .int 0, .null, .null, .null, .null, .null, .null, .null, .null]))]) [26] rfl
  have hDc := hD.sub (ws' := [(qm, .inr (6, [.int 0, .null, .int 0, .int 0, .int 0, .null, .null, .null, .null, .int 0, .null, .null, .null, .null, .null, .null, .null, .null]))]) [26] (by decide) rfl
  have hFc := va_free (wc := [(qm, .inr (6, [.int 0, .null, .int 0, .int 0, .int 0, .null, .null, .null, .null, .int 0, .null, .null, .null, .null, .null, .null, .null, .null]))]) hD hS hA [26] rfl
  refine va_callv (va_runI (As := []) (rest := [.ref qm]) ⟨hx, hb, hml, hown, hts⟩ (init_X7 l (dC, dI) cy qm H.size) (cwI 0 hts gL_law_X7_init rfl rfl rfl (hts (.initialized RX7) (List.mem_of_getElem? (i := 5) rfl)) (hts (.methodLink RL 12 yX7_init) (List.mem_of_getElem? (i := 64) rfl)) (hts (.instanceMethod yX7_init) (List.mem_of_getElem? (i := 65) rfl)) rfl (by decide +kernel) ⟨Nat.le_of_ble_eq_true rfl, Nat.le_of_ble_eq_true rfl⟩) (ct_pre hCt hK hPc hDc) rfl rfl hl.1 rfl (lv_room (Nat.le_of_ble_eq_true rfl)) dL_law_12 ⟨Nat.le_of_ble_eq_true rfl, Nat.le_of_ble_eq_true rfl⟩) hS (fun q _ h => hFc q h) hFc (fun u t H1 locs ht hvm _ hB hz1 hk1 hS => ?_)
  obtain ⟨q8, q21, q29, q37, q45, q53, q61, q69, q77, q85, q93, q102, q110, hP1, hD1⟩ := hB
  rw [ht] at hP1
  obtain ⟨hP, hD⟩ := va_join (wr := [(qc, .inr (5, [.ref q5, .ref q16, .ref q27, .ref q38, .ref q49, .ref q60, .ref q73, .ref q81, .int 0, .int 0])), (q5, .inr (0, [.ref q7_9, .ref q15_9, .int 0])), (q7_9, .inl (cy 0, 8, .inl (fun _ => 0))), (q15_9, .inl (cy 0, 8, .inl (fun _ => 0))), (q16, .inr (0, [.ref q7_20, .ref q15_20, .int 0])), (q7_20, .inl (cy 0, 8, .inl (fun _ => 0))), (q15_20, .inl (cy 0, 8, .inl (fun _ => 0))), (q27, .inr (3, [.ref q8_31])), (q8_31, .inl (cy 2, 782, .inr (.inl (fun _ => 0)))), (q38, .inr (4, [.ref q8_42, .int 0])), (q8_42, .inl (cy 0, 200, .inl (fun _ => 0))), (q49, .inr (1, [.int 0, .int 0, .int 0, .int 0, .int 0])), (q60, .inr (2, [.ref q10_64, .ref q20_64, .ref q29_64, .int 0, .int 1, .int 1])), (q10_64, .inl (cy 3, 8, .inr (.inr (.inr (.inr (fun i => if i < 8 then some (r_64 i) else none)))))), (r_64 0, .inl (cy 2, 200, .inr (.inl (fun _ => 0)))), (r_64 1, .inl (cy 2, 200, .inr (.inl (fun _ => 0)))), (r_64 2, .inl (cy 2, 200, .inr (.inl (fun _ => 0)))), (r_64 3, .inl (cy 2, 200, .inr (.inl (fun _ => 0)))), (r_64 4, .inl (cy 2, 200, .inr (.inl (fun _ => 0)))), (r_64 5, .inl (cy 2, 200, .inr (.inl (fun _ => 0)))), (r_64 6, .inl (cy 2, 200, .inr (.inl (fun _ => 0)))), (r_64 7, .inl (cy 2, 200, .inr (.inl (fun _ => 0)))), (q20_64, .inl (cy 0, 8, .inl (fun _ => 0))), (q29_64, .inl (cy 1, 200, .inl (fun _ => 0))), (q73, .inl (cy 0, 7, .inl (fun _ => 0))), (q81, .inl (cy 0, 16, .inl (fun _ => 0)))]) (w1 := [(qm, .inr (6, [.int 0, .ref q8, .int 0, .int 0, .int 1, .ref q21, .ref q29, .ref q37, .ref q45, .int 0, .ref q53, .ref q61, .ref q69, .ref q77, .ref q85, .ref q93, .ref q102, .ref q110])), (q8, .inl (cy 4, 200, .inl (fun _ => 0))), (q21, .inl (cy 0, 8, .inl (fun _ => 0))), (q29, .inl (cy 0, 8, .inl (fun _ => 0))), (q37, .inl (cy 0, 8, .inl (fun _ => 0))), (q45, .inl (cy 0, 8, .inl (fun _ => 0))), (q53, .inl (cy 0, 8, .inl (fun _ => 0))), (q61, .inl (cy 0, 8, .inl (fun _ => 0))), (q69, .inl (cy 0, 8, .inl (fun _ => 0))), (q77, .inl (cy 0, 8, .inl (fun _ => 0))), (q85, .inl (cy 0, 50002, .inl (fun _ => 0))), (q93, .inl (cy 1, 50002, .inl (fun _ => 0))), (q102, .inl (cy 1, 256, .inl (fun _ => 0))), (q110, .inl (cy 0, 6, .inl (fun _ => 0)))]) hP hD [26] [0, 1, 2, 3, 4, 5, 6, 7, 8, 9, 10, 11, 12, 13, 14, 15, 16, 17, 18, 19, 20, 21, 22, 23, 24, 25] rfl rfl (by decide) (by decide) hk1 hFc hP1 hD1
  generalize H1 = H at hP hS ⊢
  have hP : va_P (dC, dI) vwCl [(qc, .inr (5, [.ref q5, .ref q16, .ref q27, .ref q38, .ref q49, .ref q60, .ref q73, .ref q81, .int 0, .int 0])), (q5, .inr (0, [.ref q7_9, .ref q15_9, .int 0])), (q7_9, .inl (cy 0, 8, .inl (fun _ => 0))), (q15_9, .inl (cy 0, 8, .inl (fun _ => 0))), (q16, .inr (0, [.ref q7_20, .ref q15_20, .int 0])), (q7_20, .inl (cy 0, 8, .inl (fun _ => 0))), (q15_20, .inl (cy 0, 8, .inl (fun _ => 0))), (q27, .inr (3, [.ref q8_31])), (q8_31, .inl (cy 2, 782, .inr (.inl (fun _ => 0)))), (q38, .inr (4, [.ref q8_42, .int 0])), (q8_42, .inl (cy 0, 200, .inl (fun _ => 0))), (q49, .inr (1, [.int 0, .int 0, .int 0, .int 0, .int 0])), (q60, .inr (2, [.ref q10_64, .ref q20_64, .ref q29_64, .int 0, .int 1, .int 1])), (q10_64, .inl (cy 3, 8, .inr (.inr (.inr (.inr (fun i => if i < 8 then some (r_64 i) else none)))))), (r_64 0, .inl (cy 2, 200, .inr (.inl (fun _ => 0)))), (r_64 1, .inl (cy 2, 200, .inr (.inl (fun _ => 0)))), (r_64 2, .inl (cy 2, 200, .inr (.inl (fun _ => 0)))), (r_64 3, .inl (cy 2, 200, .inr (.inl (fun _ => 0)))), (r_64 4, .inl (cy 2, 200, .inr (.inl (fun _ => 0)))), (r_64 5, .inl (cy 2, 200, .inr (.inl (fun _ => 0)))), (r_64 6, .inl (cy 2, 200, .inr (.inl (fun _ => 0)))), (r_64 7, .inl (cy 2, 200, .inr (.inl (fun _ => 0)))), (q20_64, .inl (cy 0, 8, .inl (fun _ => 0))), (q29_64, .inl (cy 1, 200, .inl (fun _ => 0))), (q73, .inl (cy 0, 7, .inl (fun _ => 0))), (q81, .inl (cy 0, 16, .inl (fun _ => 0))), (qm, .inr (6, [.int 0, .ref q8, .int 0, .int 0, .int 1, .ref q21, .ref q29, .ref q37, .ref q45, .int 0, .ref q53, .ref q61, .ref q69, .ref q77, .ref q85, .ref q93, .ref q102, .ref q110])), (q8, .inl (cy 4, 200, .inl (fun _ => 0))), (q21, .inl (cy 0, 8, .inl (fun _ => 0))), (q29, .inl (cy 0, 8, .inl (fun _ => 0))), (q37, .inl (cy 0, 8, .inl (fun _ => 0))), (q45, .inl (cy 0, 8, .inl (fun _ => 0))), (q53, .inl (cy 0, 8, .inl (fun _ => 0))), (q61, .inl (cy 0, 8, .inl (fun _ => 0))), (q69, .inl (cy 0, 8, .inl (fun _ => 0))), (q77, .inl (cy 0, 8, .inl (fun _ => 0))), (q85, .inl (cy 0, 50002, .inl (fun _ => 0))), (q93, .inl (cy 1, 50002, .inl (fun _ => 0))), (q102, .inl (cy 1, 256, .inl (fun _ => 0))), (q110, .inl (cy 0, 6, .inl (fun _ => 0)))] H := hP
  have hD : va_D (fun q : Nat => s.heap.size ≤ q) [(qc, .inr (5, [.ref q5, .ref q16, .ref q27, .ref q38, .ref q49, .ref q60, .ref q73, .ref q81, .int 0, .int 0])), (q5, .inr (0, [.ref q7_9, .ref q15_9, .int 0])), (q7_9, .inl (cy 0, 8, .inl (fun _ => 0))), (q15_9, .inl (cy 0, 8, .inl (fun _ => 0))), (q16, .inr (0, [.ref q7_20, .ref q15_20, .int 0])), (q7_20, .inl (cy 0, 8, .inl (fun _ => 0))), (q15_20, .inl (cy 0, 8, .inl (fun _ => 0))), (q27, .inr (3, [.ref q8_31])), (q8_31, .inl (cy 2, 782, .inr (.inl (fun _ => 0)))), (q38, .inr (4, [.ref q8_42, .int 0])), (q8_42, .inl (cy 0, 200, .inl (fun _ => 0))), (q49, .inr (1, [.int 0, .int 0, .int 0, .int 0, .int 0])), (q60, .inr (2, [.ref q10_64, .ref q20_64, .ref q29_64, .int 0, .int 1, .int 1])), (q10_64, .inl (cy 3, 8, .inr (.inr (.inr (.inr (fun i => if i < 8 then some (r_64 i) else none)))))), (r_64 0, .inl (cy 2, 200, .inr (.inl (fun _ => 0)))), (r_64 1, .inl (cy 2, 200, .inr (.inl (fun _ => 0)))), (r_64 2, .inl (cy 2, 200, .inr (.inl (fun _ => 0)))), (r_64 3, .inl (cy 2, 200, .inr (.inl (fun _ => 0)))), (r_64 4, .inl (cy 2, 200, .inr (.inl (fun _ => 0)))), (r_64 5, .inl (cy 2, 200, .inr (.inl (fun _ => 0)))), (r_64 6, .inl (cy 2, 200, .inr (.inl (fun _ => 0)))), (r_64 7, .inl (cy 2, 200, .inr (.inl (fun _ => 0)))), (q20_64, .inl (cy 0, 8, .inl (fun _ => 0))), (q29_64, .inl (cy 1, 200, .inl (fun _ => 0))), (q73, .inl (cy 0, 7, .inl (fun _ => 0))), (q81, .inl (cy 0, 16, .inl (fun _ => 0))), (qm, .inr (6, [.int 0, .ref q8, .int 0, .int 0, .int 1, .ref q21, .ref q29, .ref q37, .ref q45, .int 0, .ref q53, .ref q61, .ref q69, .ref q77, .ref q85, .ref q93, .ref q102, .ref q110])), (q8, .inl (cy 4, 200, .inl (fun _ => 0))), (q21, .inl (cy 0, 8, .inl (fun _ => 0))), (q29, .inl (cy 0, 8, .inl (fun _ => 0))), (q37, .inl (cy 0, 8, .inl (fun _ => 0))), (q45, .inl (cy 0, 8, .inl (fun _ => 0))), (q53, .inl (cy 0, 8, .inl (fun _ => 0))), (q61, .inl (cy 0, 8, .inl (fun _ => 0))), (q69, .inl (cy 0, 8, .inl (fun _ => 0))), (q77, .inl (cy 0, 8, .inl (fun _ => 0))), (q85, .inl (cy 0, 50002, .inl (fun _ => 0))), (q93, .inl (cy 1, 50002, .inl (fun _ => 0))), (q102, .inl (cy 1, 256, .inl (fun _ => 0))), (q110, .inl (cy 0, 6, .inl (fun _ => 0)))] := hD
  refine W.widen (k := 40) (n := 103431) (Nat.le_of_ble_eq_true rfl) (Nat.le_of_ble_eq_true rfl) ?_
  refine lv_astore_n (lv' := [(2, .ref qm), (1, .ref qc), (0, .ref b)]) hx hb dL_law_15 rfl hl (by decide) rfl (fun ls hl => ?_)
  refine lv_iconst (v := (0 : Int32)) hx hb dL_law_16 (by decide) ?_
  refine lv_istore_n (lv' := [(3, .int 0), (2, .ref qm), (1, .ref qc), (0, .ref b)]) hx hb dL_law_17 rfl hl (by decide) rfl (fun ls hl => ?_)
  obtain ⟨ad, had⟩ : ∃ ad : Nat → Nat, ad = (fun k => match k with | 0 => qc | 1 => q5 | 2 => q7_9 | 3 => q15_9 | 4 => q16 | 5 => q7_20 | 6 => q15_20 | 7 => q27 | 8 => q8_31 | 9 => q38 | 10 => q8_42 | 11 => q49 | 12 => q60 | 13 => q10_64 | 14 => q20_64 | 15 => q29_64 | 16 => r_64 0 | 17 => r_64 1 | 18 => r_64 2 | 19 => r_64 3 | 20 => r_64 4 | 21 => r_64 5 | 22 => r_64 6 | 23 => r_64 7 | 24 => q73 | 25 => q81 | _ => 0) := ⟨_, rfl⟩
  obtain ⟨ad', had'⟩ : ∃ ad : Nat → Nat, ad = (fun k => match k with | 0 => qm | 1 => q8 | 2 => q21 | 3 => q29 | 4 => q37 | 5 => q45 | 6 => q53 | 7 => q61 | 8 => q69 | 9 => q77 | 10 => q85 | 11 => q93 | 12 => q102 | 13 => q110 | _ => 0) := ⟨_, rfl⟩
  have ef : (fun i => if i < 8 then some (r_64 i) else none) = (fun k => if k < 8 then some (ad (16 + k)) else none) := by
    subst had
    funext k
    by_cases h : k < 8
    · rw [if_pos h, if_pos h]
      match k, h with
      | 0, _ => rfl
      | 1, _ => rfl
      | 2, _ => rfl
      | 3, _ => rfl
      | 4, _ => rfl
      | 5, _ => rfl
      | 6, _ => rfl
      | 7, _ => rfl
    · rw [if_neg h, if_neg h]
  rw [ef] at hP hD
  have hP2 : va_P (dC, dI) vwCl (bW ad ad' cy (fun k => if k = 10 then 1 else if k = 11 then 1 else 0) (fun _ _ => 0) (fun _ _ => 0) (fun k => if k = 3 then 1 else 0) (fun _ _ => 0)) H := by
    subst had had'
    exact hP.sub [0, 1, 2, 3, 4, 5, 6, 7, 8, 9, 10, 11, 12, 13, 22, 23, 14, 15, 16, 17, 18, 19, 20, 21, 24, 25, 26, 27, 28, 29, 30, 31, 32, 33, 34, 35, 36, 37, 38, 39] rfl
  have hD2 : va_D (fun q : Nat => s.heap.size ≤ q) (bW ad ad' cy (fun k => if k = 10 then 1 else if k = 11 then 1 else 0) (fun _ _ => 0) (fun _ _ => 0) (fun k => if k = 3 then 1 else 0) (fun _ _ => 0)) := by
    subst had had'
    exact hD.sub [0, 1, 2, 3, 4, 5, 6, 7, 8, 9, 10, 11, 12, 13, 22, 23, 14, 15, 16, 17, 18, 19, 20, 21, 24, 25, 26, 27, 28, 29, 30, 31, 32, 33, 34, 35, 36, 37, 38, 39] (by decide) rfl
  have ec : qc = ad 0 := by subst had; rfl
  have em : qm = ad' 0 := by subst had'; rfl
  rw [ec, em] at hl
  exact law_loop hL C0 hK hN (L + 5) 0 (by omega) (by omega) _ _ _ _ _ _ _ hP2 hD2 hS rel_0 ls (lv_sub hl [3, 2, 1, 0] rfl)
