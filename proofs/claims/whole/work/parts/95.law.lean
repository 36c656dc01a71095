set_option maxHeartbeats 4000000 in
set_option maxRecDepth 100000 in
theorem law_sign {p : Program} {l : Launch} {e : Env} {s : State} {m : MethodId} {below : List Frame} {meth : Method} {c : Code} {b L : Nat} {xs : Nat → Int32} (hL : L ≤ 2560) (C0 : lw_At p s m meth c b L xs) {D : va_G} {cy : Nat → ClassId} {ad ad' : Nat → Nat} (hK : va_K D vwCl (cyT cy) s) (hN : NestOk s) {i j : Nat} (hi : i + 5 ≤ L) (hj : j < 80000) {g : Gs} {a : As} {w : Ws} {g' : Gs} {a' : As} {H : Heap} {locs : List Loc} (hP : va_P D vwCl (bW ad ad' cy g a w g' a') H) (hD : va_D (fun q : Nat => s.heap.size ≤ q) (bW ad ad' cy g a w g' a')) (hS : va_S (fun q : Nat => s.heap.size ≤ q) s.heap H locs) (hR : Rel j g a w g' a') {ls : Array Slot} (hl : lv_has ls 4 [(0, .ref b), (1, .ref (ad 0)), (2, .ref (ad' 0)), (3, .int (nI i))]) (kk : LawK p l e s m below meth c b D cy ad ad' j ls) : W p l e room_1 s m #[Value.ref b] below meth c H locs 40 103431 (lw_Z below #[Value.ref b] s) (F0 m 516 ls []) := by
  obtain ⟨hx, hb, hr, hml, hown, hts0, hX, hbl, hlocks, hgv⟩ := C0
  have hts : ∀ w ∈ wsL_law, w.before #[Value.ref b] s = true := fun w h => hts0 w (wsL_law_in w h)
  have hown : s.vm.findClass RL = some m.cls := hown
  have hA : ∀ q : Nat, s.heap.size ≤ q → (fun q : Nat => s.heap.size ≤ q) q := fun _ h => h
  have hbA : ¬ (fun q : Nat => s.heap.size ≤ q) b := Nat.not_le.mpr hbl
  have hv : ∀ k : Nat, 1 ≤ k → k < 5 → vp_in (nI i + nI k) L := fun k h1 h2 => by rw [nI_add]; exact vp_in_nI (by omega) (by omega)
  have hv1 : vp_in (nI i + (1 : Int32)) L := hv 1 (by decide) (by decide)
  have hv2 : vp_in (nI i + (2 : Int32)) L := hv 2 (by decide) (by decide)
  have hv3 : vp_in (nI i + (3 : Int32)) L := hv 3 (by decide) (by decide)
  have hv4 : vp_in (nI i + (4 : Int32)) L := hv 4 (by decide) (by decide)
  refine lv_aload_n hx hb dL_law_516 rfl (lv_at hl 1 rfl) ?_
  refine lv_aload_n hx hb dL_law_517 rfl (lv_at hl 0 rfl) ?_
  refine lv_iload_n hx hb dL_law_518 rfl (lv_at hl 3 rfl) ?_
  refine lv_iconst (v := (1 : Int32)) hx hb dL_law_519 (by decide) ?_
  refine lv_iadd hx hb dL_law_520 ?_
  refine va_sld hx hb hX hbl hbA hS hv1 dL_law_521 ?_
  refine lv_aload_n hx hb dL_law_522 rfl (lv_at hl 0 rfl) ?_
  refine lv_iload_n hx hb dL_law_523 rfl (lv_at hl 3 rfl) ?_
  refine lv_iconst (v := (2 : Int32)) hx hb dL_law_524 (by decide) ?_
  refine lv_iadd hx hb dL_law_525 ?_
  refine va_sld hx hb hX hbl hbA hS hv2 dL_law_526 ?_
  refine lw_ci (va_runV (As := [.int (xs ((nI i) + (1 : Int32)).toNatClampNeg), .int (xs ((nI i) + (2 : Int32)).toNatClampNeg)]) (rest := []) ⟨hx, hb, hml, hown, hts⟩ (spec_X6_sign l D cy ad H.size g a w (xs ((nI i) + (1 : Int32)).toNatClampNeg) (xs ((nI i) + (2 : Int32)).toNatClampNeg)) (cwV 2 hts gL_law_X6_sign rfl rfl rfl (by decide +kernel) ⟨Nat.le_of_ble_eq_true rfl, Nat.le_of_ble_eq_true rfl⟩) (ar_preV hN hK (b_c hP) (b_cD hD) (ci := 5) (q0 := 0) rfl rfl) rfl rfl hl.1 rfl (lv_room (Nat.le_of_ble_eq_true rfl)) dL_law_527 ⟨Nat.le_of_ble_eq_true rfl, Nat.le_of_ble_eq_true rfl⟩) hP hD hS hA (fun r1 g1 a1 w1 H locs q1 hP hS => ?_)
  have hD := bD (g1 := g1) (a1 := a1) (w1 := w1) (g2 := g') (a2 := a') hD
  refine lv_aload_n hx hb dL_law_530 rfl (lv_at hl 2 rfl) ?_
  refine lv_aload_n hx hb dL_law_531 rfl (lv_at hl 0 rfl) ?_
  refine lv_iload_n hx hb dL_law_532 rfl (lv_at hl 3 rfl) ?_
  refine lv_iconst (v := (1 : Int32)) hx hb dL_law_533 (by decide) ?_
  refine lv_iadd hx hb dL_law_534 ?_
  refine va_sld hx hb hX hbl hbA hS hv1 dL_law_535 ?_
  refine lv_aload_n hx hb dL_law_536 rfl (lv_at hl 0 rfl) ?_
  refine lv_iload_n hx hb dL_law_537 rfl (lv_at hl 3 rfl) ?_
  refine lv_iconst (v := (2 : Int32)) hx hb dL_law_538 (by decide) ?_
  refine lv_iadd hx hb dL_law_539 ?_
  refine va_sld hx hb hX hbl hbA hS hv2 dL_law_540 ?_
  refine cp_i (va_runV (As := [.int (xs ((nI i) + (1 : Int32)).toNatClampNeg), .int (xs ((nI i) + (2 : Int32)).toNatClampNeg)]) (rest := [.int r1]) ⟨hx, hb, hml, hown, hts⟩ (spec_X7_sign l D cy ad' H.size g' a' (xs ((nI i) + (1 : Int32)).toNatClampNeg) (xs ((nI i) + (2 : Int32)).toNatClampNeg)) (cwV 2 hts gL_law_X7_sign rfl rfl rfl (by decide +kernel) ⟨Nat.le_of_ble_eq_true rfl, Nat.le_of_ble_eq_true rfl⟩) (ar_preV hN hK (b_m hP) (b_mD hD) (ci := 6) (q0 := 0) rfl rfl) rfl rfl hl.1 rfl (lv_room (Nat.le_of_ble_eq_true rfl)) dL_law_541 ⟨Nat.le_of_ble_eq_true rfl, Nat.le_of_ble_eq_true rfl⟩) (fun r2 q2 => ?_)
  refine lv_icmp_eq (tgt := 1387) hx hb dL_law_544 (by decide) (fun c1 => ?_) (fun c1 => ?_)
  · exact kk _ _ _ _ _ _ _ hP hS (eq_sign hj hR q1 q2).2
  · exact absurd (eq_sign hj hR q1 q2).1 c1
set_option maxHeartbeats 4000000 in
set_option maxRecDepth 100000 in
theorem law_write {p : Program} {l : Launch} {e : Env} {s : State} {m : MethodId} {below : List Frame} {meth : Method} {c : Code} {b L : Nat} {xs : Nat → Int32} (hL : L ≤ 2560) (C0 : lw_At p s m meth c b L xs) {D : va_G} {cy : Nat → ClassId} {ad ad' : Nat → Nat} (hK : va_K D vwCl (cyT cy) s) (hN : NestOk s) {i j : Nat} (hi : i + 5 ≤ L) (hj : j < 80000) {g : Gs} {a : As} {w : Ws} {g' : Gs} {a' : As} {H : Heap} {locs : List Loc} (hP : va_P D vwCl (bW ad ad' cy g a w g' a') H) (hD : va_D (fun q : Nat => s.heap.size ≤ q) (bW ad ad' cy g a w g' a')) (hS : va_S (fun q : Nat => s.heap.size ≤ q) s.heap H locs) (hR : Rel j g a w g' a') {ls : Array Slot} (hl : lv_has ls 4 [(0, .ref b), (1, .ref (ad 0)), (2, .ref (ad' 0)), (3, .int (nI i))]) (kk : LawK p l e s m below meth c b D cy ad ad' j ls) : W p l e room_1 s m #[Value.ref b] below meth c H locs 40 103431 (lw_Z below #[Value.ref b] s) (F0 m 549 ls []) := by
  obtain ⟨hx, hb, hr, hml, hown, hts0, hX, hbl, hlocks, hgv⟩ := C0
  have hts : ∀ w ∈ wsL_law, w.before #[Value.ref b] s = true := fun w h => hts0 w (wsL_law_in w h)
  have hown : s.vm.findClass RL = some m.cls := hown
  have hA : ∀ q : Nat, s.heap.size ≤ q → (fun q : Nat => s.heap.size ≤ q) q := fun _ h => h
  have hbA : ¬ (fun q : Nat => s.heap.size ≤ q) b := Nat.not_le.mpr hbl
  have hv : ∀ k : Nat, 1 ≤ k → k < 5 → vp_in (nI i + nI k) L := fun k h1 h2 => by rw [nI_add]; exact vp_in_nI (by omega) (by omega)
  have hv1 : vp_in (nI i + (1 : Int32)) L := hv 1 (by decide) (by decide)
  have hv2 : vp_in (nI i + (2 : Int32)) L := hv 2 (by decide) (by decide)
  have hv3 : vp_in (nI i + (3 : Int32)) L := hv 3 (by decide) (by decide)
  have hv4 : vp_in (nI i + (4 : Int32)) L := hv 4 (by decide) (by decide)
  have hcl : Cond.constantLong RL 31 (4294967295) ∈ wsL_law := List.mem_of_getElem? (i := 6) rfl
  refine lv_aload_n hx hb dL_law_549 rfl (lv_at hl 1 rfl) ?_
  refine lv_aload_n hx hb dL_law_550 rfl (lv_at hl 0 rfl) ?_
  refine lv_iload_n hx hb dL_law_551 rfl (lv_at hl 3 rfl) ?_
  refine lv_iconst (v := (1 : Int32)) hx hb dL_law_552 (by decide) ?_
  refine lv_iadd hx hb dL_law_553 ?_
  refine va_sld hx hb hX hbl hbA hS hv1 dL_law_554 ?_
  refine lv_aload_n hx hb dL_law_555 rfl (lv_at hl 0 rfl) ?_
  refine lv_iload_n hx hb dL_law_556 rfl (lv_at hl 3 rfl) ?_
  refine lv_iconst (v := (2 : Int32)) hx hb dL_law_557 (by decide) ?_
  refine lv_iadd hx hb dL_law_558 ?_
  refine va_sld hx hb hX hbl hbA hS hv2 dL_law_559 ?_
  refine lv_i2l (v := (xs ((nI i) + (2 : Int32)).toNatClampNeg).toInt64) hx hb dL_law_560 rfl ?_
  refine lv_bipush (v := (32 : Int32)) hx hb dL_law_561 (by decide) ?_
  refine lv_lshl (v := ((xs ((nI i) + (2 : Int32)).toNatClampNeg).toInt64) <<< ((32 : Int32).toInt64 &&& 63)) hx hb dL_law_563 rfl ?_
  refine lv_aload_n hx hb dL_law_564 rfl (lv_at hl 0 rfl) ?_
  refine lv_iload_n hx hb dL_law_565 rfl (lv_at hl 3 rfl) ?_
  refine lv_iconst (v := (3 : Int32)) hx hb dL_law_566 (by decide) ?_
  refine lv_iadd hx hb dL_law_567 ?_
  refine va_sld hx hb hX hbl hbA hS hv3 dL_law_568 ?_
  refine lv_i2l (v := (xs ((nI i) + (3 : Int32)).toNatClampNeg).toInt64) hx hb dL_law_569 rfl ?_
  refine lv_ldc2 (v := (4294967295 : Int64)) hx hb hown (hts (.constantLong RL 31 (4294967295)) hcl) dL_law_570 ?_
  refine lv_land hx hb dL_law_573 ?_
  refine lv_lor hx hb dL_law_574 ?_
  refine lw_ci (va_runV (As := [.int (xs ((nI i) + (1 : Int32)).toNatClampNeg), .long ((((xs ((nI i) + (2 : Int32)).toNatClampNeg).toInt64) <<< ((32 : Int32).toInt64 &&& 63)) ||| (((xs ((nI i) + (3 : Int32)).toNatClampNeg).toInt64) &&& (4294967295 : Int64)))]) (rest := []) ⟨hx, hb, hml, hown, hts⟩ (spec_X6_write l D cy ad H.size g a w (xs ((nI i) + (1 : Int32)).toNatClampNeg) ((((xs ((nI i) + (2 : Int32)).toNatClampNeg).toInt64) <<< ((32 : Int32).toInt64 &&& 63)) ||| (((xs ((nI i) + (3 : Int32)).toNatClampNeg).toInt64) &&& (4294967295 : Int64))) (hR.2.1.1)) (cwV 2 hts gL_law_X6_write rfl rfl rfl (by decide +kernel) ⟨Nat.le_of_ble_eq_true rfl, Nat.le_of_ble_eq_true rfl⟩) (ar_preV hN hK (b_c hP) (b_cD hD) (ci := 5) (q0 := 0) rfl rfl) rfl rfl hl.1 rfl (lv_room (Nat.le_of_ble_eq_true rfl)) dL_law_575 ⟨Nat.le_of_ble_eq_true rfl, Nat.le_of_ble_eq_true rfl⟩) hP hD hS hA (fun r1 g1 a1 w1 H locs q1 hP hS => ?_)
  have hD := bD (g1 := g1) (a1 := a1) (w1 := w1) (g2 := g') (a2 := a') hD
  refine lv_aload_n hx hb dL_law_578 rfl (lv_at hl 2 rfl) ?_
  refine lv_aload_n hx hb dL_law_579 rfl (lv_at hl 0 rfl) ?_
  refine lv_iload_n hx hb dL_law_580 rfl (lv_at hl 3 rfl) ?_
  refine lv_iconst (v := (1 : Int32)) hx hb dL_law_581 (by decide) ?_
  refine lv_iadd hx hb dL_law_582 ?_
  refine va_sld hx hb hX hbl hbA hS hv1 dL_law_583 ?_
  refine lv_aload_n hx hb dL_law_584 rfl (lv_at hl 0 rfl) ?_
  refine lv_iload_n hx hb dL_law_585 rfl (lv_at hl 3 rfl) ?_
  refine lv_iconst (v := (2 : Int32)) hx hb dL_law_586 (by decide) ?_
  refine lv_iadd hx hb dL_law_587 ?_
  refine va_sld hx hb hX hbl hbA hS hv2 dL_law_588 ?_
  refine lv_i2l (v := (xs ((nI i) + (2 : Int32)).toNatClampNeg).toInt64) hx hb dL_law_589 rfl ?_
  refine lv_bipush (v := (32 : Int32)) hx hb dL_law_590 (by decide) ?_
  refine lv_lshl (v := ((xs ((nI i) + (2 : Int32)).toNatClampNeg).toInt64) <<< ((32 : Int32).toInt64 &&& 63)) hx hb dL_law_592 rfl ?_
  refine lv_aload_n hx hb dL_law_593 rfl (lv_at hl 0 rfl) ?_
  refine lv_iload_n hx hb dL_law_594 rfl (lv_at hl 3 rfl) ?_
  refine lv_iconst (v := (3 : Int32)) hx hb dL_law_595 (by decide) ?_
  refine lv_iadd hx hb dL_law_596 ?_
  refine va_sld hx hb hX hbl hbA hS hv3 dL_law_597 ?_
  refine lv_i2l (v := (xs ((nI i) + (3 : Int32)).toNatClampNeg).toInt64) hx hb dL_law_598 rfl ?_
  refine lv_ldc2 (v := (4294967295 : Int64)) hx hb hown (hts (.constantLong RL 31 (4294967295)) hcl) dL_law_599 ?_
  refine lv_land hx hb dL_law_602 ?_
  refine lv_lor hx hb dL_law_603 ?_
  refine lw_mi (va_runV (As := [.int (xs ((nI i) + (1 : Int32)).toNatClampNeg), .long ((((xs ((nI i) + (2 : Int32)).toNatClampNeg).toInt64) <<< ((32 : Int32).toInt64 &&& 63)) ||| (((xs ((nI i) + (3 : Int32)).toNatClampNeg).toInt64) &&& (4294967295 : Int64)))]) (rest := [.int r1]) ⟨hx, hb, hml, hown, hts⟩ (spec_X7_write l D cy ad' H.size g' a' (xs ((nI i) + (1 : Int32)).toNatClampNeg) ((((xs ((nI i) + (2 : Int32)).toNatClampNeg).toInt64) <<< ((32 : Int32).toInt64 &&& 63)) ||| (((xs ((nI i) + (3 : Int32)).toNatClampNeg).toInt64) &&& (4294967295 : Int64))) (hR.2.1.2.1)) (cwV 2 hts gL_law_X7_write rfl rfl rfl (by decide +kernel) ⟨Nat.le_of_ble_eq_true rfl, Nat.le_of_ble_eq_true rfl⟩) (ar_preV hN hK (b_m hP) (b_mD hD) (ci := 6) (q0 := 0) rfl rfl) rfl rfl hl.1 rfl (lv_room (Nat.le_of_ble_eq_true rfl)) dL_law_604 ⟨Nat.le_of_ble_eq_true rfl, Nat.le_of_ble_eq_true rfl⟩) hP hD hS hA (fun r2 g2 a2 H locs q2 hP hS => ?_)
  refine lv_icmp_eq (tgt := 1387) hx hb dL_law_607 (by decide) (fun c1 => ?_) (fun c1 => ?_)
  · exact kk _ _ _ _ _ _ _ hP hS (eq_write hj hR q1 q2).2
  · exact absurd (eq_write hj hR q1 q2).1 c1
set_option maxHeartbeats 4000000 in
set_option maxRecDepth 100000 in
theorem law_wipe {p : Program} {l : Launch} {e : Env} {s : State} {m : MethodId} {below : List Frame} {meth : Method} {c : Code} {b L : Nat} {xs : Nat → Int32} (hL : L ≤ 2560) (C0 : lw_At p s m meth c b L xs) {D : va_G} {cy : Nat → ClassId} {ad ad' : Nat → Nat} (hK : va_K D vwCl (cyT cy) s) (hN : NestOk s) {i j : Nat} (hi : i + 5 ≤ L) (hj : j < 80000) {g : Gs} {a : As} {w : Ws} {g' : Gs} {a' : As} {H : Heap} {locs : List Loc} (hP : va_P D vwCl (bW ad ad' cy g a w g' a') H) (hD : va_D (fun q : Nat => s.heap.size ≤ q) (bW ad ad' cy g a w g' a')) (hS : va_S (fun q : Nat => s.heap.size ≤ q) s.heap H locs) (hR : Rel j g a w g' a') {ls : Array Slot} (hl : lv_has ls 4 [(0, .ref b), (1, .ref (ad 0)), (2, .ref (ad' 0)), (3, .int (nI i))]) (kk : LawK p l e s m below meth c b D cy ad ad' j ls) : W p l e room_1 s m #[Value.ref b] below meth c H locs 40 103431 (lw_Z below #[Value.ref b] s) (F0 m 612 ls []) := by
  obtain ⟨hx, hb, hr, hml, hown, hts0, hX, hbl, hlocks, hgv⟩ := C0
  have hts : ∀ w ∈ wsL_law, w.before #[Value.ref b] s = true := fun w h => hts0 w (wsL_law_in w h)
  have hown : s.vm.findClass RL = some m.cls := hown
  have hA : ∀ q : Nat, s.heap.size ≤ q → (fun q : Nat => s.heap.size ≤ q) q := fun _ h => h
  have hbA : ¬ (fun q : Nat => s.heap.size ≤ q) b := Nat.not_le.mpr hbl
  have hv : ∀ k : Nat, 1 ≤ k → k < 5 → vp_in (nI i + nI k) L := fun k h1 h2 => by rw [nI_add]; exact vp_in_nI (by omega) (by omega)
  have hv1 : vp_in (nI i + (1 : Int32)) L := hv 1 (by decide) (by decide)
  have hv2 : vp_in (nI i + (2 : Int32)) L := hv 2 (by decide) (by decide)
  have hv3 : vp_in (nI i + (3 : Int32)) L := hv 3 (by decide) (by decide)
  have hv4 : vp_in (nI i + (4 : Int32)) L := hv 4 (by decide) (by decide)
  refine lv_aload_n hx hb dL_law_612 rfl (lv_at hl 1 rfl) ?_
  refine lw_ci (va_runV (As := []) (rest := []) ⟨hx, hb, hml, hown, hts⟩ (spec_X6_wipe l D cy ad H.size g a w) (cwV 0 hts gL_law_X6_wipe rfl rfl rfl (by decide +kernel) ⟨Nat.le_of_ble_eq_true rfl, Nat.le_of_ble_eq_true rfl⟩) (ar_preV hN hK (b_c hP) (b_cD hD) (ci := 5) (q0 := 0) rfl rfl) rfl rfl hl.1 rfl (lv_room (Nat.le_of_ble_eq_true rfl)) dL_law_613 ⟨Nat.le_of_ble_eq_true rfl, Nat.le_of_ble_eq_true rfl⟩) hP hD hS hA (fun r1 g1 a1 w1 H locs q1 hP hS => ?_)
  have hD := bD (g1 := g1) (a1 := a1) (w1 := w1) (g2 := g') (a2 := a') hD
  refine lv_aload_n hx hb dL_law_616 rfl (lv_at hl 2 rfl) ?_
  refine lw_mi (va_runV (As := []) (rest := [.int r1]) ⟨hx, hb, hml, hown, hts⟩ (spec_X7_wipe l D cy ad' H.size g' a') (cwV 0 hts gL_law_X7_wipe rfl rfl rfl (by decide +kernel) ⟨Nat.le_of_ble_eq_true rfl, Nat.le_of_ble_eq_true rfl⟩) (ar_preV hN hK (b_m hP) (b_mD hD) (ci := 6) (q0 := 0) rfl rfl) rfl rfl hl.1 rfl (lv_room (Nat.le_of_ble_eq_true rfl)) dL_law_617 ⟨Nat.le_of_ble_eq_true rfl, Nat.le_of_ble_eq_true rfl⟩) hP hD hS hA (fun r2 g2 a2 H locs q2 hP hS => ?_)
  refine lv_icmp_eq (tgt := 1387) hx hb dL_law_620 (by decide) (fun c1 => ?_) (fun c1 => ?_)
  · exact kk _ _ _ _ _ _ _ hP hS (eq_wipe hj hR q1 q2).2
  · exact absurd (eq_wipe hj hR q1 q2).1 c1
set_option maxHeartbeats 4000000 in
set_option maxRecDepth 100000 in
theorem law_fault {p : Program} {l : Launch} {e : Env} {s : State} {m : MethodId} {below : List Frame} {meth : Method} {c : Code} {b L : Nat} {xs : Nat → Int32} (hL : L ≤ 2560) (C0 : lw_At p s m meth c b L xs) {D : va_G} {cy : Nat → ClassId} {ad ad' : Nat → Nat} (hK : va_K D vwCl (cyT cy) s) (hN : NestOk s) {i j : Nat} (hi : i + 5 ≤ L) (hj : j < 80000) {g : Gs} {a : As} {w : Ws} {g' : Gs} {a' : As} {H : Heap} {locs : List Loc} (hP : va_P D vwCl (bW ad ad' cy g a w g' a') H) (hD : va_D (fun q : Nat => s.heap.size ≤ q) (bW ad ad' cy g a w g' a')) (hS : va_S (fun q : Nat => s.heap.size ≤ q) s.heap H locs) (hR : Rel j g a w g' a') {ls : Array Slot} (hl : lv_has ls 4 [(0, .ref b), (1, .ref (ad 0)), (2, .ref (ad' 0)), (3, .int (nI i))]) (kk : LawK p l e s m below meth c b D cy ad ad' j ls) : W p l e room_1 s m #[Value.ref b] below meth c H locs 40 103431 (lw_Z below #[Value.ref b] s) (F0 m 625 ls []) := by
  obtain ⟨hx, hb, hr, hml, hown, hts0, hX, hbl, hlocks, hgv⟩ := C0
  have hts : ∀ w ∈ wsL_law, w.before #[Value.ref b] s = true := fun w h => hts0 w (wsL_law_in w h)
  have hown : s.vm.findClass RL = some m.cls := hown
  have hA : ∀ q : Nat, s.heap.size ≤ q → (fun q : Nat => s.heap.size ≤ q) q := fun _ h => h
  have hbA : ¬ (fun q : Nat => s.heap.size ≤ q) b := Nat.not_le.mpr hbl
  have hv : ∀ k : Nat, 1 ≤ k → k < 5 → vp_in (nI i + nI k) L := fun k h1 h2 => by rw [nI_add]; exact vp_in_nI (by omega) (by omega)
  have hv1 : vp_in (nI i + (1 : Int32)) L := hv 1 (by decide) (by decide)
  have hv2 : vp_in (nI i + (2 : Int32)) L := hv 2 (by decide) (by decide)
  have hv3 : vp_in (nI i + (3 : Int32)) L := hv 3 (by decide) (by decide)
  have hv4 : vp_in (nI i + (4 : Int32)) L := hv 4 (by decide) (by decide)
  refine lv_aload_n hx hb dL_law_625 rfl (lv_at hl 1 rfl) ?_
  refine lw_ci (va_runV (As := []) (rest := []) ⟨hx, hb, hml, hown, hts⟩ (spec_X6_fault l D cy ad H.size g a w (hR.2.1.1)) (cwV 0 hts gL_law_X6_fault rfl rfl rfl (by decide +kernel) ⟨Nat.le_of_ble_eq_true rfl, Nat.le_of_ble_eq_true rfl⟩) (ar_preV hN hK (b_c hP) (b_cD hD) (ci := 5) (q0 := 0) rfl rfl) rfl rfl hl.1 rfl (lv_room (Nat.le_of_ble_eq_true rfl)) dL_law_626 ⟨Nat.le_of_ble_eq_true rfl, Nat.le_of_ble_eq_true rfl⟩) hP hD hS hA (fun r1 g1 a1 w1 H locs q1 hP hS => ?_)
  have hD := bD (g1 := g1) (a1 := a1) (w1 := w1) (g2 := g') (a2 := a') hD
  refine lv_aload_n hx hb dL_law_629 rfl (lv_at hl 2 rfl) ?_
  refine lw_mi (va_runV (As := []) (rest := [.int r1]) ⟨hx, hb, hml, hown, hts⟩ (spec_X7_fault l D cy ad' H.size g' a' (hR.2.1.2.1)) (cwV 0 hts gL_law_X7_fault rfl rfl rfl (by decide +kernel) ⟨Nat.le_of_ble_eq_true rfl, Nat.le_of_ble_eq_true rfl⟩) (ar_preV hN hK (b_m hP) (b_mD hD) (ci := 6) (q0 := 0) rfl rfl) rfl rfl hl.1 rfl (lv_room (Nat.le_of_ble_eq_true rfl)) dL_law_630 ⟨Nat.le_of_ble_eq_true rfl, Nat.le_of_ble_eq_true rfl⟩) hP hD hS hA (fun r2 g2 a2 H locs q2 hP hS => ?_)
  refine lv_icmp_eq (tgt := 1387) hx hb dL_law_633 (by decide) (fun c1 => ?_) (fun c1 => ?_)
  · exact kk _ _ _ _ _ _ _ hP hS (eq_fault hj hR q1 q2).2
  · exact absurd (eq_fault hj hR q1 q2).1 c1
set_option maxHeartbeats 4000000 in
set_option maxRecDepth 100000 in
theorem law_lay {p : Program} {l : Launch} {e : Env} {s : State} {m : MethodId} {below : List Frame} {meth : Method} {c : Code} {b L : Nat} {xs : Nat → Int32} (hL : L ≤ 2560) (C0 : lw_At p s m meth c b L xs) {D : va_G} {cy : Nat → ClassId} {ad ad' : Nat → Nat} (hK : va_K D vwCl (cyT cy) s) (hN : NestOk s) {i j : Nat} (hi : i + 5 ≤ L) (hj : j < 80000) {g : Gs} {a : As} {w : Ws} {g' : Gs} {a' : As} {H : Heap} {locs : List Loc} (hP : va_P D vwCl (bW ad ad' cy g a w g' a') H) (hD : va_D (fun q : Nat => s.heap.size ≤ q) (bW ad ad' cy g a w g' a')) (hS : va_S (fun q : Nat => s.heap.size ≤ q) s.heap H locs) (hR : Rel j g a w g' a') {ls : Array Slot} (hl : lv_has ls 4 [(0, .ref b), (1, .ref (ad 0)), (2, .ref (ad' 0)), (3, .int (nI i))]) (kk : LawK p l e s m below meth c b D cy ad ad' j ls) : W p l e room_1 s m #[Value.ref b] below meth c H locs 40 103431 (lw_Z below #[Value.ref b] s) (F0 m 638 ls []) := by
  obtain ⟨hx, hb, hr, hml, hown, hts0, hX, hbl, hlocks, hgv⟩ := C0
  have hts : ∀ w ∈ wsL_law, w.before #[Value.ref b] s = true := fun w h => hts0 w (wsL_law_in w h)
  have hown : s.vm.findClass RL = some m.cls := hown
  have hA : ∀ q : Nat, s.heap.size ≤ q → (fun q : Nat => s.heap.size ≤ q) q := fun _ h => h
  have hbA : ¬ (fun q : Nat => s.heap.size ≤ q) b := Nat.not_le.mpr hbl
  have hv : ∀ k : Nat, 1 ≤ k → k < 5 → vp_in (nI i + nI k) L := fun k h1 h2 => by rw [nI_add]; exact vp_in_nI (by omega) (by omega)
  have hv1 : vp_in (nI i + (1 : Int32)) L := hv 1 (by decide) (by decide)
  have hv2 : vp_in (nI i + (2 : Int32)) L := hv 2 (by decide) (by decide)
  have hv3 : vp_in (nI i + (3 : Int32)) L := hv 3 (by decide) (by decide)
  have hv4 : vp_in (nI i + (4 : Int32)) L := hv 4 (by decide) (by decide)
  refine lv_aload_n hx hb dL_law_638 rfl (lv_at hl 1 rfl) ?_
  refine lw_ci (va_runV (As := []) (rest := []) ⟨hx, hb, hml, hown, hts⟩ (spec_X6_lay l D cy ad H.size g a w (hR.2.1.1)) (cwV 0 hts gL_law_X6_lay rfl rfl rfl (by decide +kernel) ⟨Nat.le_of_ble_eq_true rfl, Nat.le_of_ble_eq_true rfl⟩) (ar_preV hN hK (b_c hP) (b_cD hD) (ci := 5) (q0 := 0) rfl rfl) rfl rfl hl.1 rfl (lv_room (Nat.le_of_ble_eq_true rfl)) dL_law_639 ⟨Nat.le_of_ble_eq_true rfl, Nat.le_of_ble_eq_true rfl⟩) hP hD hS hA (fun r1 g1 a1 w1 H locs q1 hP hS => ?_)
  have hD := bD (g1 := g1) (a1 := a1) (w1 := w1) (g2 := g') (a2 := a') hD
  refine lv_aload_n hx hb dL_law_642 rfl (lv_at hl 2 rfl) ?_
  refine lw_mi (va_runV (As := []) (rest := [.int r1]) ⟨hx, hb, hml, hown, hts⟩ (spec_X7_lay l D cy ad' H.size g' a' (hR.2.1.2.1)) (cwV 0 hts gL_law_X7_lay rfl rfl rfl (by decide +kernel) ⟨Nat.le_of_ble_eq_true rfl, Nat.le_of_ble_eq_true rfl⟩) (ar_preV hN hK (b_m hP) (b_mD hD) (ci := 6) (q0 := 0) rfl rfl) rfl rfl hl.1 rfl (lv_room (Nat.le_of_ble_eq_true rfl)) dL_law_643 ⟨Nat.le_of_ble_eq_true rfl, Nat.le_of_ble_eq_true rfl⟩) hP hD hS hA (fun r2 g2 a2 H locs q2 hP hS => ?_)
  refine lv_icmp_eq (tgt := 1387) hx hb dL_law_646 (by decide) (fun c1 => ?_) (fun c1 => ?_)
  · exact kk _ _ _ _ _ _ _ hP hS (eq_lay hj hR q1 q2).2
  · exact absurd (eq_lay hj hR q1 q2).1 c1
set_option maxHeartbeats 4000000 in
set_option maxRecDepth 100000 in
theorem law_left {p : Program} {l : Launch} {e : Env} {s : State} {m : MethodId} {below : List Frame} {meth : Method} {c : Code} {b L : Nat} {xs : Nat → Int32} (hL : L ≤ 2560) (C0 : lw_At p s m meth c b L xs) {D : va_G} {cy : Nat → ClassId} {ad ad' : Nat → Nat} (hK : va_K D vwCl (cyT cy) s) (hN : NestOk s) {i j : Nat} (hi : i + 5 ≤ L) (hj : j < 80000) {g : Gs} {a : As} {w : Ws} {g' : Gs} {a' : As} {H : Heap} {locs : List Loc} (hP : va_P D vwCl (bW ad ad' cy g a w g' a') H) (hD : va_D (fun q : Nat => s.heap.size ≤ q) (bW ad ad' cy g a w g' a')) (hS : va_S (fun q : Nat => s.heap.size ≤ q) s.heap H locs) (hR : Rel j g a w g' a') {ls : Array Slot} (hl : lv_has ls 4 [(0, .ref b), (1, .ref (ad 0)), (2, .ref (ad' 0)), (3, .int (nI i))]) (kk : LawK p l e s m below meth c b D cy ad ad' j ls) : W p l e room_1 s m #[Value.ref b] below meth c H locs 40 103431 (lw_Z below #[Value.ref b] s) (F0 m 651 ls []) := by
  obtain ⟨hx, hb, hr, hml, hown, hts0, hX, hbl, hlocks, hgv⟩ := C0
  have hts : ∀ w ∈ wsL_law, w.before #[Value.ref b] s = true := fun w h => hts0 w (wsL_law_in w h)
  have hown : s.vm.findClass RL = some m.cls := hown
  have hA : ∀ q : Nat, s.heap.size ≤ q → (fun q : Nat => s.heap.size ≤ q) q := fun _ h => h
  have hbA : ¬ (fun q : Nat => s.heap.size ≤ q) b := Nat.not_le.mpr hbl
  have hv : ∀ k : Nat, 1 ≤ k → k < 5 → vp_in (nI i + nI k) L := fun k h1 h2 => by rw [nI_add]; exact vp_in_nI (by omega) (by omega)
  have hv1 : vp_in (nI i + (1 : Int32)) L := hv 1 (by decide) (by decide)
  have hv2 : vp_in (nI i + (2 : Int32)) L := hv 2 (by decide) (by decide)
  have hv3 : vp_in (nI i + (3 : Int32)) L := hv 3 (by decide) (by decide)
  have hv4 : vp_in (nI i + (4 : Int32)) L := hv 4 (by decide) (by decide)
  refine lv_aload_n hx hb dL_law_651 rfl (lv_at hl 1 rfl) ?_
  refine cp_i (va_runV (As := []) (rest := []) ⟨hx, hb, hml, hown, hts⟩ (spec_X6_left l D cy ad H.size g a w) (cwV 0 hts gL_law_X6_left rfl rfl rfl (by decide +kernel) ⟨Nat.le_of_ble_eq_true rfl, Nat.le_of_ble_eq_true rfl⟩) (ar_preV hN hK (b_c hP) (b_cD hD) (ci := 5) (q0 := 0) rfl rfl) rfl rfl hl.1 rfl (lv_room (Nat.le_of_ble_eq_true rfl)) dL_law_652 ⟨Nat.le_of_ble_eq_true rfl, Nat.le_of_ble_eq_true rfl⟩) (fun r1 q1 => ?_)
  refine lv_aload_n hx hb dL_law_655 rfl (lv_at hl 2 rfl) ?_
  refine cp_i (va_runV (As := []) (rest := [.int r1]) ⟨hx, hb, hml, hown, hts⟩ (spec_X7_left l D cy ad' H.size g' a' (hR.2.2.2.1)) (cwV 0 hts gL_law_X7_left rfl rfl rfl (by decide +kernel) ⟨Nat.le_of_ble_eq_true rfl, Nat.le_of_ble_eq_true rfl⟩) (ar_preV hN hK (b_m hP) (b_mD hD) (ci := 6) (q0 := 0) rfl rfl) rfl rfl hl.1 rfl (lv_room (Nat.le_of_ble_eq_true rfl)) dL_law_656 ⟨Nat.le_of_ble_eq_true rfl, Nat.le_of_ble_eq_true rfl⟩) (fun r2 q2 => ?_)
  refine lv_icmp_eq (tgt := 1387) hx hb dL_law_659 (by decide) (fun c1 => ?_) (fun c1 => ?_)
  · exact kk _ _ _ _ _ _ _ hP hS (eq_left hj hR q1 q2).2
  · exact absurd (eq_left hj hR q1 q2).1 c1
set_option maxHeartbeats 4000000 in
set_option maxRecDepth 100000 in
theorem law_ith {p : Program} {l : Launch} {e : Env} {s : State} {m : MethodId} {below : List Frame} {meth : Method} {c : Code} {b L : Nat} {xs : Nat → Int32} (hL : L ≤ 2560) (C0 : lw_At p s m meth c b L xs) {D : va_G} {cy : Nat → ClassId} {ad ad' : Nat → Nat} (hK : va_K D vwCl (cyT cy) s) (hN : NestOk s) {i j : Nat} (hi : i + 5 ≤ L) (hj : j < 80000) {g : Gs} {a : As} {w : Ws} {g' : Gs} {a' : As} {H : Heap} {locs : List Loc} (hP : va_P D vwCl (bW ad ad' cy g a w g' a') H) (hD : va_D (fun q : Nat => s.heap.size ≤ q) (bW ad ad' cy g a w g' a')) (hS : va_S (fun q : Nat => s.heap.size ≤ q) s.heap H locs) (hR : Rel j g a w g' a') {ls : Array Slot} (hl : lv_has ls 4 [(0, .ref b), (1, .ref (ad 0)), (2, .ref (ad' 0)), (3, .int (nI i))]) (kk : LawK p l e s m below meth c b D cy ad ad' j ls) : W p l e room_1 s m #[Value.ref b] below meth c H locs 40 103431 (lw_Z below #[Value.ref b] s) (F0 m 664 ls []) := by
  obtain ⟨hx, hb, hr, hml, hown, hts0, hX, hbl, hlocks, hgv⟩ := C0
  have hts : ∀ w ∈ wsL_law, w.before #[Value.ref b] s = true := fun w h => hts0 w (wsL_law_in w h)
  have hown : s.vm.findClass RL = some m.cls := hown
  have hA : ∀ q : Nat, s.heap.size ≤ q → (fun q : Nat => s.heap.size ≤ q) q := fun _ h => h
  have hbA : ¬ (fun q : Nat => s.heap.size ≤ q) b := Nat.not_le.mpr hbl
  have hv : ∀ k : Nat, 1 ≤ k → k < 5 → vp_in (nI i + nI k) L := fun k h1 h2 => by rw [nI_add]; exact vp_in_nI (by omega) (by omega)
  have hv1 : vp_in (nI i + (1 : Int32)) L := hv 1 (by decide) (by decide)
  have hv2 : vp_in (nI i + (2 : Int32)) L := hv 2 (by decide) (by decide)
  have hv3 : vp_in (nI i + (3 : Int32)) L := hv 3 (by decide) (by decide)
  have hv4 : vp_in (nI i + (4 : Int32)) L := hv 4 (by decide) (by decide)
  have hcl : Cond.constantLong RL 31 (4294967295) ∈ wsL_law := List.mem_of_getElem? (i := 6) rfl
  refine lv_aload_n hx hb dL_law_664 rfl (lv_at hl 1 rfl) ?_
  refine lv_aload_n hx hb dL_law_665 rfl (lv_at hl 0 rfl) ?_
  refine lv_iload_n hx hb dL_law_666 rfl (lv_at hl 3 rfl) ?_
  refine lv_iconst (v := (1 : Int32)) hx hb dL_law_667 (by decide) ?_
  refine lv_iadd hx hb dL_law_668 ?_
  refine va_sld hx hb hX hbl hbA hS hv1 dL_law_669 ?_
  refine lv_i2l (v := (xs ((nI i) + (1 : Int32)).toNatClampNeg).toInt64) hx hb dL_law_670 rfl ?_
  refine lv_bipush (v := (32 : Int32)) hx hb dL_law_671 (by decide) ?_
  refine lv_lshl (v := ((xs ((nI i) + (1 : Int32)).toNatClampNeg).toInt64) <<< ((32 : Int32).toInt64 &&& 63)) hx hb dL_law_673 rfl ?_
  refine lv_aload_n hx hb dL_law_674 rfl (lv_at hl 0 rfl) ?_
  refine lv_iload_n hx hb dL_law_675 rfl (lv_at hl 3 rfl) ?_
  refine lv_iconst (v := (2 : Int32)) hx hb dL_law_676 (by decide) ?_
  refine lv_iadd hx hb dL_law_677 ?_
  refine va_sld hx hb hX hbl hbA hS hv2 dL_law_678 ?_
  refine lv_i2l (v := (xs ((nI i) + (2 : Int32)).toNatClampNeg).toInt64) hx hb dL_law_679 rfl ?_
  refine lv_ldc2 (v := (4294967295 : Int64)) hx hb hown (hts (.constantLong RL 31 (4294967295)) hcl) dL_law_680 ?_
  refine lv_land hx hb dL_law_683 ?_
  refine lv_lor hx hb dL_law_684 ?_
  refine cp_l (va_runV (As := [.long ((((xs ((nI i) + (1 : Int32)).toNatClampNeg).toInt64) <<< ((32 : Int32).toInt64 &&& 63)) ||| (((xs ((nI i) + (2 : Int32)).toNatClampNeg).toInt64) &&& (4294967295 : Int64)))]) (rest := []) ⟨hx, hb, hml, hown, hts⟩ (spec_X6_ith l D cy ad H.size g a w ((((xs ((nI i) + (1 : Int32)).toNatClampNeg).toInt64) <<< ((32 : Int32).toInt64 &&& 63)) ||| (((xs ((nI i) + (2 : Int32)).toNatClampNeg).toInt64) &&& (4294967295 : Int64))) (hR.2.2.1)) (cwV 1 hts gL_law_X6_ith rfl rfl rfl (by decide +kernel) ⟨Nat.le_of_ble_eq_true rfl, Nat.le_of_ble_eq_true rfl⟩) (ar_preV hN hK (b_c hP) (b_cD hD) (ci := 5) (q0 := 0) rfl rfl) rfl rfl hl.1 rfl (lv_room (Nat.le_of_ble_eq_true rfl)) dL_law_685 ⟨Nat.le_of_ble_eq_true rfl, Nat.le_of_ble_eq_true rfl⟩) (fun r1 q1 => ?_)
  refine lv_aload_n hx hb dL_law_688 rfl (lv_at hl 2 rfl) ?_
  refine lv_aload_n hx hb dL_law_689 rfl (lv_at hl 0 rfl) ?_
  refine lv_iload_n hx hb dL_law_690 rfl (lv_at hl 3 rfl) ?_
  refine lv_iconst (v := (1 : Int32)) hx hb dL_law_691 (by decide) ?_
  refine lv_iadd hx hb dL_law_692 ?_
  refine va_sld hx hb hX hbl hbA hS hv1 dL_law_693 ?_
  refine lv_i2l (v := (xs ((nI i) + (1 : Int32)).toNatClampNeg).toInt64) hx hb dL_law_694 rfl ?_
  refine lv_bipush (v := (32 : Int32)) hx hb dL_law_695 (by decide) ?_
  refine lv_lshl (v := ((xs ((nI i) + (1 : Int32)).toNatClampNeg).toInt64) <<< ((32 : Int32).toInt64 &&& 63)) hx hb dL_law_697 rfl ?_
  refine lv_aload_n hx hb dL_law_698 rfl (lv_at hl 0 rfl) ?_
  refine lv_iload_n hx hb dL_law_699 rfl (lv_at hl 3 rfl) ?_
  refine lv_iconst (v := (2 : Int32)) hx hb dL_law_700 (by decide) ?_
  refine lv_iadd hx hb dL_law_701 ?_
  refine va_sld hx hb hX hbl hbA hS hv2 dL_law_702 ?_
  refine lv_i2l (v := (xs ((nI i) + (2 : Int32)).toNatClampNeg).toInt64) hx hb dL_law_703 rfl ?_
  refine lv_ldc2 (v := (4294967295 : Int64)) hx hb hown (hts (.constantLong RL 31 (4294967295)) hcl) dL_law_704 ?_
  refine lv_land hx hb dL_law_707 ?_
  refine lv_lor hx hb dL_law_708 ?_
  refine cp_l (va_runV (As := [.long ((((xs ((nI i) + (1 : Int32)).toNatClampNeg).toInt64) <<< ((32 : Int32).toInt64 &&& 63)) ||| (((xs ((nI i) + (2 : Int32)).toNatClampNeg).toInt64) &&& (4294967295 : Int64)))]) (rest := [.long r1]) ⟨hx, hb, hml, hown, hts⟩ (spec_X7_ith l D cy ad' H.size g' a' ((((xs ((nI i) + (1 : Int32)).toNatClampNeg).toInt64) <<< ((32 : Int32).toInt64 &&& 63)) ||| (((xs ((nI i) + (2 : Int32)).toNatClampNeg).toInt64) &&& (4294967295 : Int64))) (hR.2.2.2.1)) (cwV 1 hts gL_law_X7_ith rfl rfl rfl (by decide +kernel) ⟨Nat.le_of_ble_eq_true rfl, Nat.le_of_ble_eq_true rfl⟩) (ar_preV hN hK (b_m hP) (b_mD hD) (ci := 6) (q0 := 0) rfl rfl) rfl rfl hl.1 rfl (lv_room (Nat.le_of_ble_eq_true rfl)) dL_law_709 ⟨Nat.le_of_ble_eq_true rfl, Nat.le_of_ble_eq_true rfl⟩) (fun r2 q2 => ?_)
  refine lc_eq (tgt := 1387) hx hb dL_law_712 dL_law_713 (by decide) (fun c1 => ?_) (fun c1 => ?_)
  · exact kk _ _ _ _ _ _ _ hP hS (eq_ith hj hR q1 q2).2
  · exact absurd (eq_ith hj hR q1 q2).1 c1
set_option maxHeartbeats 4000000 in
set_option maxRecDepth 100000 in
theorem law_from {p : Program} {l : Launch} {e : Env} {s : State} {m : MethodId} {below : List Frame} {meth : Method} {c : Code} {b L : Nat} {xs : Nat → Int32} (hL : L ≤ 2560) (C0 : lw_At p s m meth c b L xs) {D : va_G} {cy : Nat → ClassId} {ad ad' : Nat → Nat} (hK : va_K D vwCl (cyT cy) s) (hN : NestOk s) {i j : Nat} (hi : i + 5 ≤ L) (hj : j < 80000) {g : Gs} {a : As} {w : Ws} {g' : Gs} {a' : As} {H : Heap} {locs : List Loc} (hP : va_P D vwCl (bW ad ad' cy g a w g' a') H) (hD : va_D (fun q : Nat => s.heap.size ≤ q) (bW ad ad' cy g a w g' a')) (hS : va_S (fun q : Nat => s.heap.size ≤ q) s.heap H locs) (hR : Rel j g a w g' a') {ls : Array Slot} (hl : lv_has ls 4 [(0, .ref b), (1, .ref (ad 0)), (2, .ref (ad' 0)), (3, .int (nI i))]) (kk : LawK p l e s m below meth c b D cy ad ad' j ls) : W p l e room_1 s m #[Value.ref b] below meth c H locs 40 103431 (lw_Z below #[Value.ref b] s) (F0 m 718 ls []) := by
  obtain ⟨hx, hb, hr, hml, hown, hts0, hX, hbl, hlocks, hgv⟩ := C0
  have hts : ∀ w ∈ wsL_law, w.before #[Value.ref b] s = true := fun w h => hts0 w (wsL_law_in w h)
  have hown : s.vm.findClass RL = some m.cls := hown
  have hA : ∀ q : Nat, s.heap.size ≤ q → (fun q : Nat => s.heap.size ≤ q) q := fun _ h => h
  have hbA : ¬ (fun q : Nat => s.heap.size ≤ q) b := Nat.not_le.mpr hbl
  have hv : ∀ k : Nat, 1 ≤ k → k < 5 → vp_in (nI i + nI k) L := fun k h1 h2 => by rw [nI_add]; exact vp_in_nI (by omega) (by omega)
  have hv1 : vp_in (nI i + (1 : Int32)) L := hv 1 (by decide) (by decide)
  have hv2 : vp_in (nI i + (2 : Int32)) L := hv 2 (by decide) (by decide)
  have hv3 : vp_in (nI i + (3 : Int32)) L := hv 3 (by decide) (by decide)
  have hv4 : vp_in (nI i + (4 : Int32)) L := hv 4 (by decide) (by decide)
  have hcl : Cond.constantLong RL 31 (4294967295) ∈ wsL_law := List.mem_of_getElem? (i := 6) rfl
  refine lv_aload_n hx hb dL_law_718 rfl (lv_at hl 1 rfl) ?_
  refine lv_aload_n hx hb dL_law_719 rfl (lv_at hl 0 rfl) ?_
  refine lv_iload_n hx hb dL_law_720 rfl (lv_at hl 3 rfl) ?_
  refine lv_iconst (v := (1 : Int32)) hx hb dL_law_721 (by decide) ?_
  refine lv_iadd hx hb dL_law_722 ?_
  refine va_sld hx hb hX hbl hbA hS hv1 dL_law_723 ?_
  refine lv_i2l (v := (xs ((nI i) + (1 : Int32)).toNatClampNeg).toInt64) hx hb dL_law_724 rfl ?_
  refine lv_bipush (v := (32 : Int32)) hx hb dL_law_725 (by decide) ?_
  refine lv_lshl (v := ((xs ((nI i) + (1 : Int32)).toNatClampNeg).toInt64) <<< ((32 : Int32).toInt64 &&& 63)) hx hb dL_law_727 rfl ?_
  refine lv_aload_n hx hb dL_law_728 rfl (lv_at hl 0 rfl) ?_
  refine lv_iload_n hx hb dL_law_729 rfl (lv_at hl 3 rfl) ?_
  refine lv_iconst (v := (2 : Int32)) hx hb dL_law_730 (by decide) ?_
  refine lv_iadd hx hb dL_law_731 ?_
  refine va_sld hx hb hX hbl hbA hS hv2 dL_law_732 ?_
  refine lv_i2l (v := (xs ((nI i) + (2 : Int32)).toNatClampNeg).toInt64) hx hb dL_law_733 rfl ?_
  refine lv_ldc2 (v := (4294967295 : Int64)) hx hb hown (hts (.constantLong RL 31 (4294967295)) hcl) dL_law_734 ?_
  refine lv_land hx hb dL_law_737 ?_
  refine lv_lor hx hb dL_law_738 ?_
  refine cp_l (va_runV (As := [.long ((((xs ((nI i) + (1 : Int32)).toNatClampNeg).toInt64) <<< ((32 : Int32).toInt64 &&& 63)) ||| (((xs ((nI i) + (2 : Int32)).toNatClampNeg).toInt64) &&& (4294967295 : Int64)))]) (rest := []) ⟨hx, hb, hml, hown, hts⟩ (spec_X6_from l D cy ad H.size g a w ((((xs ((nI i) + (1 : Int32)).toNatClampNeg).toInt64) <<< ((32 : Int32).toInt64 &&& 63)) ||| (((xs ((nI i) + (2 : Int32)).toNatClampNeg).toInt64) &&& (4294967295 : Int64))) (hR.2.2.1)) (cwV 1 hts gL_law_X6_from rfl rfl rfl (by decide +kernel) ⟨Nat.le_of_ble_eq_true rfl, Nat.le_of_ble_eq_true rfl⟩) (ar_preV hN hK (b_c hP) (b_cD hD) (ci := 5) (q0 := 0) rfl rfl) rfl rfl hl.1 rfl (lv_room (Nat.le_of_ble_eq_true rfl)) dL_law_739 ⟨Nat.le_of_ble_eq_true rfl, Nat.le_of_ble_eq_true rfl⟩) (fun r1 q1 => ?_)
  refine lv_aload_n hx hb dL_law_742 rfl (lv_at hl 2 rfl) ?_
  refine lv_aload_n hx hb dL_law_743 rfl (lv_at hl 0 rfl) ?_
  refine lv_iload_n hx hb dL_law_744 rfl (lv_at hl 3 rfl) ?_
  refine lv_iconst (v := (1 : Int32)) hx hb dL_law_745 (by decide) ?_
  refine lv_iadd hx hb dL_law_746 ?_
  refine va_sld hx hb hX hbl hbA hS hv1 dL_law_747 ?_
  refine lv_i2l (v := (xs ((nI i) + (1 : Int32)).toNatClampNeg).toInt64) hx hb dL_law_748 rfl ?_
  refine lv_bipush (v := (32 : Int32)) hx hb dL_law_749 (by decide) ?_
  refine lv_lshl (v := ((xs ((nI i) + (1 : Int32)).toNatClampNeg).toInt64) <<< ((32 : Int32).toInt64 &&& 63)) hx hb dL_law_751 rfl ?_
  refine lv_aload_n hx hb dL_law_752 rfl (lv_at hl 0 rfl) ?_
  refine lv_iload_n hx hb dL_law_753 rfl (lv_at hl 3 rfl) ?_
  refine lv_iconst (v := (2 : Int32)) hx hb dL_law_754 (by decide) ?_
  refine lv_iadd hx hb dL_law_755 ?_
  refine va_sld hx hb hX hbl hbA hS hv2 dL_law_756 ?_
  refine lv_i2l (v := (xs ((nI i) + (2 : Int32)).toNatClampNeg).toInt64) hx hb dL_law_757 rfl ?_
  refine lv_ldc2 (v := (4294967295 : Int64)) hx hb hown (hts (.constantLong RL 31 (4294967295)) hcl) dL_law_758 ?_
  refine lv_land hx hb dL_law_761 ?_
  refine lv_lor hx hb dL_law_762 ?_
  refine cp_l (va_runV (As := [.long ((((xs ((nI i) + (1 : Int32)).toNatClampNeg).toInt64) <<< ((32 : Int32).toInt64 &&& 63)) ||| (((xs ((nI i) + (2 : Int32)).toNatClampNeg).toInt64) &&& (4294967295 : Int64)))]) (rest := [.long r1]) ⟨hx, hb, hml, hown, hts⟩ (spec_X7_from l D cy ad' H.size g' a' ((((xs ((nI i) + (1 : Int32)).toNatClampNeg).toInt64) <<< ((32 : Int32).toInt64 &&& 63)) ||| (((xs ((nI i) + (2 : Int32)).toNatClampNeg).toInt64) &&& (4294967295 : Int64))) (hR.2.2.2.1)) (cwV 1 hts gL_law_X7_from rfl rfl rfl (by decide +kernel) ⟨Nat.le_of_ble_eq_true rfl, Nat.le_of_ble_eq_true rfl⟩) (ar_preV hN hK (b_m hP) (b_mD hD) (ci := 6) (q0 := 0) rfl rfl) rfl rfl hl.1 rfl (lv_room (Nat.le_of_ble_eq_true rfl)) dL_law_763 ⟨Nat.le_of_ble_eq_true rfl, Nat.le_of_ble_eq_true rfl⟩) (fun r2 q2 => ?_)
  refine lc_eq (tgt := 1387) hx hb dL_law_766 dL_law_767 (by decide) (fun c1 => ?_) (fun c1 => ?_)
  · exact kk _ _ _ _ _ _ _ hP hS (eq_from hj hR q1 q2).2
  · exact absurd (eq_from hj hR q1 q2).1 c1
