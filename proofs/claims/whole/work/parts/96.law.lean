set_option maxHeartbeats 4000000 in
set_option maxRecDepth 100000 in
theorem law_needless {p : Program} {l : Launch} {e : Env} {s : State} {m : MethodId} {below : List Frame} {meth : Method} {c : Code} {b L : Nat} {xs : Nat → Int32} (hL : L ≤ 2560) (C0 : lw_At p s m meth c b L xs) {D : va_G} {cy : Nat → ClassId} {ad ad' : Nat → Nat} (hK : va_K D vwCl (cyT cy) s) (hN : NestOk s) {i j : Nat} (hi : i + 5 ≤ L) (hj : j < 80000) {g : Gs} {a : As} {w : Ws} {g' : Gs} {a' : As} {H : Heap} {locs : List Loc} (hP : va_P D vwCl (bW ad ad' cy g a w g' a') H) (hD : va_D (fun q : Nat => s.heap.size ≤ q) (bW ad ad' cy g a w g' a')) (hS : va_S (fun q : Nat => s.heap.size ≤ q) s.heap H locs) (hR : Rel j g a w g' a') {ls : Array Slot} (hl : lv_has ls 4 [(0, .ref b), (1, .ref (ad 0)), (2, .ref (ad' 0)), (3, .int (nI i))]) (kk : LawK p l e s m below meth c b D cy ad ad' j ls) : W p l e room_1 s m #[Value.ref b] below meth c H locs 40 103431 (lw_Z below #[Value.ref b] s) (F0 m 772 ls []) := by
  obtain ⟨hx, hb, hr, hml, hown, hts0, hX, hbl, hlocks, hgv⟩ := C0
  have hts : ∀ w ∈ wsL_law, w.before #[Value.ref b] s = true := fun w h => hts0 w (wsL_law_in w h)
  have hown : s.vm.findClass RL = some m.cls := hown
  have hA : ∀ q : Nat, s.heap.size ≤ q → (fun q : Nat => s.heap.size ≤ q) q := fun _ h => h
  have hbA : ¬ (fun q : Nat => s.heap.size ≤ q) b := Nat.not_le.mpr hbl
  have hv : ∀ k : Nat, 1 ≤ k → k < 5 → vp_in (nI i + nI k) L := fun k h1 h2 => by rw [nI_add]; exact vp_in_nI (by omega) (by omega)
  have hv1 : vp_in (nI i + (1 : Int32)) L := hv 1 (by decide) (by decide)
  have hv2 : vp_in (nI i + (2 : Int32)) L := hv 2 (by decide) (by decide)
  have hv3 : vp_in (nI i + (3 : Int32)) L := hv 3 (by decide) (by decide)
  have hv4 : vp_in (nI i + (4 : Int32)) L := hv 4 (by decide) (by decide)
  refine lv_aload_n hx hb dL_law_772 rfl (lv_at hl 1 rfl) ?_
  refine lv_aload_n hx hb dL_law_773 rfl (lv_at hl 0 rfl) ?_
  refine lv_iload_n hx hb dL_law_774 rfl (lv_at hl 3 rfl) ?_
  refine lv_iconst (v := (1 : Int32)) hx hb dL_law_775 (by decide) ?_
  refine lv_iadd hx hb dL_law_776 ?_
  refine va_sld hx hb hX hbl hbA hS hv1 dL_law_777 ?_
  refine cp_i (va_runV (As := [.int (xs ((nI i) + (1 : Int32)).toNatClampNeg)]) (rest := []) ⟨hx, hb, hml, hown, hts⟩ (spec_X6_needless l D cy ad H.size g a w (xs ((nI i) + (1 : Int32)).toNatClampNeg) (hR.2.2.1)) (cwV 1 hts gL_law_X6_needless rfl rfl rfl (by decide +kernel) ⟨Nat.le_of_ble_eq_true rfl, Nat.le_of_ble_eq_true rfl⟩) (ar_preV hN hK (b_c hP) (b_cD hD) (ci := 5) (q0 := 0) rfl rfl) rfl rfl hl.1 rfl (lv_room (Nat.le_of_ble_eq_true rfl)) dL_law_778 ⟨Nat.le_of_ble_eq_true rfl, Nat.le_of_ble_eq_true rfl⟩) (fun r1 q1 => ?_)
  refine lv_aload_n hx hb dL_law_781 rfl (lv_at hl 2 rfl) ?_
  refine lv_aload_n hx hb dL_law_782 rfl (lv_at hl 0 rfl) ?_
  refine lv_iload_n hx hb dL_law_783 rfl (lv_at hl 3 rfl) ?_
  refine lv_iconst (v := (1 : Int32)) hx hb dL_law_784 (by decide) ?_
  refine lv_iadd hx hb dL_law_785 ?_
  refine va_sld hx hb hX hbl hbA hS hv1 dL_law_786 ?_
  refine lw_mi (va_runV (As := [.int (xs ((nI i) + (1 : Int32)).toNatClampNeg)]) (rest := [.int r1]) ⟨hx, hb, hml, hown, hts⟩ (spec_X7_needless l D cy ad' H.size g' a' (xs ((nI i) + (1 : Int32)).toNatClampNeg) (hR.2.2.2.1)) (cwV 1 hts gL_law_X7_needless rfl rfl rfl (by decide +kernel) ⟨Nat.le_of_ble_eq_true rfl, Nat.le_of_ble_eq_true rfl⟩) (ar_preV hN hK (b_m hP) (b_mD hD) (ci := 6) (q0 := 0) rfl rfl) rfl rfl hl.1 rfl (lv_room (Nat.le_of_ble_eq_true rfl)) dL_law_787 ⟨Nat.le_of_ble_eq_true rfl, Nat.le_of_ble_eq_true rfl⟩) hP hD hS hA (fun r2 g2 a2 H locs q2 hP hS => ?_)
  refine lv_icmp_eq (tgt := 1387) hx hb dL_law_790 (by decide) (fun c1 => ?_) (fun c1 => ?_)
  · exact kk _ _ _ _ _ _ _ hP hS (eq_needless hj hR q1 q2).2
  · exact absurd (eq_needless hj hR q1 q2).1 c1
set_option maxHeartbeats 4000000 in
set_option maxRecDepth 100000 in
theorem law_lone {p : Program} {l : Launch} {e : Env} {s : State} {m : MethodId} {below : List Frame} {meth : Method} {c : Code} {b L : Nat} {xs : Nat → Int32} (hL : L ≤ 2560) (C0 : lw_At p s m meth c b L xs) {D : va_G} {cy : Nat → ClassId} {ad ad' : Nat → Nat} (hK : va_K D vwCl (cyT cy) s) (hN : NestOk s) {i j : Nat} (hi : i + 5 ≤ L) (hj : j < 80000) {g : Gs} {a : As} {w : Ws} {g' : Gs} {a' : As} {H : Heap} {locs : List Loc} (hP : va_P D vwCl (bW ad ad' cy g a w g' a') H) (hD : va_D (fun q : Nat => s.heap.size ≤ q) (bW ad ad' cy g a w g' a')) (hS : va_S (fun q : Nat => s.heap.size ≤ q) s.heap H locs) (hR : Rel j g a w g' a') {ls : Array Slot} (hl : lv_has ls 4 [(0, .ref b), (1, .ref (ad 0)), (2, .ref (ad' 0)), (3, .int (nI i))]) (kk : LawK p l e s m below meth c b D cy ad ad' j ls) : W p l e room_1 s m #[Value.ref b] below meth c H locs 40 103431 (lw_Z below #[Value.ref b] s) (F0 m 795 ls []) := by
  obtain ⟨hx, hb, hr, hml, hown, hts0, hX, hbl, hlocks, hgv⟩ := C0
  have hts : ∀ w ∈ wsL_law, w.before #[Value.ref b] s = true := fun w h => hts0 w (wsL_law_in w h)
  have hown : s.vm.findClass RL = some m.cls := hown
  have hA : ∀ q : Nat, s.heap.size ≤ q → (fun q : Nat => s.heap.size ≤ q) q := fun _ h => h
  have hbA : ¬ (fun q : Nat => s.heap.size ≤ q) b := Nat.not_le.mpr hbl
  have hv : ∀ k : Nat, 1 ≤ k → k < 5 → vp_in (nI i + nI k) L := fun k h1 h2 => by rw [nI_add]; exact vp_in_nI (by omega) (by omega)
  have hv1 : vp_in (nI i + (1 : Int32)) L := hv 1 (by decide) (by decide)
  have hv2 : vp_in (nI i + (2 : Int32)) L := hv 2 (by decide) (by decide)
  have hv3 : vp_in (nI i + (3 : Int32)) L := hv 3 (by decide) (by decide)
  have hv4 : vp_in (nI i + (4 : Int32)) L := hv 4 (by decide) (by decide)
  refine lv_aload_n hx hb dL_law_795 rfl (lv_at hl 1 rfl) ?_
  refine cp_i (va_runV (As := []) (rest := []) ⟨hx, hb, hml, hown, hts⟩ (spec_X6_lone l D cy ad H.size g a w (hR.2.2.1)) (cwV 0 hts gL_law_X6_lone rfl rfl rfl (by decide +kernel) ⟨Nat.le_of_ble_eq_true rfl, Nat.le_of_ble_eq_true rfl⟩) (ar_preV hN hK (b_c hP) (b_cD hD) (ci := 5) (q0 := 0) rfl rfl) rfl rfl hl.1 rfl (lv_room (Nat.le_of_ble_eq_true rfl)) dL_law_796 ⟨Nat.le_of_ble_eq_true rfl, Nat.le_of_ble_eq_true rfl⟩) (fun r1 q1 => ?_)
  refine lv_aload_n hx hb dL_law_799 rfl (lv_at hl 2 rfl) ?_
  refine lw_mi (va_runV (As := []) (rest := [.int r1]) ⟨hx, hb, hml, hown, hts⟩ (spec_X7_lone l D cy ad' H.size g' a' (hR.2.2.2.1)) (cwV 0 hts gL_law_X7_lone rfl rfl rfl (by decide +kernel) ⟨Nat.le_of_ble_eq_true rfl, Nat.le_of_ble_eq_true rfl⟩) (ar_preV hN hK (b_m hP) (b_mD hD) (ci := 6) (q0 := 0) rfl rfl) rfl rfl hl.1 rfl (lv_room (Nat.le_of_ble_eq_true rfl)) dL_law_800 ⟨Nat.le_of_ble_eq_true rfl, Nat.le_of_ble_eq_true rfl⟩) hP hD hS hA (fun r2 g2 a2 H locs q2 hP hS => ?_)
  refine lv_icmp_eq (tgt := 1387) hx hb dL_law_803 (by decide) (fun c1 => ?_) (fun c1 => ?_)
  · exact kk _ _ _ _ _ _ _ hP hS (eq_lone hj hR q1 q2).2
  · exact absurd (eq_lone hj hR q1 q2).1 c1
set_option maxHeartbeats 4000000 in
set_option maxRecDepth 100000 in
theorem law_looks {p : Program} {l : Launch} {e : Env} {s : State} {m : MethodId} {below : List Frame} {meth : Method} {c : Code} {b L : Nat} {xs : Nat → Int32} (hL : L ≤ 2560) (C0 : lw_At p s m meth c b L xs) {D : va_G} {cy : Nat → ClassId} {ad ad' : Nat → Nat} (hK : va_K D vwCl (cyT cy) s) (hN : NestOk s) {i j : Nat} (hi : i + 5 ≤ L) (hj : j < 80000) {g : Gs} {a : As} {w : Ws} {g' : Gs} {a' : As} {H : Heap} {locs : List Loc} (hP : va_P D vwCl (bW ad ad' cy g a w g' a') H) (hD : va_D (fun q : Nat => s.heap.size ≤ q) (bW ad ad' cy g a w g' a')) (hS : va_S (fun q : Nat => s.heap.size ≤ q) s.heap H locs) (hR : Rel j g a w g' a') {ls : Array Slot} (hl : lv_has ls 4 [(0, .ref b), (1, .ref (ad 0)), (2, .ref (ad' 0)), (3, .int (nI i))]) (kk : LawK p l e s m below meth c b D cy ad ad' j ls) : W p l e room_1 s m #[Value.ref b] below meth c H locs 40 103431 (lw_Z below #[Value.ref b] s) (F0 m 808 ls []) := by
  obtain ⟨hx, hb, hr, hml, hown, hts0, hX, hbl, hlocks, hgv⟩ := C0
  have hts : ∀ w ∈ wsL_law, w.before #[Value.ref b] s = true := fun w h => hts0 w (wsL_law_in w h)
  have hown : s.vm.findClass RL = some m.cls := hown
  have hA : ∀ q : Nat, s.heap.size ≤ q → (fun q : Nat => s.heap.size ≤ q) q := fun _ h => h
  have hbA : ¬ (fun q : Nat => s.heap.size ≤ q) b := Nat.not_le.mpr hbl
  have hv : ∀ k : Nat, 1 ≤ k → k < 5 → vp_in (nI i + nI k) L := fun k h1 h2 => by rw [nI_add]; exact vp_in_nI (by omega) (by omega)
  have hv1 : vp_in (nI i + (1 : Int32)) L := hv 1 (by decide) (by decide)
  have hv2 : vp_in (nI i + (2 : Int32)) L := hv 2 (by decide) (by decide)
  have hv3 : vp_in (nI i + (3 : Int32)) L := hv 3 (by decide) (by decide)
  have hv4 : vp_in (nI i + (4 : Int32)) L := hv 4 (by decide) (by decide)
  refine lv_aload_n hx hb dL_law_808 rfl (lv_at hl 1 rfl) ?_
  refine lv_aload_n hx hb dL_law_809 rfl (lv_at hl 0 rfl) ?_
  refine lv_iload_n hx hb dL_law_810 rfl (lv_at hl 3 rfl) ?_
  refine lv_iconst (v := (1 : Int32)) hx hb dL_law_811 (by decide) ?_
  refine lv_iadd hx hb dL_law_812 ?_
  refine va_sld hx hb hX hbl hbA hS hv1 dL_law_813 ?_
  refine lv_aload_n hx hb dL_law_814 rfl (lv_at hl 0 rfl) ?_
  refine lv_iload_n hx hb dL_law_815 rfl (lv_at hl 3 rfl) ?_
  refine lv_iconst (v := (2 : Int32)) hx hb dL_law_816 (by decide) ?_
  refine lv_iadd hx hb dL_law_817 ?_
  refine va_sld hx hb hX hbl hbA hS hv2 dL_law_818 ?_
  refine lv_aload_n hx hb dL_law_819 rfl (lv_at hl 0 rfl) ?_
  refine lv_iload_n hx hb dL_law_820 rfl (lv_at hl 3 rfl) ?_
  refine lv_iconst (v := (3 : Int32)) hx hb dL_law_821 (by decide) ?_
  refine lv_iadd hx hb dL_law_822 ?_
  refine va_sld hx hb hX hbl hbA hS hv3 dL_law_823 ?_
  refine cp_i (va_runV (As := [.int (xs ((nI i) + (1 : Int32)).toNatClampNeg), .int (xs ((nI i) + (2 : Int32)).toNatClampNeg), .int (xs ((nI i) + (3 : Int32)).toNatClampNeg)]) (rest := []) ⟨hx, hb, hml, hown, hts⟩ (spec_X6_looks l D cy ad H.size g a w (xs ((nI i) + (1 : Int32)).toNatClampNeg) (xs ((nI i) + (2 : Int32)).toNatClampNeg) (xs ((nI i) + (3 : Int32)).toNatClampNeg)) (cwV 3 hts gL_law_X6_looks rfl rfl rfl (by decide +kernel) ⟨Nat.le_of_ble_eq_true rfl, Nat.le_of_ble_eq_true rfl⟩) (ar_preV hN hK (b_c hP) (b_cD hD) (ci := 5) (q0 := 0) rfl rfl) rfl rfl hl.1 rfl (lv_room (Nat.le_of_ble_eq_true rfl)) dL_law_824 ⟨Nat.le_of_ble_eq_true rfl, Nat.le_of_ble_eq_true rfl⟩) (fun r1 q1 => ?_)
  refine lv_aload_n hx hb dL_law_827 rfl (lv_at hl 2 rfl) ?_
  refine lv_aload_n hx hb dL_law_828 rfl (lv_at hl 0 rfl) ?_
  refine lv_iload_n hx hb dL_law_829 rfl (lv_at hl 3 rfl) ?_
  refine lv_iconst (v := (1 : Int32)) hx hb dL_law_830 (by decide) ?_
  refine lv_iadd hx hb dL_law_831 ?_
  refine va_sld hx hb hX hbl hbA hS hv1 dL_law_832 ?_
  refine lv_aload_n hx hb dL_law_833 rfl (lv_at hl 0 rfl) ?_
  refine lv_iload_n hx hb dL_law_834 rfl (lv_at hl 3 rfl) ?_
  refine lv_iconst (v := (2 : Int32)) hx hb dL_law_835 (by decide) ?_
  refine lv_iadd hx hb dL_law_836 ?_
  refine va_sld hx hb hX hbl hbA hS hv2 dL_law_837 ?_
  refine lv_aload_n hx hb dL_law_838 rfl (lv_at hl 0 rfl) ?_
  refine lv_iload_n hx hb dL_law_839 rfl (lv_at hl 3 rfl) ?_
  refine lv_iconst (v := (3 : Int32)) hx hb dL_law_840 (by decide) ?_
  refine lv_iadd hx hb dL_law_841 ?_
  refine va_sld hx hb hX hbl hbA hS hv3 dL_law_842 ?_
  refine cp_i (va_runV (As := [.int (xs ((nI i) + (1 : Int32)).toNatClampNeg), .int (xs ((nI i) + (2 : Int32)).toNatClampNeg), .int (xs ((nI i) + (3 : Int32)).toNatClampNeg)]) (rest := [.int r1]) ⟨hx, hb, hml, hown, hts⟩ (spec_X7_looks l D cy ad' H.size g' a' (xs ((nI i) + (1 : Int32)).toNatClampNeg) (xs ((nI i) + (2 : Int32)).toNatClampNeg) (xs ((nI i) + (3 : Int32)).toNatClampNeg)) (cwV 3 hts gL_law_X7_looks rfl rfl rfl (by decide +kernel) ⟨Nat.le_of_ble_eq_true rfl, Nat.le_of_ble_eq_true rfl⟩) (ar_preV hN hK (b_m hP) (b_mD hD) (ci := 6) (q0 := 0) rfl rfl) rfl rfl hl.1 rfl (lv_room (Nat.le_of_ble_eq_true rfl)) dL_law_843 ⟨Nat.le_of_ble_eq_true rfl, Nat.le_of_ble_eq_true rfl⟩) (fun r2 q2 => ?_)
  refine lv_icmp_eq (tgt := 1387) hx hb dL_law_846 (by decide) (fun c1 => ?_) (fun c1 => ?_)
  · exact kk _ _ _ _ _ _ _ hP hS (eq_looks hj hR q1 q2).2
  · exact absurd (eq_looks hj hR q1 q2).1 c1
set_option maxHeartbeats 4000000 in
set_option maxRecDepth 100000 in
theorem law_lied {p : Program} {l : Launch} {e : Env} {s : State} {m : MethodId} {below : List Frame} {meth : Method} {c : Code} {b L : Nat} {xs : Nat → Int32} (hL : L ≤ 2560) (C0 : lw_At p s m meth c b L xs) {D : va_G} {cy : Nat → ClassId} {ad ad' : Nat → Nat} (hK : va_K D vwCl (cyT cy) s) (hN : NestOk s) {i j : Nat} (hi : i + 5 ≤ L) (hj : j < 80000) {g : Gs} {a : As} {w : Ws} {g' : Gs} {a' : As} {H : Heap} {locs : List Loc} (hP : va_P D vwCl (bW ad ad' cy g a w g' a') H) (hD : va_D (fun q : Nat => s.heap.size ≤ q) (bW ad ad' cy g a w g' a')) (hS : va_S (fun q : Nat => s.heap.size ≤ q) s.heap H locs) (hR : Rel j g a w g' a') {ls : Array Slot} (hl : lv_has ls 4 [(0, .ref b), (1, .ref (ad 0)), (2, .ref (ad' 0)), (3, .int (nI i))]) (kk : LawK p l e s m below meth c b D cy ad ad' j ls) : W p l e room_1 s m #[Value.ref b] below meth c H locs 40 103431 (lw_Z below #[Value.ref b] s) (F0 m 851 ls []) := by
  obtain ⟨hx, hb, hr, hml, hown, hts0, hX, hbl, hlocks, hgv⟩ := C0
  have hts : ∀ w ∈ wsL_law, w.before #[Value.ref b] s = true := fun w h => hts0 w (wsL_law_in w h)
  have hown : s.vm.findClass RL = some m.cls := hown
  have hA : ∀ q : Nat, s.heap.size ≤ q → (fun q : Nat => s.heap.size ≤ q) q := fun _ h => h
  have hbA : ¬ (fun q : Nat => s.heap.size ≤ q) b := Nat.not_le.mpr hbl
  have hv : ∀ k : Nat, 1 ≤ k → k < 5 → vp_in (nI i + nI k) L := fun k h1 h2 => by rw [nI_add]; exact vp_in_nI (by omega) (by omega)
  have hv1 : vp_in (nI i + (1 : Int32)) L := hv 1 (by decide) (by decide)
  have hv2 : vp_in (nI i + (2 : Int32)) L := hv 2 (by decide) (by decide)
  have hv3 : vp_in (nI i + (3 : Int32)) L := hv 3 (by decide) (by decide)
  have hv4 : vp_in (nI i + (4 : Int32)) L := hv 4 (by decide) (by decide)
  refine lv_aload_n hx hb dL_law_851 rfl (lv_at hl 1 rfl) ?_
  refine lv_aload_n hx hb dL_law_852 rfl (lv_at hl 0 rfl) ?_
  refine lv_iload_n hx hb dL_law_853 rfl (lv_at hl 3 rfl) ?_
  refine lv_iconst (v := (1 : Int32)) hx hb dL_law_854 (by decide) ?_
  refine lv_iadd hx hb dL_law_855 ?_
  refine va_sld hx hb hX hbl hbA hS hv1 dL_law_856 ?_
  refine lv_aload_n hx hb dL_law_857 rfl (lv_at hl 0 rfl) ?_
  refine lv_iload_n hx hb dL_law_858 rfl (lv_at hl 3 rfl) ?_
  refine lv_iconst (v := (2 : Int32)) hx hb dL_law_859 (by decide) ?_
  refine lv_iadd hx hb dL_law_860 ?_
  refine va_sld hx hb hX hbl hbA hS hv2 dL_law_861 ?_
  refine lw_ci (va_runV (As := [.int (xs ((nI i) + (1 : Int32)).toNatClampNeg), .int (xs ((nI i) + (2 : Int32)).toNatClampNeg)]) (rest := []) ⟨hx, hb, hml, hown, hts⟩ (spec_X6_lied l D cy ad H.size g a w (xs ((nI i) + (1 : Int32)).toNatClampNeg) (xs ((nI i) + (2 : Int32)).toNatClampNeg)) (cwV 2 hts gL_law_X6_lied rfl rfl rfl (by decide +kernel) ⟨Nat.le_of_ble_eq_true rfl, Nat.le_of_ble_eq_true rfl⟩) (ar_preV hN hK (b_c hP) (b_cD hD) (ci := 5) (q0 := 0) rfl rfl) rfl rfl hl.1 rfl (lv_room (Nat.le_of_ble_eq_true rfl)) dL_law_862 ⟨Nat.le_of_ble_eq_true rfl, Nat.le_of_ble_eq_true rfl⟩) hP hD hS hA (fun r1 g1 a1 w1 H locs q1 hP hS => ?_)
  have hD := bD (g1 := g1) (a1 := a1) (w1 := w1) (g2 := g') (a2 := a') hD
  refine lv_aload_n hx hb dL_law_865 rfl (lv_at hl 2 rfl) ?_
  refine lv_aload_n hx hb dL_law_866 rfl (lv_at hl 0 rfl) ?_
  refine lv_iload_n hx hb dL_law_867 rfl (lv_at hl 3 rfl) ?_
  refine lv_iconst (v := (1 : Int32)) hx hb dL_law_868 (by decide) ?_
  refine lv_iadd hx hb dL_law_869 ?_
  refine va_sld hx hb hX hbl hbA hS hv1 dL_law_870 ?_
  refine lv_aload_n hx hb dL_law_871 rfl (lv_at hl 0 rfl) ?_
  refine lv_iload_n hx hb dL_law_872 rfl (lv_at hl 3 rfl) ?_
  refine lv_iconst (v := (2 : Int32)) hx hb dL_law_873 (by decide) ?_
  refine lv_iadd hx hb dL_law_874 ?_
  refine va_sld hx hb hX hbl hbA hS hv2 dL_law_875 ?_
  refine cp_i (va_runV (As := [.int (xs ((nI i) + (1 : Int32)).toNatClampNeg), .int (xs ((nI i) + (2 : Int32)).toNatClampNeg)]) (rest := [.int r1]) ⟨hx, hb, hml, hown, hts⟩ (spec_X7_lied l D cy ad' H.size g' a' (xs ((nI i) + (1 : Int32)).toNatClampNeg) (xs ((nI i) + (2 : Int32)).toNatClampNeg)) (cwV 2 hts gL_law_X7_lied rfl rfl rfl (by decide +kernel) ⟨Nat.le_of_ble_eq_true rfl, Nat.le_of_ble_eq_true rfl⟩) (ar_preV hN hK (b_m hP) (b_mD hD) (ci := 6) (q0 := 0) rfl rfl) rfl rfl hl.1 rfl (lv_room (Nat.le_of_ble_eq_true rfl)) dL_law_876 ⟨Nat.le_of_ble_eq_true rfl, Nat.le_of_ble_eq_true rfl⟩) (fun r2 q2 => ?_)
  refine lv_icmp_eq (tgt := 1387) hx hb dL_law_879 (by decide) (fun c1 => ?_) (fun c1 => ?_)
  · exact kk _ _ _ _ _ _ _ hP hS (eq_lied hj hR q1 q2).2
  · exact absurd (eq_lied hj hR q1 q2).1 c1
set_option maxHeartbeats 4000000 in
set_option maxRecDepth 100000 in
theorem law_falseOnes {p : Program} {l : Launch} {e : Env} {s : State} {m : MethodId} {below : List Frame} {meth : Method} {c : Code} {b L : Nat} {xs : Nat → Int32} (hL : L ≤ 2560) (C0 : lw_At p s m meth c b L xs) {D : va_G} {cy : Nat → ClassId} {ad ad' : Nat → Nat} (hK : va_K D vwCl (cyT cy) s) (hN : NestOk s) {i j : Nat} (hi : i + 5 ≤ L) (hj : j < 80000) {g : Gs} {a : As} {w : Ws} {g' : Gs} {a' : As} {H : Heap} {locs : List Loc} (hP : va_P D vwCl (bW ad ad' cy g a w g' a') H) (hD : va_D (fun q : Nat => s.heap.size ≤ q) (bW ad ad' cy g a w g' a')) (hS : va_S (fun q : Nat => s.heap.size ≤ q) s.heap H locs) (hR : Rel j g a w g' a') {ls : Array Slot} (hl : lv_has ls 4 [(0, .ref b), (1, .ref (ad 0)), (2, .ref (ad' 0)), (3, .int (nI i))]) (kk : LawK p l e s m below meth c b D cy ad ad' j ls) : W p l e room_1 s m #[Value.ref b] below meth c H locs 40 103431 (lw_Z below #[Value.ref b] s) (F0 m 884 ls []) := by
  obtain ⟨hx, hb, hr, hml, hown, hts0, hX, hbl, hlocks, hgv⟩ := C0
  have hts : ∀ w ∈ wsL_law, w.before #[Value.ref b] s = true := fun w h => hts0 w (wsL_law_in w h)
  have hown : s.vm.findClass RL = some m.cls := hown
  have hA : ∀ q : Nat, s.heap.size ≤ q → (fun q : Nat => s.heap.size ≤ q) q := fun _ h => h
  have hbA : ¬ (fun q : Nat => s.heap.size ≤ q) b := Nat.not_le.mpr hbl
  have hv : ∀ k : Nat, 1 ≤ k → k < 5 → vp_in (nI i + nI k) L := fun k h1 h2 => by rw [nI_add]; exact vp_in_nI (by omega) (by omega)
  have hv1 : vp_in (nI i + (1 : Int32)) L := hv 1 (by decide) (by decide)
  have hv2 : vp_in (nI i + (2 : Int32)) L := hv 2 (by decide) (by decide)
  have hv3 : vp_in (nI i + (3 : Int32)) L := hv 3 (by decide) (by decide)
  have hv4 : vp_in (nI i + (4 : Int32)) L := hv 4 (by decide) (by decide)
  refine lv_aload_n hx hb dL_law_884 rfl (lv_at hl 1 rfl) ?_
  refine lv_aload_n hx hb dL_law_885 rfl (lv_at hl 0 rfl) ?_
  refine lv_iload_n hx hb dL_law_886 rfl (lv_at hl 3 rfl) ?_
  refine lv_iconst (v := (1 : Int32)) hx hb dL_law_887 (by decide) ?_
  refine lv_iadd hx hb dL_law_888 ?_
  refine va_sld hx hb hX hbl hbA hS hv1 dL_law_889 ?_
  refine lv_aload_n hx hb dL_law_890 rfl (lv_at hl 0 rfl) ?_
  refine lv_iload_n hx hb dL_law_891 rfl (lv_at hl 3 rfl) ?_
  refine lv_iconst (v := (2 : Int32)) hx hb dL_law_892 (by decide) ?_
  refine lv_iadd hx hb dL_law_893 ?_
  refine va_sld hx hb hX hbl hbA hS hv2 dL_law_894 ?_
  refine lw_ci (va_runV (As := [.int (xs ((nI i) + (1 : Int32)).toNatClampNeg), .int (xs ((nI i) + (2 : Int32)).toNatClampNeg)]) (rest := []) ⟨hx, hb, hml, hown, hts⟩ (spec_X6_falseOnes l D cy ad H.size g a w (xs ((nI i) + (1 : Int32)).toNatClampNeg) (xs ((nI i) + (2 : Int32)).toNatClampNeg)) (cwV 2 hts gL_law_X6_falseOnes rfl rfl rfl (by decide +kernel) ⟨Nat.le_of_ble_eq_true rfl, Nat.le_of_ble_eq_true rfl⟩) (ar_preV hN hK (b_c hP) (b_cD hD) (ci := 5) (q0 := 0) rfl rfl) rfl rfl hl.1 rfl (lv_room (Nat.le_of_ble_eq_true rfl)) dL_law_895 ⟨Nat.le_of_ble_eq_true rfl, Nat.le_of_ble_eq_true rfl⟩) hP hD hS hA (fun r1 g1 a1 w1 H locs q1 hP hS => ?_)
  have hD := bD (g1 := g1) (a1 := a1) (w1 := w1) (g2 := g') (a2 := a') hD
  refine lv_aload_n hx hb dL_law_898 rfl (lv_at hl 2 rfl) ?_
  refine lv_aload_n hx hb dL_law_899 rfl (lv_at hl 0 rfl) ?_
  refine lv_iload_n hx hb dL_law_900 rfl (lv_at hl 3 rfl) ?_
  refine lv_iconst (v := (1 : Int32)) hx hb dL_law_901 (by decide) ?_
  refine lv_iadd hx hb dL_law_902 ?_
  refine va_sld hx hb hX hbl hbA hS hv1 dL_law_903 ?_
  refine lv_aload_n hx hb dL_law_904 rfl (lv_at hl 0 rfl) ?_
  refine lv_iload_n hx hb dL_law_905 rfl (lv_at hl 3 rfl) ?_
  refine lv_iconst (v := (2 : Int32)) hx hb dL_law_906 (by decide) ?_
  refine lv_iadd hx hb dL_law_907 ?_
  refine va_sld hx hb hX hbl hbA hS hv2 dL_law_908 ?_
  refine cp_i (va_runV (As := [.int (xs ((nI i) + (1 : Int32)).toNatClampNeg), .int (xs ((nI i) + (2 : Int32)).toNatClampNeg)]) (rest := [.int r1]) ⟨hx, hb, hml, hown, hts⟩ (spec_X7_falseOnes l D cy ad' H.size g' a' (xs ((nI i) + (1 : Int32)).toNatClampNeg) (xs ((nI i) + (2 : Int32)).toNatClampNeg)) (cwV 2 hts gL_law_X7_falseOnes rfl rfl rfl (by decide +kernel) ⟨Nat.le_of_ble_eq_true rfl, Nat.le_of_ble_eq_true rfl⟩) (ar_preV hN hK (b_m hP) (b_mD hD) (ci := 6) (q0 := 0) rfl rfl) rfl rfl hl.1 rfl (lv_room (Nat.le_of_ble_eq_true rfl)) dL_law_909 ⟨Nat.le_of_ble_eq_true rfl, Nat.le_of_ble_eq_true rfl⟩) (fun r2 q2 => ?_)
  refine lv_icmp_eq (tgt := 1387) hx hb dL_law_912 (by decide) (fun c1 => ?_) (fun c1 => ?_)
  · exact kk _ _ _ _ _ _ _ hP hS (eq_falseOnes hj hR q1 q2).2
  · exact absurd (eq_falseOnes hj hR q1 q2).1 c1
set_option maxHeartbeats 4000000 in
set_option maxRecDepth 100000 in
theorem law_fooled {p : Program} {l : Launch} {e : Env} {s : State} {m : MethodId} {below : List Frame} {meth : Method} {c : Code} {b L : Nat} {xs : Nat → Int32} (hL : L ≤ 2560) (C0 : lw_At p s m meth c b L xs) {D : va_G} {cy : Nat → ClassId} {ad ad' : Nat → Nat} (hK : va_K D vwCl (cyT cy) s) (hN : NestOk s) {i j : Nat} (hi : i + 5 ≤ L) (hj : j < 80000) {g : Gs} {a : As} {w : Ws} {g' : Gs} {a' : As} {H : Heap} {locs : List Loc} (hP : va_P D vwCl (bW ad ad' cy g a w g' a') H) (hD : va_D (fun q : Nat => s.heap.size ≤ q) (bW ad ad' cy g a w g' a')) (hS : va_S (fun q : Nat => s.heap.size ≤ q) s.heap H locs) (hR : Rel j g a w g' a') {ls : Array Slot} (hl : lv_has ls 4 [(0, .ref b), (1, .ref (ad 0)), (2, .ref (ad' 0)), (3, .int (nI i))]) (kk : LawK p l e s m below meth c b D cy ad ad' j ls) : W p l e room_1 s m #[Value.ref b] below meth c H locs 40 103431 (lw_Z below #[Value.ref b] s) (F0 m 917 ls []) := by
  obtain ⟨hx, hb, hr, hml, hown, hts0, hX, hbl, hlocks, hgv⟩ := C0
  have hts : ∀ w ∈ wsL_law, w.before #[Value.ref b] s = true := fun w h => hts0 w (wsL_law_in w h)
  have hown : s.vm.findClass RL = some m.cls := hown
  have hA : ∀ q : Nat, s.heap.size ≤ q → (fun q : Nat => s.heap.size ≤ q) q := fun _ h => h
  have hbA : ¬ (fun q : Nat => s.heap.size ≤ q) b := Nat.not_le.mpr hbl
  have hv : ∀ k : Nat, 1 ≤ k → k < 5 → vp_in (nI i + nI k) L := fun k h1 h2 => by rw [nI_add]; exact vp_in_nI (by omega) (by omega)
  have hv1 : vp_in (nI i + (1 : Int32)) L := hv 1 (by decide) (by decide)
  have hv2 : vp_in (nI i + (2 : Int32)) L := hv 2 (by decide) (by decide)
  have hv3 : vp_in (nI i + (3 : Int32)) L := hv 3 (by decide) (by decide)
  have hv4 : vp_in (nI i + (4 : Int32)) L := hv 4 (by decide) (by decide)
  refine lv_aload_n hx hb dL_law_917 rfl (lv_at hl 1 rfl) ?_
  refine lv_aload_n hx hb dL_law_918 rfl (lv_at hl 0 rfl) ?_
  refine lv_iload_n hx hb dL_law_919 rfl (lv_at hl 3 rfl) ?_
  refine lv_iconst (v := (1 : Int32)) hx hb dL_law_920 (by decide) ?_
  refine lv_iadd hx hb dL_law_921 ?_
  refine va_sld hx hb hX hbl hbA hS hv1 dL_law_922 ?_
  refine lv_aload_n hx hb dL_law_923 rfl (lv_at hl 0 rfl) ?_
  refine lv_iload_n hx hb dL_law_924 rfl (lv_at hl 3 rfl) ?_
  refine lv_iconst (v := (2 : Int32)) hx hb dL_law_925 (by decide) ?_
  refine lv_iadd hx hb dL_law_926 ?_
  refine va_sld hx hb hX hbl hbA hS hv2 dL_law_927 ?_
  refine lv_aload_n hx hb dL_law_928 rfl (lv_at hl 0 rfl) ?_
  refine lv_iload_n hx hb dL_law_929 rfl (lv_at hl 3 rfl) ?_
  refine lv_iconst (v := (3 : Int32)) hx hb dL_law_930 (by decide) ?_
  refine lv_iadd hx hb dL_law_931 ?_
  refine va_sld hx hb hX hbl hbA hS hv3 dL_law_932 ?_
  refine lw_ci (va_runV (As := [.int (xs ((nI i) + (1 : Int32)).toNatClampNeg), .int (xs ((nI i) + (2 : Int32)).toNatClampNeg), .int (xs ((nI i) + (3 : Int32)).toNatClampNeg)]) (rest := []) ⟨hx, hb, hml, hown, hts⟩ (spec_X6_fooled l D cy ad H.size g a w (xs ((nI i) + (1 : Int32)).toNatClampNeg) (xs ((nI i) + (2 : Int32)).toNatClampNeg) (xs ((nI i) + (3 : Int32)).toNatClampNeg) (hR.1)) (cwV 3 hts gL_law_X6_fooled rfl rfl rfl (by decide +kernel) ⟨Nat.le_of_ble_eq_true rfl, Nat.le_of_ble_eq_true rfl⟩) (ar_preV hN hK (b_c hP) (b_cD hD) (ci := 5) (q0 := 0) rfl rfl) rfl rfl hl.1 rfl (lv_room (Nat.le_of_ble_eq_true rfl)) dL_law_933 ⟨Nat.le_of_ble_eq_true rfl, Nat.le_of_ble_eq_true rfl⟩) hP hD hS hA (fun r1 g1 a1 w1 H locs q1 hP hS => ?_)
  have hD := bD (g1 := g1) (a1 := a1) (w1 := w1) (g2 := g') (a2 := a') hD
  refine lv_aload_n hx hb dL_law_936 rfl (lv_at hl 2 rfl) ?_
  refine lv_aload_n hx hb dL_law_937 rfl (lv_at hl 0 rfl) ?_
  refine lv_iload_n hx hb dL_law_938 rfl (lv_at hl 3 rfl) ?_
  refine lv_iconst (v := (1 : Int32)) hx hb dL_law_939 (by decide) ?_
  refine lv_iadd hx hb dL_law_940 ?_
  refine va_sld hx hb hX hbl hbA hS hv1 dL_law_941 ?_
  refine lv_aload_n hx hb dL_law_942 rfl (lv_at hl 0 rfl) ?_
  refine lv_iload_n hx hb dL_law_943 rfl (lv_at hl 3 rfl) ?_
  refine lv_iconst (v := (2 : Int32)) hx hb dL_law_944 (by decide) ?_
  refine lv_iadd hx hb dL_law_945 ?_
  refine va_sld hx hb hX hbl hbA hS hv2 dL_law_946 ?_
  refine lv_aload_n hx hb dL_law_947 rfl (lv_at hl 0 rfl) ?_
  refine lv_iload_n hx hb dL_law_948 rfl (lv_at hl 3 rfl) ?_
  refine lv_iconst (v := (3 : Int32)) hx hb dL_law_949 (by decide) ?_
  refine lv_iadd hx hb dL_law_950 ?_
  refine va_sld hx hb hX hbl hbA hS hv3 dL_law_951 ?_
  refine cp_i (va_runV (As := [.int (xs ((nI i) + (1 : Int32)).toNatClampNeg), .int (xs ((nI i) + (2 : Int32)).toNatClampNeg), .int (xs ((nI i) + (3 : Int32)).toNatClampNeg)]) (rest := [.int r1]) ⟨hx, hb, hml, hown, hts⟩ (spec_X7_fooled l D cy ad' H.size g' a' (xs ((nI i) + (1 : Int32)).toNatClampNeg) (xs ((nI i) + (2 : Int32)).toNatClampNeg) (xs ((nI i) + (3 : Int32)).toNatClampNeg)) (cwV 3 hts gL_law_X7_fooled rfl rfl rfl (by decide +kernel) ⟨Nat.le_of_ble_eq_true rfl, Nat.le_of_ble_eq_true rfl⟩) (ar_preV hN hK (b_m hP) (b_mD hD) (ci := 6) (q0 := 0) rfl rfl) rfl rfl hl.1 rfl (lv_room (Nat.le_of_ble_eq_true rfl)) dL_law_952 ⟨Nat.le_of_ble_eq_true rfl, Nat.le_of_ble_eq_true rfl⟩) (fun r2 q2 => ?_)
  refine lv_icmp_eq (tgt := 1387) hx hb dL_law_955 (by decide) (fun c1 => ?_) (fun c1 => ?_)
  · exact kk _ _ _ _ _ _ _ hP hS (eq_fooled hj hR q1 q2).2
  · exact absurd (eq_fooled hj hR q1 q2).1 c1
set_option maxHeartbeats 4000000 in
set_option maxRecDepth 100000 in
theorem law_broken {p : Program} {l : Launch} {e : Env} {s : State} {m : MethodId} {below : List Frame} {meth : Method} {c : Code} {b L : Nat} {xs : Nat → Int32} (hL : L ≤ 2560) (C0 : lw_At p s m meth c b L xs) {D : va_G} {cy : Nat → ClassId} {ad ad' : Nat → Nat} (hK : va_K D vwCl (cyT cy) s) (hN : NestOk s) {i j : Nat} (hi : i + 5 ≤ L) (hj : j < 80000) {g : Gs} {a : As} {w : Ws} {g' : Gs} {a' : As} {H : Heap} {locs : List Loc} (hP : va_P D vwCl (bW ad ad' cy g a w g' a') H) (hD : va_D (fun q : Nat => s.heap.size ≤ q) (bW ad ad' cy g a w g' a')) (hS : va_S (fun q : Nat => s.heap.size ≤ q) s.heap H locs) (hR : Rel j g a w g' a') {ls : Array Slot} (hl : lv_has ls 4 [(0, .ref b), (1, .ref (ad 0)), (2, .ref (ad' 0)), (3, .int (nI i))]) (kk : LawK p l e s m below meth c b D cy ad ad' j ls) : W p l e room_1 s m #[Value.ref b] below meth c H locs 40 103431 (lw_Z below #[Value.ref b] s) (F0 m 960 ls []) := by
  obtain ⟨hx, hb, hr, hml, hown, hts0, hX, hbl, hlocks, hgv⟩ := C0
  have hts : ∀ w ∈ wsL_law, w.before #[Value.ref b] s = true := fun w h => hts0 w (wsL_law_in w h)
  have hown : s.vm.findClass RL = some m.cls := hown
  have hA : ∀ q : Nat, s.heap.size ≤ q → (fun q : Nat => s.heap.size ≤ q) q := fun _ h => h
  have hbA : ¬ (fun q : Nat => s.heap.size ≤ q) b := Nat.not_le.mpr hbl
  have hv : ∀ k : Nat, 1 ≤ k → k < 5 → vp_in (nI i + nI k) L := fun k h1 h2 => by rw [nI_add]; exact vp_in_nI (by omega) (by omega)
  have hv1 : vp_in (nI i + (1 : Int32)) L := hv 1 (by decide) (by decide)
  have hv2 : vp_in (nI i + (2 : Int32)) L := hv 2 (by decide) (by decide)
  have hv3 : vp_in (nI i + (3 : Int32)) L := hv 3 (by decide) (by decide)
  have hv4 : vp_in (nI i + (4 : Int32)) L := hv 4 (by decide) (by decide)
  refine lv_aload_n hx hb dL_law_960 rfl (lv_at hl 1 rfl) ?_
  refine lv_aload_n hx hb dL_law_961 rfl (lv_at hl 0 rfl) ?_
  refine lv_iload_n hx hb dL_law_962 rfl (lv_at hl 3 rfl) ?_
  refine lv_iconst (v := (1 : Int32)) hx hb dL_law_963 (by decide) ?_
  refine lv_iadd hx hb dL_law_964 ?_
  refine va_sld hx hb hX hbl hbA hS hv1 dL_law_965 ?_
  refine lv_aload_n hx hb dL_law_966 rfl (lv_at hl 0 rfl) ?_
  refine lv_iload_n hx hb dL_law_967 rfl (lv_at hl 3 rfl) ?_
  refine lv_iconst (v := (2 : Int32)) hx hb dL_law_968 (by decide) ?_
  refine lv_iadd hx hb dL_law_969 ?_
  refine va_sld hx hb hX hbl hbA hS hv2 dL_law_970 ?_
  refine lv_aload_n hx hb dL_law_971 rfl (lv_at hl 0 rfl) ?_
  refine lv_iload_n hx hb dL_law_972 rfl (lv_at hl 3 rfl) ?_
  refine lv_iconst (v := (3 : Int32)) hx hb dL_law_973 (by decide) ?_
  refine lv_iadd hx hb dL_law_974 ?_
  refine va_sld hx hb hX hbl hbA hS hv3 dL_law_975 ?_
  refine lw_ci (va_runV (As := [.int (xs ((nI i) + (1 : Int32)).toNatClampNeg), .int (xs ((nI i) + (2 : Int32)).toNatClampNeg), .int (xs ((nI i) + (3 : Int32)).toNatClampNeg)]) (rest := []) ⟨hx, hb, hml, hown, hts⟩ (spec_X6_broken l D cy ad H.size g a w (xs ((nI i) + (1 : Int32)).toNatClampNeg) (xs ((nI i) + (2 : Int32)).toNatClampNeg) (xs ((nI i) + (3 : Int32)).toNatClampNeg)) (cwV 3 hts gL_law_X6_broken rfl rfl rfl (by decide +kernel) ⟨Nat.le_of_ble_eq_true rfl, Nat.le_of_ble_eq_true rfl⟩) (ar_preV hN hK (b_c hP) (b_cD hD) (ci := 5) (q0 := 0) rfl rfl) rfl rfl hl.1 rfl (lv_room (Nat.le_of_ble_eq_true rfl)) dL_law_976 ⟨Nat.le_of_ble_eq_true rfl, Nat.le_of_ble_eq_true rfl⟩) hP hD hS hA (fun r1 g1 a1 w1 H locs q1 hP hS => ?_)
  have hD := bD (g1 := g1) (a1 := a1) (w1 := w1) (g2 := g') (a2 := a') hD
  refine lv_aload_n hx hb dL_law_979 rfl (lv_at hl 2 rfl) ?_
  refine lv_aload_n hx hb dL_law_980 rfl (lv_at hl 0 rfl) ?_
  refine lv_iload_n hx hb dL_law_981 rfl (lv_at hl 3 rfl) ?_
  refine lv_iconst (v := (1 : Int32)) hx hb dL_law_982 (by decide) ?_
  refine lv_iadd hx hb dL_law_983 ?_
  refine va_sld hx hb hX hbl hbA hS hv1 dL_law_984 ?_
  refine lv_aload_n hx hb dL_law_985 rfl (lv_at hl 0 rfl) ?_
  refine lv_iload_n hx hb dL_law_986 rfl (lv_at hl 3 rfl) ?_
  refine lv_iconst (v := (2 : Int32)) hx hb dL_law_987 (by decide) ?_
  refine lv_iadd hx hb dL_law_988 ?_
  refine va_sld hx hb hX hbl hbA hS hv2 dL_law_989 ?_
  refine lv_aload_n hx hb dL_law_990 rfl (lv_at hl 0 rfl) ?_
  refine lv_iload_n hx hb dL_law_991 rfl (lv_at hl 3 rfl) ?_
  refine lv_iconst (v := (3 : Int32)) hx hb dL_law_992 (by decide) ?_
  refine lv_iadd hx hb dL_law_993 ?_
  refine va_sld hx hb hX hbl hbA hS hv3 dL_law_994 ?_
  refine cp_i (va_runV (As := [.int (xs ((nI i) + (1 : Int32)).toNatClampNeg), .int (xs ((nI i) + (2 : Int32)).toNatClampNeg), .int (xs ((nI i) + (3 : Int32)).toNatClampNeg)]) (rest := [.int r1]) ⟨hx, hb, hml, hown, hts⟩ (spec_X7_broken l D cy ad' H.size g' a' (xs ((nI i) + (1 : Int32)).toNatClampNeg) (xs ((nI i) + (2 : Int32)).toNatClampNeg) (xs ((nI i) + (3 : Int32)).toNatClampNeg)) (cwV 3 hts gL_law_X7_broken rfl rfl rfl (by decide +kernel) ⟨Nat.le_of_ble_eq_true rfl, Nat.le_of_ble_eq_true rfl⟩) (ar_preV hN hK (b_m hP) (b_mD hD) (ci := 6) (q0 := 0) rfl rfl) rfl rfl hl.1 rfl (lv_room (Nat.le_of_ble_eq_true rfl)) dL_law_995 ⟨Nat.le_of_ble_eq_true rfl, Nat.le_of_ble_eq_true rfl⟩) (fun r2 q2 => ?_)
  refine lv_icmp_eq (tgt := 1387) hx hb dL_law_998 (by decide) (fun c1 => ?_) (fun c1 => ?_)
  · exact kk _ _ _ _ _ _ _ hP hS (eq_broken hj hR q1 q2).2
  · exact absurd (eq_broken hj hR q1 q2).1 c1
set_option maxHeartbeats 4000000 in
set_option maxRecDepth 100000 in
theorem law_figure {p : Program} {l : Launch} {e : Env} {s : State} {m : MethodId} {below : List Frame} {meth : Method} {c : Code} {b L : Nat} {xs : Nat → Int32} (hL : L ≤ 2560) (C0 : lw_At p s m meth c b L xs) {D : va_G} {cy : Nat → ClassId} {ad ad' : Nat → Nat} (hK : va_K D vwCl (cyT cy) s) (hN : NestOk s) {i j : Nat} (hi : i + 5 ≤ L) (hj : j < 80000) {g : Gs} {a : As} {w : Ws} {g' : Gs} {a' : As} {H : Heap} {locs : List Loc} (hP : va_P D vwCl (bW ad ad' cy g a w g' a') H) (hD : va_D (fun q : Nat => s.heap.size ≤ q) (bW ad ad' cy g a w g' a')) (hS : va_S (fun q : Nat => s.heap.size ≤ q) s.heap H locs) (hR : Rel j g a w g' a') {ls : Array Slot} (hl : lv_has ls 4 [(0, .ref b), (1, .ref (ad 0)), (2, .ref (ad' 0)), (3, .int (nI i))]) (kk : LawK p l e s m below meth c b D cy ad ad' j ls) : W p l e room_1 s m #[Value.ref b] below meth c H locs 40 103431 (lw_Z below #[Value.ref b] s) (F0 m 1003 ls []) := by
  obtain ⟨hx, hb, hr, hml, hown, hts0, hX, hbl, hlocks, hgv⟩ := C0
  have hts : ∀ w ∈ wsL_law, w.before #[Value.ref b] s = true := fun w h => hts0 w (wsL_law_in w h)
  have hown : s.vm.findClass RL = some m.cls := hown
  have hA : ∀ q : Nat, s.heap.size ≤ q → (fun q : Nat => s.heap.size ≤ q) q := fun _ h => h
  have hbA : ¬ (fun q : Nat => s.heap.size ≤ q) b := Nat.not_le.mpr hbl
  have hv : ∀ k : Nat, 1 ≤ k → k < 5 → vp_in (nI i + nI k) L := fun k h1 h2 => by rw [nI_add]; exact vp_in_nI (by omega) (by omega)
  have hv1 : vp_in (nI i + (1 : Int32)) L := hv 1 (by decide) (by decide)
  have hv2 : vp_in (nI i + (2 : Int32)) L := hv 2 (by decide) (by decide)
  have hv3 : vp_in (nI i + (3 : Int32)) L := hv 3 (by decide) (by decide)
  have hv4 : vp_in (nI i + (4 : Int32)) L := hv 4 (by decide) (by decide)
  refine lv_aload_n hx hb dL_law_1003 rfl (lv_at hl 1 rfl) ?_
  refine lv_aload_n hx hb dL_law_1004 rfl (lv_at hl 0 rfl) ?_
  refine lv_iload_n hx hb dL_law_1005 rfl (lv_at hl 3 rfl) ?_
  refine lv_iconst (v := (1 : Int32)) hx hb dL_law_1006 (by decide) ?_
  refine lv_iadd hx hb dL_law_1007 ?_
  refine va_sld hx hb hX hbl hbA hS hv1 dL_law_1008 ?_
  refine lv_aload_n hx hb dL_law_1009 rfl (lv_at hl 0 rfl) ?_
  refine lv_iload_n hx hb dL_law_1010 rfl (lv_at hl 3 rfl) ?_
  refine lv_iconst (v := (2 : Int32)) hx hb dL_law_1011 (by decide) ?_
  refine lv_iadd hx hb dL_law_1012 ?_
  refine va_sld hx hb hX hbl hbA hS hv2 dL_law_1013 ?_
  refine lv_aload_n hx hb dL_law_1014 rfl (lv_at hl 0 rfl) ?_
  refine lv_iload_n hx hb dL_law_1015 rfl (lv_at hl 3 rfl) ?_
  refine lv_iconst (v := (3 : Int32)) hx hb dL_law_1016 (by decide) ?_
  refine lv_iadd hx hb dL_law_1017 ?_
  refine va_sld hx hb hX hbl hbA hS hv3 dL_law_1018 ?_
  refine cp_i (va_runV (As := [.int (xs ((nI i) + (1 : Int32)).toNatClampNeg), .int (xs ((nI i) + (2 : Int32)).toNatClampNeg), .int (xs ((nI i) + (3 : Int32)).toNatClampNeg)]) (rest := []) ⟨hx, hb, hml, hown, hts⟩ (spec_X6_figure l D cy ad H.size g a w (xs ((nI i) + (1 : Int32)).toNatClampNeg) (xs ((nI i) + (2 : Int32)).toNatClampNeg) (xs ((nI i) + (3 : Int32)).toNatClampNeg)) (cwV 3 hts gL_law_X6_figure rfl rfl rfl (by decide +kernel) ⟨Nat.le_of_ble_eq_true rfl, Nat.le_of_ble_eq_true rfl⟩) (ar_preV hN hK (b_c hP) (b_cD hD) (ci := 5) (q0 := 0) rfl rfl) rfl rfl hl.1 rfl (lv_room (Nat.le_of_ble_eq_true rfl)) dL_law_1019 ⟨Nat.le_of_ble_eq_true rfl, Nat.le_of_ble_eq_true rfl⟩) (fun r1 q1 => ?_)
  refine lv_aload_n hx hb dL_law_1022 rfl (lv_at hl 2 rfl) ?_
  refine lv_aload_n hx hb dL_law_1023 rfl (lv_at hl 0 rfl) ?_
  refine lv_iload_n hx hb dL_law_1024 rfl (lv_at hl 3 rfl) ?_
  refine lv_iconst (v := (1 : Int32)) hx hb dL_law_1025 (by decide) ?_
  refine lv_iadd hx hb dL_law_1026 ?_
  refine va_sld hx hb hX hbl hbA hS hv1 dL_law_1027 ?_
  refine lv_aload_n hx hb dL_law_1028 rfl (lv_at hl 0 rfl) ?_
  refine lv_iload_n hx hb dL_law_1029 rfl (lv_at hl 3 rfl) ?_
  refine lv_iconst (v := (2 : Int32)) hx hb dL_law_1030 (by decide) ?_
  refine lv_iadd hx hb dL_law_1031 ?_
  refine va_sld hx hb hX hbl hbA hS hv2 dL_law_1032 ?_
  refine lv_aload_n hx hb dL_law_1033 rfl (lv_at hl 0 rfl) ?_
  refine lv_iload_n hx hb dL_law_1034 rfl (lv_at hl 3 rfl) ?_
  refine lv_iconst (v := (3 : Int32)) hx hb dL_law_1035 (by decide) ?_
  refine lv_iadd hx hb dL_law_1036 ?_
  refine va_sld hx hb hX hbl hbA hS hv3 dL_law_1037 ?_
  refine cp_i (va_runV (As := [.int (xs ((nI i) + (1 : Int32)).toNatClampNeg), .int (xs ((nI i) + (2 : Int32)).toNatClampNeg), .int (xs ((nI i) + (3 : Int32)).toNatClampNeg)]) (rest := [.int r1]) ⟨hx, hb, hml, hown, hts⟩ (spec_X7_figure l D cy ad' H.size g' a' (xs ((nI i) + (1 : Int32)).toNatClampNeg) (xs ((nI i) + (2 : Int32)).toNatClampNeg) (xs ((nI i) + (3 : Int32)).toNatClampNeg)) (cwV 3 hts gL_law_X7_figure rfl rfl rfl (by decide +kernel) ⟨Nat.le_of_ble_eq_true rfl, Nat.le_of_ble_eq_true rfl⟩) (ar_preV hN hK (b_m hP) (b_mD hD) (ci := 6) (q0 := 0) rfl rfl) rfl rfl hl.1 rfl (lv_room (Nat.le_of_ble_eq_true rfl)) dL_law_1038 ⟨Nat.le_of_ble_eq_true rfl, Nat.le_of_ble_eq_true rfl⟩) (fun r2 q2 => ?_)
  refine lv_icmp_eq (tgt := 1387) hx hb dL_law_1041 (by decide) (fun c1 => ?_) (fun c1 => ?_)
  · exact kk _ _ _ _ _ _ _ hP hS (eq_figure hj hR q1 q2).2
  · exact absurd (eq_figure hj hR q1 q2).1 c1
