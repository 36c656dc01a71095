set_option maxHeartbeats 4000000 in
set_option maxRecDepth 100000 in
theorem law_soLong {p : Program} {l : Launch} {e : Env} {s : State} {m : MethodId} {below : List Frame} {meth : Method} {c : Code} {b L : Nat} {xs : Nat → Int32} (hL : L ≤ 2560) (C0 : lw_At p s m meth c b L xs) {D : va_G} {cy : Nat → ClassId} {ad ad' : Nat → Nat} (hK : va_K D vwCl (cyT cy) s) (hN : NestOk s) {i j : Nat} (hi : i + 5 ≤ L) (hj : j < 80000) {g : Gs} {a : As} {w : Ws} {g' : Gs} {a' : As} {H : Heap} {locs : List Loc} (hP : va_P D vwCl (bW ad ad' cy g a w g' a') H) (hD : va_D (fun q : Nat => s.heap.size ≤ q) (bW ad ad' cy g a w g' a')) (hS : va_S (fun q : Nat => s.heap.size ≤ q) s.heap H locs) (hR : Rel j g a w g' a') {ls : Array Slot} (hl : lv_has ls 4 [(0, .ref b), (1, .ref (ad 0)), (2, .ref (ad' 0)), (3, .int (nI i))]) (kk : LawK p l e s m below meth c b D cy ad ad' j ls) : W p l e room_1 s m #[Value.ref b] below meth c H locs 40 103431 (lw_Z below #[Value.ref b] s) (F0 m 1046 ls []) := by
  obtain ⟨hx, hb, hr, hml, hown, hts0, hX, hbl, hlocks, hgv⟩ := C0
  have hts : ∀ w ∈ wsL_law, w.before #[Value.ref b] s = true := fun w h => hts0 w (wsL_law_in w h)
  have hown : s.vm.findClass RL = some m.cls := hown
  have hA : ∀ q : Nat, s.heap.size ≤ q → (fun q : Nat => s.heap.size ≤ q) q := fun _ h => h
  have hbA : ¬ (fun q : Nat => s.heap.size ≤ q) b := Nat.not_le.mpr hbl
  have hv : ∀ k : Nat, 1 ≤ k → k < 5 → vp_in (nI i + nI k) L := fun k h1 h2 => by rw [nI_add]; exact vp_in_nI (by omega) (by omega)
  have hv1 : vp_in (nI i + (1 : Int32)) L := hv 1 (by decide) (by decide)
  have hv2 : vp_in (nI i + (2 : Int32)) L := hv 2 (by decide) (by decide)
  have hv3 : vp_in (nI i + (3 : Int32)) L := hv 3 (by decide) (by decide)
  have hv4 : vp_in (nI i + (4 : Int32)) L := hv 4 (by decide) (by decide)
  refine lv_aload_n hx hb dL_law_1046 rfl (lv_at hl 1 rfl) ?_
  refine lv_aload_n hx hb dL_law_1047 rfl (lv_at hl 0 rfl) ?_
  refine lv_iload_n hx hb dL_law_1048 rfl (lv_at hl 3 rfl) ?_
  refine lv_iconst (v := (1 : Int32)) hx hb dL_law_1049 (by decide) ?_
  refine lv_iadd hx hb dL_law_1050 ?_
  refine va_sld hx hb hX hbl hbA hS hv1 dL_law_1051 ?_
  refine lv_aload_n hx hb dL_law_1052 rfl (lv_at hl 0 rfl) ?_
  refine lv_iload_n hx hb dL_law_1053 rfl (lv_at hl 3 rfl) ?_
  refine lv_iconst (v := (2 : Int32)) hx hb dL_law_1054 (by decide) ?_
  refine lv_iadd hx hb dL_law_1055 ?_
  refine va_sld hx hb hX hbl hbA hS hv2 dL_law_1056 ?_
  refine lv_aload_n hx hb dL_law_1057 rfl (lv_at hl 0 rfl) ?_
  refine lv_iload_n hx hb dL_law_1058 rfl (lv_at hl 3 rfl) ?_
  refine lv_iconst (v := (3 : Int32)) hx hb dL_law_1059 (by decide) ?_
  refine lv_iadd hx hb dL_law_1060 ?_
  refine va_sld hx hb hX hbl hbA hS hv3 dL_law_1061 ?_
  refine lv_aload_n hx hb dL_law_1062 rfl (lv_at hl 0 rfl) ?_
  refine lv_iload_n hx hb dL_law_1063 rfl (lv_at hl 3 rfl) ?_
  refine lv_iconst (v := (4 : Int32)) hx hb dL_law_1064 (by decide) ?_
  refine lv_iadd hx hb dL_law_1065 ?_
  refine va_sld hx hb hX hbl hbA hS hv4 dL_law_1066 ?_
  refine lw_ci (va_runV (As := [.int (xs ((nI i) + (1 : Int32)).toNatClampNeg), .int (xs ((nI i) + (2 : Int32)).toNatClampNeg), .int (xs ((nI i) + (3 : Int32)).toNatClampNeg), .int (xs ((nI i) + (4 : Int32)).toNatClampNeg)]) (rest := []) ⟨hx, hb, hml, hown, hts⟩ (spec_X6_soLong l D cy ad H.size g a w (xs ((nI i) + (1 : Int32)).toNatClampNeg) (xs ((nI i) + (2 : Int32)).toNatClampNeg) (xs ((nI i) + (3 : Int32)).toNatClampNeg) (xs ((nI i) + (4 : Int32)).toNatClampNeg)) (cwV 4 hts gL_law_X6_soLong rfl rfl rfl (by decide +kernel) ⟨Nat.le_of_ble_eq_true rfl, Nat.le_of_ble_eq_true rfl⟩) (ar_preV hN hK (b_c hP) (b_cD hD) (ci := 5) (q0 := 0) rfl rfl) rfl rfl hl.1 rfl (lv_room (Nat.le_of_ble_eq_true rfl)) dL_law_1067 ⟨Nat.le_of_ble_eq_true rfl, Nat.le_of_ble_eq_true rfl⟩) hP hD hS hA (fun r1 g1 a1 w1 H locs q1 hP hS => ?_)
  have hD := bD (g1 := g1) (a1 := a1) (w1 := w1) (g2 := g') (a2 := a') hD
  refine lv_aload_n hx hb dL_law_1070 rfl (lv_at hl 2 rfl) ?_
  refine lv_aload_n hx hb dL_law_1071 rfl (lv_at hl 0 rfl) ?_
  refine lv_iload_n hx hb dL_law_1072 rfl (lv_at hl 3 rfl) ?_
  refine lv_iconst (v := (1 : Int32)) hx hb dL_law_1073 (by decide) ?_
  refine lv_iadd hx hb dL_law_1074 ?_
  refine va_sld hx hb hX hbl hbA hS hv1 dL_law_1075 ?_
  refine lv_aload_n hx hb dL_law_1076 rfl (lv_at hl 0 rfl) ?_
  refine lv_iload_n hx hb dL_law_1077 rfl (lv_at hl 3 rfl) ?_
  refine lv_iconst (v := (2 : Int32)) hx hb dL_law_1078 (by decide) ?_
  refine lv_iadd hx hb dL_law_1079 ?_
  refine va_sld hx hb hX hbl hbA hS hv2 dL_law_1080 ?_
  refine lv_aload_n hx hb dL_law_1081 rfl (lv_at hl 0 rfl) ?_
  refine lv_iload_n hx hb dL_law_1082 rfl (lv_at hl 3 rfl) ?_
  refine lv_iconst (v := (3 : Int32)) hx hb dL_law_1083 (by decide) ?_
  refine lv_iadd hx hb dL_law_1084 ?_
  refine va_sld hx hb hX hbl hbA hS hv3 dL_law_1085 ?_
  refine lv_aload_n hx hb dL_law_1086 rfl (lv_at hl 0 rfl) ?_
  refine lv_iload_n hx hb dL_law_1087 rfl (lv_at hl 3 rfl) ?_
  refine lv_iconst (v := (4 : Int32)) hx hb dL_law_1088 (by decide) ?_
  refine lv_iadd hx hb dL_law_1089 ?_
  refine va_sld hx hb hX hbl hbA hS hv4 dL_law_1090 ?_
  refine cp_i (va_runV (As := [.int (xs ((nI i) + (1 : Int32)).toNatClampNeg), .int (xs ((nI i) + (2 : Int32)).toNatClampNeg), .int (xs ((nI i) + (3 : Int32)).toNatClampNeg), .int (xs ((nI i) + (4 : Int32)).toNatClampNeg)]) (rest := [.int r1]) ⟨hx, hb, hml, hown, hts⟩ (spec_X7_soLong l D cy ad' H.size g' a' (xs ((nI i) + (1 : Int32)).toNatClampNeg) (xs ((nI i) + (2 : Int32)).toNatClampNeg) (xs ((nI i) + (3 : Int32)).toNatClampNeg) (xs ((nI i) + (4 : Int32)).toNatClampNeg)) (cwV 4 hts gL_law_X7_soLong rfl rfl rfl (by decide +kernel) ⟨Nat.le_of_ble_eq_true rfl, Nat.le_of_ble_eq_true rfl⟩) (ar_preV hN hK (b_m hP) (b_mD hD) (ci := 6) (q0 := 0) rfl rfl) rfl rfl hl.1 rfl (lv_room (Nat.le_of_ble_eq_true rfl)) dL_law_1091 ⟨Nat.le_of_ble_eq_true rfl, Nat.le_of_ble_eq_true rfl⟩) (fun r2 q2 => ?_)
  refine lv_icmp_eq (tgt := 1387) hx hb dL_law_1094 (by decide) (fun c1 => ?_) (fun c1 => ?_)
  · exact kk _ _ _ _ _ _ _ hP hS (eq_soLong hj hR q1 q2).2
  · exact absurd (eq_soLong hj hR q1 q2).1 c1
set_option maxHeartbeats 4000000 in
set_option maxRecDepth 100000 in
theorem law_turning {p : Program} {l : Launch} {e : Env} {s : State} {m : MethodId} {below : List Frame} {meth : Method} {c : Code} {b L : Nat} {xs : Nat → Int32} (hL : L ≤ 2560) (C0 : lw_At p s m meth c b L xs) {D : va_G} {cy : Nat → ClassId} {ad ad' : Nat → Nat} (hK : va_K D vwCl (cyT cy) s) (hN : NestOk s) {i j : Nat} (hi : i + 5 ≤ L) (hj : j < 80000) {g : Gs} {a : As} {w : Ws} {g' : Gs} {a' : As} {H : Heap} {locs : List Loc} (hP : va_P D vwCl (bW ad ad' cy g a w g' a') H) (hD : va_D (fun q : Nat => s.heap.size ≤ q) (bW ad ad' cy g a w g' a')) (hS : va_S (fun q : Nat => s.heap.size ≤ q) s.heap H locs) (hR : Rel j g a w g' a') {ls : Array Slot} (hl : lv_has ls 4 [(0, .ref b), (1, .ref (ad 0)), (2, .ref (ad' 0)), (3, .int (nI i))]) (kk : LawK p l e s m below meth c b D cy ad ad' j ls) : W p l e room_1 s m #[Value.ref b] below meth c H locs 40 103431 (lw_Z below #[Value.ref b] s) (F0 m 1099 ls []) := by
  obtain ⟨hx, hb, hr, hml, hown, hts0, hX, hbl, hlocks, hgv⟩ := C0
  have hts : ∀ w ∈ wsL_law, w.before #[Value.ref b] s = true := fun w h => hts0 w (wsL_law_in w h)
  have hown : s.vm.findClass RL = some m.cls := hown
  have hA : ∀ q : Nat, s.heap.size ≤ q → (fun q : Nat => s.heap.size ≤ q) q := fun _ h => h
  have hbA : ¬ (fun q : Nat => s.heap.size ≤ q) b := Nat.not_le.mpr hbl
  have hv : ∀ k : Nat, 1 ≤ k → k < 5 → vp_in (nI i + nI k) L := fun k h1 h2 => by rw [nI_add]; exact vp_in_nI (by omega) (by omega)
  have hv1 : vp_in (nI i + (1 : Int32)) L := hv 1 (by decide) (by decide)
  have hv2 : vp_in (nI i + (2 : Int32)) L := hv 2 (by decide) (by decide)
  have hv3 : vp_in (nI i + (3 : Int32)) L := hv 3 (by decide) (by decide)
  have hv4 : vp_in (nI i + (4 : Int32)) L := hv 4 (by decide) (by decide)
  refine lv_aload_n hx hb dL_law_1099 rfl (lv_at hl 1 rfl) ?_
  refine lv_aload_n hx hb dL_law_1100 rfl (lv_at hl 0 rfl) ?_
  refine lv_iload_n hx hb dL_law_1101 rfl (lv_at hl 3 rfl) ?_
  refine lv_iconst (v := (1 : Int32)) hx hb dL_law_1102 (by decide) ?_
  refine lv_iadd hx hb dL_law_1103 ?_
  refine va_sld hx hb hX hbl hbA hS hv1 dL_law_1104 ?_
  refine lv_aload_n hx hb dL_law_1105 rfl (lv_at hl 0 rfl) ?_
  refine lv_iload_n hx hb dL_law_1106 rfl (lv_at hl 3 rfl) ?_
  refine lv_iconst (v := (2 : Int32)) hx hb dL_law_1107 (by decide) ?_
  refine lv_iadd hx hb dL_law_1108 ?_
  refine va_sld hx hb hX hbl hbA hS hv2 dL_law_1109 ?_
  refine lv_aload_n hx hb dL_law_1110 rfl (lv_at hl 0 rfl) ?_
  refine lv_iload_n hx hb dL_law_1111 rfl (lv_at hl 3 rfl) ?_
  refine lv_iconst (v := (3 : Int32)) hx hb dL_law_1112 (by decide) ?_
  refine lv_iadd hx hb dL_law_1113 ?_
  refine va_sld hx hb hX hbl hbA hS hv3 dL_law_1114 ?_
  refine lw_ci (va_runV (As := [.int (xs ((nI i) + (1 : Int32)).toNatClampNeg), .int (xs ((nI i) + (2 : Int32)).toNatClampNeg), .int (xs ((nI i) + (3 : Int32)).toNatClampNeg)]) (rest := []) ⟨hx, hb, hml, hown, hts⟩ (spec_X6_turning l D cy ad H.size g a w (xs ((nI i) + (1 : Int32)).toNatClampNeg) (xs ((nI i) + (2 : Int32)).toNatClampNeg) (xs ((nI i) + (3 : Int32)).toNatClampNeg)) (cwV 3 hts gL_law_X6_turning rfl rfl rfl (by decide +kernel) ⟨Nat.le_of_ble_eq_true rfl, Nat.le_of_ble_eq_true rfl⟩) (ar_preV hN hK (b_c hP) (b_cD hD) (ci := 5) (q0 := 0) rfl rfl) rfl rfl hl.1 rfl (lv_room (Nat.le_of_ble_eq_true rfl)) dL_law_1115 ⟨Nat.le_of_ble_eq_true rfl, Nat.le_of_ble_eq_true rfl⟩) hP hD hS hA (fun r1 g1 a1 w1 H locs q1 hP hS => ?_)
  have hD := bD (g1 := g1) (a1 := a1) (w1 := w1) (g2 := g') (a2 := a') hD
  refine lv_aload_n hx hb dL_law_1118 rfl (lv_at hl 2 rfl) ?_
  refine lv_aload_n hx hb dL_law_1119 rfl (lv_at hl 0 rfl) ?_
  refine lv_iload_n hx hb dL_law_1120 rfl (lv_at hl 3 rfl) ?_
  refine lv_iconst (v := (1 : Int32)) hx hb dL_law_1121 (by decide) ?_
  refine lv_iadd hx hb dL_law_1122 ?_
  refine va_sld hx hb hX hbl hbA hS hv1 dL_law_1123 ?_
  refine lv_aload_n hx hb dL_law_1124 rfl (lv_at hl 0 rfl) ?_
  refine lv_iload_n hx hb dL_law_1125 rfl (lv_at hl 3 rfl) ?_
  refine lv_iconst (v := (2 : Int32)) hx hb dL_law_1126 (by decide) ?_
  refine lv_iadd hx hb dL_law_1127 ?_
  refine va_sld hx hb hX hbl hbA hS hv2 dL_law_1128 ?_
  refine lv_aload_n hx hb dL_law_1129 rfl (lv_at hl 0 rfl) ?_
  refine lv_iload_n hx hb dL_law_1130 rfl (lv_at hl 3 rfl) ?_
  refine lv_iconst (v := (3 : Int32)) hx hb dL_law_1131 (by decide) ?_
  refine lv_iadd hx hb dL_law_1132 ?_
  refine va_sld hx hb hX hbl hbA hS hv3 dL_law_1133 ?_
  refine cp_i (va_runV (As := [.int (xs ((nI i) + (1 : Int32)).toNatClampNeg), .int (xs ((nI i) + (2 : Int32)).toNatClampNeg), .int (xs ((nI i) + (3 : Int32)).toNatClampNeg)]) (rest := [.int r1]) ⟨hx, hb, hml, hown, hts⟩ (spec_X7_turning l D cy ad' H.size g' a' (xs ((nI i) + (1 : Int32)).toNatClampNeg) (xs ((nI i) + (2 : Int32)).toNatClampNeg) (xs ((nI i) + (3 : Int32)).toNatClampNeg)) (cwV 3 hts gL_law_X7_turning rfl rfl rfl (by decide +kernel) ⟨Nat.le_of_ble_eq_true rfl, Nat.le_of_ble_eq_true rfl⟩) (ar_preV hN hK (b_m hP) (b_mD hD) (ci := 6) (q0 := 0) rfl rfl) rfl rfl hl.1 rfl (lv_room (Nat.le_of_ble_eq_true rfl)) dL_law_1134 ⟨Nat.le_of_ble_eq_true rfl, Nat.le_of_ble_eq_true rfl⟩) (fun r2 q2 => ?_)
  refine lv_icmp_eq (tgt := 1387) hx hb dL_law_1137 (by decide) (fun c1 => ?_) (fun c1 => ?_)
  · exact kk _ _ _ _ _ _ _ hP hS (eq_turning hj hR q1 q2).2
  · exact absurd (eq_turning hj hR q1 q2).1 c1
set_option maxHeartbeats 4000000 in
set_option maxRecDepth 100000 in
theorem law_tower {p : Program} {l : Launch} {e : Env} {s : State} {m : MethodId} {below : List Frame} {meth : Method} {c : Code} {b L : Nat} {xs : Nat → Int32} (hL : L ≤ 2560) (C0 : lw_At p s m meth c b L xs) {D : va_G} {cy : Nat → ClassId} {ad ad' : Nat → Nat} (hK : va_K D vwCl (cyT cy) s) (hN : NestOk s) {i j : Nat} (hi : i + 5 ≤ L) (hj : j < 80000) {g : Gs} {a : As} {w : Ws} {g' : Gs} {a' : As} {H : Heap} {locs : List Loc} (hP : va_P D vwCl (bW ad ad' cy g a w g' a') H) (hD : va_D (fun q : Nat => s.heap.size ≤ q) (bW ad ad' cy g a w g' a')) (hS : va_S (fun q : Nat => s.heap.size ≤ q) s.heap H locs) (hR : Rel j g a w g' a') {ls : Array Slot} (hl : lv_has ls 4 [(0, .ref b), (1, .ref (ad 0)), (2, .ref (ad' 0)), (3, .int (nI i))]) (kk : LawK p l e s m below meth c b D cy ad ad' j ls) : W p l e room_1 s m #[Value.ref b] below meth c H locs 40 103431 (lw_Z below #[Value.ref b] s) (F0 m 1142 ls []) := by
  obtain ⟨hx, hb, hr, hml, hown, hts0, hX, hbl, hlocks, hgv⟩ := C0
  have hts : ∀ w ∈ wsL_law, w.before #[Value.ref b] s = true := fun w h => hts0 w (wsL_law_in w h)
  have hown : s.vm.findClass RL = some m.cls := hown
  have hA : ∀ q : Nat, s.heap.size ≤ q → (fun q : Nat => s.heap.size ≤ q) q := fun _ h => h
  have hbA : ¬ (fun q : Nat => s.heap.size ≤ q) b := Nat.not_le.mpr hbl
  have hv : ∀ k : Nat, 1 ≤ k → k < 5 → vp_in (nI i + nI k) L := fun k h1 h2 => by rw [nI_add]; exact vp_in_nI (by omega) (by omega)
  have hv1 : vp_in (nI i + (1 : Int32)) L := hv 1 (by decide) (by decide)
  have hv2 : vp_in (nI i + (2 : Int32)) L := hv 2 (by decide) (by decide)
  have hv3 : vp_in (nI i + (3 : Int32)) L := hv 3 (by decide) (by decide)
  have hv4 : vp_in (nI i + (4 : Int32)) L := hv 4 (by decide) (by decide)
  have hcl : Cond.constantLong RL 31 (4294967295) ∈ wsL_law := List.mem_of_getElem? (i := 6) rfl
  refine lv_aload_n hx hb dL_law_1142 rfl (lv_at hl 1 rfl) ?_
  refine lv_aload_n hx hb dL_law_1143 rfl (lv_at hl 0 rfl) ?_
  refine lv_iload_n hx hb dL_law_1144 rfl (lv_at hl 3 rfl) ?_
  refine lv_iconst (v := (1 : Int32)) hx hb dL_law_1145 (by decide) ?_
  refine lv_iadd hx hb dL_law_1146 ?_
  refine va_sld hx hb hX hbl hbA hS hv1 dL_law_1147 ?_
  refine lv_aload_n hx hb dL_law_1148 rfl (lv_at hl 0 rfl) ?_
  refine lv_iload_n hx hb dL_law_1149 rfl (lv_at hl 3 rfl) ?_
  refine lv_iconst (v := (2 : Int32)) hx hb dL_law_1150 (by decide) ?_
  refine lv_iadd hx hb dL_law_1151 ?_
  refine va_sld hx hb hX hbl hbA hS hv2 dL_law_1152 ?_
  refine lv_aload_n hx hb dL_law_1153 rfl (lv_at hl 0 rfl) ?_
  refine lv_iload_n hx hb dL_law_1154 rfl (lv_at hl 3 rfl) ?_
  refine lv_iconst (v := (3 : Int32)) hx hb dL_law_1155 (by decide) ?_
  refine lv_iadd hx hb dL_law_1156 ?_
  refine va_sld hx hb hX hbl hbA hS hv3 dL_law_1157 ?_
  refine lv_i2l (v := (xs ((nI i) + (3 : Int32)).toNatClampNeg).toInt64) hx hb dL_law_1158 rfl ?_
  refine lv_bipush (v := (32 : Int32)) hx hb dL_law_1159 (by decide) ?_
  refine lv_lshl (v := ((xs ((nI i) + (3 : Int32)).toNatClampNeg).toInt64) <<< ((32 : Int32).toInt64 &&& 63)) hx hb dL_law_1161 rfl ?_
  refine lv_aload_n hx hb dL_law_1162 rfl (lv_at hl 0 rfl) ?_
  refine lv_iload_n hx hb dL_law_1163 rfl (lv_at hl 3 rfl) ?_
  refine lv_iconst (v := (4 : Int32)) hx hb dL_law_1164 (by decide) ?_
  refine lv_iadd hx hb dL_law_1165 ?_
  refine va_sld hx hb hX hbl hbA hS hv4 dL_law_1166 ?_
  refine lv_i2l (v := (xs ((nI i) + (4 : Int32)).toNatClampNeg).toInt64) hx hb dL_law_1167 rfl ?_
  refine lv_ldc2 (v := (4294967295 : Int64)) hx hb hown (hts (.constantLong RL 31 (4294967295)) hcl) dL_law_1168 ?_
  refine lv_land hx hb dL_law_1171 ?_
  refine lv_lor hx hb dL_law_1172 ?_
  refine lw_ci (va_runV (As := [.int (xs ((nI i) + (1 : Int32)).toNatClampNeg), .int (xs ((nI i) + (2 : Int32)).toNatClampNeg), .long ((((xs ((nI i) + (3 : Int32)).toNatClampNeg).toInt64) <<< ((32 : Int32).toInt64 &&& 63)) ||| (((xs ((nI i) + (4 : Int32)).toNatClampNeg).toInt64) &&& (4294967295 : Int64)))]) (rest := []) ⟨hx, hb, hml, hown, hts⟩ (spec_X6_tower l D cy ad H.size g a w (xs ((nI i) + (1 : Int32)).toNatClampNeg) (xs ((nI i) + (2 : Int32)).toNatClampNeg) ((((xs ((nI i) + (3 : Int32)).toNatClampNeg).toInt64) <<< ((32 : Int32).toInt64 &&& 63)) ||| (((xs ((nI i) + (4 : Int32)).toNatClampNeg).toInt64) &&& (4294967295 : Int64)))) (cwV 3 hts gL_law_X6_tower rfl rfl rfl (by decide +kernel) ⟨Nat.le_of_ble_eq_true rfl, Nat.le_of_ble_eq_true rfl⟩) (ar_preV hN hK (b_c hP) (b_cD hD) (ci := 5) (q0 := 0) rfl rfl) rfl rfl hl.1 rfl (lv_room (Nat.le_of_ble_eq_true rfl)) dL_law_1173 ⟨Nat.le_of_ble_eq_true rfl, Nat.le_of_ble_eq_true rfl⟩) hP hD hS hA (fun r1 g1 a1 w1 H locs q1 hP hS => ?_)
  have hD := bD (g1 := g1) (a1 := a1) (w1 := w1) (g2 := g') (a2 := a') hD
  refine lv_aload_n hx hb dL_law_1176 rfl (lv_at hl 2 rfl) ?_
  refine lv_aload_n hx hb dL_law_1177 rfl (lv_at hl 0 rfl) ?_
  refine lv_iload_n hx hb dL_law_1178 rfl (lv_at hl 3 rfl) ?_
  refine lv_iconst (v := (1 : Int32)) hx hb dL_law_1179 (by decide) ?_
  refine lv_iadd hx hb dL_law_1180 ?_
  refine va_sld hx hb hX hbl hbA hS hv1 dL_law_1181 ?_
  refine lv_aload_n hx hb dL_law_1182 rfl (lv_at hl 0 rfl) ?_
  refine lv_iload_n hx hb dL_law_1183 rfl (lv_at hl 3 rfl) ?_
  refine lv_iconst (v := (2 : Int32)) hx hb dL_law_1184 (by decide) ?_
  refine lv_iadd hx hb dL_law_1185 ?_
  refine va_sld hx hb hX hbl hbA hS hv2 dL_law_1186 ?_
  refine lv_aload_n hx hb dL_law_1187 rfl (lv_at hl 0 rfl) ?_
  refine lv_iload_n hx hb dL_law_1188 rfl (lv_at hl 3 rfl) ?_
  refine lv_iconst (v := (3 : Int32)) hx hb dL_law_1189 (by decide) ?_
  refine lv_iadd hx hb dL_law_1190 ?_
  refine va_sld hx hb hX hbl hbA hS hv3 dL_law_1191 ?_
  refine lv_i2l (v := (xs ((nI i) + (3 : Int32)).toNatClampNeg).toInt64) hx hb dL_law_1192 rfl ?_
  refine lv_bipush (v := (32 : Int32)) hx hb dL_law_1193 (by decide) ?_
  refine lv_lshl (v := ((xs ((nI i) + (3 : Int32)).toNatClampNeg).toInt64) <<< ((32 : Int32).toInt64 &&& 63)) hx hb dL_law_1195 rfl ?_
  refine lv_aload_n hx hb dL_law_1196 rfl (lv_at hl 0 rfl) ?_
  refine lv_iload_n hx hb dL_law_1197 rfl (lv_at hl 3 rfl) ?_
  refine lv_iconst (v := (4 : Int32)) hx hb dL_law_1198 (by decide) ?_
  refine lv_iadd hx hb dL_law_1199 ?_
  refine va_sld hx hb hX hbl hbA hS hv4 dL_law_1200 ?_
  refine lv_i2l (v := (xs ((nI i) + (4 : Int32)).toNatClampNeg).toInt64) hx hb dL_law_1201 rfl ?_
  refine lv_ldc2 (v := (4294967295 : Int64)) hx hb hown (hts (.constantLong RL 31 (4294967295)) hcl) dL_law_1202 ?_
  refine lv_land hx hb dL_law_1205 ?_
  refine lv_lor hx hb dL_law_1206 ?_
  refine lw_mi (va_runV (As := [.int (xs ((nI i) + (1 : Int32)).toNatClampNeg), .int (xs ((nI i) + (2 : Int32)).toNatClampNeg), .long ((((xs ((nI i) + (3 : Int32)).toNatClampNeg).toInt64) <<< ((32 : Int32).toInt64 &&& 63)) ||| (((xs ((nI i) + (4 : Int32)).toNatClampNeg).toInt64) &&& (4294967295 : Int64)))]) (rest := [.int r1]) ⟨hx, hb, hml, hown, hts⟩ (spec_X7_tower l D cy ad' H.size g' a' (xs ((nI i) + (1 : Int32)).toNatClampNeg) (xs ((nI i) + (2 : Int32)).toNatClampNeg) ((((xs ((nI i) + (3 : Int32)).toNatClampNeg).toInt64) <<< ((32 : Int32).toInt64 &&& 63)) ||| (((xs ((nI i) + (4 : Int32)).toNatClampNeg).toInt64) &&& (4294967295 : Int64)))) (cwV 3 hts gL_law_X7_tower rfl rfl rfl (by decide +kernel) ⟨Nat.le_of_ble_eq_true rfl, Nat.le_of_ble_eq_true rfl⟩) (ar_preV hN hK (b_m hP) (b_mD hD) (ci := 6) (q0 := 0) rfl rfl) rfl rfl hl.1 rfl (lv_room (Nat.le_of_ble_eq_true rfl)) dL_law_1207 ⟨Nat.le_of_ble_eq_true rfl, Nat.le_of_ble_eq_true rfl⟩) hP hD hS hA (fun r2 g2 a2 H locs q2 hP hS => ?_)
  refine lv_icmp_eq (tgt := 1387) hx hb dL_law_1210 (by decide) (fun c1 => ?_) (fun c1 => ?_)
  · exact kk _ _ _ _ _ _ _ hP hS (eq_tower hj hR q1 q2).2
  · exact absurd (eq_tower hj hR q1 q2).1 c1
set_option maxHeartbeats 4000000 in
set_option maxRecDepth 100000 in
theorem law_back {p : Program} {l : Launch} {e : Env} {s : State} {m : MethodId} {below : List Frame} {meth : Method} {c : Code} {b L : Nat} {xs : Nat → Int32} (hL : L ≤ 2560) (C0 : lw_At p s m meth c b L xs) {D : va_G} {cy : Nat → ClassId} {ad ad' : Nat → Nat} (hK : va_K D vwCl (cyT cy) s) (hN : NestOk s) {i j : Nat} (hi : i + 5 ≤ L) (hj : j < 80000) {g : Gs} {a : As} {w : Ws} {g' : Gs} {a' : As} {H : Heap} {locs : List Loc} (hP : va_P D vwCl (bW ad ad' cy g a w g' a') H) (hD : va_D (fun q : Nat => s.heap.size ≤ q) (bW ad ad' cy g a w g' a')) (hS : va_S (fun q : Nat => s.heap.size ≤ q) s.heap H locs) (hR : Rel j g a w g' a') {ls : Array Slot} (hl : lv_has ls 4 [(0, .ref b), (1, .ref (ad 0)), (2, .ref (ad' 0)), (3, .int (nI i))]) (kk : LawK p l e s m below meth c b D cy ad ad' j ls) : W p l e room_1 s m #[Value.ref b] below meth c H locs 40 103431 (lw_Z below #[Value.ref b] s) (F0 m 1215 ls []) := by
  obtain ⟨hx, hb, hr, hml, hown, hts0, hX, hbl, hlocks, hgv⟩ := C0
  have hts : ∀ w ∈ wsL_law, w.before #[Value.ref b] s = true := fun w h => hts0 w (wsL_law_in w h)
  have hown : s.vm.findClass RL = some m.cls := hown
  have hA : ∀ q : Nat, s.heap.size ≤ q → (fun q : Nat => s.heap.size ≤ q) q := fun _ h => h
  have hbA : ¬ (fun q : Nat => s.heap.size ≤ q) b := Nat.not_le.mpr hbl
  have hv : ∀ k : Nat, 1 ≤ k → k < 5 → vp_in (nI i + nI k) L := fun k h1 h2 => by rw [nI_add]; exact vp_in_nI (by omega) (by omega)
  have hv1 : vp_in (nI i + (1 : Int32)) L := hv 1 (by decide) (by decide)
  have hv2 : vp_in (nI i + (2 : Int32)) L := hv 2 (by decide) (by decide)
  have hv3 : vp_in (nI i + (3 : Int32)) L := hv 3 (by decide) (by decide)
  have hv4 : vp_in (nI i + (4 : Int32)) L := hv 4 (by decide) (by decide)
  refine lv_aload_n hx hb dL_law_1215 rfl (lv_at hl 1 rfl) ?_
  refine lv_aload_n hx hb dL_law_1216 rfl (lv_at hl 0 rfl) ?_
  refine lv_iload_n hx hb dL_law_1217 rfl (lv_at hl 3 rfl) ?_
  refine lv_iconst (v := (1 : Int32)) hx hb dL_law_1218 (by decide) ?_
  refine lv_iadd hx hb dL_law_1219 ?_
  refine va_sld hx hb hX hbl hbA hS hv1 dL_law_1220 ?_
  refine lv_aload_n hx hb dL_law_1221 rfl (lv_at hl 0 rfl) ?_
  refine lv_iload_n hx hb dL_law_1222 rfl (lv_at hl 3 rfl) ?_
  refine lv_iconst (v := (2 : Int32)) hx hb dL_law_1223 (by decide) ?_
  refine lv_iadd hx hb dL_law_1224 ?_
  refine va_sld hx hb hX hbl hbA hS hv2 dL_law_1225 ?_
  refine lv_aload_n hx hb dL_law_1226 rfl (lv_at hl 0 rfl) ?_
  refine lv_iload_n hx hb dL_law_1227 rfl (lv_at hl 3 rfl) ?_
  refine lv_iconst (v := (3 : Int32)) hx hb dL_law_1228 (by decide) ?_
  refine lv_iadd hx hb dL_law_1229 ?_
  refine va_sld hx hb hX hbl hbA hS hv3 dL_law_1230 ?_
  refine lw_ci (va_runV (As := [.int (xs ((nI i) + (1 : Int32)).toNatClampNeg), .int (xs ((nI i) + (2 : Int32)).toNatClampNeg), .int (xs ((nI i) + (3 : Int32)).toNatClampNeg)]) (rest := []) ⟨hx, hb, hml, hown, hts⟩ (spec_X6_back l D cy ad H.size g a w (xs ((nI i) + (1 : Int32)).toNatClampNeg) (xs ((nI i) + (2 : Int32)).toNatClampNeg) (xs ((nI i) + (3 : Int32)).toNatClampNeg)) (cwV 3 hts gL_law_X6_back rfl rfl rfl (by decide +kernel) ⟨Nat.le_of_ble_eq_true rfl, Nat.le_of_ble_eq_true rfl⟩) (ar_preV hN hK (b_c hP) (b_cD hD) (ci := 5) (q0 := 0) rfl rfl) rfl rfl hl.1 rfl (lv_room (Nat.le_of_ble_eq_true rfl)) dL_law_1231 ⟨Nat.le_of_ble_eq_true rfl, Nat.le_of_ble_eq_true rfl⟩) hP hD hS hA (fun r1 g1 a1 w1 H locs q1 hP hS => ?_)
  have hD := bD (g1 := g1) (a1 := a1) (w1 := w1) (g2 := g') (a2 := a') hD
  refine lv_aload_n hx hb dL_law_1234 rfl (lv_at hl 2 rfl) ?_
  refine lv_aload_n hx hb dL_law_1235 rfl (lv_at hl 0 rfl) ?_
  refine lv_iload_n hx hb dL_law_1236 rfl (lv_at hl 3 rfl) ?_
  refine lv_iconst (v := (1 : Int32)) hx hb dL_law_1237 (by decide) ?_
  refine lv_iadd hx hb dL_law_1238 ?_
  refine va_sld hx hb hX hbl hbA hS hv1 dL_law_1239 ?_
  refine lv_aload_n hx hb dL_law_1240 rfl (lv_at hl 0 rfl) ?_
  refine lv_iload_n hx hb dL_law_1241 rfl (lv_at hl 3 rfl) ?_
  refine lv_iconst (v := (2 : Int32)) hx hb dL_law_1242 (by decide) ?_
  refine lv_iadd hx hb dL_law_1243 ?_
  refine va_sld hx hb hX hbl hbA hS hv2 dL_law_1244 ?_
  refine lv_aload_n hx hb dL_law_1245 rfl (lv_at hl 0 rfl) ?_
  refine lv_iload_n hx hb dL_law_1246 rfl (lv_at hl 3 rfl) ?_
  refine lv_iconst (v := (3 : Int32)) hx hb dL_law_1247 (by decide) ?_
  refine lv_iadd hx hb dL_law_1248 ?_
  refine va_sld hx hb hX hbl hbA hS hv3 dL_law_1249 ?_
  refine cp_i (va_runV (As := [.int (xs ((nI i) + (1 : Int32)).toNatClampNeg), .int (xs ((nI i) + (2 : Int32)).toNatClampNeg), .int (xs ((nI i) + (3 : Int32)).toNatClampNeg)]) (rest := [.int r1]) ⟨hx, hb, hml, hown, hts⟩ (spec_X7_back l D cy ad' H.size g' a' (xs ((nI i) + (1 : Int32)).toNatClampNeg) (xs ((nI i) + (2 : Int32)).toNatClampNeg) (xs ((nI i) + (3 : Int32)).toNatClampNeg)) (cwV 3 hts gL_law_X7_back rfl rfl rfl (by decide +kernel) ⟨Nat.le_of_ble_eq_true rfl, Nat.le_of_ble_eq_true rfl⟩) (ar_preV hN hK (b_m hP) (b_mD hD) (ci := 6) (q0 := 0) rfl rfl) rfl rfl hl.1 rfl (lv_room (Nat.le_of_ble_eq_true rfl)) dL_law_1250 ⟨Nat.le_of_ble_eq_true rfl, Nat.le_of_ble_eq_true rfl⟩) (fun r2 q2 => ?_)
  refine lv_icmp_eq (tgt := 1387) hx hb dL_law_1253 (by decide) (fun c1 => ?_) (fun c1 => ?_)
  · exact kk _ _ _ _ _ _ _ hP hS (eq_back hj hR q1 q2).2
  · exact absurd (eq_back hj hR q1 q2).1 c1
set_option maxHeartbeats 4000000 in
set_option maxRecDepth 100000 in
theorem law_stay {p : Program} {l : Launch} {e : Env} {s : State} {m : MethodId} {below : List Frame} {meth : Method} {c : Code} {b L : Nat} {xs : Nat → Int32} (hL : L ≤ 2560) (C0 : lw_At p s m meth c b L xs) {D : va_G} {cy : Nat → ClassId} {ad ad' : Nat → Nat} (hK : va_K D vwCl (cyT cy) s) (hN : NestOk s) {i j : Nat} (hi : i + 5 ≤ L) (hj : j < 80000) {g : Gs} {a : As} {w : Ws} {g' : Gs} {a' : As} {H : Heap} {locs : List Loc} (hP : va_P D vwCl (bW ad ad' cy g a w g' a') H) (hD : va_D (fun q : Nat => s.heap.size ≤ q) (bW ad ad' cy g a w g' a')) (hS : va_S (fun q : Nat => s.heap.size ≤ q) s.heap H locs) (hR : Rel j g a w g' a') {ls : Array Slot} (hl : lv_has ls 4 [(0, .ref b), (1, .ref (ad 0)), (2, .ref (ad' 0)), (3, .int (nI i))]) (kk : LawK p l e s m below meth c b D cy ad ad' j ls) : W p l e room_1 s m #[Value.ref b] below meth c H locs 40 103431 (lw_Z below #[Value.ref b] s) (F0 m 1258 ls []) := by
  obtain ⟨hx, hb, hr, hml, hown, hts0, hX, hbl, hlocks, hgv⟩ := C0
  have hts : ∀ w ∈ wsL_law, w.before #[Value.ref b] s = true := fun w h => hts0 w (wsL_law_in w h)
  have hown : s.vm.findClass RL = some m.cls := hown
  have hA : ∀ q : Nat, s.heap.size ≤ q → (fun q : Nat => s.heap.size ≤ q) q := fun _ h => h
  have hbA : ¬ (fun q : Nat => s.heap.size ≤ q) b := Nat.not_le.mpr hbl
  have hv : ∀ k : Nat, 1 ≤ k → k < 5 → vp_in (nI i + nI k) L := fun k h1 h2 => by rw [nI_add]; exact vp_in_nI (by omega) (by omega)
  have hv1 : vp_in (nI i + (1 : Int32)) L := hv 1 (by decide) (by decide)
  have hv2 : vp_in (nI i + (2 : Int32)) L := hv 2 (by decide) (by decide)
  have hv3 : vp_in (nI i + (3 : Int32)) L := hv 3 (by decide) (by decide)
  have hv4 : vp_in (nI i + (4 : Int32)) L := hv 4 (by decide) (by decide)
  refine lv_aload_n hx hb dL_law_1258 rfl (lv_at hl 1 rfl) ?_
  refine lv_aload_n hx hb dL_law_1259 rfl (lv_at hl 0 rfl) ?_
  refine lv_iload_n hx hb dL_law_1260 rfl (lv_at hl 3 rfl) ?_
  refine lv_iconst (v := (1 : Int32)) hx hb dL_law_1261 (by decide) ?_
  refine lv_iadd hx hb dL_law_1262 ?_
  refine va_sld hx hb hX hbl hbA hS hv1 dL_law_1263 ?_
  refine lv_aload_n hx hb dL_law_1264 rfl (lv_at hl 0 rfl) ?_
  refine lv_iload_n hx hb dL_law_1265 rfl (lv_at hl 3 rfl) ?_
  refine lv_iconst (v := (2 : Int32)) hx hb dL_law_1266 (by decide) ?_
  refine lv_iadd hx hb dL_law_1267 ?_
  refine va_sld hx hb hX hbl hbA hS hv2 dL_law_1268 ?_
  refine lv_aload_n hx hb dL_law_1269 rfl (lv_at hl 0 rfl) ?_
  refine lv_iload_n hx hb dL_law_1270 rfl (lv_at hl 3 rfl) ?_
  refine lv_iconst (v := (3 : Int32)) hx hb dL_law_1271 (by decide) ?_
  refine lv_iadd hx hb dL_law_1272 ?_
  refine va_sld hx hb hX hbl hbA hS hv3 dL_law_1273 ?_
  refine lv_aload_n hx hb dL_law_1274 rfl (lv_at hl 0 rfl) ?_
  refine lv_iload_n hx hb dL_law_1275 rfl (lv_at hl 3 rfl) ?_
  refine lv_iconst (v := (4 : Int32)) hx hb dL_law_1276 (by decide) ?_
  refine lv_iadd hx hb dL_law_1277 ?_
  refine va_sld hx hb hX hbl hbA hS hv4 dL_law_1278 ?_
  refine lw_ci (va_runV (As := [.int (xs ((nI i) + (1 : Int32)).toNatClampNeg), .int (xs ((nI i) + (2 : Int32)).toNatClampNeg), .int (xs ((nI i) + (3 : Int32)).toNatClampNeg), .int (xs ((nI i) + (4 : Int32)).toNatClampNeg)]) (rest := []) ⟨hx, hb, hml, hown, hts⟩ (spec_X6_stay l D cy ad H.size g a w (xs ((nI i) + (1 : Int32)).toNatClampNeg) (xs ((nI i) + (2 : Int32)).toNatClampNeg) (xs ((nI i) + (3 : Int32)).toNatClampNeg) (xs ((nI i) + (4 : Int32)).toNatClampNeg)) (cwV 4 hts gL_law_X6_stay rfl rfl rfl (by decide +kernel) ⟨Nat.le_of_ble_eq_true rfl, Nat.le_of_ble_eq_true rfl⟩) (ar_preV hN hK (b_c hP) (b_cD hD) (ci := 5) (q0 := 0) rfl rfl) rfl rfl hl.1 rfl (lv_room (Nat.le_of_ble_eq_true rfl)) dL_law_1279 ⟨Nat.le_of_ble_eq_true rfl, Nat.le_of_ble_eq_true rfl⟩) hP hD hS hA (fun r1 g1 a1 w1 H locs q1 hP hS => ?_)
  have hD := bD (g1 := g1) (a1 := a1) (w1 := w1) (g2 := g') (a2 := a') hD
  refine lv_aload_n hx hb dL_law_1282 rfl (lv_at hl 2 rfl) ?_
  refine lv_aload_n hx hb dL_law_1283 rfl (lv_at hl 0 rfl) ?_
  refine lv_iload_n hx hb dL_law_1284 rfl (lv_at hl 3 rfl) ?_
  refine lv_iconst (v := (1 : Int32)) hx hb dL_law_1285 (by decide) ?_
  refine lv_iadd hx hb dL_law_1286 ?_
  refine va_sld hx hb hX hbl hbA hS hv1 dL_law_1287 ?_
  refine lv_aload_n hx hb dL_law_1288 rfl (lv_at hl 0 rfl) ?_
  refine lv_iload_n hx hb dL_law_1289 rfl (lv_at hl 3 rfl) ?_
  refine lv_iconst (v := (2 : Int32)) hx hb dL_law_1290 (by decide) ?_
  refine lv_iadd hx hb dL_law_1291 ?_
  refine va_sld hx hb hX hbl hbA hS hv2 dL_law_1292 ?_
  refine lv_aload_n hx hb dL_law_1293 rfl (lv_at hl 0 rfl) ?_
  refine lv_iload_n hx hb dL_law_1294 rfl (lv_at hl 3 rfl) ?_
  refine lv_iconst (v := (3 : Int32)) hx hb dL_law_1295 (by decide) ?_
  refine lv_iadd hx hb dL_law_1296 ?_
  refine va_sld hx hb hX hbl hbA hS hv3 dL_law_1297 ?_
  refine lv_aload_n hx hb dL_law_1298 rfl (lv_at hl 0 rfl) ?_
  refine lv_iload_n hx hb dL_law_1299 rfl (lv_at hl 3 rfl) ?_
  refine lv_iconst (v := (4 : Int32)) hx hb dL_law_1300 (by decide) ?_
  refine lv_iadd hx hb dL_law_1301 ?_
  refine va_sld hx hb hX hbl hbA hS hv4 dL_law_1302 ?_
  refine cp_i (va_runV (As := [.int (xs ((nI i) + (1 : Int32)).toNatClampNeg), .int (xs ((nI i) + (2 : Int32)).toNatClampNeg), .int (xs ((nI i) + (3 : Int32)).toNatClampNeg), .int (xs ((nI i) + (4 : Int32)).toNatClampNeg)]) (rest := [.int r1]) ⟨hx, hb, hml, hown, hts⟩ (spec_X7_stay l D cy ad' H.size g' a' (xs ((nI i) + (1 : Int32)).toNatClampNeg) (xs ((nI i) + (2 : Int32)).toNatClampNeg) (xs ((nI i) + (3 : Int32)).toNatClampNeg) (xs ((nI i) + (4 : Int32)).toNatClampNeg)) (cwV 4 hts gL_law_X7_stay rfl rfl rfl (by decide +kernel) ⟨Nat.le_of_ble_eq_true rfl, Nat.le_of_ble_eq_true rfl⟩) (ar_preV hN hK (b_m hP) (b_mD hD) (ci := 6) (q0 := 0) rfl rfl) rfl rfl hl.1 rfl (lv_room (Nat.le_of_ble_eq_true rfl)) dL_law_1303 ⟨Nat.le_of_ble_eq_true rfl, Nat.le_of_ble_eq_true rfl⟩) (fun r2 q2 => ?_)
  refine lv_icmp_eq (tgt := 1387) hx hb dL_law_1306 (by decide) (fun c1 => ?_) (fun c1 => ?_)
  · exact kk _ _ _ _ _ _ _ hP hS (eq_stay hj hR q1 q2).2
  · exact absurd (eq_stay hj hR q1 q2).1 c1
set_option maxHeartbeats 4000000 in
set_option maxRecDepth 100000 in
theorem law_rounds {p : Program} {l : Launch} {e : Env} {s : State} {m : MethodId} {below : List Frame} {meth : Method} {c : Code} {b L : Nat} {xs : Nat → Int32} (hL : L ≤ 2560) (C0 : lw_At p s m meth c b L xs) {D : va_G} {cy : Nat → ClassId} {ad ad' : Nat → Nat} (hK : va_K D vwCl (cyT cy) s) (hN : NestOk s) {i j : Nat} (hi : i + 5 ≤ L) (hj : j < 80000) {g : Gs} {a : As} {w : Ws} {g' : Gs} {a' : As} {H : Heap} {locs : List Loc} (hP : va_P D vwCl (bW ad ad' cy g a w g' a') H) (hD : va_D (fun q : Nat => s.heap.size ≤ q) (bW ad ad' cy g a w g' a')) (hS : va_S (fun q : Nat => s.heap.size ≤ q) s.heap H locs) (hR : Rel j g a w g' a') {ls : Array Slot} (hl : lv_has ls 4 [(0, .ref b), (1, .ref (ad 0)), (2, .ref (ad' 0)), (3, .int (nI i))]) (kk : LawK p l e s m below meth c b D cy ad ad' j ls) : W p l e room_1 s m #[Value.ref b] below meth c H locs 40 103431 (lw_Z below #[Value.ref b] s) (F0 m 1311 ls []) := by
  obtain ⟨hx, hb, hr, hml, hown, hts0, hX, hbl, hlocks, hgv⟩ := C0
  have hts : ∀ w ∈ wsL_law, w.before #[Value.ref b] s = true := fun w h => hts0 w (wsL_law_in w h)
  have hown : s.vm.findClass RL = some m.cls := hown
  have hA : ∀ q : Nat, s.heap.size ≤ q → (fun q : Nat => s.heap.size ≤ q) q := fun _ h => h
  have hbA : ¬ (fun q : Nat => s.heap.size ≤ q) b := Nat.not_le.mpr hbl
  have hv : ∀ k : Nat, 1 ≤ k → k < 5 → vp_in (nI i + nI k) L := fun k h1 h2 => by rw [nI_add]; exact vp_in_nI (by omega) (by omega)
  have hv1 : vp_in (nI i + (1 : Int32)) L := hv 1 (by decide) (by decide)
  have hv2 : vp_in (nI i + (2 : Int32)) L := hv 2 (by decide) (by decide)
  have hv3 : vp_in (nI i + (3 : Int32)) L := hv 3 (by decide) (by decide)
  have hv4 : vp_in (nI i + (4 : Int32)) L := hv 4 (by decide) (by decide)
  refine lv_aload_n hx hb dL_law_1311 rfl (lv_at hl 1 rfl) ?_
  refine lv_aload_n hx hb dL_law_1312 rfl (lv_at hl 0 rfl) ?_
  refine lv_iload_n hx hb dL_law_1313 rfl (lv_at hl 3 rfl) ?_
  refine lv_iconst (v := (1 : Int32)) hx hb dL_law_1314 (by decide) ?_
  refine lv_iadd hx hb dL_law_1315 ?_
  refine va_sld hx hb hX hbl hbA hS hv1 dL_law_1316 ?_
  refine lv_aload_n hx hb dL_law_1317 rfl (lv_at hl 0 rfl) ?_
  refine lv_iload_n hx hb dL_law_1318 rfl (lv_at hl 3 rfl) ?_
  refine lv_iconst (v := (2 : Int32)) hx hb dL_law_1319 (by decide) ?_
  refine lv_iadd hx hb dL_law_1320 ?_
  refine va_sld hx hb hX hbl hbA hS hv2 dL_law_1321 ?_
  refine lv_aload_n hx hb dL_law_1322 rfl (lv_at hl 0 rfl) ?_
  refine lv_iload_n hx hb dL_law_1323 rfl (lv_at hl 3 rfl) ?_
  refine lv_iconst (v := (3 : Int32)) hx hb dL_law_1324 (by decide) ?_
  refine lv_iadd hx hb dL_law_1325 ?_
  refine va_sld hx hb hX hbl hbA hS hv3 dL_law_1326 ?_
  refine lv_aload_n hx hb dL_law_1327 rfl (lv_at hl 0 rfl) ?_
  refine lv_iload_n hx hb dL_law_1328 rfl (lv_at hl 3 rfl) ?_
  refine lv_iconst (v := (4 : Int32)) hx hb dL_law_1329 (by decide) ?_
  refine lv_iadd hx hb dL_law_1330 ?_
  refine va_sld hx hb hX hbl hbA hS hv4 dL_law_1331 ?_
  refine lw_ci (va_runV (As := [.int (xs ((nI i) + (1 : Int32)).toNatClampNeg), .int (xs ((nI i) + (2 : Int32)).toNatClampNeg), .int (xs ((nI i) + (3 : Int32)).toNatClampNeg), .int (xs ((nI i) + (4 : Int32)).toNatClampNeg)]) (rest := []) ⟨hx, hb, hml, hown, hts⟩ (spec_X6_rounds l D cy ad H.size g a w (xs ((nI i) + (1 : Int32)).toNatClampNeg) (xs ((nI i) + (2 : Int32)).toNatClampNeg) (xs ((nI i) + (3 : Int32)).toNatClampNeg) (xs ((nI i) + (4 : Int32)).toNatClampNeg)) (cwV 4 hts gL_law_X6_rounds rfl rfl rfl (by decide +kernel) ⟨Nat.le_of_ble_eq_true rfl, Nat.le_of_ble_eq_true rfl⟩) (ar_preV hN hK (b_c hP) (b_cD hD) (ci := 5) (q0 := 0) rfl rfl) rfl rfl hl.1 rfl (lv_room (Nat.le_of_ble_eq_true rfl)) dL_law_1332 ⟨Nat.le_of_ble_eq_true rfl, Nat.le_of_ble_eq_true rfl⟩) hP hD hS hA (fun r1 g1 a1 w1 H locs q1 hP hS => ?_)
  have hD := bD (g1 := g1) (a1 := a1) (w1 := w1) (g2 := g') (a2 := a') hD
  refine lv_aload_n hx hb dL_law_1335 rfl (lv_at hl 2 rfl) ?_
  refine lv_aload_n hx hb dL_law_1336 rfl (lv_at hl 0 rfl) ?_
  refine lv_iload_n hx hb dL_law_1337 rfl (lv_at hl 3 rfl) ?_
  refine lv_iconst (v := (1 : Int32)) hx hb dL_law_1338 (by decide) ?_
  refine lv_iadd hx hb dL_law_1339 ?_
  refine va_sld hx hb hX hbl hbA hS hv1 dL_law_1340 ?_
  refine lv_aload_n hx hb dL_law_1341 rfl (lv_at hl 0 rfl) ?_
  refine lv_iload_n hx hb dL_law_1342 rfl (lv_at hl 3 rfl) ?_
  refine lv_iconst (v := (2 : Int32)) hx hb dL_law_1343 (by decide) ?_
  refine lv_iadd hx hb dL_law_1344 ?_
  refine va_sld hx hb hX hbl hbA hS hv2 dL_law_1345 ?_
  refine lv_aload_n hx hb dL_law_1346 rfl (lv_at hl 0 rfl) ?_
  refine lv_iload_n hx hb dL_law_1347 rfl (lv_at hl 3 rfl) ?_
  refine lv_iconst (v := (3 : Int32)) hx hb dL_law_1348 (by decide) ?_
  refine lv_iadd hx hb dL_law_1349 ?_
  refine va_sld hx hb hX hbl hbA hS hv3 dL_law_1350 ?_
  refine lv_aload_n hx hb dL_law_1351 rfl (lv_at hl 0 rfl) ?_
  refine lv_iload_n hx hb dL_law_1352 rfl (lv_at hl 3 rfl) ?_
  refine lv_iconst (v := (4 : Int32)) hx hb dL_law_1353 (by decide) ?_
  refine lv_iadd hx hb dL_law_1354 ?_
  refine va_sld hx hb hX hbl hbA hS hv4 dL_law_1355 ?_
  refine cp_i (va_runV (As := [.int (xs ((nI i) + (1 : Int32)).toNatClampNeg), .int (xs ((nI i) + (2 : Int32)).toNatClampNeg), .int (xs ((nI i) + (3 : Int32)).toNatClampNeg), .int (xs ((nI i) + (4 : Int32)).toNatClampNeg)]) (rest := [.int r1]) ⟨hx, hb, hml, hown, hts⟩ (spec_X7_rounds l D cy ad' H.size g' a' (xs ((nI i) + (1 : Int32)).toNatClampNeg) (xs ((nI i) + (2 : Int32)).toNatClampNeg) (xs ((nI i) + (3 : Int32)).toNatClampNeg) (xs ((nI i) + (4 : Int32)).toNatClampNeg)) (cwV 4 hts gL_law_X7_rounds rfl rfl rfl (by decide +kernel) ⟨Nat.le_of_ble_eq_true rfl, Nat.le_of_ble_eq_true rfl⟩) (ar_preV hN hK (b_m hP) (b_mD hD) (ci := 6) (q0 := 0) rfl rfl) rfl rfl hl.1 rfl (lv_room (Nat.le_of_ble_eq_true rfl)) dL_law_1356 ⟨Nat.le_of_ble_eq_true rfl, Nat.le_of_ble_eq_true rfl⟩) (fun r2 q2 => ?_)
  refine lv_icmp_eq (tgt := 1387) hx hb dL_law_1359 (by decide) (fun c1 => ?_) (fun c1 => ?_)
  · exact kk _ _ _ _ _ _ _ hP hS (eq_rounds hj hR q1 q2).2
  · exact absurd (eq_rounds hj hR q1 q2).1 c1
set_option maxHeartbeats 4000000 in
set_option maxRecDepth 100000 in
theorem law_count {p : Program} {l : Launch} {e : Env} {s : State} {m : MethodId} {below : List Frame} {meth : Method} {c : Code} {b L : Nat} {xs : Nat → Int32} (hL : L ≤ 2560) (C0 : lw_At p s m meth c b L xs) {D : va_G} {cy : Nat → ClassId} {ad ad' : Nat → Nat} (hK : va_K D vwCl (cyT cy) s) (hN : NestOk s) {i j : Nat} (hi : i + 5 ≤ L) (hj : j < 80000) {g : Gs} {a : As} {w : Ws} {g' : Gs} {a' : As} {H : Heap} {locs : List Loc} (hP : va_P D vwCl (bW ad ad' cy g a w g' a') H) (hD : va_D (fun q : Nat => s.heap.size ≤ q) (bW ad ad' cy g a w g' a')) (hS : va_S (fun q : Nat => s.heap.size ≤ q) s.heap H locs) (hR : Rel j g a w g' a') {ls : Array Slot} (hl : lv_has ls 4 [(0, .ref b), (1, .ref (ad 0)), (2, .ref (ad' 0)), (3, .int (nI i))]) (kk : LawK p l e s m below meth c b D cy ad ad' j ls) : W p l e room_1 s m #[Value.ref b] below meth c H locs 40 103431 (lw_Z below #[Value.ref b] s) (F0 m 1364 ls []) := by
  obtain ⟨hx, hb, hr, hml, hown, hts0, hX, hbl, hlocks, hgv⟩ := C0
  have hts : ∀ w ∈ wsL_law, w.before #[Value.ref b] s = true := fun w h => hts0 w (wsL_law_in w h)
  have hown : s.vm.findClass RL = some m.cls := hown
  have hA : ∀ q : Nat, s.heap.size ≤ q → (fun q : Nat => s.heap.size ≤ q) q := fun _ h => h
  have hbA : ¬ (fun q : Nat => s.heap.size ≤ q) b := Nat.not_le.mpr hbl
  have hv : ∀ k : Nat, 1 ≤ k → k < 5 → vp_in (nI i + nI k) L := fun k h1 h2 => by rw [nI_add]; exact vp_in_nI (by omega) (by omega)
  have hv1 : vp_in (nI i + (1 : Int32)) L := hv 1 (by decide) (by decide)
  have hv2 : vp_in (nI i + (2 : Int32)) L := hv 2 (by decide) (by decide)
  have hv3 : vp_in (nI i + (3 : Int32)) L := hv 3 (by decide) (by decide)
  have hv4 : vp_in (nI i + (4 : Int32)) L := hv 4 (by decide) (by decide)
  refine lv_aload_n hx hb dL_law_1364 rfl (lv_at hl 1 rfl) ?_
  refine lv_aload_n hx hb dL_law_1365 rfl (lv_at hl 0 rfl) ?_
  refine lv_iload_n hx hb dL_law_1366 rfl (lv_at hl 3 rfl) ?_
  refine lv_iconst (v := (1 : Int32)) hx hb dL_law_1367 (by decide) ?_
  refine lv_iadd hx hb dL_law_1368 ?_
  refine va_sld hx hb hX hbl hbA hS hv1 dL_law_1369 ?_
  refine cp_i (va_runV (As := [.int (xs ((nI i) + (1 : Int32)).toNatClampNeg)]) (rest := []) ⟨hx, hb, hml, hown, hts⟩ (spec_X6_count l D cy ad H.size g a w (xs ((nI i) + (1 : Int32)).toNatClampNeg)) (cwV 1 hts gL_law_X6_count rfl rfl rfl (by decide +kernel) ⟨Nat.le_of_ble_eq_true rfl, Nat.le_of_ble_eq_true rfl⟩) (ar_preV hN hK (b_c hP) (b_cD hD) (ci := 5) (q0 := 0) rfl rfl) rfl rfl hl.1 rfl (lv_room (Nat.le_of_ble_eq_true rfl)) dL_law_1370 ⟨Nat.le_of_ble_eq_true rfl, Nat.le_of_ble_eq_true rfl⟩) (fun r1 q1 => ?_)
  refine lv_aload_n hx hb dL_law_1373 rfl (lv_at hl 2 rfl) ?_
  refine lv_aload_n hx hb dL_law_1374 rfl (lv_at hl 0 rfl) ?_
  refine lv_iload_n hx hb dL_law_1375 rfl (lv_at hl 3 rfl) ?_
  refine lv_iconst (v := (1 : Int32)) hx hb dL_law_1376 (by decide) ?_
  refine lv_iadd hx hb dL_law_1377 ?_
  refine va_sld hx hb hX hbl hbA hS hv1 dL_law_1378 ?_
  refine cp_i (va_runV (As := [.int (xs ((nI i) + (1 : Int32)).toNatClampNeg)]) (rest := [.int r1]) ⟨hx, hb, hml, hown, hts⟩ (spec_X7_count l D cy ad' H.size g' a' (xs ((nI i) + (1 : Int32)).toNatClampNeg)) (cwV 1 hts gL_law_X7_count rfl rfl rfl (by decide +kernel) ⟨Nat.le_of_ble_eq_true rfl, Nat.le_of_ble_eq_true rfl⟩) (ar_preV hN hK (b_m hP) (b_mD hD) (ci := 6) (q0 := 0) rfl rfl) rfl rfl hl.1 rfl (lv_room (Nat.le_of_ble_eq_true rfl)) dL_law_1379 ⟨Nat.le_of_ble_eq_true rfl, Nat.le_of_ble_eq_true rfl⟩) (fun r2 q2 => ?_)
  refine lv_icmp_eq (tgt := 1387) hx hb dL_law_1382 (by decide) (fun c1 => ?_) (fun c1 => ?_)
  · exact kk _ _ _ _ _ _ _ hP hS (eq_count hj hR q1 q2).2
  · exact absurd (eq_count hj hR q1 q2).1 c1
