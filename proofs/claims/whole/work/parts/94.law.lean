set_option maxHeartbeats 4000000 in
set_option maxRecDepth 100000 in
theorem law_units {p : Program} {l : Launch} {e : Env} {s : State} {m : MethodId} {below : List Frame} {meth : Method} {c : Code} {b L : Nat} {xs : Nat → Int32} (hL : L ≤ 2560) (C0 : lw_At p s m meth c b L xs) {D : va_G} {cy : Nat → ClassId} {ad ad' : Nat → Nat} (hK : va_K D vwCl (cyT cy) s) (hN : NestOk s) {i j : Nat} (hi : i + 5 ≤ L) (hj : j < 80000) {g : Gs} {a : As} {w : Ws} {g' : Gs} {a' : As} {H : Heap} {locs : List Loc} (hP : va_P D vwCl (bW ad ad' cy g a w g' a') H) (hD : va_D (fun q : Nat => s.heap.size ≤ q) (bW ad ad' cy g a w g' a')) (hS : va_S (fun q : Nat => s.heap.size ≤ q) s.heap H locs) (hR : Rel j g a w g' a') {ls : Array Slot} (hl : lv_has ls 4 [(0, .ref b), (1, .ref (ad 0)), (2, .ref (ad' 0)), (3, .int (nI i))]) (kk : LawK p l e s m below meth c b D cy ad ad' j ls) : W p l e room_1 s m #[Value.ref b] below meth c H locs 40 103431 (lw_Z below #[Value.ref b] s) (F0 m 172 ls []) := by
  obtain ⟨hx, hb, hr, hml, hown, hts0, hX, hbl, hlocks, hgv⟩ := C0
  have hts : ∀ w ∈ wsL_law, w.before #[Value.ref b] s = true := fun w h => hts0 w (wsL_law_in w h)
  have hown : s.vm.findClass RL = some m.cls := hown
  have hA : ∀ q : Nat, s.heap.size ≤ q → (fun q : Nat => s.heap.size ≤ q) q := fun _ h => h
  have hbA : ¬ (fun q : Nat => s.heap.size ≤ q) b := Nat.not_le.mpr hbl
  have hv : ∀ k : Nat, 1 ≤ k → k < 5 → vp_in (nI i + nI k) L := fun k h1 h2 => by rw [nI_add]; exact vp_in_nI (by omega) (by omega)
  have hv1 : vp_in (nI i + (1 : Int32)) L := hv 1 (by decide) (by decide)
  have hv2 : vp_in (nI i + (2 : Int32)) L := hv 2 (by decide) (by decide)
  have hv3 : vp_in (nI i + (3 : Int32)) L := hv 3 (by decide) (by decide)
  have hv4 : vp_in (nI i + (4 : Int32)) L := hv 4 (by decide) (by decide)
  refine lv_aload_n hx hb dL_law_172 rfl (lv_at hl 1 rfl) ?_
  refine lv_aload_n hx hb dL_law_173 rfl (lv_at hl 0 rfl) ?_
  refine lv_iload_n hx hb dL_law_174 rfl (lv_at hl 3 rfl) ?_
  refine lv_iconst (v := (1 : Int32)) hx hb dL_law_175 (by decide) ?_
  refine lv_iadd hx hb dL_law_176 ?_
  refine va_sld hx hb hX hbl hbA hS hv1 dL_law_177 ?_
  refine lv_aload_n hx hb dL_law_178 rfl (lv_at hl 0 rfl) ?_
  refine lv_iload_n hx hb dL_law_179 rfl (lv_at hl 3 rfl) ?_
  refine lv_iconst (v := (2 : Int32)) hx hb dL_law_180 (by decide) ?_
  refine lv_iadd hx hb dL_law_181 ?_
  refine va_sld hx hb hX hbl hbA hS hv2 dL_law_182 ?_
  refine lw_ci (va_runV (As := [.int (xs ((nI i) + (1 : Int32)).toNatClampNeg), .int (xs ((nI i) + (2 : Int32)).toNatClampNeg)]) (rest := []) ⟨hx, hb, hml, hown, hts⟩ (spec_X6_units l D cy ad H.size g a w (xs ((nI i) + (1 : Int32)).toNatClampNeg) (xs ((nI i) + (2 : Int32)).toNatClampNeg)) (cwV 2 hts gL_law_X6_units rfl rfl rfl (by decide +kernel) ⟨Nat.le_of_ble_eq_true rfl, Nat.le_of_ble_eq_true rfl⟩) (ar_preV hN hK (b_c hP) (b_cD hD) (ci := 5) (q0 := 0) rfl rfl) rfl rfl hl.1 rfl (lv_room (Nat.le_of_ble_eq_true rfl)) dL_law_183 ⟨Nat.le_of_ble_eq_true rfl, Nat.le_of_ble_eq_true rfl⟩) hP hD hS hA (fun r1 g1 a1 w1 H locs q1 hP hS => ?_)
  have hD := bD (g1 := g1) (a1 := a1) (w1 := w1) (g2 := g') (a2 := a') hD
  refine lv_aload_n hx hb dL_law_186 rfl (lv_at hl 2 rfl) ?_
  refine lv_aload_n hx hb dL_law_187 rfl (lv_at hl 0 rfl) ?_
  refine lv_iload_n hx hb dL_law_188 rfl (lv_at hl 3 rfl) ?_
  refine lv_iconst (v := (1 : Int32)) hx hb dL_law_189 (by decide) ?_
  refine lv_iadd hx hb dL_law_190 ?_
  refine va_sld hx hb hX hbl hbA hS hv1 dL_law_191 ?_
  refine lv_aload_n hx hb dL_law_192 rfl (lv_at hl 0 rfl) ?_
  refine lv_iload_n hx hb dL_law_193 rfl (lv_at hl 3 rfl) ?_
  refine lv_iconst (v := (2 : Int32)) hx hb dL_law_194 (by decide) ?_
  refine lv_iadd hx hb dL_law_195 ?_
  refine va_sld hx hb hX hbl hbA hS hv2 dL_law_196 ?_
  refine cp_i (va_runV (As := [.int (xs ((nI i) + (1 : Int32)).toNatClampNeg), .int (xs ((nI i) + (2 : Int32)).toNatClampNeg)]) (rest := [.int r1]) ⟨hx, hb, hml, hown, hts⟩ (spec_X7_units l D cy ad' H.size g' a' (xs ((nI i) + (1 : Int32)).toNatClampNeg) (xs ((nI i) + (2 : Int32)).toNatClampNeg)) (cwV 2 hts gL_law_X7_units rfl rfl rfl (by decide +kernel) ⟨Nat.le_of_ble_eq_true rfl, Nat.le_of_ble_eq_true rfl⟩) (ar_preV hN hK (b_m hP) (b_mD hD) (ci := 6) (q0 := 0) rfl rfl) rfl rfl hl.1 rfl (lv_room (Nat.le_of_ble_eq_true rfl)) dL_law_197 ⟨Nat.le_of_ble_eq_true rfl, Nat.le_of_ble_eq_true rfl⟩) (fun r2 q2 => ?_)
  refine lv_icmp_eq (tgt := 1387) hx hb dL_law_200 (by decide) (fun c1 => ?_) (fun c1 => ?_)
  · exact kk _ _ _ _ _ _ _ hP hS (eq_units hj hR q1 q2).2
  · exact absurd (eq_units hj hR q1 q2).1 c1
set_option maxHeartbeats 4000000 in
set_option maxRecDepth 100000 in
theorem law_order {p : Program} {l : Launch} {e : Env} {s : State} {m : MethodId} {below : List Frame} {meth : Method} {c : Code} {b L : Nat} {xs : Nat → Int32} (hL : L ≤ 2560) (C0 : lw_At p s m meth c b L xs) {D : va_G} {cy : Nat → ClassId} {ad ad' : Nat → Nat} (hK : va_K D vwCl (cyT cy) s) (hN : NestOk s) {i j : Nat} (hi : i + 5 ≤ L) (hj : j < 80000) {g : Gs} {a : As} {w : Ws} {g' : Gs} {a' : As} {H : Heap} {locs : List Loc} (hP : va_P D vwCl (bW ad ad' cy g a w g' a') H) (hD : va_D (fun q : Nat => s.heap.size ≤ q) (bW ad ad' cy g a w g' a')) (hS : va_S (fun q : Nat => s.heap.size ≤ q) s.heap H locs) (hR : Rel j g a w g' a') {ls : Array Slot} (hl : lv_has ls 4 [(0, .ref b), (1, .ref (ad 0)), (2, .ref (ad' 0)), (3, .int (nI i))]) (kk : LawK p l e s m below meth c b D cy ad ad' j ls) : W p l e room_1 s m #[Value.ref b] below meth c H locs 40 103431 (lw_Z below #[Value.ref b] s) (F0 m 205 ls []) := by
  obtain ⟨hx, hb, hr, hml, hown, hts0, hX, hbl, hlocks, hgv⟩ := C0
  have hts : ∀ w ∈ wsL_law, w.before #[Value.ref b] s = true := fun w h => hts0 w (wsL_law_in w h)
  have hown : s.vm.findClass RL = some m.cls := hown
  have hA : ∀ q : Nat, s.heap.size ≤ q → (fun q : Nat => s.heap.size ≤ q) q := fun _ h => h
  have hbA : ¬ (fun q : Nat => s.heap.size ≤ q) b := Nat.not_le.mpr hbl
  have hv : ∀ k : Nat, 1 ≤ k → k < 5 → vp_in (nI i + nI k) L := fun k h1 h2 => by rw [nI_add]; exact vp_in_nI (by omega) (by omega)
  have hv1 : vp_in (nI i + (1 : Int32)) L := hv 1 (by decide) (by decide)
  have hv2 : vp_in (nI i + (2 : Int32)) L := hv 2 (by decide) (by decide)
  have hv3 : vp_in (nI i + (3 : Int32)) L := hv 3 (by decide) (by decide)
  have hv4 : vp_in (nI i + (4 : Int32)) L := hv 4 (by decide) (by decide)
  refine lv_aload_n hx hb dL_law_205 rfl (lv_at hl 1 rfl) ?_
  refine lv_aload_n hx hb dL_law_206 rfl (lv_at hl 0 rfl) ?_
  refine lv_iload_n hx hb dL_law_207 rfl (lv_at hl 3 rfl) ?_
  refine lv_iconst (v := (1 : Int32)) hx hb dL_law_208 (by decide) ?_
  refine lv_iadd hx hb dL_law_209 ?_
  refine va_sld hx hb hX hbl hbA hS hv1 dL_law_210 ?_
  refine lv_aload_n hx hb dL_law_211 rfl (lv_at hl 0 rfl) ?_
  refine lv_iload_n hx hb dL_law_212 rfl (lv_at hl 3 rfl) ?_
  refine lv_iconst (v := (2 : Int32)) hx hb dL_law_213 (by decide) ?_
  refine lv_iadd hx hb dL_law_214 ?_
  refine va_sld hx hb hX hbl hbA hS hv2 dL_law_215 ?_
  refine lw_ci (va_runV (As := [.int (xs ((nI i) + (1 : Int32)).toNatClampNeg), .int (xs ((nI i) + (2 : Int32)).toNatClampNeg)]) (rest := []) ⟨hx, hb, hml, hown, hts⟩ (spec_X6_order l D cy ad H.size g a w (xs ((nI i) + (1 : Int32)).toNatClampNeg) (xs ((nI i) + (2 : Int32)).toNatClampNeg)) (cwV 2 hts gL_law_X6_order rfl rfl rfl (by decide +kernel) ⟨Nat.le_of_ble_eq_true rfl, Nat.le_of_ble_eq_true rfl⟩) (ar_preV hN hK (b_c hP) (b_cD hD) (ci := 5) (q0 := 0) rfl rfl) rfl rfl hl.1 rfl (lv_room (Nat.le_of_ble_eq_true rfl)) dL_law_216 ⟨Nat.le_of_ble_eq_true rfl, Nat.le_of_ble_eq_true rfl⟩) hP hD hS hA (fun r1 g1 a1 w1 H locs q1 hP hS => ?_)
  have hD := bD (g1 := g1) (a1 := a1) (w1 := w1) (g2 := g') (a2 := a') hD
  refine lv_aload_n hx hb dL_law_219 rfl (lv_at hl 2 rfl) ?_
  refine lv_aload_n hx hb dL_law_220 rfl (lv_at hl 0 rfl) ?_
  refine lv_iload_n hx hb dL_law_221 rfl (lv_at hl 3 rfl) ?_
  refine lv_iconst (v := (1 : Int32)) hx hb dL_law_222 (by decide) ?_
  refine lv_iadd hx hb dL_law_223 ?_
  refine va_sld hx hb hX hbl hbA hS hv1 dL_law_224 ?_
  refine lv_aload_n hx hb dL_law_225 rfl (lv_at hl 0 rfl) ?_
  refine lv_iload_n hx hb dL_law_226 rfl (lv_at hl 3 rfl) ?_
  refine lv_iconst (v := (2 : Int32)) hx hb dL_law_227 (by decide) ?_
  refine lv_iadd hx hb dL_law_228 ?_
  refine va_sld hx hb hX hbl hbA hS hv2 dL_law_229 ?_
  refine cp_i (va_runV (As := [.int (xs ((nI i) + (1 : Int32)).toNatClampNeg), .int (xs ((nI i) + (2 : Int32)).toNatClampNeg)]) (rest := [.int r1]) ⟨hx, hb, hml, hown, hts⟩ (spec_X7_order l D cy ad' H.size g' a' (xs ((nI i) + (1 : Int32)).toNatClampNeg) (xs ((nI i) + (2 : Int32)).toNatClampNeg)) (cwV 2 hts gL_law_X7_order rfl rfl rfl (by decide +kernel) ⟨Nat.le_of_ble_eq_true rfl, Nat.le_of_ble_eq_true rfl⟩) (ar_preV hN hK (b_m hP) (b_mD hD) (ci := 6) (q0 := 0) rfl rfl) rfl rfl hl.1 rfl (lv_room (Nat.le_of_ble_eq_true rfl)) dL_law_230 ⟨Nat.le_of_ble_eq_true rfl, Nat.le_of_ble_eq_true rfl⟩) (fun r2 q2 => ?_)
  refine lv_icmp_eq (tgt := 1387) hx hb dL_law_233 (by decide) (fun c1 => ?_) (fun c1 => ?_)
  · exact kk _ _ _ _ _ _ _ hP hS (eq_order hj hR q1 q2).2
  · exact absurd (eq_order hj hR q1 q2).1 c1
set_option maxHeartbeats 4000000 in
set_option maxRecDepth 100000 in
theorem law_orders {p : Program} {l : Launch} {e : Env} {s : State} {m : MethodId} {below : List Frame} {meth : Method} {c : Code} {b L : Nat} {xs : Nat → Int32} (hL : L ≤ 2560) (C0 : lw_At p s m meth c b L xs) {D : va_G} {cy : Nat → ClassId} {ad ad' : Nat → Nat} (hK : va_K D vwCl (cyT cy) s) (hN : NestOk s) {i j : Nat} (hi : i + 5 ≤ L) (hj : j < 80000) {g : Gs} {a : As} {w : Ws} {g' : Gs} {a' : As} {H : Heap} {locs : List Loc} (hP : va_P D vwCl (bW ad ad' cy g a w g' a') H) (hD : va_D (fun q : Nat => s.heap.size ≤ q) (bW ad ad' cy g a w g' a')) (hS : va_S (fun q : Nat => s.heap.size ≤ q) s.heap H locs) (hR : Rel j g a w g' a') {ls : Array Slot} (hl : lv_has ls 4 [(0, .ref b), (1, .ref (ad 0)), (2, .ref (ad' 0)), (3, .int (nI i))]) (kk : LawK p l e s m below meth c b D cy ad ad' j ls) : W p l e room_1 s m #[Value.ref b] below meth c H locs 40 103431 (lw_Z below #[Value.ref b] s) (F0 m 238 ls []) := by
  obtain ⟨hx, hb, hr, hml, hown, hts0, hX, hbl, hlocks, hgv⟩ := C0
  have hts : ∀ w ∈ wsL_law, w.before #[Value.ref b] s = true := fun w h => hts0 w (wsL_law_in w h)
  have hown : s.vm.findClass RL = some m.cls := hown
  have hA : ∀ q : Nat, s.heap.size ≤ q → (fun q : Nat => s.heap.size ≤ q) q := fun _ h => h
  have hbA : ¬ (fun q : Nat => s.heap.size ≤ q) b := Nat.not_le.mpr hbl
  have hv : ∀ k : Nat, 1 ≤ k → k < 5 → vp_in (nI i + nI k) L := fun k h1 h2 => by rw [nI_add]; exact vp_in_nI (by omega) (by omega)
  have hv1 : vp_in (nI i + (1 : Int32)) L := hv 1 (by decide) (by decide)
  have hv2 : vp_in (nI i + (2 : Int32)) L := hv 2 (by decide) (by decide)
  have hv3 : vp_in (nI i + (3 : Int32)) L := hv 3 (by decide) (by decide)
  have hv4 : vp_in (nI i + (4 : Int32)) L := hv 4 (by decide) (by decide)
  refine lv_aload_n hx hb dL_law_238 rfl (lv_at hl 1 rfl) ?_
  refine lv_aload_n hx hb dL_law_239 rfl (lv_at hl 0 rfl) ?_
  refine lv_iload_n hx hb dL_law_240 rfl (lv_at hl 3 rfl) ?_
  refine lv_iconst (v := (1 : Int32)) hx hb dL_law_241 (by decide) ?_
  refine lv_iadd hx hb dL_law_242 ?_
  refine va_sld hx hb hX hbl hbA hS hv1 dL_law_243 ?_
  refine lv_aload_n hx hb dL_law_244 rfl (lv_at hl 0 rfl) ?_
  refine lv_iload_n hx hb dL_law_245 rfl (lv_at hl 3 rfl) ?_
  refine lv_iconst (v := (2 : Int32)) hx hb dL_law_246 (by decide) ?_
  refine lv_iadd hx hb dL_law_247 ?_
  refine va_sld hx hb hX hbl hbA hS hv2 dL_law_248 ?_
  refine lv_aload_n hx hb dL_law_249 rfl (lv_at hl 0 rfl) ?_
  refine lv_iload_n hx hb dL_law_250 rfl (lv_at hl 3 rfl) ?_
  refine lv_iconst (v := (3 : Int32)) hx hb dL_law_251 (by decide) ?_
  refine lv_iadd hx hb dL_law_252 ?_
  refine va_sld hx hb hX hbl hbA hS hv3 dL_law_253 ?_
  refine lw_ci (va_runV (As := [.int (xs ((nI i) + (1 : Int32)).toNatClampNeg), .int (xs ((nI i) + (2 : Int32)).toNatClampNeg), .int (xs ((nI i) + (3 : Int32)).toNatClampNeg)]) (rest := []) ⟨hx, hb, hml, hown, hts⟩ (spec_X6_orders l D cy ad H.size g a w (xs ((nI i) + (1 : Int32)).toNatClampNeg) (xs ((nI i) + (2 : Int32)).toNatClampNeg) (xs ((nI i) + (3 : Int32)).toNatClampNeg)) (cwV 3 hts gL_law_X6_orders rfl rfl rfl (by decide +kernel) ⟨Nat.le_of_ble_eq_true rfl, Nat.le_of_ble_eq_true rfl⟩) (ar_preV hN hK (b_c hP) (b_cD hD) (ci := 5) (q0 := 0) rfl rfl) rfl rfl hl.1 rfl (lv_room (Nat.le_of_ble_eq_true rfl)) dL_law_254 ⟨Nat.le_of_ble_eq_true rfl, Nat.le_of_ble_eq_true rfl⟩) hP hD hS hA (fun r1 g1 a1 w1 H locs q1 hP hS => ?_)
  have hD := bD (g1 := g1) (a1 := a1) (w1 := w1) (g2 := g') (a2 := a') hD
  refine lv_aload_n hx hb dL_law_257 rfl (lv_at hl 2 rfl) ?_
  refine lv_aload_n hx hb dL_law_258 rfl (lv_at hl 0 rfl) ?_
  refine lv_iload_n hx hb dL_law_259 rfl (lv_at hl 3 rfl) ?_
  refine lv_iconst (v := (1 : Int32)) hx hb dL_law_260 (by decide) ?_
  refine lv_iadd hx hb dL_law_261 ?_
  refine va_sld hx hb hX hbl hbA hS hv1 dL_law_262 ?_
  refine lv_aload_n hx hb dL_law_263 rfl (lv_at hl 0 rfl) ?_
  refine lv_iload_n hx hb dL_law_264 rfl (lv_at hl 3 rfl) ?_
  refine lv_iconst (v := (2 : Int32)) hx hb dL_law_265 (by decide) ?_
  refine lv_iadd hx hb dL_law_266 ?_
  refine va_sld hx hb hX hbl hbA hS hv2 dL_law_267 ?_
  refine lv_aload_n hx hb dL_law_268 rfl (lv_at hl 0 rfl) ?_
  refine lv_iload_n hx hb dL_law_269 rfl (lv_at hl 3 rfl) ?_
  refine lv_iconst (v := (3 : Int32)) hx hb dL_law_270 (by decide) ?_
  refine lv_iadd hx hb dL_law_271 ?_
  refine va_sld hx hb hX hbl hbA hS hv3 dL_law_272 ?_
  refine lw_mi (va_runV (As := [.int (xs ((nI i) + (1 : Int32)).toNatClampNeg), .int (xs ((nI i) + (2 : Int32)).toNatClampNeg), .int (xs ((nI i) + (3 : Int32)).toNatClampNeg)]) (rest := [.int r1]) ⟨hx, hb, hml, hown, hts⟩ (spec_X7_orders l D cy ad' H.size g' a' (xs ((nI i) + (1 : Int32)).toNatClampNeg) (xs ((nI i) + (2 : Int32)).toNatClampNeg) (xs ((nI i) + (3 : Int32)).toNatClampNeg)) (cwV 3 hts gL_law_X7_orders rfl rfl rfl (by decide +kernel) ⟨Nat.le_of_ble_eq_true rfl, Nat.le_of_ble_eq_true rfl⟩) (ar_preV hN hK (b_m hP) (b_mD hD) (ci := 6) (q0 := 0) rfl rfl) rfl rfl hl.1 rfl (lv_room (Nat.le_of_ble_eq_true rfl)) dL_law_273 ⟨Nat.le_of_ble_eq_true rfl, Nat.le_of_ble_eq_true rfl⟩) hP hD hS hA (fun r2 g2 a2 H locs q2 hP hS => ?_)
  refine lv_icmp_eq (tgt := 1387) hx hb dL_law_276 (by decide) (fun c1 => ?_) (fun c1 => ?_)
  · exact kk _ _ _ _ _ _ _ hP hS (eq_orders hj hR q1 q2).2
  · exact absurd (eq_orders hj hR q1 q2).1 c1
set_option maxHeartbeats 4000000 in
set_option maxRecDepth 100000 in
theorem law_makers {p : Program} {l : Launch} {e : Env} {s : State} {m : MethodId} {below : List Frame} {meth : Method} {c : Code} {b L : Nat} {xs : Nat → Int32} (hL : L ≤ 2560) (C0 : lw_At p s m meth c b L xs) {D : va_G} {cy : Nat → ClassId} {ad ad' : Nat → Nat} (hK : va_K D vwCl (cyT cy) s) (hN : NestOk s) {i j : Nat} (hi : i + 5 ≤ L) (hj : j < 80000) {g : Gs} {a : As} {w : Ws} {g' : Gs} {a' : As} {H : Heap} {locs : List Loc} (hP : va_P D vwCl (bW ad ad' cy g a w g' a') H) (hD : va_D (fun q : Nat => s.heap.size ≤ q) (bW ad ad' cy g a w g' a')) (hS : va_S (fun q : Nat => s.heap.size ≤ q) s.heap H locs) (hR : Rel j g a w g' a') {ls : Array Slot} (hl : lv_has ls 4 [(0, .ref b), (1, .ref (ad 0)), (2, .ref (ad' 0)), (3, .int (nI i))]) (kk : LawK p l e s m below meth c b D cy ad ad' j ls) : W p l e room_1 s m #[Value.ref b] below meth c H locs 40 103431 (lw_Z below #[Value.ref b] s) (F0 m 281 ls []) := by
  obtain ⟨hx, hb, hr, hml, hown, hts0, hX, hbl, hlocks, hgv⟩ := C0
  have hts : ∀ w ∈ wsL_law, w.before #[Value.ref b] s = true := fun w h => hts0 w (wsL_law_in w h)
  have hown : s.vm.findClass RL = some m.cls := hown
  have hA : ∀ q : Nat, s.heap.size ≤ q → (fun q : Nat => s.heap.size ≤ q) q := fun _ h => h
  have hbA : ¬ (fun q : Nat => s.heap.size ≤ q) b := Nat.not_le.mpr hbl
  have hv : ∀ k : Nat, 1 ≤ k → k < 5 → vp_in (nI i + nI k) L := fun k h1 h2 => by rw [nI_add]; exact vp_in_nI (by omega) (by omega)
  have hv1 : vp_in (nI i + (1 : Int32)) L := hv 1 (by decide) (by decide)
  have hv2 : vp_in (nI i + (2 : Int32)) L := hv 2 (by decide) (by decide)
  have hv3 : vp_in (nI i + (3 : Int32)) L := hv 3 (by decide) (by decide)
  have hv4 : vp_in (nI i + (4 : Int32)) L := hv 4 (by decide) (by decide)
  refine lv_aload_n hx hb dL_law_281 rfl (lv_at hl 1 rfl) ?_
  refine lv_aload_n hx hb dL_law_282 rfl (lv_at hl 0 rfl) ?_
  refine lv_iload_n hx hb dL_law_283 rfl (lv_at hl 3 rfl) ?_
  refine lv_iconst (v := (1 : Int32)) hx hb dL_law_284 (by decide) ?_
  refine lv_iadd hx hb dL_law_285 ?_
  refine va_sld hx hb hX hbl hbA hS hv1 dL_law_286 ?_
  refine lv_aload_n hx hb dL_law_287 rfl (lv_at hl 0 rfl) ?_
  refine lv_iload_n hx hb dL_law_288 rfl (lv_at hl 3 rfl) ?_
  refine lv_iconst (v := (2 : Int32)) hx hb dL_law_289 (by decide) ?_
  refine lv_iadd hx hb dL_law_290 ?_
  refine va_sld hx hb hX hbl hbA hS hv2 dL_law_291 ?_
  refine lw_ci (va_runV (As := [.int (xs ((nI i) + (1 : Int32)).toNatClampNeg), .int (xs ((nI i) + (2 : Int32)).toNatClampNeg)]) (rest := []) ⟨hx, hb, hml, hown, hts⟩ (spec_X6_makers l D cy ad H.size g a w (xs ((nI i) + (1 : Int32)).toNatClampNeg) (xs ((nI i) + (2 : Int32)).toNatClampNeg)) (cwV 2 hts gL_law_X6_makers rfl rfl rfl (by decide +kernel) ⟨Nat.le_of_ble_eq_true rfl, Nat.le_of_ble_eq_true rfl⟩) (ar_preV hN hK (b_c hP) (b_cD hD) (ci := 5) (q0 := 0) rfl rfl) rfl rfl hl.1 rfl (lv_room (Nat.le_of_ble_eq_true rfl)) dL_law_292 ⟨Nat.le_of_ble_eq_true rfl, Nat.le_of_ble_eq_true rfl⟩) hP hD hS hA (fun r1 g1 a1 w1 H locs q1 hP hS => ?_)
  have hD := bD (g1 := g1) (a1 := a1) (w1 := w1) (g2 := g') (a2 := a') hD
  refine lv_aload_n hx hb dL_law_295 rfl (lv_at hl 2 rfl) ?_
  refine lv_aload_n hx hb dL_law_296 rfl (lv_at hl 0 rfl) ?_
  refine lv_iload_n hx hb dL_law_297 rfl (lv_at hl 3 rfl) ?_
  refine lv_iconst (v := (1 : Int32)) hx hb dL_law_298 (by decide) ?_
  refine lv_iadd hx hb dL_law_299 ?_
  refine va_sld hx hb hX hbl hbA hS hv1 dL_law_300 ?_
  refine lv_aload_n hx hb dL_law_301 rfl (lv_at hl 0 rfl) ?_
  refine lv_iload_n hx hb dL_law_302 rfl (lv_at hl 3 rfl) ?_
  refine lv_iconst (v := (2 : Int32)) hx hb dL_law_303 (by decide) ?_
  refine lv_iadd hx hb dL_law_304 ?_
  refine va_sld hx hb hX hbl hbA hS hv2 dL_law_305 ?_
  refine lw_mi (va_runV (As := [.int (xs ((nI i) + (1 : Int32)).toNatClampNeg), .int (xs ((nI i) + (2 : Int32)).toNatClampNeg)]) (rest := [.int r1]) ⟨hx, hb, hml, hown, hts⟩ (spec_X7_makers l D cy ad' H.size g' a' (xs ((nI i) + (1 : Int32)).toNatClampNeg) (xs ((nI i) + (2 : Int32)).toNatClampNeg)) (cwV 2 hts gL_law_X7_makers rfl rfl rfl (by decide +kernel) ⟨Nat.le_of_ble_eq_true rfl, Nat.le_of_ble_eq_true rfl⟩) (ar_preV hN hK (b_m hP) (b_mD hD) (ci := 6) (q0 := 0) rfl rfl) rfl rfl hl.1 rfl (lv_room (Nat.le_of_ble_eq_true rfl)) dL_law_306 ⟨Nat.le_of_ble_eq_true rfl, Nat.le_of_ble_eq_true rfl⟩) hP hD hS hA (fun r2 g2 a2 H locs q2 hP hS => ?_)
  refine lv_icmp_eq (tgt := 1387) hx hb dL_law_309 (by decide) (fun c1 => ?_) (fun c1 => ?_)
  · exact kk _ _ _ _ _ _ _ hP hS (eq_makers hj hR q1 q2).2
  · exact absurd (eq_makers hj hR q1 q2).1 c1
set_option maxHeartbeats 4000000 in
set_option maxRecDepth 100000 in
theorem law_power {p : Program} {l : Launch} {e : Env} {s : State} {m : MethodId} {below : List Frame} {meth : Method} {c : Code} {b L : Nat} {xs : Nat → Int32} (hL : L ≤ 2560) (C0 : lw_At p s m meth c b L xs) {D : va_G} {cy : Nat → ClassId} {ad ad' : Nat → Nat} (hK : va_K D vwCl (cyT cy) s) (hN : NestOk s) {i j : Nat} (hi : i + 5 ≤ L) (hj : j < 80000) {g : Gs} {a : As} {w : Ws} {g' : Gs} {a' : As} {H : Heap} {locs : List Loc} (hP : va_P D vwCl (bW ad ad' cy g a w g' a') H) (hD : va_D (fun q : Nat => s.heap.size ≤ q) (bW ad ad' cy g a w g' a')) (hS : va_S (fun q : Nat => s.heap.size ≤ q) s.heap H locs) (hR : Rel j g a w g' a') {ls : Array Slot} (hl : lv_has ls 4 [(0, .ref b), (1, .ref (ad 0)), (2, .ref (ad' 0)), (3, .int (nI i))]) (kk : LawK p l e s m below meth c b D cy ad ad' j ls) : W p l e room_1 s m #[Value.ref b] below meth c H locs 40 103431 (lw_Z below #[Value.ref b] s) (F0 m 314 ls []) := by
  obtain ⟨hx, hb, hr, hml, hown, hts0, hX, hbl, hlocks, hgv⟩ := C0
  have hts : ∀ w ∈ wsL_law, w.before #[Value.ref b] s = true := fun w h => hts0 w (wsL_law_in w h)
  have hown : s.vm.findClass RL = some m.cls := hown
  have hA : ∀ q : Nat, s.heap.size ≤ q → (fun q : Nat => s.heap.size ≤ q) q := fun _ h => h
  have hbA : ¬ (fun q : Nat => s.heap.size ≤ q) b := Nat.not_le.mpr hbl
  have hv : ∀ k : Nat, 1 ≤ k → k < 5 → vp_in (nI i + nI k) L := fun k h1 h2 => by rw [nI_add]; exact vp_in_nI (by omega) (by omega)
  have hv1 : vp_in (nI i + (1 : Int32)) L := hv 1 (by decide) (by decide)
  have hv2 : vp_in (nI i + (2 : Int32)) L := hv 2 (by decide) (by decide)
  have hv3 : vp_in (nI i + (3 : Int32)) L := hv 3 (by decide) (by decide)
  have hv4 : vp_in (nI i + (4 : Int32)) L := hv 4 (by decide) (by decide)
  have hcl : Cond.constantLong RL 31 (4294967295) ∈ wsL_law := List.mem_of_getElem? (i := 6) rfl
  refine lv_aload_n hx hb dL_law_314 rfl (lv_at hl 1 rfl) ?_
  refine lv_aload_n hx hb dL_law_315 rfl (lv_at hl 0 rfl) ?_
  refine lv_iload_n hx hb dL_law_316 rfl (lv_at hl 3 rfl) ?_
  refine lv_iconst (v := (1 : Int32)) hx hb dL_law_317 (by decide) ?_
  refine lv_iadd hx hb dL_law_318 ?_
  refine va_sld hx hb hX hbl hbA hS hv1 dL_law_319 ?_
  refine lv_aload_n hx hb dL_law_320 rfl (lv_at hl 0 rfl) ?_
  refine lv_iload_n hx hb dL_law_321 rfl (lv_at hl 3 rfl) ?_
  refine lv_iconst (v := (2 : Int32)) hx hb dL_law_322 (by decide) ?_
  refine lv_iadd hx hb dL_law_323 ?_
  refine va_sld hx hb hX hbl hbA hS hv2 dL_law_324 ?_
  refine lv_aload_n hx hb dL_law_325 rfl (lv_at hl 0 rfl) ?_
  refine lv_iload_n hx hb dL_law_326 rfl (lv_at hl 3 rfl) ?_
  refine lv_iconst (v := (3 : Int32)) hx hb dL_law_327 (by decide) ?_
  refine lv_iadd hx hb dL_law_328 ?_
  refine va_sld hx hb hX hbl hbA hS hv3 dL_law_329 ?_
  refine lv_i2l (v := (xs ((nI i) + (3 : Int32)).toNatClampNeg).toInt64) hx hb dL_law_330 rfl ?_
  refine lv_bipush (v := (32 : Int32)) hx hb dL_law_331 (by decide) ?_
  refine lv_lshl (v := ((xs ((nI i) + (3 : Int32)).toNatClampNeg).toInt64) <<< ((32 : Int32).toInt64 &&& 63)) hx hb dL_law_333 rfl ?_
  refine lv_aload_n hx hb dL_law_334 rfl (lv_at hl 0 rfl) ?_
  refine lv_iload_n hx hb dL_law_335 rfl (lv_at hl 3 rfl) ?_
  refine lv_iconst (v := (4 : Int32)) hx hb dL_law_336 (by decide) ?_
  refine lv_iadd hx hb dL_law_337 ?_
  refine va_sld hx hb hX hbl hbA hS hv4 dL_law_338 ?_
  refine lv_i2l (v := (xs ((nI i) + (4 : Int32)).toNatClampNeg).toInt64) hx hb dL_law_339 rfl ?_
  refine lv_ldc2 (v := (4294967295 : Int64)) hx hb hown (hts (.constantLong RL 31 (4294967295)) hcl) dL_law_340 ?_
  refine lv_land hx hb dL_law_343 ?_
  refine lv_lor hx hb dL_law_344 ?_
  refine cp_i (va_runV (As := [.int (xs ((nI i) + (1 : Int32)).toNatClampNeg), .int (xs ((nI i) + (2 : Int32)).toNatClampNeg), .long ((((xs ((nI i) + (3 : Int32)).toNatClampNeg).toInt64) <<< ((32 : Int32).toInt64 &&& 63)) ||| (((xs ((nI i) + (4 : Int32)).toNatClampNeg).toInt64) &&& (4294967295 : Int64)))]) (rest := []) ⟨hx, hb, hml, hown, hts⟩ (spec_X6_power l D cy ad H.size g a w (xs ((nI i) + (1 : Int32)).toNatClampNeg) (xs ((nI i) + (2 : Int32)).toNatClampNeg) ((((xs ((nI i) + (3 : Int32)).toNatClampNeg).toInt64) <<< ((32 : Int32).toInt64 &&& 63)) ||| (((xs ((nI i) + (4 : Int32)).toNatClampNeg).toInt64) &&& (4294967295 : Int64)))) (cwV 3 hts gL_law_X6_power rfl rfl rfl (by decide +kernel) ⟨Nat.le_of_ble_eq_true rfl, Nat.le_of_ble_eq_true rfl⟩) (ar_preV hN hK (b_c hP) (b_cD hD) (ci := 5) (q0 := 0) rfl rfl) rfl rfl hl.1 rfl (lv_room (Nat.le_of_ble_eq_true rfl)) dL_law_345 ⟨Nat.le_of_ble_eq_true rfl, Nat.le_of_ble_eq_true rfl⟩) (fun r1 q1 => ?_)
  refine lv_aload_n hx hb dL_law_348 rfl (lv_at hl 2 rfl) ?_
  refine lv_aload_n hx hb dL_law_349 rfl (lv_at hl 0 rfl) ?_
  refine lv_iload_n hx hb dL_law_350 rfl (lv_at hl 3 rfl) ?_
  refine lv_iconst (v := (1 : Int32)) hx hb dL_law_351 (by decide) ?_
  refine lv_iadd hx hb dL_law_352 ?_
  refine va_sld hx hb hX hbl hbA hS hv1 dL_law_353 ?_
  refine lv_aload_n hx hb dL_law_354 rfl (lv_at hl 0 rfl) ?_
  refine lv_iload_n hx hb dL_law_355 rfl (lv_at hl 3 rfl) ?_
  refine lv_iconst (v := (2 : Int32)) hx hb dL_law_356 (by decide) ?_
  refine lv_iadd hx hb dL_law_357 ?_
  refine va_sld hx hb hX hbl hbA hS hv2 dL_law_358 ?_
  refine lv_aload_n hx hb dL_law_359 rfl (lv_at hl 0 rfl) ?_
  refine lv_iload_n hx hb dL_law_360 rfl (lv_at hl 3 rfl) ?_
  refine lv_iconst (v := (3 : Int32)) hx hb dL_law_361 (by decide) ?_
  refine lv_iadd hx hb dL_law_362 ?_
  refine va_sld hx hb hX hbl hbA hS hv3 dL_law_363 ?_
  refine lv_i2l (v := (xs ((nI i) + (3 : Int32)).toNatClampNeg).toInt64) hx hb dL_law_364 rfl ?_
  refine lv_bipush (v := (32 : Int32)) hx hb dL_law_365 (by decide) ?_
  refine lv_lshl (v := ((xs ((nI i) + (3 : Int32)).toNatClampNeg).toInt64) <<< ((32 : Int32).toInt64 &&& 63)) hx hb dL_law_367 rfl ?_
  refine lv_aload_n hx hb dL_law_368 rfl (lv_at hl 0 rfl) ?_
  refine lv_iload_n hx hb dL_law_369 rfl (lv_at hl 3 rfl) ?_
  refine lv_iconst (v := (4 : Int32)) hx hb dL_law_370 (by decide) ?_
  refine lv_iadd hx hb dL_law_371 ?_
  refine va_sld hx hb hX hbl hbA hS hv4 dL_law_372 ?_
  refine lv_i2l (v := (xs ((nI i) + (4 : Int32)).toNatClampNeg).toInt64) hx hb dL_law_373 rfl ?_
  refine lv_ldc2 (v := (4294967295 : Int64)) hx hb hown (hts (.constantLong RL 31 (4294967295)) hcl) dL_law_374 ?_
  refine lv_land hx hb dL_law_377 ?_
  refine lv_lor hx hb dL_law_378 ?_
  refine cp_i (va_runV (As := [.int (xs ((nI i) + (1 : Int32)).toNatClampNeg), .int (xs ((nI i) + (2 : Int32)).toNatClampNeg), .long ((((xs ((nI i) + (3 : Int32)).toNatClampNeg).toInt64) <<< ((32 : Int32).toInt64 &&& 63)) ||| (((xs ((nI i) + (4 : Int32)).toNatClampNeg).toInt64) &&& (4294967295 : Int64)))]) (rest := [.int r1]) ⟨hx, hb, hml, hown, hts⟩ (spec_X7_power l D cy ad' H.size g' a' (xs ((nI i) + (1 : Int32)).toNatClampNeg) (xs ((nI i) + (2 : Int32)).toNatClampNeg) ((((xs ((nI i) + (3 : Int32)).toNatClampNeg).toInt64) <<< ((32 : Int32).toInt64 &&& 63)) ||| (((xs ((nI i) + (4 : Int32)).toNatClampNeg).toInt64) &&& (4294967295 : Int64)))) (cwV 3 hts gL_law_X7_power rfl rfl rfl (by decide +kernel) ⟨Nat.le_of_ble_eq_true rfl, Nat.le_of_ble_eq_true rfl⟩) (ar_preV hN hK (b_m hP) (b_mD hD) (ci := 6) (q0 := 0) rfl rfl) rfl rfl hl.1 rfl (lv_room (Nat.le_of_ble_eq_true rfl)) dL_law_379 ⟨Nat.le_of_ble_eq_true rfl, Nat.le_of_ble_eq_true rfl⟩) (fun r2 q2 => ?_)
  refine lv_icmp_eq (tgt := 1387) hx hb dL_law_382 (by decide) (fun c1 => ?_) (fun c1 => ?_)
  · exact kk _ _ _ _ _ _ _ hP hS (eq_power hj hR q1 q2).2
  · exact absurd (eq_power hj hR q1 q2).1 c1
set_option maxHeartbeats 4000000 in
set_option maxRecDepth 100000 in
theorem law_log {p : Program} {l : Launch} {e : Env} {s : State} {m : MethodId} {below : List Frame} {meth : Method} {c : Code} {b L : Nat} {xs : Nat → Int32} (hL : L ≤ 2560) (C0 : lw_At p s m meth c b L xs) {D : va_G} {cy : Nat → ClassId} {ad ad' : Nat → Nat} (hK : va_K D vwCl (cyT cy) s) (hN : NestOk s) {i j : Nat} (hi : i + 5 ≤ L) (hj : j < 80000) {g : Gs} {a : As} {w : Ws} {g' : Gs} {a' : As} {H : Heap} {locs : List Loc} (hP : va_P D vwCl (bW ad ad' cy g a w g' a') H) (hD : va_D (fun q : Nat => s.heap.size ≤ q) (bW ad ad' cy g a w g' a')) (hS : va_S (fun q : Nat => s.heap.size ≤ q) s.heap H locs) (hR : Rel j g a w g' a') {ls : Array Slot} (hl : lv_has ls 4 [(0, .ref b), (1, .ref (ad 0)), (2, .ref (ad' 0)), (3, .int (nI i))]) (kk : LawK p l e s m below meth c b D cy ad ad' j ls) : W p l e room_1 s m #[Value.ref b] below meth c H locs 40 103431 (lw_Z below #[Value.ref b] s) (F0 m 387 ls []) := by
  obtain ⟨hx, hb, hr, hml, hown, hts0, hX, hbl, hlocks, hgv⟩ := C0
  have hts : ∀ w ∈ wsL_law, w.before #[Value.ref b] s = true := fun w h => hts0 w (wsL_law_in w h)
  have hown : s.vm.findClass RL = some m.cls := hown
  have hA : ∀ q : Nat, s.heap.size ≤ q → (fun q : Nat => s.heap.size ≤ q) q := fun _ h => h
  have hbA : ¬ (fun q : Nat => s.heap.size ≤ q) b := Nat.not_le.mpr hbl
  have hv : ∀ k : Nat, 1 ≤ k → k < 5 → vp_in (nI i + nI k) L := fun k h1 h2 => by rw [nI_add]; exact vp_in_nI (by omega) (by omega)
  have hv1 : vp_in (nI i + (1 : Int32)) L := hv 1 (by decide) (by decide)
  have hv2 : vp_in (nI i + (2 : Int32)) L := hv 2 (by decide) (by decide)
  have hv3 : vp_in (nI i + (3 : Int32)) L := hv 3 (by decide) (by decide)
  have hv4 : vp_in (nI i + (4 : Int32)) L := hv 4 (by decide) (by decide)
  refine lv_aload_n hx hb dL_law_387 rfl (lv_at hl 1 rfl) ?_
  refine lv_aload_n hx hb dL_law_388 rfl (lv_at hl 0 rfl) ?_
  refine lv_iload_n hx hb dL_law_389 rfl (lv_at hl 3 rfl) ?_
  refine lv_iconst (v := (1 : Int32)) hx hb dL_law_390 (by decide) ?_
  refine lv_iadd hx hb dL_law_391 ?_
  refine va_sld hx hb hX hbl hbA hS hv1 dL_law_392 ?_
  refine lv_aload_n hx hb dL_law_393 rfl (lv_at hl 0 rfl) ?_
  refine lv_iload_n hx hb dL_law_394 rfl (lv_at hl 3 rfl) ?_
  refine lv_iconst (v := (2 : Int32)) hx hb dL_law_395 (by decide) ?_
  refine lv_iadd hx hb dL_law_396 ?_
  refine va_sld hx hb hX hbl hbA hS hv2 dL_law_397 ?_
  refine lv_aload_n hx hb dL_law_398 rfl (lv_at hl 0 rfl) ?_
  refine lv_iload_n hx hb dL_law_399 rfl (lv_at hl 3 rfl) ?_
  refine lv_iconst (v := (3 : Int32)) hx hb dL_law_400 (by decide) ?_
  refine lv_iadd hx hb dL_law_401 ?_
  refine va_sld hx hb hX hbl hbA hS hv3 dL_law_402 ?_
  refine cp_i (va_runV (As := [.int (xs ((nI i) + (1 : Int32)).toNatClampNeg), .int (xs ((nI i) + (2 : Int32)).toNatClampNeg), .int (xs ((nI i) + (3 : Int32)).toNatClampNeg)]) (rest := []) ⟨hx, hb, hml, hown, hts⟩ (spec_X6_log l D cy ad H.size g a w (xs ((nI i) + (1 : Int32)).toNatClampNeg) (xs ((nI i) + (2 : Int32)).toNatClampNeg) (xs ((nI i) + (3 : Int32)).toNatClampNeg)) (cwV 3 hts gL_law_X6_log rfl rfl rfl (by decide +kernel) ⟨Nat.le_of_ble_eq_true rfl, Nat.le_of_ble_eq_true rfl⟩) (ar_preV hN hK (b_c hP) (b_cD hD) (ci := 5) (q0 := 0) rfl rfl) rfl rfl hl.1 rfl (lv_room (Nat.le_of_ble_eq_true rfl)) dL_law_403 ⟨Nat.le_of_ble_eq_true rfl, Nat.le_of_ble_eq_true rfl⟩) (fun r1 q1 => ?_)
  refine lv_aload_n hx hb dL_law_406 rfl (lv_at hl 2 rfl) ?_
  refine lv_aload_n hx hb dL_law_407 rfl (lv_at hl 0 rfl) ?_
  refine lv_iload_n hx hb dL_law_408 rfl (lv_at hl 3 rfl) ?_
  refine lv_iconst (v := (1 : Int32)) hx hb dL_law_409 (by decide) ?_
  refine lv_iadd hx hb dL_law_410 ?_
  refine va_sld hx hb hX hbl hbA hS hv1 dL_law_411 ?_
  refine lv_aload_n hx hb dL_law_412 rfl (lv_at hl 0 rfl) ?_
  refine lv_iload_n hx hb dL_law_413 rfl (lv_at hl 3 rfl) ?_
  refine lv_iconst (v := (2 : Int32)) hx hb dL_law_414 (by decide) ?_
  refine lv_iadd hx hb dL_law_415 ?_
  refine va_sld hx hb hX hbl hbA hS hv2 dL_law_416 ?_
  refine lv_aload_n hx hb dL_law_417 rfl (lv_at hl 0 rfl) ?_
  refine lv_iload_n hx hb dL_law_418 rfl (lv_at hl 3 rfl) ?_
  refine lv_iconst (v := (3 : Int32)) hx hb dL_law_419 (by decide) ?_
  refine lv_iadd hx hb dL_law_420 ?_
  refine va_sld hx hb hX hbl hbA hS hv3 dL_law_421 ?_
  refine cp_i (va_runV (As := [.int (xs ((nI i) + (1 : Int32)).toNatClampNeg), .int (xs ((nI i) + (2 : Int32)).toNatClampNeg), .int (xs ((nI i) + (3 : Int32)).toNatClampNeg)]) (rest := [.int r1]) ⟨hx, hb, hml, hown, hts⟩ (spec_X7_log l D cy ad' H.size g' a' (xs ((nI i) + (1 : Int32)).toNatClampNeg) (xs ((nI i) + (2 : Int32)).toNatClampNeg) (xs ((nI i) + (3 : Int32)).toNatClampNeg)) (cwV 3 hts gL_law_X7_log rfl rfl rfl (by decide +kernel) ⟨Nat.le_of_ble_eq_true rfl, Nat.le_of_ble_eq_true rfl⟩) (ar_preV hN hK (b_m hP) (b_mD hD) (ci := 6) (q0 := 0) rfl rfl) rfl rfl hl.1 rfl (lv_room (Nat.le_of_ble_eq_true rfl)) dL_law_422 ⟨Nat.le_of_ble_eq_true rfl, Nat.le_of_ble_eq_true rfl⟩) (fun r2 q2 => ?_)
  refine lv_icmp_eq (tgt := 1387) hx hb dL_law_425 (by decide) (fun c1 => ?_) (fun c1 => ?_)
  · exact kk _ _ _ _ _ _ _ hP hS (eq_log hj hR q1 q2).2
  · exact absurd (eq_log hj hR q1 q2).1 c1
set_option maxHeartbeats 4000000 in
set_option maxRecDepth 100000 in
theorem law_roots {p : Program} {l : Launch} {e : Env} {s : State} {m : MethodId} {below : List Frame} {meth : Method} {c : Code} {b L : Nat} {xs : Nat → Int32} (hL : L ≤ 2560) (C0 : lw_At p s m meth c b L xs) {D : va_G} {cy : Nat → ClassId} {ad ad' : Nat → Nat} (hK : va_K D vwCl (cyT cy) s) (hN : NestOk s) {i j : Nat} (hi : i + 5 ≤ L) (hj : j < 80000) {g : Gs} {a : As} {w : Ws} {g' : Gs} {a' : As} {H : Heap} {locs : List Loc} (hP : va_P D vwCl (bW ad ad' cy g a w g' a') H) (hD : va_D (fun q : Nat => s.heap.size ≤ q) (bW ad ad' cy g a w g' a')) (hS : va_S (fun q : Nat => s.heap.size ≤ q) s.heap H locs) (hR : Rel j g a w g' a') {ls : Array Slot} (hl : lv_has ls 4 [(0, .ref b), (1, .ref (ad 0)), (2, .ref (ad' 0)), (3, .int (nI i))]) (kk : LawK p l e s m below meth c b D cy ad ad' j ls) : W p l e room_1 s m #[Value.ref b] below meth c H locs 40 103431 (lw_Z below #[Value.ref b] s) (F0 m 430 ls []) := by
  obtain ⟨hx, hb, hr, hml, hown, hts0, hX, hbl, hlocks, hgv⟩ := C0
  have hts : ∀ w ∈ wsL_law, w.before #[Value.ref b] s = true := fun w h => hts0 w (wsL_law_in w h)
  have hown : s.vm.findClass RL = some m.cls := hown
  have hA : ∀ q : Nat, s.heap.size ≤ q → (fun q : Nat => s.heap.size ≤ q) q := fun _ h => h
  have hbA : ¬ (fun q : Nat => s.heap.size ≤ q) b := Nat.not_le.mpr hbl
  have hv : ∀ k : Nat, 1 ≤ k → k < 5 → vp_in (nI i + nI k) L := fun k h1 h2 => by rw [nI_add]; exact vp_in_nI (by omega) (by omega)
  have hv1 : vp_in (nI i + (1 : Int32)) L := hv 1 (by decide) (by decide)
  have hv2 : vp_in (nI i + (2 : Int32)) L := hv 2 (by decide) (by decide)
  have hv3 : vp_in (nI i + (3 : Int32)) L := hv 3 (by decide) (by decide)
  have hv4 : vp_in (nI i + (4 : Int32)) L := hv 4 (by decide) (by decide)
  refine lv_aload_n hx hb dL_law_430 rfl (lv_at hl 1 rfl) ?_
  refine lv_aload_n hx hb dL_law_431 rfl (lv_at hl 0 rfl) ?_
  refine lv_iload_n hx hb dL_law_432 rfl (lv_at hl 3 rfl) ?_
  refine lv_iconst (v := (1 : Int32)) hx hb dL_law_433 (by decide) ?_
  refine lv_iadd hx hb dL_law_434 ?_
  refine va_sld hx hb hX hbl hbA hS hv1 dL_law_435 ?_
  refine lv_aload_n hx hb dL_law_436 rfl (lv_at hl 0 rfl) ?_
  refine lv_iload_n hx hb dL_law_437 rfl (lv_at hl 3 rfl) ?_
  refine lv_iconst (v := (2 : Int32)) hx hb dL_law_438 (by decide) ?_
  refine lv_iadd hx hb dL_law_439 ?_
  refine va_sld hx hb hX hbl hbA hS hv2 dL_law_440 ?_
  refine lv_aload_n hx hb dL_law_441 rfl (lv_at hl 0 rfl) ?_
  refine lv_iload_n hx hb dL_law_442 rfl (lv_at hl 3 rfl) ?_
  refine lv_iconst (v := (3 : Int32)) hx hb dL_law_443 (by decide) ?_
  refine lv_iadd hx hb dL_law_444 ?_
  refine va_sld hx hb hX hbl hbA hS hv3 dL_law_445 ?_
  refine lv_aload_n hx hb dL_law_446 rfl (lv_at hl 0 rfl) ?_
  refine lv_iload_n hx hb dL_law_447 rfl (lv_at hl 3 rfl) ?_
  refine lv_iconst (v := (4 : Int32)) hx hb dL_law_448 (by decide) ?_
  refine lv_iadd hx hb dL_law_449 ?_
  refine va_sld hx hb hX hbl hbA hS hv4 dL_law_450 ?_
  refine cp_i (va_runV (As := [.int (xs ((nI i) + (1 : Int32)).toNatClampNeg), .int (xs ((nI i) + (2 : Int32)).toNatClampNeg), .int (xs ((nI i) + (3 : Int32)).toNatClampNeg), .int (xs ((nI i) + (4 : Int32)).toNatClampNeg)]) (rest := []) ⟨hx, hb, hml, hown, hts⟩ (spec_X6_roots l D cy ad H.size g a w (xs ((nI i) + (1 : Int32)).toNatClampNeg) (xs ((nI i) + (2 : Int32)).toNatClampNeg) (xs ((nI i) + (3 : Int32)).toNatClampNeg) (xs ((nI i) + (4 : Int32)).toNatClampNeg)) (cwV 4 hts gL_law_X6_roots rfl rfl rfl (by decide +kernel) ⟨Nat.le_of_ble_eq_true rfl, Nat.le_of_ble_eq_true rfl⟩) (ar_preV hN hK (b_c hP) (b_cD hD) (ci := 5) (q0 := 0) rfl rfl) rfl rfl hl.1 rfl (lv_room (Nat.le_of_ble_eq_true rfl)) dL_law_451 ⟨Nat.le_of_ble_eq_true rfl, Nat.le_of_ble_eq_true rfl⟩) (fun r1 q1 => ?_)
  refine lv_aload_n hx hb dL_law_454 rfl (lv_at hl 2 rfl) ?_
  refine lv_aload_n hx hb dL_law_455 rfl (lv_at hl 0 rfl) ?_
  refine lv_iload_n hx hb dL_law_456 rfl (lv_at hl 3 rfl) ?_
  refine lv_iconst (v := (1 : Int32)) hx hb dL_law_457 (by decide) ?_
  refine lv_iadd hx hb dL_law_458 ?_
  refine va_sld hx hb hX hbl hbA hS hv1 dL_law_459 ?_
  refine lv_aload_n hx hb dL_law_460 rfl (lv_at hl 0 rfl) ?_
  refine lv_iload_n hx hb dL_law_461 rfl (lv_at hl 3 rfl) ?_
  refine lv_iconst (v := (2 : Int32)) hx hb dL_law_462 (by decide) ?_
  refine lv_iadd hx hb dL_law_463 ?_
  refine va_sld hx hb hX hbl hbA hS hv2 dL_law_464 ?_
  refine lv_aload_n hx hb dL_law_465 rfl (lv_at hl 0 rfl) ?_
  refine lv_iload_n hx hb dL_law_466 rfl (lv_at hl 3 rfl) ?_
  refine lv_iconst (v := (3 : Int32)) hx hb dL_law_467 (by decide) ?_
  refine lv_iadd hx hb dL_law_468 ?_
  refine va_sld hx hb hX hbl hbA hS hv3 dL_law_469 ?_
  refine lv_aload_n hx hb dL_law_470 rfl (lv_at hl 0 rfl) ?_
  refine lv_iload_n hx hb dL_law_471 rfl (lv_at hl 3 rfl) ?_
  refine lv_iconst (v := (4 : Int32)) hx hb dL_law_472 (by decide) ?_
  refine lv_iadd hx hb dL_law_473 ?_
  refine va_sld hx hb hX hbl hbA hS hv4 dL_law_474 ?_
  refine cp_i (va_runV (As := [.int (xs ((nI i) + (1 : Int32)).toNatClampNeg), .int (xs ((nI i) + (2 : Int32)).toNatClampNeg), .int (xs ((nI i) + (3 : Int32)).toNatClampNeg), .int (xs ((nI i) + (4 : Int32)).toNatClampNeg)]) (rest := [.int r1]) ⟨hx, hb, hml, hown, hts⟩ (spec_X7_roots l D cy ad' H.size g' a' (xs ((nI i) + (1 : Int32)).toNatClampNeg) (xs ((nI i) + (2 : Int32)).toNatClampNeg) (xs ((nI i) + (3 : Int32)).toNatClampNeg) (xs ((nI i) + (4 : Int32)).toNatClampNeg)) (cwV 4 hts gL_law_X7_roots rfl rfl rfl (by decide +kernel) ⟨Nat.le_of_ble_eq_true rfl, Nat.le_of_ble_eq_true rfl⟩) (ar_preV hN hK (b_m hP) (b_mD hD) (ci := 6) (q0 := 0) rfl rfl) rfl rfl hl.1 rfl (lv_room (Nat.le_of_ble_eq_true rfl)) dL_law_475 ⟨Nat.le_of_ble_eq_true rfl, Nat.le_of_ble_eq_true rfl⟩) (fun r2 q2 => ?_)
  refine lv_icmp_eq (tgt := 1387) hx hb dL_law_478 (by decide) (fun c1 => ?_) (fun c1 => ?_)
  · exact kk _ _ _ _ _ _ _ hP hS (eq_roots hj hR q1 q2).2
  · exact absurd (eq_roots hj hR q1 q2).1 c1
set_option maxHeartbeats 4000000 in
set_option maxRecDepth 100000 in
theorem law_squares {p : Program} {l : Launch} {e : Env} {s : State} {m : MethodId} {below : List Frame} {meth : Method} {c : Code} {b L : Nat} {xs : Nat → Int32} (hL : L ≤ 2560) (C0 : lw_At p s m meth c b L xs) {D : va_G} {cy : Nat → ClassId} {ad ad' : Nat → Nat} (hK : va_K D vwCl (cyT cy) s) (hN : NestOk s) {i j : Nat} (hi : i + 5 ≤ L) (hj : j < 80000) {g : Gs} {a : As} {w : Ws} {g' : Gs} {a' : As} {H : Heap} {locs : List Loc} (hP : va_P D vwCl (bW ad ad' cy g a w g' a') H) (hD : va_D (fun q : Nat => s.heap.size ≤ q) (bW ad ad' cy g a w g' a')) (hS : va_S (fun q : Nat => s.heap.size ≤ q) s.heap H locs) (hR : Rel j g a w g' a') {ls : Array Slot} (hl : lv_has ls 4 [(0, .ref b), (1, .ref (ad 0)), (2, .ref (ad' 0)), (3, .int (nI i))]) (kk : LawK p l e s m below meth c b D cy ad ad' j ls) : W p l e room_1 s m #[Value.ref b] below meth c H locs 40 103431 (lw_Z below #[Value.ref b] s) (F0 m 483 ls []) := by
  obtain ⟨hx, hb, hr, hml, hown, hts0, hX, hbl, hlocks, hgv⟩ := C0
  have hts : ∀ w ∈ wsL_law, w.before #[Value.ref b] s = true := fun w h => hts0 w (wsL_law_in w h)
  have hown : s.vm.findClass RL = some m.cls := hown
  have hA : ∀ q : Nat, s.heap.size ≤ q → (fun q : Nat => s.heap.size ≤ q) q := fun _ h => h
  have hbA : ¬ (fun q : Nat => s.heap.size ≤ q) b := Nat.not_le.mpr hbl
  have hv : ∀ k : Nat, 1 ≤ k → k < 5 → vp_in (nI i + nI k) L := fun k h1 h2 => by rw [nI_add]; exact vp_in_nI (by omega) (by omega)
  have hv1 : vp_in (nI i + (1 : Int32)) L := hv 1 (by decide) (by decide)
  have hv2 : vp_in (nI i + (2 : Int32)) L := hv 2 (by decide) (by decide)
  have hv3 : vp_in (nI i + (3 : Int32)) L := hv 3 (by decide) (by decide)
  have hv4 : vp_in (nI i + (4 : Int32)) L := hv 4 (by decide) (by decide)
  refine lv_aload_n hx hb dL_law_483 rfl (lv_at hl 1 rfl) ?_
  refine lv_aload_n hx hb dL_law_484 rfl (lv_at hl 0 rfl) ?_
  refine lv_iload_n hx hb dL_law_485 rfl (lv_at hl 3 rfl) ?_
  refine lv_iconst (v := (1 : Int32)) hx hb dL_law_486 (by decide) ?_
  refine lv_iadd hx hb dL_law_487 ?_
  refine va_sld hx hb hX hbl hbA hS hv1 dL_law_488 ?_
  refine lv_aload_n hx hb dL_law_489 rfl (lv_at hl 0 rfl) ?_
  refine lv_iload_n hx hb dL_law_490 rfl (lv_at hl 3 rfl) ?_
  refine lv_iconst (v := (2 : Int32)) hx hb dL_law_491 (by decide) ?_
  refine lv_iadd hx hb dL_law_492 ?_
  refine va_sld hx hb hX hbl hbA hS hv2 dL_law_493 ?_
  refine lw_ci (va_runV (As := [.int (xs ((nI i) + (1 : Int32)).toNatClampNeg), .int (xs ((nI i) + (2 : Int32)).toNatClampNeg)]) (rest := []) ⟨hx, hb, hml, hown, hts⟩ (spec_X6_squares l D cy ad H.size g a w (xs ((nI i) + (1 : Int32)).toNatClampNeg) (xs ((nI i) + (2 : Int32)).toNatClampNeg)) (cwV 2 hts gL_law_X6_squares rfl rfl rfl (by decide +kernel) ⟨Nat.le_of_ble_eq_true rfl, Nat.le_of_ble_eq_true rfl⟩) (ar_preV hN hK (b_c hP) (b_cD hD) (ci := 5) (q0 := 0) rfl rfl) rfl rfl hl.1 rfl (lv_room (Nat.le_of_ble_eq_true rfl)) dL_law_494 ⟨Nat.le_of_ble_eq_true rfl, Nat.le_of_ble_eq_true rfl⟩) hP hD hS hA (fun r1 g1 a1 w1 H locs q1 hP hS => ?_)
  have hD := bD (g1 := g1) (a1 := a1) (w1 := w1) (g2 := g') (a2 := a') hD
  refine lv_aload_n hx hb dL_law_497 rfl (lv_at hl 2 rfl) ?_
  refine lv_aload_n hx hb dL_law_498 rfl (lv_at hl 0 rfl) ?_
  refine lv_iload_n hx hb dL_law_499 rfl (lv_at hl 3 rfl) ?_
  refine lv_iconst (v := (1 : Int32)) hx hb dL_law_500 (by decide) ?_
  refine lv_iadd hx hb dL_law_501 ?_
  refine va_sld hx hb hX hbl hbA hS hv1 dL_law_502 ?_
  refine lv_aload_n hx hb dL_law_503 rfl (lv_at hl 0 rfl) ?_
  refine lv_iload_n hx hb dL_law_504 rfl (lv_at hl 3 rfl) ?_
  refine lv_iconst (v := (2 : Int32)) hx hb dL_law_505 (by decide) ?_
  refine lv_iadd hx hb dL_law_506 ?_
  refine va_sld hx hb hX hbl hbA hS hv2 dL_law_507 ?_
  refine lw_mi (va_runV (As := [.int (xs ((nI i) + (1 : Int32)).toNatClampNeg), .int (xs ((nI i) + (2 : Int32)).toNatClampNeg)]) (rest := [.int r1]) ⟨hx, hb, hml, hown, hts⟩ (spec_X7_squares l D cy ad' H.size g' a' (xs ((nI i) + (1 : Int32)).toNatClampNeg) (xs ((nI i) + (2 : Int32)).toNatClampNeg)) (cwV 2 hts gL_law_X7_squares rfl rfl rfl (by decide +kernel) ⟨Nat.le_of_ble_eq_true rfl, Nat.le_of_ble_eq_true rfl⟩) (ar_preV hN hK (b_m hP) (b_mD hD) (ci := 6) (q0 := 0) rfl rfl) rfl rfl hl.1 rfl (lv_room (Nat.le_of_ble_eq_true rfl)) dL_law_508 ⟨Nat.le_of_ble_eq_true rfl, Nat.le_of_ble_eq_true rfl⟩) hP hD hS hA (fun r2 g2 a2 H locs q2 hP hS => ?_)
  refine lv_icmp_eq (tgt := 1387) hx hb dL_law_511 (by decide) (fun c1 => ?_) (fun c1 => ?_)
  · exact kk _ _ _ _ _ _ _ hP hS (eq_squares hj hR q1 q2).2
  · exact absurd (eq_squares hj hR q1 q2).1 c1
