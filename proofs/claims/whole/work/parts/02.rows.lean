/-! what every contract of this claim is said in: the cells of the class (caW) and of the reference (maW), all of them, at fixed addresses;
scalars g, int rows a, long rows w -/
abbrev Gs : Type := Nat → Int32
abbrev As : Type := Nat → Nat → Int32
abbrev Ws : Type := Nat → Nat → Int64
abbrev caW (ad : Nat → Nat) (cy : Nat → ClassId) (g : Nat → Int32) (a : Nat → Nat → Int32) (w : Nat → Nat → Int64) : va_W := [(ad 0, .inr (5, [.ref (ad 1), .ref (ad 4), .ref (ad 7), .ref (ad 9), .ref (ad 11), .ref (ad 12), .ref (ad 24), .ref (ad 25), .int (g 12), .int (g 13)])),
  (ad 1, .inr (0, [.ref (ad 2), .ref (ad 3), .int (g 0)])),
  (ad 2, .inl (cy 0, 8, .inl (a 0))),
  (ad 3, .inl (cy 0, 8, .inl (a 2))),
  (ad 4, .inr (0, [.ref (ad 5), .ref (ad 6), .int (g 1)])),
  (ad 5, .inl (cy 0, 8, .inl (a 1))),
  (ad 6, .inl (cy 0, 8, .inl (a 3))),
  (ad 7, .inr (3, [.ref (ad 8)])),
  (ad 8, .inl (cy 2, 782, .inr (.inl (w 8)))),
  (ad 9, .inr (4, [.ref (ad 10), .int (g 3)])),
  (ad 10, .inl (cy 0, 200, .inl (a 5))),
  (ad 11, .inr (1, [.int (g 4), .int (g 5), .int (g 6), .int (g 7), .int (g 8)])),
  (ad 12, .inr (2, [.ref (ad 13), .ref (ad 14), .ref (ad 15), .int (g 9), .int (g 10), .int (g 11)])),
  (ad 13, .inl (cy 3, 8, .inr (.inr (.inr (.inr (fun k => if k < 8 then some (ad (16 + k)) else none)))))),
  (ad 14, .inl (cy 0, 8, .inl (a 6))),
  (ad 15, .inl (cy 1, 200, .inl (a 7))),
  (ad 16, .inl (cy 2, 200, .inr (.inl (w 0)))),
  (ad 17, .inl (cy 2, 200, .inr (.inl (w 1)))),
  (ad 18, .inl (cy 2, 200, .inr (.inl (w 2)))),
  (ad 19, .inl (cy 2, 200, .inr (.inl (w 3)))),
  (ad 20, .inl (cy 2, 200, .inr (.inl (w 4)))),
  (ad 21, .inl (cy 2, 200, .inr (.inl (w 5)))),
  (ad 22, .inl (cy 2, 200, .inr (.inl (w 6)))),
  (ad 23, .inl (cy 2, 200, .inr (.inl (w 7)))),
  (ad 24, .inl (cy 0, 7, .inl (a 8))),
  (ad 25, .inl (cy 0, 16, .inl (a 9)))]
abbrev maW (ad : Nat → Nat) (cy : Nat → ClassId) (g : Nat → Int32) (a : Nat → Nat → Int32) : va_W := [(ad 0, .inr (6, [.int (g 0), .ref (ad 1), .int (g 1), .int (g 2), .int (g 3), .ref (ad 2), .ref (ad 3), .ref (ad 4), .ref (ad 5), .int (g 4), .ref (ad 6), .ref (ad 7), .ref (ad 8), .ref (ad 9), .ref (ad 10), .ref (ad 11), .ref (ad 12), .ref (ad 13)])),
  (ad 1, .inl (cy 4, 200, .inl (a 0))),
  (ad 2, .inl (cy 0, 8, .inl (a 1))),
  (ad 3, .inl (cy 0, 8, .inl (a 2))),
  (ad 4, .inl (cy 0, 8, .inl (a 3))),
  (ad 5, .inl (cy 0, 8, .inl (a 4))),
  (ad 6, .inl (cy 0, 8, .inl (a 5))),
  (ad 7, .inl (cy 0, 8, .inl (a 6))),
  (ad 8, .inl (cy 0, 8, .inl (a 7))),
  (ad 9, .inl (cy 0, 8, .inl (a 8))),
  (ad 10, .inl (cy 0, 50002, .inl (a 9))),
  (ad 11, .inl (cy 1, 50002, .inl (a 10))),
  (ad 12, .inl (cy 1, 256, .inl (a 11))),
  (ad 13, .inl (cy 0, 6, .inl (a 12)))]
abbrev cyT (cy : Nat → ClassId) : List (ClassId × FieldType) := [(cy 0, .int), (cy 1, .boolean), (cy 2, .long), (cy 3, .array .long), (cy 4, .byte)]
/-- fields of nest mates, by the entries of the constant pools -/
abbrev nestF : List (String × Nat × String × String × String) := [(RX6, 115, RX0, "kinds", "I"), (RX6, 119, RX0, "primes", "[I"), (RX6, 125, RX0, "times", "[I"), (RX6, 135, RX5, "length", "I"), (RX6, 142, RX1, "end", "I"), (RX6, 162, RX2, "leftMany", "I"), (RX6, 178, RX2, "items", "I"), (RX6, 260, RX2, "period", "I"), (RX6, 291, RX1, "by", "I"), (RX2, 34, RX1, "by", "I")]
abbrev nestW (q : String × Nat × String × String × String) : Cond := .fieldLinkNest q.1 q.2.1 q.2.2.1 q.2.2.2.1 q.2.2.2.2 "PowerRests"
def NestOk (U : State) : Prop := ∀ q ∈ nestF, va_Nw (nestW q) U
theorem NestOk.same {u U : State} (h : u.vm = U.vm) (hN : NestOk u) : NestOk U := fun q hq => va_Nw.same rfl h (hN q hq)
theorem NestOk.warm {s U : State} (hW : s.WarmedH U.vm) (hN : NestOk s) : NestOk U := fun q hq => va_Nw.warmF hW (hN q hq)
theorem NestOk.use {s : State} {args : Array Value} (hN : NestOk s) (k : Nat) {q : String × Nat × String × String × String} (h : nestF[k]? = some q) : (nestW q).before args s = true := va_Nw.use rfl (hN q (List.mem_of_getElem? h))
def ArP (D : va_G) (cy : Nat → ClassId) (sz : Nat) (ws : va_W) (U : State) : Prop := U.heap.size = sz ∧ va_P D vwCl ws U.heap ∧ va_K D vwCl (cyT cy) U ∧ va_D (fun _ => True) ws ∧ NestOk U
/-- answers of a method that leaves the heap as it was -/
def Qpi (post : Int32 → Prop) : Array Value → State → Outcome → State → Prop := fun _ st oc t => ∃ r : Int32, oc = .returned (some (.int r)) ∧ post r ∧ t.heap = st.heap
def Qpl (post : Int64 → Prop) : Array Value → State → Outcome → State → Prop := fun _ st oc t => ∃ r : Int64, oc = .returned (some (.long r)) ∧ post r ∧ t.heap = st.heap
def Qpv (post : Prop) : Array Value → State → Outcome → State → Prop := fun _ st oc t => oc = .returned none ∧ post ∧ t.heap = st.heap
def noF : Addr → Prop := fun _ => False
theorem zr_nar {v : Int32} (h : v = 0 ∨ v = 1) : narrow .boolean (.int v) = .int v := by
  rcases h with rfl | rfl <;> rfl
theorem ar_same {A : Nat → Prop} {ws ws' : va_W} (h : ws.map Prod.fst = ws'.map Prod.fst) (hD : va_D A ws) : va_D A ws' := by
  have key : ∀ (k : Nat) (q : Nat × va_E), ws'[k]? = some q → ∃ q' : Nat × va_E, ws[k]? = some q' ∧ q'.1 = q.1 := by
    intro k q hq
    have h1 : (ws'.map Prod.fst)[k]? = some q.1 := by rw [List.getElem?_map, hq]; rfl
    rw [← h, List.getElem?_map] at h1
    cases hk : ws[k]? with
    | none => rw [hk] at h1; cases h1
    | some q' => rw [hk] at h1; exact ⟨q', rfl, Option.some.inj h1⟩
  refine ⟨fun i j p q hp hq e => ?_, fun k q hq => ?_⟩
  · obtain ⟨p', hp', ep⟩ := key i p hp
    obtain ⟨q', hq', eq⟩ := key j q hq
    exact hD.1 i j p' q' hp' hq' (by rw [ep, eq]; exact e)
  · obtain ⟨q', hq', eq⟩ := key k q hq
    rw [← eq]; exact hD.2 k q' hq'
theorem caD {A : Nat → Prop} {ad : Nat → Nat} {cy : Nat → ClassId} {g g' : Gs} {a a' : As} {w w' : Ws} (h : va_D A (caW ad cy g a w)) : va_D A (caW ad cy g' a' w') := ar_same (ws := caW ad cy g a w) (ws' := caW ad cy g' a' w') rfl h
theorem maD {A : Nat → Prop} {ad : Nat → Nat} {cy : Nat → ClassId} {g g' : Gs} {a a' : As} (h : va_D A (maW ad cy g a)) : va_D A (maW ad cy g' a') := ar_same (ws := maW ad cy g a) (ws' := maW ad cy g' a') rfl h
section AR
variable {p : Program} {l : Launch} {e : Env} {R : Room} {s : State} {m : MethodId} {args : Array Value} {below : List Frame} {meth : Method} {c : Code} {H : Heap} {locs : List Loc} {cells slots : Nat} {Q : State → Prop}
variable {pc : Nat} {ls : Array Slot} {rest st0 : List Value} {a : Array Value} {A0 : Nat → Prop} {H0 : Heap} {cc : ByteArray}
variable {D : va_G} {cy : Nat → ClassId} {W0 : va_W} {A : Nat → Prop} {As' : List Value} {b : Nat}
theorem cp_L {L : List Loc} (h : ∀ q ∈ L, noF q.base) : L = [] := by
  cases L with
  | nil => rfl
  | cons q L => exact absurd (h q List.mem_cons_self) (fun h => h)
theorem cp_i {post : Int32 → Prop} (hr : va_Run p l e R s m args below meth c H locs cells slots 0 0 (F0 m pc ls st0) rest (Qpi post a) noF)
    (kk : ∀ r : Int32, post r → W p l e R s m args below meth c H locs cells slots Q (F0 m (pc + 3) ls (.int r :: rest))) : W p l e R s m args below meth c H locs cells slots Q (F0 m pc ls st0) := by
  intro T hT X
  obtain ⟨v, st₀, t, T', L, h0, X', hL, e1, e2, ⟨r, hv, hp, hh⟩, st⟩ := hr T hT X
  cases hv
  have hL0 := cp_L hL
  subst hL0
  rw [List.append_nil] at X'
  obtain ⟨t2, a1, b1⟩ := kk r hp T' (by rw [e1, hh, h0]) X'
  exact ⟨t2, st t2 a1, b1⟩
theorem cp_l {post : Int64 → Prop} (hr : va_Run p l e R s m args below meth c H locs cells slots 0 0 (F0 m pc ls st0) rest (Qpl post a) noF)
    (kk : ∀ r : Int64, post r → W p l e R s m args below meth c H locs cells slots Q (F0 m (pc + 3) ls (.long r :: rest))) : W p l e R s m args below meth c H locs cells slots Q (F0 m pc ls st0) := by
  intro T hT X
  obtain ⟨v, st₀, t, T', L, h0, X', hL, e1, e2, ⟨r, hv, hp, hh⟩, st⟩ := hr T hT X
  cases hv
  have hL0 := cp_L hL
  subst hL0
  rw [List.append_nil] at X'
  obtain ⟨t2, a1, b1⟩ := kk r hp T' (by rw [e1, hh, h0]) X'
  exact ⟨t2, st t2 a1, b1⟩
theorem cp_pre : PreS s H (va_Pc As' (fun _ => True)) As' := ⟨fun _ _ _ _ q => ⟨q.1, trivial⟩, fun _ _ _ => ⟨rfl, trivial⟩⟩
theorem ar_blind {sz : Nat} {av : List Value} : FrameBlind (va_Pc av (ArP D cy sz W0)) := fun a U g mk q => by
  obtain ⟨q0, q1, qP, qK, qD, qN⟩ := q
  exact ⟨q0, q1, qP, va_K.moved (u := U) (U := U.calling g mk a) (Vm.Alike.refl U.vm) qK, qD, NestOk.same rfl qN⟩
theorem ar_preV (hN : NestOk s) (hK : va_K D vwCl (cyT cy) s) (hP : va_P D vwCl W0 H) (hD : va_D A W0) {ci q0 : Nat} {q : vw_C} {fs : List Value} (hc : vwCl[ci]? = some q) (he : W0[q0]? = some (b, .inr (ci, fs))) : PreV s H q.1 b (va_Pc (.ref b :: As') (ArP D cy H.size W0)) As' :=
  ⟨ar_blind, va_recv hK hP hc he, fun U hU hW => ⟨rfl, by rw [hU], by rw [hU]; exact hP, va_K.moved hW.alike hK, hD.weaken (fun _ _ _ _ => trivial), NestOk.warm hW hN⟩⟩
theorem ar_free (hD : va_D A0 W0) (hS : va_S A0 H0 H locs) (hA : ∀ q, H0.size ≤ q → A0 q) : ∀ q, va_A W0 H.size q → A0 q := by
  intro q h
  rcases h with ⟨k, e, h⟩ | h
  · exact hD.2 k (q, e) h
  · exact hA q (Nat.le_trans hS.1 h)
theorem cw_i {S : Type} {post : Int32 → S → Prop} {mk : S → va_W} (hr : va_Run p l e R s m args below meth c H locs cells slots 0 0 (F0 m pc ls st0) rest (va_Qi post (fun u t => va_P D vwCl (mk u) t.heap) (va_A W0 H.size) a) (va_A W0 H.size)) (hS : va_S A0 H0 H locs) (hD : va_D A0 W0) (hA : ∀ q, H0.size ≤ q → A0 q)
    (kk : ∀ (r : Int32) (u : S) (H1 : Heap) (locs1 : List Loc), post r u → va_P D vwCl (mk u) H1 → va_S A0 H0 H1 locs1 → W p l e R s m args below meth c H1 locs1 cells slots Q (F0 m (pc + 3) ls (.int r :: rest))) : W p l e R s m args below meth c H locs cells slots Q (F0 m pc ls st0) :=
  va_calli hr hS (fun q _ h => ar_free hD hS hA q h) (ar_free hD hS hA) (fun r u t H1 locs1 ht hvm hw hB hz hk hS1 => kk r u H1 locs1 hw (by rw [← ht]; exact hB) hS1)
theorem cw_l {S : Type} {post : Int64 → S → Prop} {mk : S → va_W} (hr : va_Run p l e R s m args below meth c H locs cells slots 0 0 (F0 m pc ls st0) rest (va_Ql post (fun u t => va_P D vwCl (mk u) t.heap) (va_A W0 H.size) a) (va_A W0 H.size)) (hS : va_S A0 H0 H locs) (hD : va_D A0 W0) (hA : ∀ q, H0.size ≤ q → A0 q)
    (kk : ∀ (r : Int64) (u : S) (H1 : Heap) (locs1 : List Loc), post r u → va_P D vwCl (mk u) H1 → va_S A0 H0 H1 locs1 → W p l e R s m args below meth c H1 locs1 cells slots Q (F0 m (pc + 3) ls (.long r :: rest))) : W p l e R s m args below meth c H locs cells slots Q (F0 m pc ls st0) :=
  va_calll hr hS (fun q _ h => ar_free hD hS hA q h) (ar_free hD hS hA) (fun r u t H1 locs1 ht hvm hw hB hz hk hS1 => kk r u H1 locs1 hw (by rw [← ht]; exact hB) hS1)
theorem cw_v {S : Type} {post : S → Prop} {mk : S → va_W} (hr : va_Run p l e R s m args below meth c H locs cells slots 0 0 (F0 m pc ls st0) rest (va_Qv post (fun u t => va_P D vwCl (mk u) t.heap) (va_A W0 H.size) a) (va_A W0 H.size)) (hS : va_S A0 H0 H locs) (hD : va_D A0 W0) (hA : ∀ q, H0.size ≤ q → A0 q)
    (kk : ∀ (u : S) (H1 : Heap) (locs1 : List Loc), post u → va_P D vwCl (mk u) H1 → va_S A0 H0 H1 locs1 → W p l e R s m args below meth c H1 locs1 cells slots Q (F0 m (pc + 3) ls rest)) : W p l e R s m args below meth c H locs cells slots Q (F0 m pc ls st0) :=
  va_callv hr hS (fun q _ h => ar_free hD hS hA q h) (ar_free hD hS hA) (fun u t H1 locs1 ht hvm hw hB hz hk hS1 => kk u H1 locs1 hw (by rw [← ht]; exact hB) hS1)
-- a long compare and the branch behind it
theorem lq_gt (x y : Int64) : (0 < lg_cmp x y) ↔ y < x := by
  unfold lg_cmp
  by_cases h1 : x > y
  · simp [h1]
  · by_cases h2 : x = y
    · subst h2; simp
    · have : ¬ y < x := h1
      simp [h1, h2]
theorem lq_lt (x y : Int64) : (lg_cmp x y < 0) ↔ x < y := by
  unfold lg_cmp
  by_cases h1 : x > y
  · have h3 : ¬ x < y := fun h => by
      have := Int64.lt_iff_toInt_lt.mp h
      have := Int64.lt_iff_toInt_lt.mp h1
      omega
    simp [h1, h3]
  · by_cases h2 : x = y
    · subst h2; simp
    · have h3 : x < y := by
        have n1 : ¬ y.toInt < x.toInt := fun h => h1 (Int64.lt_iff_toInt_lt.mpr h)
        have n2 : x.toInt ≠ y.toInt := fun h => h2 (Int64.toInt_inj.mp h)
        exact Int64.lt_iff_toInt_lt.mpr (by omega)
      simp [h1, h2, h3]
theorem lq_eq (x y : Int64) : (lg_cmp x y = 0) ↔ x = y := by
  unfold lg_cmp
  by_cases h1 : x > y
  · have h3 : ¬ x = y := fun h => by
      subst h
      have := Int64.lt_iff_toInt_lt.mp h1
      omega
    simp [h1, h3]
  · by_cases h2 : x = y
    · subst h2; simp
    · simp [h1, h2]
theorem lc_gt (hexec : p.tables.exec = Jvm.exec) (hb : c.code = cc) {x y : Int64} {off : Int} {tgt : Nat} (hd1 : decode cc pc = .ok (.lcmp, 1)) (hdg : decode cc (pc + 1) = .ok (.ifCond .gt off, 3)) (ht : ((pc + 1 : Nat) : Int) + off = (tgt : Int))
    (kt : y < x → W p l e R s m args below meth c H locs cells slots Q (F0 m tgt ls rest)) (kf : ¬ y < x → W p l e R s m args below meth c H locs cells slots Q (F0 m (pc + 4) ls rest)) : W p l e R s m args below meth c H locs cells slots Q (F0 m pc ls (.long y :: .long x :: rest)) :=
  W.lcmp hexec hb hd1 (lv_if_gt hexec hb hdg ht (fun h => kt ((lq_gt x y).mp h)) (fun h => kf (fun q => h ((lq_gt x y).mpr q))))
theorem lc_lt (hexec : p.tables.exec = Jvm.exec) (hb : c.code = cc) {x y : Int64} {off : Int} {tgt : Nat} (hd1 : decode cc pc = .ok (.lcmp, 1)) (hdg : decode cc (pc + 1) = .ok (.ifCond .lt off, 3)) (ht : ((pc + 1 : Nat) : Int) + off = (tgt : Int))
    (kt : x < y → W p l e R s m args below meth c H locs cells slots Q (F0 m tgt ls rest)) (kf : ¬ x < y → W p l e R s m args below meth c H locs cells slots Q (F0 m (pc + 4) ls rest)) : W p l e R s m args below meth c H locs cells slots Q (F0 m pc ls (.long y :: .long x :: rest)) :=
  W.lcmp hexec hb hd1 (lv_if_lt hexec hb hdg ht (fun h => kt ((lq_lt x y).mp h)) (fun h => kf (fun q => h ((lq_lt x y).mpr q))))
theorem lc_ge (hexec : p.tables.exec = Jvm.exec) (hb : c.code = cc) {x y : Int64} {off : Int} {tgt : Nat} (hd1 : decode cc pc = .ok (.lcmp, 1)) (hdg : decode cc (pc + 1) = .ok (.ifCond .ge off, 3)) (ht : ((pc + 1 : Nat) : Int) + off = (tgt : Int))
    (kt : y ≤ x → W p l e R s m args below meth c H locs cells slots Q (F0 m tgt ls rest)) (kf : ¬ y ≤ x → W p l e R s m args below meth c H locs cells slots Q (F0 m (pc + 4) ls rest)) : W p l e R s m args below meth c H locs cells slots Q (F0 m pc ls (.long y :: .long x :: rest)) :=
  W.lcmp hexec hb hd1 (lv_if_ge hexec hb hdg ht (fun h => kt ((lg_cmp_ge x y).mp h)) (fun h => kf (fun q => h ((lg_cmp_ge x y).mpr q))))
theorem lc_le (hexec : p.tables.exec = Jvm.exec) (hb : c.code = cc) {x y : Int64} {off : Int} {tgt : Nat} (hd1 : decode cc pc = .ok (.lcmp, 1)) (hdg : decode cc (pc + 1) = .ok (.ifCond .le off, 3)) (ht : ((pc + 1 : Nat) : Int) + off = (tgt : Int))
    (kt : x ≤ y → W p l e R s m args below meth c H locs cells slots Q (F0 m tgt ls rest)) (kf : ¬ x ≤ y → W p l e R s m args below meth c H locs cells slots Q (F0 m (pc + 4) ls rest)) : W p l e R s m args below meth c H locs cells slots Q (F0 m pc ls (.long y :: .long x :: rest)) :=
  W.lcmp hexec hb hd1 (lv_if_le hexec hb hdg ht (fun h => kt ((lg_cmp_le x y).mp h)) (fun h => kf (fun q => h ((lg_cmp_le x y).mpr q))))
theorem lc_eq (hexec : p.tables.exec = Jvm.exec) (hb : c.code = cc) {x y : Int64} {off : Int} {tgt : Nat} (hd1 : decode cc pc = .ok (.lcmp, 1)) (hdg : decode cc (pc + 1) = .ok (.ifCond .eq off, 3)) (ht : ((pc + 1 : Nat) : Int) + off = (tgt : Int))
    (kt : x = y → W p l e R s m args below meth c H locs cells slots Q (F0 m tgt ls rest)) (kf : ¬ x = y → W p l e R s m args below meth c H locs cells slots Q (F0 m (pc + 4) ls rest)) : W p l e R s m args below meth c H locs cells slots Q (F0 m pc ls (.long y :: .long x :: rest)) :=
  W.lcmp hexec hb hd1 (lv_if_eq hexec hb hdg ht (fun h => kt ((lq_eq x y).mp h)) (fun h => kf (fun q => h ((lq_eq x y).mpr q))))
theorem lc_ne (hexec : p.tables.exec = Jvm.exec) (hb : c.code = cc) {x y : Int64} {off : Int} {tgt : Nat} (hd1 : decode cc pc = .ok (.lcmp, 1)) (hdg : decode cc (pc + 1) = .ok (.ifCond .ne off, 3)) (ht : ((pc + 1 : Nat) : Int) + off = (tgt : Int))
    (kt : ¬ x = y → W p l e R s m args below meth c H locs cells slots Q (F0 m tgt ls rest)) (kf : x = y → W p l e R s m args below meth c H locs cells slots Q (F0 m (pc + 4) ls rest)) : W p l e R s m args below meth c H locs cells slots Q (F0 m pc ls (.long y :: .long x :: rest)) :=
  W.lcmp hexec hb hd1 (lv_if_ne hexec hb hdg ht (fun h => kt (fun q => h ((lq_eq x y).mpr q))) (fun h => kf ((lq_eq x y).mp h)))
-- a switch: the default
theorem tb_default (hexec : p.tables.exec = Jvm.exec) (hb : c.code = cc) {dflt lo hi : Int} {offs : Array Int} {len : Nat} {x : Int32} {tgt : Nat} (hdg : decode cc pc = .ok (.tableswitch dflt lo hi offs, len)) (ht : (pc : Int) + dflt = (tgt : Int)) {gaps : List Int}
    (hg : ∀ v ∈ gaps, ¬ v < lo ∧ ¬ hi < v ∧ offs[(v - lo).toNat]? = some dflt) (h : x.toInt < lo ∨ hi < x.toInt ∨ x.toInt ∈ gaps)
    (k : W p l e R s m args below meth c H locs cells slots Q (F0 m tgt ls rest)) : W p l e R s m args below meth c H locs cells slots Q (F0 m pc ls (.int x :: rest)) := by
  rcases h with h | h | h
  · exact lv_tableOut hexec hb hdg (Or.inl h) ht k
  · exact lv_tableOut hexec hb hdg (Or.inr h) ht k
  · obtain ⟨h1, h2, h3⟩ := hg _ h
    exact lv_tableIn hexec hb hdg h1 h2 h3 ht k
theorem tb_mem {x : Int32} {lo hi : Int} (n : Nat) (hh : lo + n - 1 = hi) {vs gaps : List Int} (hall : ∀ k, k < n → lo + k ∈ vs ∨ lo + k ∈ gaps) (hne : ∀ v ∈ vs, ¬ x.toInt = v) : x.toInt < lo ∨ hi < x.toInt ∨ x.toInt ∈ gaps := by
  subst hh
  by_cases h1 : x.toInt < lo
  · exact Or.inl h1
  · by_cases h2 : lo + n - 1 < x.toInt
    · exact Or.inr (Or.inl h2)
    · have e : lo + ((x.toInt - lo).toNat : Int) = x.toInt := by omega
      rcases hall (x.toInt - lo).toNat (by omega) with h | h
      · rw [e] at h; exact absurd rfl (hne _ h)
      · rw [e] at h; exact Or.inr (Or.inr h)
theorem tb_ne {x : Int32} (v : Int32) {n : Int} (hv : v.toInt = n) (h : ¬ x = v) : ¬ x.toInt = n := fun q => h (Int32.toInt_inj.mp (q.trans hv.symm))
theorem tb_nil {P : Int → Prop} : ∀ v ∈ ([] : List Int), P v := fun _ h => absurd h List.not_mem_nil
-- rows of longs
theorem ar_words {ad : Nat → Nat} {g : Gs} {a : As} {w : Ws} (hexec : p.tables.exec = Jvm.exec) (hb : c.code = cc) (hK : va_K D vwCl (cyT cy) s) (hP : va_P D vwCl (caW ad cy g a w) H) {i : Int32} (hin : vp_in i 8) (hdg : decode cc pc = .ok (.aaload, 1))
    (kk : W p l e R s m args below meth c H locs cells slots Q (F0 m (pc + 1) ls (.ref (ad (16 + i.toNatClampNeg)) :: rest))) : W p l e R s m args below meth c H locs cells slots Q (F0 m pc ls (.int i :: .ref (ad 13) :: rest)) := by
  have hlt : i.toNatClampNeg < 8 := Nat.not_le.mp fun q => hin (Or.inr q)
  refine W.aald (v := .ref (ad (16 + i.toNatClampNeg))) (ty := .array .long) hexec hb (hP 13 _ rfl) ((hK.2 3 _ rfl).1 8 (fun j => va_rf (if j < 8 then some (ad (16 + j)) else none))) rfl (fun q => by cases q) (by show ¬ (i < 0 ∨ (arrV _ _ _).slots.size ≤ _); rw [arrV_size]; exact hin) (by show (arrV _ _ _).slots[_]? = _; rw [arrV_read _ _ hlt]; show some (va_rf (if i.toNatClampNeg < 8 then some (ad (16 + i.toNatClampNeg)) else none)) = _; rw [if_pos hlt]; rfl) rfl rfl hdg kk
theorem ar_row {ad : Nat → Nat} {g : Gs} {a : As} {w : Ws} {k : Nat} (hk : k < 8) : (caW ad cy g a w)[16 + k]? = some (ad (16 + k), .inl (cy 2, 200, .inr (.inl (w k)))) := by
  match k, hk with
  | 0, _ => rfl
  | 1, _ => rfl
  | 2, _ => rfl
  | 3, _ => rfl
  | 4, _ => rfl
  | 5, _ => rfl
  | 6, _ => rfl
  | 7, _ => rfl
theorem ar_rowset {ad : Nat → Nat} {g : Gs} {a : As} {w : Ws} {k : Nat} (hk : k < 8) (f : Nat → Int64) : (caW ad cy g a w).set (16 + k) (ad (16 + k), .inl (cy 2, 200, .inr (.inl f))) = caW ad cy g a (va_up w k f) := by
  match k, hk with
  | 0, _ => rfl
  | 1, _ => rfl
  | 2, _ => rfl
  | 3, _ => rfl
  | 4, _ => rfl
  | 5, _ => rfl
  | 6, _ => rfl
  | 7, _ => rfl
theorem ar_rowld {ad : Nat → Nat} {g : Gs} {a : As} {w : Ws} (hexec : p.tables.exec = Jvm.exec) (hb : c.code = cc) (hK : va_K D vwCl (cyT cy) s) (hP : va_P D vwCl (caW ad cy g a w) H) {i j : Int32} (hj : vp_in j 8) (hin : vp_in i 200) (hdg : decode cc pc = .ok (.laload, 1))
    (kk : W p l e R s m args below meth c H locs cells slots Q (F0 m (pc + 1) ls (.long (w j.toNatClampNeg i.toNatClampNeg) :: rest))) : W p l e R s m args below meth c H locs cells slots Q (F0 m pc ls (.int i :: .ref (ad (16 + j.toNatClampNeg)) :: rest)) := by
  have hlt : j.toNatClampNeg < 8 := Nat.not_le.mp fun q => hj (Or.inr q)
  exact va_lald (f := w j.toNatClampNeg) hexec hb hK hP (16 + j.toNatClampNeg) 2 (ar_row hlt) rfl hin hdg kk
theorem ar_rowst {ad : Nat → Nat} {g : Gs} {a : As} {w : Ws} (hexec : p.tables.exec = Jvm.exec) (hb : c.code = cc) (hK : va_K D vwCl (cyT cy) s) (hP : va_P D vwCl (caW ad cy g a w) H) (hD : va_D A (caW ad cy g a w)) (hS : va_S A H0 H locs) {i j : Int32} {x : Int64} (hj : vp_in j 8) (hin : vp_in i 200) (hdg : decode cc pc = .ok (.lastore, 1))
    (kk : ∀ (H1 : Heap) (locs1 : List Loc), va_P D vwCl (caW ad cy g a (va_up w j.toNatClampNeg (vp_updL (w j.toNatClampNeg) i.toNatClampNeg x))) H1 → va_S A H0 H1 locs1 → W p l e R s m args below meth c H1 locs1 cells slots Q (F0 m (pc + 1) ls rest)) : W p l e R s m args below meth c H locs cells slots Q (F0 m pc ls (.long x :: .int i :: .ref (ad (16 + j.toNatClampNeg)) :: rest)) := by
  have hlt : j.toNatClampNeg < 8 := Nat.not_le.mp fun q => hj (Or.inr q)
  refine va_last (f := w j.toNatClampNeg) hexec hb hK hP hD hS (16 + j.toNatClampNeg) 2 (ar_row hlt) rfl hin hdg (fun H1 locs1 hP1 _ hS1 => kk H1 locs1 ?_ hS1)
  rw [ar_rowset hlt] at hP1
  exact hP1
end AR
