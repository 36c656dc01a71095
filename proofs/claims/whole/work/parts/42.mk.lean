/-! marks, makers -/
/-- factorings, marks and sizes may change -/
def MS (g : Gs) (a : As) (w : Ws) (g' : Gs) (a' : As) (w' : Ws) : Prop := (∀ i, 3 ≤ i → g' i = g i) ∧ (∀ j, 5 ≤ j → j ≠ 8 → a' j = a j) ∧ ∀ k, k < 8 → w' k = w k
theorem FS.ms {g : Gs} {a : As} {w : Ws} {g' : Gs} {a' : As} {w' : Ws} (h : FS g a w g' a' w') : MS g a w g' a' w' :=
  ⟨fun i hi => h.1 i (by omega), fun j hj _ => h.2.1 j (by omega), fun k _ => by rw [h.2.2]⟩
theorem MS.rf {g : Gs} {a : As} {w : Ws} : MS g a w g a w := FS.rf.ms
/-- the marked ones are those of S -/
def Marked (S : Nat → Prop) (g : Gs) (a : As) (w : Ws) (g' : Gs) (a' : As) (w' : Ws) : Prop := g' = g ∧ a' = a ∧ ∃ f, w' = va_up w 8 f ∧ ∀ x, x < 50000 → (mB f x = true ↔ S x)
theorem Marked.has {S : Nat → Prop} {g : Gs} {a : As} {w : Ws} {g' : Gs} {a' : As} {w' : Ws} (h : Marked S g a w g' a' w') {x : Nat} (hx : x < 50000) : mB (w' 8) x = true ↔ S x := by
  obtain ⟨-, -, f, e, hf⟩ := h
  rw [e, up_0]
  exact hf x hx
theorem Marked.ms {S : Nat → Prop} {g0 : Gs} {a0 : As} {w0 : Ws} {g : Gs} {a : As} {w : Ws} {g' : Gs} {a' : As} {w' : Ws} (hf : FS g0 a0 w0 g a w) (h : Marked S g a w g' a' w') : MS g0 a0 w0 g' a' w' := by
  obtain ⟨e1, e2, f, e3, -⟩ := h
  exact ⟨fun i hi => by rw [e1]; exact hf.1 i (by omega), fun j hj _ => by rw [e2]; exact hf.2.1 j (by omega), fun k hk => by rw [e3, up_n _ _ (by omega), hf.2.2]⟩
set_option maxHeartbeats 4000000 in
set_option maxRecDepth 100000 in
theorem met_X3_wipeAll (l : Launch) (D : va_G) (cy : Nat → ClassId) (ad : Nat → Nat) (sz : Nat) (g : Gs) (a : As) (w : Ws) (post : Gs → As → Ws → Prop)
  (hV : ∀ (J2 : Int32 → Gs → As → Ws → Prop),
    (∀ (x1 : Int32) (g_ : Gs) (a_ : As) (w_ : Ws), (((782 : Int32) ≤ x1 → post g_ a_ w_) ∧ (¬ (782 : Int32) ≤ x1 → vp_in x1 782 ∧ (J2 (x1 + 1) g_ a_ (va_up w_ 8 (vp_updL (w_ 8) x1.toNatClampNeg (0 : Int64)))))) → J2 x1 g_ a_ w_) →
    J2 (0 : Int32) g a w) :
  Met l yX3_wipeAll wsX3_wipeAll ({ frames := 0, cells := 0, slots := 0, locals := 0 } : Room) (va_Pc [.ref (ad 7)] (ArP D cy sz (caW ad cy g a w))) (va_Qv (fun (u : Gs × As × Ws) => post u.1 u.2.1 u.2.2) (fun u t => va_P D vwCl (caW ad cy u.1 u.2.1 u.2.2) t.heap) (va_A (caW ad cy g a w) sz)) 0 0 (va_A (caW ad cy g a w) sz) := by
  refine Met.ofW (cc := cX3_wipeAll) (maxL := 2) (ret := none) (by decide) rfl ?_
  intro p e s m args below meth c s₁ B hml hv
  obtain ⟨rfl, hsz, hP, hK, hD0, hN⟩ := hv
  have hx := B.exec
  have hb := B.bytes
  have hr := B.returns
  have hts := atoms_spec (ws := wsX3_wipeAll) B.pre
  have hown : s.vm.findClass RX3 = some m.cls := findClass_of_methodNamed B.named
  have hlocks := B.notSynchronized
  subst hsz
  have hD := hD0.self (sz := s.heap.size)
  have hP : va_P D vwCl (caW ad cy g a w) s.heap := hP
  have hD : va_D (va_A (caW ad cy g a w) s.heap.size) (caW ad cy g a w) := hD
  have hS : va_S (va_A (caW ad cy g a w) s.heap.size) s.heap s.heap [] := va_S.rf
  have hA : ∀ q : Nat, s.heap.size ≤ q → va_A (caW ad cy g a w) s.heap.size q := fun q h => Or.inr h
  obtain ⟨J2, iJ2, oJ2⟩ : ∃ J : Int32 → Gs → As → Ws → Prop, (∀ (x1 : Int32) (g_ : Gs) (a_ : As) (w_ : Ws), (∀ (H : Heap) (locs : List Loc), va_P D vwCl (caW ad cy g_ a_ w_) H → va_S (va_A (caW ad cy g a w) s.heap.size) s.heap H locs → ∀ ls : Array Slot, lv_has ls 2 [(0, .ref (ad 7)), (1, .int x1)] → W p l e (headSpec wsX3_wipeAll ({ frames := 0, cells := 0, slots := 0, locals := 0 } : Room)).room s m [.ref (ad 7)].toArray below meth c H locs 0 0 (MQ below (va_Qv (fun (u : Gs × As × Ws) => post u.1 u.2.1 u.2.2) (fun u t => va_P D vwCl (caW ad cy u.1 u.2.1 u.2.2) t.heap) (va_A (caW ad cy g a w) s.heap.size)) [.ref (ad 7)].toArray s 0 0 (va_A (caW ad cy g a w) s.heap.size)) (F0 m 2 ls [])) → J x1 g_ a_ w_) ∧ (∀ (x1 : Int32) (g_ : Gs) (a_ : As) (w_ : Ws), J x1 g_ a_ w_ → (∀ (H : Heap) (locs : List Loc), va_P D vwCl (caW ad cy g_ a_ w_) H → va_S (va_A (caW ad cy g a w) s.heap.size) s.heap H locs → ∀ ls : Array Slot, lv_has ls 2 [(0, .ref (ad 7)), (1, .int x1)] → W p l e (headSpec wsX3_wipeAll ({ frames := 0, cells := 0, slots := 0, locals := 0 } : Room)).room s m [.ref (ad 7)].toArray below meth c H locs 0 0 (MQ below (va_Qv (fun (u : Gs × As × Ws) => post u.1 u.2.1 u.2.2) (fun u t => va_P D vwCl (caW ad cy u.1 u.2.1 u.2.2) t.heap) (va_A (caW ad cy g a w) s.heap.size)) [.ref (ad 7)].toArray s 0 0 (va_A (caW ad cy g a w) s.heap.size)) (F0 m 2 ls []))) := ⟨fun (x1 : Int32) (g_ : Gs) (a_ : As) (w_ : Ws) => (∀ (H : Heap) (locs : List Loc), va_P D vwCl (caW ad cy g_ a_ w_) H → va_S (va_A (caW ad cy g a w) s.heap.size) s.heap H locs → ∀ ls : Array Slot, lv_has ls 2 [(0, .ref (ad 7)), (1, .int x1)] → W p l e (headSpec wsX3_wipeAll ({ frames := 0, cells := 0, slots := 0, locals := 0 } : Room)).room s m [.ref (ad 7)].toArray below meth c H locs 0 0 (MQ below (va_Qv (fun (u : Gs × As × Ws) => post u.1 u.2.1 u.2.2) (fun u t => va_P D vwCl (caW ad cy u.1 u.2.1 u.2.2) t.heap) (va_A (caW ad cy g a w) s.heap.size)) [.ref (ad 7)].toArray s 0 0 (va_A (caW ad cy g a w) s.heap.size)) (F0 m 2 ls [])), fun _ _ _ _ h => h, fun _ _ _ _ h => h⟩
  have hV := hV J2
  replace hV := hV (by
    intro x1 g_ a_ w_ hV
    refine iJ2 x1 g_ a_ w_ ?_
    intro H locs hP hS ls hl
    refine lv_iload_n hx hb dX3_wipeAll_2 rfl (lv_at hl 1 rfl) ?_
    refine lv_aload_n hx hb dX3_wipeAll_3 rfl (lv_at hl 0 rfl) ?_
    refine va_get (D := D) (ci := 3) (v := .ref (ad 8)) (C := RX3) (T := TX3) (N := 1) hx hb hts (by decide +kernel) hown hK hP 7 rfl rfl 0 (by decide) (hts (.fieldLink RX3 9 "PowerRests$Marks" "bits" "[J") (by decide +kernel)) (fun _ h9 => h9) rfl dX3_wipeAll_4 ?_
    refine va_alen (v := (782 : Int32)) hx hb hK hP 8 2 rfl rfl rfl dX3_wipeAll_7 ?_
    refine lv_icmp_ge (tgt := 24) hx hb dX3_wipeAll_8 (by decide) (fun c_8 => ?_) (fun c_8 => ?_)
    · have hV := hV.1 c_8
      exact W.vret hx hb hr (fun t ht hW => ⟨⟨(g_, a_, w_), rfl, hV, ar_heap ht hP⟩, hS.F ht⟩) hS.2.2 dX3_wipeAll_24
    · have hV := hV.2 c_8
      refine lv_aload_n hx hb dX3_wipeAll_11 rfl (lv_at hl 0 rfl) ?_
      refine va_get (D := D) (ci := 3) (v := .ref (ad 8)) (C := RX3) (T := TX3) (N := 1) hx hb hts (by decide +kernel) hown hK hP 7 rfl rfl 0 (by decide) (hts (.fieldLink RX3 9 "PowerRests$Marks" "bits" "[J") (by decide +kernel)) (fun _ h9 => h9) rfl dX3_wipeAll_12 ?_
      refine lv_iload_n hx hb dX3_wipeAll_15 rfl (lv_at hl 1 rfl) ?_
      refine lv_lconst (v := (0 : Int64)) hx hb dX3_wipeAll_16 (by decide) ?_
      obtain ⟨h_17, hV⟩ := hV
      refine va_last (f := (w_ 8)) hx hb hK hP (caD hD) hS 8 2 rfl rfl h_17 dX3_wipeAll_17 (fun H locs hP _ hS => ?_)
      have hP : va_P D vwCl (caW ad cy g_ a_ (va_up w_ 8 (vp_updL (w_ 8) x1.toNatClampNeg (0 : Int64)))) H := hP
      refine lv_iinc (v := x1 + 1) (lv' := [(1, .int (x1 + 1)), (0, .ref (ad 7))]) hx hb dX3_wipeAll_18 hl (k := 1) rfl rfl (by decide) rfl (fun ls hl => ?_)
      refine lv_goto (tgt := 2) hx hb dX3_wipeAll_21 (by decide) ?_
      exact oJ2 _ _ _ _ hV _ _ hP hS _ (lv_sub hl [1, 0] rfl))
  have hl := lv_entry ([.ref (ad 7)]) (n := 2) (Nat.le_of_ble_eq_true rfl)
  rw [lg_entry_eq]
  generalize (lg_sl ([.ref (ad 7)]) ++ List.replicate (2 - (lg_sl ([.ref (ad 7)])).length) Slot.unset).toArray = ls at hl ⊢
  have hl : lv_has ls 2 [(0, .ref (ad 7))] := hl
  refine lv_iconst (v := (0 : Int32)) hx hb dX3_wipeAll_0 (by decide) ?_
  refine lv_istore_n (lv' := [(1, .int (0 : Int32)), (0, .ref (ad 7))]) hx hb dX3_wipeAll_1 rfl hl (by decide) rfl (fun ls hl => ?_)
  exact oJ2 _ _ _ _ hV _ _ hP hS _ (lv_sub hl [1, 0] rfl)
def post_X3_wipeAll (g : Gs) (a : As) (w : Ws) (g' : Gs) (a' : As) (w' : Ws) : Prop := g' = g ∧ a' = a ∧ ∃ f, w' = va_up w 8 f ∧ ∀ x, x < 50000 → mB f x = false
set_option maxRecDepth 4000 in
theorem spec_X3_wipeAll (l : Launch) (D : va_G) (cy : Nat → ClassId) (ad : Nat → Nat) (sz : Nat) (g : Gs) (a : As) (w : Ws) : Met l yX3_wipeAll wsX3_wipeAll ({ frames := 0, cells := 0, slots := 0, locals := 0 } : Room) (va_Pc [.ref (ad 7)] (ArP D cy sz (caW ad cy g a w))) (va_Qv (fun (u : Gs × As × Ws) => (post_X3_wipeAll g a w) u.1 u.2.1 u.2.2) (fun u t => va_P D vwCl (caW ad cy u.1 u.2.1 u.2.2) t.heap) (va_A (caW ad cy g a w) sz)) 0 0 (va_A (caW ad cy g a w) sz) := by
  apply met_X3_wipeAll
  intro J hJ
  have key : ∀ (d k : Nat) (f : Nat → Int64), k + d = 782 → (∀ j, j < k → f j = 0) → J (nI k) g a (va_up w 8 f) := by
    intro d
    induction d with
    | zero =>
      intro k f hk hf
      refine hJ _ _ _ _ (pk_le 782 k (fun _ => ⟨rfl, rfl, f, rfl, fun x hx => ?_⟩) (fun h => absurd h (by omega)))
      unfold mB
      rw [hf (x / 64) (by omega), wB_0]
    | succ d ih =>
      intro k f hk hf
      refine hJ _ _ _ _ (pk_le 782 k (fun h => absurd h (by omega)) (fun _ => ⟨pk_in k 782 (by omega), ?_⟩))
      rw [up_up, up_0, nI_1, show (nI k).toNatClampNeg = k from tn_nI (by omega)]
      refine ih (k + 1) _ (by omega) (fun j hj => ?_)
      by_cases e : j = k
      · rw [e, pk_uLs]
      · rw [pk_uLn e]
        exact hf j (by omega)
  have st := key 782 0 (w 8) (by omega) (fun j hj => absurd hj (Nat.not_lt_zero j))
  rw [up_id] at st
  exact st
def pre_X3_put (g : Gs) (a : As) (w : Ws) (p0 : Int32) : Prop := 0 ≤ p0.toInt ∧ p0.toInt < 50000
set_option maxHeartbeats 4000000 in
set_option maxRecDepth 100000 in
theorem met_X3_put (l : Launch) (D : va_G) (cy : Nat → ClassId) (ad : Nat → Nat) (sz : Nat) (g : Gs) (a : As) (w : Ws) (p0 : Int32) (post : Gs → As → Ws → Prop)
  (hV : (((p0 >>> ((6 : Int32) &&& 31)) < 0 → post g a w) ∧ (¬ (p0 >>> ((6 : Int32) &&& 31)) < 0 → (((782 : Int32) ≤ (p0 >>> ((6 : Int32) &&& 31)) → post g a w) ∧ (¬ (782 : Int32) ≤ (p0 >>> ((6 : Int32) &&& 31)) → vp_in (p0 >>> ((6 : Int32) &&& 31)) 782 ∧ (vp_in (p0 >>> ((6 : Int32) &&& 31)) 782 ∧ (post g a (va_up w 8 (vp_updL (w 8) (p0 >>> ((6 : Int32) &&& 31)).toNatClampNeg (((w 8) (p0 >>> ((6 : Int32) &&& 31)).toNatClampNeg) ||| ((1 : Int64) <<< ((p0 &&& (63 : Int32)).toInt64 &&& 63)))))))))))) :
  Met l yX3_put wsX3_put ({ frames := 0, cells := 0, slots := 0, locals := 0 } : Room) (va_Pc [.ref (ad 7), .int p0] (ArP D cy sz (caW ad cy g a w))) (va_Qv (fun (u : Gs × As × Ws) => post u.1 u.2.1 u.2.2) (fun u t => va_P D vwCl (caW ad cy u.1 u.2.1 u.2.2) t.heap) (va_A (caW ad cy g a w) sz)) 0 0 (va_A (caW ad cy g a w) sz) := by
  refine Met.ofW (cc := cX3_put) (maxL := 3) (ret := none) (by decide) rfl ?_
  intro p e s m args below meth c s₁ B hml hv
  obtain ⟨rfl, hsz, hP, hK, hD0, hN⟩ := hv
  have hx := B.exec
  have hb := B.bytes
  have hr := B.returns
  have hts := atoms_spec (ws := wsX3_put) B.pre
  have hown : s.vm.findClass RX3 = some m.cls := findClass_of_methodNamed B.named
  have hlocks := B.notSynchronized
  subst hsz
  have hD := hD0.self (sz := s.heap.size)
  have hP : va_P D vwCl (caW ad cy g a w) s.heap := hP
  have hD : va_D (va_A (caW ad cy g a w) s.heap.size) (caW ad cy g a w) := hD
  have hS : va_S (va_A (caW ad cy g a w) s.heap.size) s.heap s.heap [] := va_S.rf
  have hA : ∀ q : Nat, s.heap.size ≤ q → va_A (caW ad cy g a w) s.heap.size q := fun q h => Or.inr h
  have hl := lv_entry ([.ref (ad 7), .int p0]) (n := 3) (Nat.le_of_ble_eq_true rfl)
  rw [lg_entry_eq]
  generalize (lg_sl ([.ref (ad 7), .int p0]) ++ List.replicate (3 - (lg_sl ([.ref (ad 7), .int p0])).length) Slot.unset).toArray = ls at hl ⊢
  have hl : lv_has ls 3 [(0, .ref (ad 7)), (1, .int p0)] := hl
  refine lv_iload_n hx hb dX3_put_0 rfl (lv_at hl 1 rfl) ?_
  refine lv_bipush (v := (6 : Int32)) hx hb dX3_put_1 (by decide) ?_
  refine lv_ishr hx hb dX3_put_3 ?_
  refine lv_istore_n (lv' := [(2, .int (p0 >>> ((6 : Int32) &&& 31))), (0, .ref (ad 7)), (1, .int p0)]) hx hb dX3_put_4 rfl hl (by decide) rfl (fun ls hl => ?_)
  refine lv_iload_n hx hb dX3_put_5 rfl (lv_at hl 0 rfl) ?_
  refine lv_if_lt (tgt := 33) hx hb dX3_put_6 (by decide) (fun c_6 => ?_) (fun c_6 => ?_)
  · have hV := hV.1 c_6
    exact W.vret hx hb hr (fun t ht hW => ⟨⟨(g, a, w), rfl, hV, ar_heap ht hP⟩, hS.F ht⟩) hS.2.2 dX3_put_33
  · have hV := hV.2 c_6
    refine lv_iload_n hx hb dX3_put_9 rfl (lv_at hl 0 rfl) ?_
    refine lv_aload_n hx hb dX3_put_10 rfl (lv_at hl 1 rfl) ?_
    refine va_get (D := D) (ci := 3) (v := .ref (ad 8)) (C := RX3) (T := TX3) (N := 1) hx hb hts (by decide +kernel) hown hK hP 7 rfl rfl 0 (by decide) (hts (.fieldLink RX3 9 "PowerRests$Marks" "bits" "[J") (by decide +kernel)) (fun _ h9 => h9) rfl dX3_put_11 ?_
    refine va_alen (v := (782 : Int32)) hx hb hK hP 8 2 rfl rfl rfl dX3_put_14 ?_
    refine lv_icmp_ge (tgt := 33) hx hb dX3_put_15 (by decide) (fun c_15 => ?_) (fun c_15 => ?_)
    · have hV := hV.1 c_15
      exact W.vret hx hb hr (fun t ht hW => ⟨⟨(g, a, w), rfl, hV, ar_heap ht hP⟩, hS.F ht⟩) hS.2.2 dX3_put_33
    · have hV := hV.2 c_15
      refine lv_aload_n hx hb dX3_put_18 rfl (lv_at hl 1 rfl) ?_
      refine va_get (D := D) (ci := 3) (v := .ref (ad 8)) (C := RX3) (T := TX3) (N := 1) hx hb hts (by decide +kernel) hown hK hP 7 rfl rfl 0 (by decide) (hts (.fieldLink RX3 9 "PowerRests$Marks" "bits" "[J") (by decide +kernel)) (fun _ h9 => h9) rfl dX3_put_19 ?_
      refine lv_iload_n hx hb dX3_put_22 rfl (lv_at hl 0 rfl) ?_
      refine lv_dup2_11 hx hb dX3_put_23 rfl rfl ?_
      obtain ⟨h_24, hV⟩ := hV
      refine va_lald (f := (w 8)) hx hb hK hP 8 2 rfl rfl h_24 dX3_put_24 ?_
      refine lv_lconst (v := (1 : Int64)) hx hb dX3_put_25 (by decide) ?_
      refine lv_iload_n hx hb dX3_put_26 rfl (lv_at hl 2 rfl) ?_
      refine lv_bipush (v := (63 : Int32)) hx hb dX3_put_27 (by decide) ?_
      refine lv_iand hx hb dX3_put_29 ?_
      refine lv_lshl (v := (1 : Int64) <<< ((p0 &&& (63 : Int32)).toInt64 &&& 63)) hx hb dX3_put_30 rfl ?_
      refine lv_lor hx hb dX3_put_31 ?_
      obtain ⟨h_32, hV⟩ := hV
      refine va_last (f := (w 8)) hx hb hK hP (caD hD) hS 8 2 rfl rfl h_32 dX3_put_32 (fun H locs hP _ hS => ?_)
      have hP : va_P D vwCl (caW ad cy g a (va_up w 8 (vp_updL (w 8) (p0 >>> ((6 : Int32) &&& 31)).toNatClampNeg (((w 8) (p0 >>> ((6 : Int32) &&& 31)).toNatClampNeg) ||| ((1 : Int64) <<< ((p0 &&& (63 : Int32)).toInt64 &&& 63)))))) H := hP
      exact W.vret hx hb hr (fun t ht hW => ⟨⟨(g, a, (va_up w 8 (vp_updL (w 8) (p0 >>> ((6 : Int32) &&& 31)).toNatClampNeg (((w 8) (p0 >>> ((6 : Int32) &&& 31)).toNatClampNeg) ||| ((1 : Int64) <<< ((p0 &&& (63 : Int32)).toInt64 &&& 63)))))), rfl, hV, ar_heap ht hP⟩, hS.F ht⟩) hS.2.2 dX3_put_33
def post_X3_put (g : Gs) (a : As) (w : Ws) (p0 : Int32) (g' : Gs) (a' : As) (w' : Ws) : Prop := g' = g ∧ a' = a ∧ ∃ f, w' = va_up w 8 f ∧ ∀ y, mB f y = (mB (w 8) y || decide (y = tn p0))
set_option maxRecDepth 4000 in
theorem spec_X3_put (l : Launch) (D : va_G) (cy : Nat → ClassId) (ad : Nat → Nat) (sz : Nat) (g : Gs) (a : As) (w : Ws) (p0 : Int32) (hpre : pre_X3_put g a w p0) : Met l yX3_put wsX3_put ({ frames := 0, cells := 0, slots := 0, locals := 0 } : Room) (va_Pc [.ref (ad 7), .int p0] (ArP D cy sz (caW ad cy g a w))) (va_Qv (fun (u : Gs × As × Ws) => (post_X3_put g a w p0) u.1 u.2.1 u.2.2) (fun u t => va_P D vwCl (caW ad cy u.1 u.2.1 u.2.2) t.heap) (va_A (caW ad cy g a w) sz)) 0 0 (va_A (caW ad cy g a w) sz) := by
  apply met_X3_put
  obtain ⟨h0, h1⟩ := hpre
  obtain ⟨x, hx, rfl, hx2⟩ := of_i h0
  rw [sh_6 hx, lo_6 hx]
  refine ⟨fun h => ?_, fun _ => pk_le 782 (x / 64) (fun h => absurd h (by omega)) (fun _ => ⟨pk_in (x / 64) 782 (by omega), pk_in (x / 64) 782 (by omega), rfl, rfl, _, rfl, fun y => ?_⟩)⟩
  · rw [i_lt, Int32.toInt_zero, nI_toInt (by omega)] at h
    omega
  · rw [tn_nI hx, show (nI (x / 64)).toNatClampNeg = x / 64 from tn_nI (by omega)]
    exact mB_put (w 8) x y
def pre_X3_has (g : Gs) (a : As) (w : Ws) (p0 : Int32) : Prop := 0 ≤ p0.toInt ∧ p0.toInt < 50000
set_option maxHeartbeats 4000000 in
set_option maxRecDepth 100000 in
theorem met_X3_has (l : Launch) (D : va_G) (cy : Nat → ClassId) (ad : Nat → Nat) (sz : Nat) (g : Gs) (a : As) (w : Ws) (p0 : Int32) (post : Int32 → Prop)
  (hV : (((p0 >>> ((6 : Int32) &&& 31)) < 0 → post (0 : Int32)) ∧ (¬ (p0 >>> ((6 : Int32) &&& 31)) < 0 → (((782 : Int32) ≤ (p0 >>> ((6 : Int32) &&& 31)) → post (0 : Int32)) ∧ (¬ (782 : Int32) ≤ (p0 >>> ((6 : Int32) &&& 31)) → vp_in (p0 >>> ((6 : Int32) &&& 31)) 782 ∧ (((((((w 8) (p0 >>> ((6 : Int32) &&& 31)).toNatClampNeg) >>> ((p0 &&& (63 : Int32)).toInt64 &&& 63)) &&& (1 : Int64)) = (1 : Int64) → post (1 : Int32)) ∧ (¬ ((((w 8) (p0 >>> ((6 : Int32) &&& 31)).toNatClampNeg) >>> ((p0 &&& (63 : Int32)).toInt64 &&& 63)) &&& (1 : Int64)) = (1 : Int64) → post (0 : Int32))))))))) :
  Met l yX3_has wsX3_has ({ frames := 0, cells := 0, slots := 0, locals := 0 } : Room) (va_Pc [.ref (ad 7), .int p0] (ArP D cy sz (caW ad cy g a w))) (Qpi post) 0 0 noF := by
  refine Met.ofW (cc := cX3_has) (maxL := 3) (ret := (some .boolean)) (by decide) rfl ?_
  intro p e s m args below meth c s₁ B hml hv
  obtain ⟨rfl, hsz, hP, hK, hD0, hN⟩ := hv
  have hx := B.exec
  have hb := B.bytes
  have hr := B.returns
  have hts := atoms_spec (ws := wsX3_has) B.pre
  have hown : s.vm.findClass RX3 = some m.cls := findClass_of_methodNamed B.named
  have hlocks := B.notSynchronized
  subst hsz
  have hP : va_P D vwCl (caW ad cy g a w) s.heap := hP
  have hD : va_D (fun _ => True) (caW ad cy g a w) := hD0
  have hl := lv_entry ([.ref (ad 7), .int p0]) (n := 3) (Nat.le_of_ble_eq_true rfl)
  rw [lg_entry_eq]
  generalize (lg_sl ([.ref (ad 7), .int p0]) ++ List.replicate (3 - (lg_sl ([.ref (ad 7), .int p0])).length) Slot.unset).toArray = ls at hl ⊢
  have hl : lv_has ls 3 [(0, .ref (ad 7)), (1, .int p0)] := hl
  refine lv_iload_n hx hb dX3_has_0 rfl (lv_at hl 1 rfl) ?_
  refine lv_bipush (v := (6 : Int32)) hx hb dX3_has_1 (by decide) ?_
  refine lv_ishr hx hb dX3_has_3 ?_
  refine lv_istore_n (lv' := [(2, .int (p0 >>> ((6 : Int32) &&& 31))), (0, .ref (ad 7)), (1, .int p0)]) hx hb dX3_has_4 rfl hl (by decide) rfl (fun ls hl => ?_)
  refine lv_iload_n hx hb dX3_has_5 rfl (lv_at hl 0 rfl) ?_
  refine lv_if_lt (tgt := 40) hx hb dX3_has_6 (by decide) (fun c_6 => ?_) (fun c_6 => ?_)
  · have hV := hV.1 c_6
    refine lv_iconst (v := (0 : Int32)) hx hb dX3_has_40 (by decide) ?_
    exact W.zret (v := (0 : Int32)) hx hb hr rfl (fun t ht hW => ⟨_, rfl, hV, ht⟩) (fun _ h => by cases h) dX3_has_41
  · have hV := hV.2 c_6
    refine lv_iload_n hx hb dX3_has_9 rfl (lv_at hl 0 rfl) ?_
    refine lv_aload_n hx hb dX3_has_10 rfl (lv_at hl 1 rfl) ?_
    refine va_get (D := D) (ci := 3) (v := .ref (ad 8)) (C := RX3) (T := TX3) (N := 1) hx hb hts (by decide +kernel) hown hK hP 7 rfl rfl 0 (by decide) (hts (.fieldLink RX3 9 "PowerRests$Marks" "bits" "[J") (by decide +kernel)) (fun _ h9 => h9) rfl dX3_has_11 ?_
    refine va_alen (v := (782 : Int32)) hx hb hK hP 8 2 rfl rfl rfl dX3_has_14 ?_
    refine lv_icmp_ge (tgt := 40) hx hb dX3_has_15 (by decide) (fun c_15 => ?_) (fun c_15 => ?_)
    · have hV := hV.1 c_15
      refine lv_iconst (v := (0 : Int32)) hx hb dX3_has_40 (by decide) ?_
      exact W.zret (v := (0 : Int32)) hx hb hr rfl (fun t ht hW => ⟨_, rfl, hV, ht⟩) (fun _ h => by cases h) dX3_has_41
    · have hV := hV.2 c_15
      refine lv_aload_n hx hb dX3_has_18 rfl (lv_at hl 1 rfl) ?_
      refine va_get (D := D) (ci := 3) (v := .ref (ad 8)) (C := RX3) (T := TX3) (N := 1) hx hb hts (by decide +kernel) hown hK hP 7 rfl rfl 0 (by decide) (hts (.fieldLink RX3 9 "PowerRests$Marks" "bits" "[J") (by decide +kernel)) (fun _ h9 => h9) rfl dX3_has_19 ?_
      refine lv_iload_n hx hb dX3_has_22 rfl (lv_at hl 0 rfl) ?_
      obtain ⟨h_23, hV⟩ := hV
      refine va_lald (f := (w 8)) hx hb hK hP 8 2 rfl rfl h_23 dX3_has_23 ?_
      refine lv_iload_n hx hb dX3_has_24 rfl (lv_at hl 2 rfl) ?_
      refine lv_bipush (v := (63 : Int32)) hx hb dX3_has_25 (by decide) ?_
      refine lv_iand hx hb dX3_has_27 ?_
      refine lv_lshr (v := ((w 8) (p0 >>> ((6 : Int32) &&& 31)).toNatClampNeg) >>> ((p0 &&& (63 : Int32)).toInt64 &&& 63)) hx hb dX3_has_28 rfl ?_
      refine lv_lconst (v := (1 : Int64)) hx hb dX3_has_29 (by decide) ?_
      refine lv_land hx hb dX3_has_30 ?_
      refine lv_lconst (v := (1 : Int64)) hx hb dX3_has_31 (by decide) ?_
      refine lc_ne (tgt := 40) hx hb dX3_has_32 dX3_has_33 (by decide) (fun c_32 => ?_) (fun c_32 => ?_)
      · have hV := hV.2 c_32
        refine lv_iconst (v := (0 : Int32)) hx hb dX3_has_40 (by decide) ?_
        exact W.zret (v := (0 : Int32)) hx hb hr rfl (fun t ht hW => ⟨_, rfl, hV, ht⟩) (fun _ h => by cases h) dX3_has_41
      · have hV := hV.1 c_32
        refine lv_iconst (v := (1 : Int32)) hx hb dX3_has_36 (by decide) ?_
        refine lv_goto (tgt := 41) hx hb dX3_has_37 (by decide) ?_
        exact W.zret (v := (1 : Int32)) hx hb hr rfl (fun t ht hW => ⟨_, rfl, hV, ht⟩) (fun _ h => by cases h) dX3_has_41
def post_X3_has (g : Gs) (a : As) (w : Ws) (p0 r : Int32) : Prop := r = zb (mB (w 8) (tn p0) = true)
set_option maxRecDepth 4000 in
theorem spec_X3_has (l : Launch) (D : va_G) (cy : Nat → ClassId) (ad : Nat → Nat) (sz : Nat) (g : Gs) (a : As) (w : Ws) (p0 : Int32) (hpre : pre_X3_has g a w p0) : Met l yX3_has wsX3_has ({ frames := 0, cells := 0, slots := 0, locals := 0 } : Room) (va_Pc [.ref (ad 7), .int p0] (ArP D cy sz (caW ad cy g a w))) (Qpi (post_X3_has g a w p0)) 0 0 noF := by
  apply met_X3_has
  obtain ⟨h0, h1⟩ := hpre
  obtain ⟨x, hx, rfl, hx2⟩ := of_i h0
  have hm : x % 64 < 64 := Nat.mod_lt _ (by decide)
  rw [sh_6 hx, lo_6 hx, wB_test _ hm, show (nI (x / 64)).toNatClampNeg = x / 64 from tn_nI (by omega)]
  unfold post_X3_has
  rw [tn_nI hx]
  refine ⟨fun h => ?_, fun _ => pk_le 782 (x / 64) (fun h => absurd h (by omega)) (fun _ => ⟨pk_in (x / 64) 782 (by omega), fun h3 => (zb_t h3).symm, fun h3 => (zb_f h3).symm⟩)⟩
  rw [i_lt, Int32.toInt_zero, nI_toInt (by omega)] at h
  omega
def pre_X3_pick (g : Gs) (a : As) (w : Ws) (p0 p1 : Int32) : Prop := 0 ≤ p0.toInt ∧ 0 ≤ p1.toInt ∧ p1.toInt ≤ 50000
set_option maxHeartbeats 4000000 in
set_option maxRecDepth 100000 in
theorem met_X3_pick (l : Launch) (D : va_G) (cy : Nat → ClassId) (ad : Nat → Nat) (sz : Nat) (g : Gs) (a : As) (w : Ws) (p0 : Int32) (p1 : Int32) (post : Int32 → Prop)
  (hV : ∀ (J5 : Int32 → Int32 → Prop),
    (∀ (x3 : Int32) (x4 : Int32), ((p1 ≤ x4 → post (-4 : Int32)) ∧ (¬ p1 ≤ x4 → pre_X3_has g a w x4 ∧ (∀ r14 : Int32, post_X3_has g a w x4 r14 → ((r14 = 0 → J5 x3 (x4 + 1)) ∧ (¬ r14 = 0 → ((x3 = p0 → post x4) ∧ (¬ x3 = p0 → J5 (x3 + 1) (x4 + 1)))))))) → J5 x3 x4) →
    J5 (0 : Int32) (0 : Int32)) :
  Met l yX3_pick wsX3_pick ({ frames := 1, cells := 0, slots := 0, locals := 22 } : Room) (va_Pc [.ref (ad 7), .int p0, .int p1] (ArP D cy sz (caW ad cy g a w))) (Qpi post) 0 0 noF := by
  refine Met.ofW (cc := cX3_pick) (maxL := 5) (ret := (some .int)) (by decide) rfl ?_
  intro p e s m args below meth c s₁ B hml hv
  obtain ⟨rfl, hsz, hP, hK, hD0, hN⟩ := hv
  have hx := B.exec
  have hb := B.bytes
  have hr := B.returns
  have hts := atoms_spec (ws := wsX3_pick) B.pre
  have hown : s.vm.findClass RX3 = some m.cls := findClass_of_methodNamed B.named
  have hlocks := B.notSynchronized
  subst hsz
  have hP : va_P D vwCl (caW ad cy g a w) s.heap := hP
  have hD : va_D (fun _ => True) (caW ad cy g a w) := hD0
  obtain ⟨J5, iJ5, oJ5⟩ : ∃ J : Int32 → Int32 → Prop, (∀ (x3 : Int32) (x4 : Int32), (∀ ls : Array Slot, lv_has ls 5 [(0, .ref (ad 7)), (1, .int p0), (2, .int p1), (3, .int x3), (4, .int x4)] → W p l e (headSpec wsX3_pick ({ frames := 1, cells := 0, slots := 0, locals := 22 } : Room)).room s m [.ref (ad 7), .int p0, .int p1].toArray below meth c s.heap [] 0 0 (MQ below (Qpi post) [.ref (ad 7), .int p0, .int p1].toArray s 0 0 noF) (F0 m 5 ls [])) → J x3 x4) ∧ (∀ (x3 : Int32) (x4 : Int32), J x3 x4 → (∀ ls : Array Slot, lv_has ls 5 [(0, .ref (ad 7)), (1, .int p0), (2, .int p1), (3, .int x3), (4, .int x4)] → W p l e (headSpec wsX3_pick ({ frames := 1, cells := 0, slots := 0, locals := 22 } : Room)).room s m [.ref (ad 7), .int p0, .int p1].toArray below meth c s.heap [] 0 0 (MQ below (Qpi post) [.ref (ad 7), .int p0, .int p1].toArray s 0 0 noF) (F0 m 5 ls []))) := ⟨fun (x3 : Int32) (x4 : Int32) => (∀ ls : Array Slot, lv_has ls 5 [(0, .ref (ad 7)), (1, .int p0), (2, .int p1), (3, .int x3), (4, .int x4)] → W p l e (headSpec wsX3_pick ({ frames := 1, cells := 0, slots := 0, locals := 22 } : Room)).room s m [.ref (ad 7), .int p0, .int p1].toArray below meth c s.heap [] 0 0 (MQ below (Qpi post) [.ref (ad 7), .int p0, .int p1].toArray s 0 0 noF) (F0 m 5 ls [])), fun _ _ h => h, fun _ _ h => h⟩
  have hV := hV J5
  replace hV := hV (by
    intro x3 x4 hV
    refine iJ5 x3 x4 ?_
    intro ls hl
    refine lv_iload hx hb dX3_pick_5 (lv_at hl 4 rfl) ?_
    refine lv_iload_n hx hb dX3_pick_7 rfl (lv_at hl 2 rfl) ?_
    refine lv_icmp_ge (tgt := 37) hx hb dX3_pick_8 (by decide) (fun c_8 => ?_) (fun c_8 => ?_)
    · have hV := hV.1 c_8
      refine lv_bipush (v := (-4 : Int32)) hx hb dX3_pick_37 (by decide) ?_
      exact W.iret (v := (-4 : Int32)) hx hb hr (fun t ht hW => ⟨_, rfl, hV, ht⟩) (fun _ h => by cases h) dX3_pick_39
    · have hV := hV.2 c_8
      refine lv_aload_n hx hb dX3_pick_11 rfl (lv_at hl 0 rfl) ?_
      refine lv_iload hx hb dX3_pick_12 (lv_at hl 4 rfl) ?_
      obtain ⟨h_14, hV⟩ := hV
      refine cp_i (va_runV (As := [.int x4]) (rest := []) ⟨hx, hb, hml, hown, hts⟩ (spec_X3_has l D cy ad s.heap.size g a w x4 h_14) (cwV 1 hts gX3_pick_X3_has rfl rfl rfl (by decide +kernel) ⟨Nat.le_of_ble_eq_true rfl, Nat.le_of_ble_eq_true rfl⟩) (ar_preV hN hK hP hD (ci := 3) (q0 := 7) rfl rfl) rfl rfl hl.1 rfl (lv_room (Nat.le_of_ble_eq_true rfl)) dX3_pick_14 ⟨Nat.zero_le _, Nat.zero_le _⟩) (fun r14 q_14 => ?_)
      have hV := hV r14 q_14
      refine lv_if_eq (tgt := 31) hx hb dX3_pick_17 (by decide) (fun c_17 => ?_) (fun c_17 => ?_)
      · have hV := hV.1 c_17
        refine lv_iinc (v := x4 + 1) (lv' := [(4, .int (x4 + 1)), (0, .ref (ad 7)), (1, .int p0), (2, .int p1), (3, .int x3)]) hx hb dX3_pick_31 hl (k := 4) rfl rfl (by decide) rfl (fun ls hl => ?_)
        refine lv_goto (tgt := 5) hx hb dX3_pick_34 (by decide) ?_
        exact oJ5 _ _ hV _ (lv_sub hl [1, 2, 3, 4, 0] rfl)
      · have hV := hV.2 c_17
        refine lv_iload_n hx hb dX3_pick_20 rfl (lv_at hl 3 rfl) ?_
        refine lv_iload_n hx hb dX3_pick_21 rfl (lv_at hl 1 rfl) ?_
        refine lv_icmp_ne (tgt := 28) hx hb dX3_pick_22 (by decide) (fun c_22 => ?_) (fun c_22 => ?_)
        · have hV := hV.2 c_22
          refine lv_iinc (v := x3 + 1) (lv' := [(3, .int (x3 + 1)), (0, .ref (ad 7)), (1, .int p0), (2, .int p1), (4, .int x4)]) hx hb dX3_pick_28 hl (k := 3) rfl rfl (by decide) rfl (fun ls hl => ?_)
          refine lv_iinc (v := x4 + 1) (lv' := [(4, .int (x4 + 1)), (3, .int (x3 + 1)), (0, .ref (ad 7)), (1, .int p0), (2, .int p1)]) hx hb dX3_pick_31 hl (k := 4) rfl rfl (by decide) rfl (fun ls hl => ?_)
          refine lv_goto (tgt := 5) hx hb dX3_pick_34 (by decide) ?_
          exact oJ5 _ _ hV _ (lv_sub hl [2, 3, 4, 1, 0] rfl)
        · have hV := hV.1 c_22
          refine lv_iload hx hb dX3_pick_25 (lv_at hl 4 rfl) ?_
          exact W.iret (v := x4) hx hb hr (fun t ht hW => ⟨_, rfl, hV, ht⟩) (fun _ h => by cases h) dX3_pick_27)
  have hl := lv_entry ([.ref (ad 7), .int p0, .int p1]) (n := 5) (Nat.le_of_ble_eq_true rfl)
  rw [lg_entry_eq]
  generalize (lg_sl ([.ref (ad 7), .int p0, .int p1]) ++ List.replicate (5 - (lg_sl ([.ref (ad 7), .int p0, .int p1])).length) Slot.unset).toArray = ls at hl ⊢
  have hl : lv_has ls 5 [(0, .ref (ad 7)), (1, .int p0), (2, .int p1)] := hl
  refine lv_iconst (v := (0 : Int32)) hx hb dX3_pick_0 (by decide) ?_
  refine lv_istore_n (lv' := [(3, .int (0 : Int32)), (0, .ref (ad 7)), (1, .int p0), (2, .int p1)]) hx hb dX3_pick_1 rfl hl (by decide) rfl (fun ls hl => ?_)
  refine lv_iconst (v := (0 : Int32)) hx hb dX3_pick_2 (by decide) ?_
  refine lv_istore (lv' := [(4, .int (0 : Int32)), (3, .int (0 : Int32)), (0, .ref (ad 7)), (1, .int p0), (2, .int p1)]) hx hb dX3_pick_3 hl (by decide) rfl (fun ls hl => ?_)
  exact oJ5 _ _ hV _ (lv_sub hl [2, 3, 4, 1, 0] rfl)
def post_X3_pick (g : Gs) (a : As) (w : Ws) (p0 p1 r : Int32) : Prop := Ith (mB (w 8)) (tn p1) p0 r
set_option maxRecDepth 4000 in
theorem spec_X3_pick (l : Launch) (D : va_G) (cy : Nat → ClassId) (ad : Nat → Nat) (sz : Nat) (g : Gs) (a : As) (w : Ws) (p0 : Int32) (p1 : Int32) (hpre : pre_X3_pick g a w p0 p1) : Met l yX3_pick wsX3_pick ({ frames := 1, cells := 0, slots := 0, locals := 22 } : Room) (va_Pc [.ref (ad 7), .int p0, .int p1] (ArP D cy sz (caW ad cy g a w))) (Qpi (post_X3_pick g a w p0 p1)) 0 0 noF := by
  apply met_X3_pick
  intro J hJ
  obtain ⟨h0, h1, h2⟩ := hpre
  obtain ⟨i, hi, rfl, hi2⟩ := of_i h0
  obtain ⟨n, hn, rfl, hn2⟩ := of_i h1
  have tnn : tn (nI n) = n := tn_nI hn
  have key : ∀ (d k f : Nat), k + d = n → f = fb_ct (mB (w 8)) k → f ≤ i → J (nI f) (nI k) := by
    intro d
    induction d with
    | zero =>
      intro k f hk hf hfi
      refine hJ _ _ (pk_le n k (fun _ => Or.inr (Or.inr ⟨h0, ?_, rfl⟩)) (fun h => absurd h (by omega)))
      rw [tnn, show n = k by omega, ← hf, hi2]
      omega
    | succ d ih =>
      intro k f hk hf hfi
      have hle := fb_ct_le (mB (w 8)) k
      refine hJ _ _ (pk_le n k (fun h => absurd h (by omega)) (fun _ => ⟨⟨by rw [nI_toInt (by omega)]; omega, by rw [nI_toInt (by omega)]; omega⟩, fun r hr => ?_⟩))
      unfold post_X3_has at hr
      rw [tn_nI (by omega)] at hr
      subst hr
      refine ⟨fun h4 => ?_, fun h4 => ?_⟩
      · have hm : ¬ mB (w 8) k = true := zb_0 h4
        rw [nI_1]
        exact ih (k + 1) f (by omega) (by rw [fb_ct_succ, if_neg hm, ← hf, Nat.add_zero]) hfi
      · have hm : mB (w 8) k = true := zb_1 h4
        refine pk_eq f i (fun h5 => Or.inr (Or.inl ⟨h0, k, by rw [tnn]; omega, hm, by rw [← hf, hi2]; omega, rfl⟩)) (fun h5 => ?_)
        rw [nI_1, nI_1]
        exact ih (k + 1) (f + 1) (by omega) (by rw [fb_ct_succ, if_pos hm, ← hf]) (by omega)
  exact key n 0 0 (by omega) rfl (by omega)
theorem ord_by {n x e : Nat} {Q S : Nat → Nat} {m : Nat} (h : FacF e Q S m) (h1 : x ^ e % n = 1 % n) (h2 : ∀ i, i < m → ¬ x ^ (e / Q i) % n = 1 % n) : IsOrd n x e := by
  have he := fac_n1 h
  obtain ⟨o, ⟨o1, o2⟩, o3⟩ := pk_least (fun e => 0 < e ∧ x ^ e % n = 1 % n) ⟨e, he, h1⟩
  have ho : IsOrd n x o := ⟨o1, o2, fun k a1 a2 a3 => o3 k a2 ⟨a1, a3⟩⟩
  obtain ⟨c, hc⟩ := ord_dvd ho h1
  by_cases hc1 : c = 1
  · rw [hc, hc1, Nat.mul_one]; exact ho
  · exfalso
    have hc0 : c ≠ 0 := fun z => by rw [z, Nat.mul_zero] at hc; omega
    obtain ⟨p, pp, ⟨c', hc'⟩, -⟩ := pr_ex (n := c) (by omega)
    obtain ⟨i, hi, e1⟩ := fac_prime h pp ⟨o * c', by rw [hc, hc', Nat.mul_left_comm]⟩
    apply h2 i hi
    have : e / Q i = o * c' := by
      rw [e1, hc, hc', Nat.mul_left_comm, Nat.mul_div_cancel_left _ (by have := pp.1; omega)]
    rw [this]
    exact pow_one_mul o2 c'
def pre_X6_hasOrder (g : Gs) (a : As) (w : Ws) (p0 p1 p2 : Int32) : Prop := 0 ≤ p0.toInt ∧ 1 ≤ p1.toInt ∧ 2 ≤ p2.toInt ∧ Fac 1 (tn p1) g a
set_option maxHeartbeats 4000000 in
set_option maxRecDepth 100000 in
theorem met_X6_hasOrder (l : Launch) (D : va_G) (cy : Nat → ClassId) (ad : Nat → Nat) (sz : Nat) (g : Gs) (a : As) (w : Ws) (p0 : Int32) (p1 : Int32) (p2 : Int32) (post : Int32 → Prop)
  (hV : ∀ (J17 : Int32 → Prop),
    (∀ (x4 : Int32), (((g 1) ≤ x4 → post (1 : Int32)) ∧ (¬ (g 1) ≤ x4 → vp_in x4 8 ∧ (((((a 1) x4.toNatClampNeg) ≤ (1 : Int32) → J17 (x4 + 1)) ∧ (¬ ((a 1) x4.toNatClampNeg) ≤ (1 : Int32) → ¬ ((a 1) x4.toNatClampNeg) = 0 ∧ (pre_X4_raise p0.toInt64 ((p1 / ((a 1) x4.toNatClampNeg)).toInt64) p2 ∧ (∀ r55 : Int32, post_X4_raise p0.toInt64 ((p1 / ((a 1) x4.toNatClampNeg)).toInt64) p2 r55 → ((r55 = (1 : Int32) → post (0 : Int32)) ∧ (¬ r55 = (1 : Int32) → J17 (x4 + 1)))))))))) → J17 x4) →
    pre_X4_raise p0.toInt64 p1.toInt64 p2 ∧ (∀ r5 : Int32, post_X4_raise p0.toInt64 p1.toInt64 p2 r5 → ((r5 = (1 : Int32) → J17 (0 : Int32)) ∧ (¬ r5 = (1 : Int32) → post (0 : Int32))))) :
  Met l yX6_hasOrder wsX6_hasOrder ({ frames := 1, cells := 0, slots := 0, locals := 31 } : Room) (va_Pc [.ref (ad 0), .int p0, .int p1, .int p2] (ArP D cy sz (caW ad cy g a w))) (Qpi post) 0 0 noF := by
  refine Met.ofW (cc := cX6_hasOrder) (maxL := 6) (ret := (some .boolean)) (by decide) rfl ?_
  intro p e s m args below meth c s₁ B hml hv
  obtain ⟨rfl, hsz, hP, hK, hD0, hN⟩ := hv
  have hx := B.exec
  have hb := B.bytes
  have hr := B.returns
  have hts := atoms_spec (ws := wsX6_hasOrder) B.pre
  have hown : s.vm.findClass RX6 = some m.cls := findClass_of_methodNamed B.named
  have hlocks := B.notSynchronized
  subst hsz
  have hP : va_P D vwCl (caW ad cy g a w) s.heap := hP
  have hD : va_D (fun _ => True) (caW ad cy g a w) := hD0
  obtain ⟨J17, iJ17, oJ17⟩ : ∃ J : Int32 → Prop, (∀ (x4 : Int32), (∀ ls : Array Slot, lv_has ls 6 [(0, .ref (ad 0)), (1, .int p0), (2, .int p1), (3, .int p2), (4, .int x4)] → W p l e (headSpec wsX6_hasOrder ({ frames := 1, cells := 0, slots := 0, locals := 31 } : Room)).room s m [.ref (ad 0), .int p0, .int p1, .int p2].toArray below meth c s.heap [] 0 0 (MQ below (Qpi post) [.ref (ad 0), .int p0, .int p1, .int p2].toArray s 0 0 noF) (F0 m 17 ls [])) → J x4) ∧ (∀ (x4 : Int32), J x4 → (∀ ls : Array Slot, lv_has ls 6 [(0, .ref (ad 0)), (1, .int p0), (2, .int p1), (3, .int p2), (4, .int x4)] → W p l e (headSpec wsX6_hasOrder ({ frames := 1, cells := 0, slots := 0, locals := 31 } : Room)).room s m [.ref (ad 0), .int p0, .int p1, .int p2].toArray below meth c s.heap [] 0 0 (MQ below (Qpi post) [.ref (ad 0), .int p0, .int p1, .int p2].toArray s 0 0 noF) (F0 m 17 ls []))) := ⟨fun (x4 : Int32) => (∀ ls : Array Slot, lv_has ls 6 [(0, .ref (ad 0)), (1, .int p0), (2, .int p1), (3, .int p2), (4, .int x4)] → W p l e (headSpec wsX6_hasOrder ({ frames := 1, cells := 0, slots := 0, locals := 31 } : Room)).room s m [.ref (ad 0), .int p0, .int p1, .int p2].toArray below meth c s.heap [] 0 0 (MQ below (Qpi post) [.ref (ad 0), .int p0, .int p1, .int p2].toArray s 0 0 noF) (F0 m 17 ls [])), fun _ h => h, fun _ h => h⟩
  have hV := hV J17
  replace hV := hV (by
    intro x4 hV
    refine iJ17 x4 ?_
    intro ls hl
    refine lv_iload hx hb dX6_hasOrder_17 (lv_at hl 4 rfl) ?_
    refine lv_aload_n hx hb dX6_hasOrder_19 rfl (lv_at hl 0 rfl) ?_
    refine va_get (D := D) (ci := 5) (v := .ref (ad 4)) (C := RX6) (T := TX6) (N := 10) hx hb hts (by decide +kernel) hown hK hP 0 rfl rfl 1 (by decide) (hts (.fieldLink RX6 16 "PowerRests" "ofOrder" "LPowerRests$Factors;") (by decide +kernel)) (fun _ h9 => h9) rfl dX6_hasOrder_20 ?_
    refine va_getN (D := D) (ci := 0) (v := .int (g 1)) (C := RX0) (T := TX0) (N := 3) hx hb hts (by decide +kernel) hown hK hP 4 rfl rfl 2 (by decide) (hN.use 0 (q := (RX6, 115, RX0, "kinds", "I")) rfl) (fun _ h9 => h9) rfl dX6_hasOrder_23 ?_
    refine lv_icmp_ge (tgt := 70) hx hb dX6_hasOrder_26 (by decide) (fun c_26 => ?_) (fun c_26 => ?_)
    · have hV := hV.1 c_26
      refine lv_iconst (v := (1 : Int32)) hx hb dX6_hasOrder_70 (by decide) ?_
      exact W.zret (v := (1 : Int32)) hx hb hr rfl (fun t ht hW => ⟨_, rfl, hV, ht⟩) (fun _ h => by cases h) dX6_hasOrder_71
    · have hV := hV.2 c_26
      refine lv_aload_n hx hb dX6_hasOrder_29 rfl (lv_at hl 0 rfl) ?_
      refine va_get (D := D) (ci := 5) (v := .ref (ad 4)) (C := RX6) (T := TX6) (N := 10) hx hb hts (by decide +kernel) hown hK hP 0 rfl rfl 1 (by decide) (hts (.fieldLink RX6 16 "PowerRests" "ofOrder" "LPowerRests$Factors;") (by decide +kernel)) (fun _ h9 => h9) rfl dX6_hasOrder_30 ?_
      refine va_getN (D := D) (ci := 0) (v := .ref (ad 5)) (C := RX0) (T := TX0) (N := 3) hx hb hts (by decide +kernel) hown hK hP 4 rfl rfl 0 (by decide) (hN.use 1 (q := (RX6, 119, RX0, "primes", "[I")) rfl) (fun _ h9 => h9) rfl dX6_hasOrder_33 ?_
      refine lv_iload hx hb dX6_hasOrder_36 (lv_at hl 4 rfl) ?_
      obtain ⟨h_38, hV⟩ := hV
      refine va_iald (f := (a 1)) hx hb hK hP 5 0 rfl rfl h_38 dX6_hasOrder_38 ?_
      refine lv_istore (lv' := [(5, .int ((a 1) x4.toNatClampNeg)), (0, .ref (ad 0)), (1, .int p0), (2, .int p1), (3, .int p2), (4, .int x4)]) hx hb dX6_hasOrder_39 hl (by decide) rfl (fun ls hl => ?_)
      refine lv_iload hx hb dX6_hasOrder_41 (lv_at hl 0 rfl) ?_
      refine lv_iconst (v := (1 : Int32)) hx hb dX6_hasOrder_43 (by decide) ?_
      refine lv_icmp_le (tgt := 64) hx hb dX6_hasOrder_44 (by decide) (fun c_44 => ?_) (fun c_44 => ?_)
      · have hV := hV.1 c_44
        refine lv_iinc (v := x4 + 1) (lv' := [(4, .int (x4 + 1)), (5, .int ((a 1) x4.toNatClampNeg)), (0, .ref (ad 0)), (1, .int p0), (2, .int p1), (3, .int p2)]) hx hb dX6_hasOrder_64 hl (k := 5) rfl rfl (by decide) rfl (fun ls hl => ?_)
        refine lv_goto (tgt := 17) hx hb dX6_hasOrder_67 (by decide) ?_
        exact oJ17 _ hV _ (lv_sub hl [2, 3, 4, 5, 0] rfl)
      · have hV := hV.2 c_44
        refine lv_iload_n hx hb dX6_hasOrder_47 rfl (lv_at hl 2 rfl) ?_
        refine lv_i2l (v := p0.toInt64) hx hb dX6_hasOrder_48 rfl ?_
        refine lv_iload_n hx hb dX6_hasOrder_49 rfl (lv_at hl 3 rfl) ?_
        refine lv_iload hx hb dX6_hasOrder_50 (lv_at hl 0 rfl) ?_
        obtain ⟨h_52, hV⟩ := hV
        refine lv_idiv hx hb dX6_hasOrder_52 h_52 ?_
        refine lv_i2l (v := (p1 / ((a 1) x4.toNatClampNeg)).toInt64) hx hb dX6_hasOrder_53 rfl ?_
        refine lv_iload_n hx hb dX6_hasOrder_54 rfl (lv_at hl 4 rfl) ?_
        obtain ⟨h_55, hV⟩ := hV
        refine cp_i (va_runS (As := [.long p0.toInt64, .long ((p1 / ((a 1) x4.toNatClampNeg)).toInt64), .int p2]) (rest := []) ⟨hx, hb, hml, hown, hts⟩ (spec_X4_raise l p0.toInt64 ((p1 / ((a 1) x4.toNatClampNeg)).toInt64) p2 h_55) (va_cwS 3 hts gX6_hasOrder_X4_raise rfl rfl rfl (by decide +kernel) ⟨Nat.le_of_ble_eq_true rfl, Nat.le_of_ble_eq_true rfl⟩) cp_pre rfl rfl hl.1 rfl (lv_room (Nat.le_of_ble_eq_true rfl)) dX6_hasOrder_55 ⟨Nat.zero_le _, Nat.zero_le _⟩) (fun r55 q_55 => ?_)
        have hV := hV r55 q_55
        refine lv_iconst (v := (1 : Int32)) hx hb dX6_hasOrder_58 (by decide) ?_
        refine lv_icmp_ne (tgt := 64) hx hb dX6_hasOrder_59 (by decide) (fun c_59 => ?_) (fun c_59 => ?_)
        · have hV := hV.2 c_59
          refine lv_iinc (v := x4 + 1) (lv' := [(4, .int (x4 + 1)), (5, .int ((a 1) x4.toNatClampNeg)), (0, .ref (ad 0)), (1, .int p0), (2, .int p1), (3, .int p2)]) hx hb dX6_hasOrder_64 hl (k := 5) rfl rfl (by decide) rfl (fun ls hl => ?_)
          refine lv_goto (tgt := 17) hx hb dX6_hasOrder_67 (by decide) ?_
          exact oJ17 _ hV _ (lv_sub hl [2, 3, 4, 5, 0] rfl)
        · have hV := hV.1 c_59
          refine lv_iconst (v := (0 : Int32)) hx hb dX6_hasOrder_62 (by decide) ?_
          exact W.zret (v := (0 : Int32)) hx hb hr rfl (fun t ht hW => ⟨_, rfl, hV, ht⟩) (fun _ h => by cases h) dX6_hasOrder_63)
  have hl := lv_entry ([.ref (ad 0), .int p0, .int p1, .int p2]) (n := 6) (Nat.le_of_ble_eq_true rfl)
  rw [lg_entry_eq]
  generalize (lg_sl ([.ref (ad 0), .int p0, .int p1, .int p2]) ++ List.replicate (6 - (lg_sl ([.ref (ad 0), .int p0, .int p1, .int p2])).length) Slot.unset).toArray = ls at hl ⊢
  have hl : lv_has ls 6 [(0, .ref (ad 0)), (1, .int p0), (2, .int p1), (3, .int p2)] := hl
  refine lv_iload_n hx hb dX6_hasOrder_0 rfl (lv_at hl 1 rfl) ?_
  refine lv_i2l (v := p0.toInt64) hx hb dX6_hasOrder_1 rfl ?_
  refine lv_iload_n hx hb dX6_hasOrder_2 rfl (lv_at hl 2 rfl) ?_
  refine lv_i2l (v := p1.toInt64) hx hb dX6_hasOrder_3 rfl ?_
  refine lv_iload_n hx hb dX6_hasOrder_4 rfl (lv_at hl 3 rfl) ?_
  obtain ⟨h_5, hV⟩ := hV
  refine cp_i (va_runS (As := [.long p0.toInt64, .long p1.toInt64, .int p2]) (rest := []) ⟨hx, hb, hml, hown, hts⟩ (spec_X4_raise l p0.toInt64 p1.toInt64 p2 h_5) (va_cwS 3 hts gX6_hasOrder_X4_raise rfl rfl rfl (by decide +kernel) ⟨Nat.le_of_ble_eq_true rfl, Nat.le_of_ble_eq_true rfl⟩) cp_pre rfl rfl hl.1 rfl (lv_room (Nat.le_of_ble_eq_true rfl)) dX6_hasOrder_5 ⟨Nat.zero_le _, Nat.zero_le _⟩) (fun r5 q_5 => ?_)
  have hV := hV r5 q_5
  refine lv_iconst (v := (1 : Int32)) hx hb dX6_hasOrder_8 (by decide) ?_
  refine lv_icmp_eq (tgt := 14) hx hb dX6_hasOrder_9 (by decide) (fun c_9 => ?_) (fun c_9 => ?_)
  · have hV := hV.1 c_9
    refine lv_iconst (v := (0 : Int32)) hx hb dX6_hasOrder_14 (by decide) ?_
    refine lv_istore (lv' := [(4, .int (0 : Int32)), (0, .ref (ad 0)), (1, .int p0), (2, .int p1), (3, .int p2)]) hx hb dX6_hasOrder_15 hl (by decide) rfl (fun ls hl => ?_)
    exact oJ17 _ hV _ (lv_sub hl [1, 2, 3, 4, 0] rfl)
  · have hV := hV.2 c_9
    refine lv_iconst (v := (0 : Int32)) hx hb dX6_hasOrder_12 (by decide) ?_
    exact W.zret (v := (0 : Int32)) hx hb hr rfl (fun t ht hW => ⟨_, rfl, hV, ht⟩) (fun _ h => by cases h) dX6_hasOrder_13
def post_X6_hasOrder (g : Gs) (a : As) (w : Ws) (p0 p1 p2 r : Int32) : Prop := r = zb (IsOrd (tn p2) (tn p0) (tn p1))
set_option maxRecDepth 4000 in
theorem spec_X6_hasOrder (l : Launch) (D : va_G) (cy : Nat → ClassId) (ad : Nat → Nat) (sz : Nat) (g : Gs) (a : As) (w : Ws) (p0 : Int32) (p1 : Int32) (p2 : Int32) (hpre : pre_X6_hasOrder g a w p0 p1 p2) : Met l yX6_hasOrder wsX6_hasOrder ({ frames := 1, cells := 0, slots := 0, locals := 31 } : Room) (va_Pc [.ref (ad 0), .int p0, .int p1, .int p2] (ArP D cy sz (caW ad cy g a w))) (Qpi (post_X6_hasOrder g a w p0 p1 p2)) 0 0 noF := by
  apply met_X6_hasOrder
  intro J hJ
  obtain ⟨h0, h1, h2, hF⟩ := hpre
  obtain ⟨x, hx, rfl, hx2⟩ := of_i h0
  obtain ⟨e, he, rfl, he2⟩ := of_i (x := p1) (by omega)
  obtain ⟨n, hn, rfl, hn2⟩ := of_i (x := p2) (by omega)
  rw [tn_nI he] at hF
  have yes : IsOrd n x e → post_X6_hasOrder g a w (nI x) (nI e) (nI n) 1 := fun h => by
    unfold post_X6_hasOrder
    rw [tn_nI hx, tn_nI he, tn_nI hn]
    exact (zb_t h).symm
  have no : ¬ IsOrd n x e → post_X6_hasOrder g a w (nI x) (nI e) (nI n) 0 := fun h => by
    unfold post_X6_hasOrder
    rw [tn_nI hx, tn_nI he, tn_nI hn]
    exact (zb_f h).symm
  rw [nI_l hx] at hJ ⊢
  rw [nI_l he]
  have h7 := hF.few
  have h1n : 1 % n = 1 := Nat.mod_eq_of_lt (by omega)
  refine ⟨⟨by rw [pk_lT (by omega)]; omega, by rw [pk_lT (by omega)]; omega, by rw [pk_lT (by omega)]; omega, by omega⟩, fun r hr => ?_⟩
  unfold post_X4_raise at hr
  rw [tl_lN (by omega), tl_lN (by omega), tn_nI hn] at hr
  subst hr
  have hml := Nat.mod_lt (x ^ e) (show 0 < n by omega)
  refine pk_eq (x ^ e % n) 1 (fun h3 => ?_) (fun h3 => no (fun q => h3 (by rw [q.2.1, h1n])))
  have key : ∀ (d k : Nat), k + d = tn (g 1) → (∀ i, i < k → ¬ x ^ (e / PP 1 a i) % n = 1 % n) → J (nI k) := by
    intro d
    induction d with
    | zero =>
      intro k hk hi
      refine hJ _ ?_
      rw [hF.2.2.1]
      exact pk_le (tn (g 1)) k (fun _ => yes (ord_by hF.1 (by rw [h3, h1n]) (fun i hi2 => hi i (by omega)))) (fun h => absurd h (by omega))
    | succ d ih =>
      intro k hk hi
      obtain ⟨i1, i2, i3, i4, i5, i6, i7, i8, i9⟩ := hF.at (show k < tn (g 1) by omega)
      have hdl : e / PP 1 a k ≤ e := Nat.div_le_self _ _
      obtain ⟨u, hu⟩ : ∃ u, u = e / PP 1 a k := ⟨_, rfl⟩
      rw [← hu] at hdl
      refine hJ _ ?_
      rw [hF.2.2.1]
      refine pk_le (tn (g 1)) k (fun h => absurd h (by omega)) (fun _ => ⟨i1, ?_⟩)
      rw [show (nI k).toNatClampNeg = k from i2, i3, pk_div he (by omega) (by omega), ← hu, nI_l (show u < 2 ^ 31 by omega)]
      refine pk_le (PP 1 a k) 1 (fun h => absurd h (by omega)) (fun _ => ⟨nI_nz (by omega) (by omega), ⟨by rw [pk_lT (by omega)]; omega, by rw [pk_lT (by omega)]; omega, by rw [pk_lT (by omega)]; omega, by omega⟩, fun r hr => ?_⟩)
      unfold post_X4_raise at hr
      rw [tl_lN (by omega), tl_lN (by omega), tn_nI hn] at hr
      subst hr
      have hml2 := Nat.mod_lt (x ^ u) (show 0 < n by omega)
      refine pk_eq (x ^ u % n) 1 (fun h5 => no (fun q => ?_)) (fun h5 => ?_)
      · have hd := fac_dvd hF.1 (show k < tn (g 1) by omega)
        have h6 := ord_dvd q (h5.trans h1n.symm)
        have h8 : e / PP 1 a k < e := Nat.div_lt_self (by omega) (by omega)
        have h9 : 0 < e / PP 1 a k := Nat.div_pos (Nat.le_of_dvd (by omega) hd) (by omega)
        rw [← hu] at h8 h9
        have := Nat.le_of_dvd h9 h6
        omega
      · rw [nI_1]
        refine ih (k + 1) (by omega) (fun i hi2 => ?_)
        by_cases ei : i = k
        · subst ei; rw [h1n, ← hu]; exact h5
        · exact hi i (by omega)
  exact key (tn (g 1)) 0 (by omega) (fun i h => by omega)
def pre_X6_firstMaker (g : Gs) (a : As) (w : Ws) (p0 p1 : Int32) : Prop := 2 ≤ p0.toInt ∧ 1 ≤ p1.toInt ∧ Fac 1 (tn p1) g a ∧ ∃ x, IsOrd (tn p0) x (tn p1)
set_option maxHeartbeats 4000000 in
set_option maxRecDepth 100000 in
theorem met_X6_firstMaker (l : Launch) (D : va_G) (cy : Nat → ClassId) (ad : Nat → Nat) (sz : Nat) (g : Gs) (a : As) (w : Ws) (p0 : Int32) (p1 : Int32) (post : Int32 → Prop)
  (hV : ∀ (J2 : Int32 → Prop),
    (∀ (x3 : Int32), ((p0 ≤ x3 → post (1 : Int32)) ∧ (¬ p0 ≤ x3 → pre_X6_hasOrder g a w x3 p1 p0 ∧ (∀ r11 : Int32, post_X6_hasOrder g a w x3 p1 p0 r11 → ((r11 = 0 → J2 (x3 + 1)) ∧ (¬ r11 = 0 → post x3))))) → J2 x3) →
    J2 (1 : Int32)) :
  Met l yX6_firstMaker wsX6_firstMaker ({ frames := 2, cells := 0, slots := 0, locals := 56 } : Room) (va_Pc [.ref (ad 0), .int p0, .int p1] (ArP D cy sz (caW ad cy g a w))) (Qpi post) 0 0 noF := by
  refine Met.ofW (cc := cX6_firstMaker) (maxL := 4) (ret := (some .int)) (by decide) rfl ?_
  intro p e s m args below meth c s₁ B hml hv
  obtain ⟨rfl, hsz, hP, hK, hD0, hN⟩ := hv
  have hx := B.exec
  have hb := B.bytes
  have hr := B.returns
  have hts := atoms_spec (ws := wsX6_firstMaker) B.pre
  have hown : s.vm.findClass RX6 = some m.cls := findClass_of_methodNamed B.named
  have hlocks := B.notSynchronized
  subst hsz
  have hP : va_P D vwCl (caW ad cy g a w) s.heap := hP
  have hD : va_D (fun _ => True) (caW ad cy g a w) := hD0
  obtain ⟨J2, iJ2, oJ2⟩ : ∃ J : Int32 → Prop, (∀ (x3 : Int32), (∀ ls : Array Slot, lv_has ls 4 [(0, .ref (ad 0)), (1, .int p0), (2, .int p1), (3, .int x3)] → W p l e (headSpec wsX6_firstMaker ({ frames := 2, cells := 0, slots := 0, locals := 56 } : Room)).room s m [.ref (ad 0), .int p0, .int p1].toArray below meth c s.heap [] 0 0 (MQ below (Qpi post) [.ref (ad 0), .int p0, .int p1].toArray s 0 0 noF) (F0 m 2 ls [])) → J x3) ∧ (∀ (x3 : Int32), J x3 → (∀ ls : Array Slot, lv_has ls 4 [(0, .ref (ad 0)), (1, .int p0), (2, .int p1), (3, .int x3)] → W p l e (headSpec wsX6_firstMaker ({ frames := 2, cells := 0, slots := 0, locals := 56 } : Room)).room s m [.ref (ad 0), .int p0, .int p1].toArray below meth c s.heap [] 0 0 (MQ below (Qpi post) [.ref (ad 0), .int p0, .int p1].toArray s 0 0 noF) (F0 m 2 ls []))) := ⟨fun (x3 : Int32) => (∀ ls : Array Slot, lv_has ls 4 [(0, .ref (ad 0)), (1, .int p0), (2, .int p1), (3, .int x3)] → W p l e (headSpec wsX6_firstMaker ({ frames := 2, cells := 0, slots := 0, locals := 56 } : Room)).room s m [.ref (ad 0), .int p0, .int p1].toArray below meth c s.heap [] 0 0 (MQ below (Qpi post) [.ref (ad 0), .int p0, .int p1].toArray s 0 0 noF) (F0 m 2 ls [])), fun _ h => h, fun _ h => h⟩
  have hV := hV J2
  replace hV := hV (by
    intro x3 hV
    refine iJ2 x3 ?_
    intro ls hl
    refine lv_iload_n hx hb dX6_firstMaker_2 rfl (lv_at hl 3 rfl) ?_
    refine lv_iload_n hx hb dX6_firstMaker_3 rfl (lv_at hl 1 rfl) ?_
    refine lv_icmp_ge (tgt := 25) hx hb dX6_firstMaker_4 (by decide) (fun c_4 => ?_) (fun c_4 => ?_)
    · have hV := hV.1 c_4
      refine lv_iconst (v := (1 : Int32)) hx hb dX6_firstMaker_25 (by decide) ?_
      exact W.iret (v := (1 : Int32)) hx hb hr (fun t ht hW => ⟨_, rfl, hV, ht⟩) (fun _ h => by cases h) dX6_firstMaker_26
    · have hV := hV.2 c_4
      refine lv_aload_n hx hb dX6_firstMaker_7 rfl (lv_at hl 0 rfl) ?_
      refine lv_iload_n hx hb dX6_firstMaker_8 rfl (lv_at hl 3 rfl) ?_
      refine lv_iload_n hx hb dX6_firstMaker_9 rfl (lv_at hl 2 rfl) ?_
      refine lv_iload_n hx hb dX6_firstMaker_10 rfl (lv_at hl 1 rfl) ?_
      obtain ⟨h_11, hV⟩ := hV
      refine cp_i (va_runV (As := [.int x3, .int p1, .int p0]) (rest := []) ⟨hx, hb, hml, hown, hts⟩ (spec_X6_hasOrder l D cy ad s.heap.size g a w x3 p1 p0 h_11) (cwV 3 hts gX6_firstMaker_X6_hasOrder rfl rfl rfl (by decide +kernel) ⟨Nat.le_of_ble_eq_true rfl, Nat.le_of_ble_eq_true rfl⟩) (ar_preV hN hK hP hD (ci := 5) (q0 := 0) rfl rfl) rfl rfl hl.1 rfl (lv_room (Nat.le_of_ble_eq_true rfl)) dX6_firstMaker_11 ⟨Nat.zero_le _, Nat.zero_le _⟩) (fun r11 q_11 => ?_)
      have hV := hV r11 q_11
      refine lv_if_eq (tgt := 19) hx hb dX6_firstMaker_14 (by decide) (fun c_14 => ?_) (fun c_14 => ?_)
      · have hV := hV.1 c_14
        refine lv_iinc (v := x3 + 1) (lv' := [(3, .int (x3 + 1)), (0, .ref (ad 0)), (1, .int p0), (2, .int p1)]) hx hb dX6_firstMaker_19 hl (k := 3) rfl rfl (by decide) rfl (fun ls hl => ?_)
        refine lv_goto (tgt := 2) hx hb dX6_firstMaker_22 (by decide) ?_
        exact oJ2 _ hV _ (lv_sub hl [1, 2, 3, 0] rfl)
      · have hV := hV.2 c_14
        refine lv_iload_n hx hb dX6_firstMaker_17 rfl (lv_at hl 3 rfl) ?_
        exact W.iret (v := x3) hx hb hr (fun t ht hW => ⟨_, rfl, hV, ht⟩) (fun _ h => by cases h) dX6_firstMaker_18)
  have hl := lv_entry ([.ref (ad 0), .int p0, .int p1]) (n := 4) (Nat.le_of_ble_eq_true rfl)
  rw [lg_entry_eq]
  generalize (lg_sl ([.ref (ad 0), .int p0, .int p1]) ++ List.replicate (4 - (lg_sl ([.ref (ad 0), .int p0, .int p1])).length) Slot.unset).toArray = ls at hl ⊢
  have hl : lv_has ls 4 [(0, .ref (ad 0)), (1, .int p0), (2, .int p1)] := hl
  refine lv_iconst (v := (1 : Int32)) hx hb dX6_firstMaker_0 (by decide) ?_
  refine lv_istore_n (lv' := [(3, .int (1 : Int32)), (0, .ref (ad 0)), (1, .int p0), (2, .int p1)]) hx hb dX6_firstMaker_1 rfl hl (by decide) rfl (fun ls hl => ?_)
  exact oJ2 _ hV _ (lv_sub hl [1, 2, 3, 0] rfl)
def post_X6_firstMaker (g : Gs) (a : As) (w : Ws) (p0 p1 r : Int32) : Prop := ∃ x, x < tn p0 ∧ IsOrd (tn p0) x (tn p1) ∧ r = nI x
set_option maxRecDepth 4000 in
theorem spec_X6_firstMaker (l : Launch) (D : va_G) (cy : Nat → ClassId) (ad : Nat → Nat) (sz : Nat) (g : Gs) (a : As) (w : Ws) (p0 : Int32) (p1 : Int32) (hpre : pre_X6_firstMaker g a w p0 p1) : Met l yX6_firstMaker wsX6_firstMaker ({ frames := 2, cells := 0, slots := 0, locals := 56 } : Room) (va_Pc [.ref (ad 0), .int p0, .int p1] (ArP D cy sz (caW ad cy g a w))) (Qpi (post_X6_firstMaker g a w p0 p1)) 0 0 noF := by
  apply met_X6_firstMaker
  intro J hJ
  obtain ⟨h0, h1, hF, x, hx⟩ := hpre
  obtain ⟨n, hn, rfl, hn2⟩ := of_i (x := p0) (by omega)
  have tnn : tn (nI n) = n := tn_nI hn
  rw [tnn] at hx
  -- the one below n
  have hy : IsOrd n (x % n) (tn p1) := ord_mod.mpr hx
  have hyl := Nat.mod_lt x (show 0 < n by omega)
  have hy1 : 1 ≤ x % n := Nat.pos_of_ne_zero (fun z => by
    have hc := cop_of_pow hy.1 hy.2.1
    rw [z] at hc
    have : Nat.gcd n 0 = 1 := hc
    rw [Nat.gcd_zero_right] at this
    omega)
  have key : ∀ (d k : Nat), k + d = x % n → J (nI k) := by
    intro d
    induction d with
    | zero =>
      intro k hk
      refine hJ _ (pk_le n k (fun h => absurd h (by omega)) (fun _ => ⟨⟨by rw [nI_toInt (by omega)]; omega, h1, h0, hF⟩, fun r hr => ?_⟩))
      unfold post_X6_hasOrder at hr
      rw [tnn, tn_nI (by omega)] at hr
      subst hr
      refine ⟨fun h => absurd ?_ (zb_0 h), fun h => ⟨k, by rw [tnn]; omega, by rw [tnn]; exact zb_1 h, rfl⟩⟩
      rw [show k = x % n by omega]
      exact hy
    | succ d ih =>
      intro k hk
      refine hJ _ (pk_le n k (fun h => absurd h (by omega)) (fun _ => ⟨⟨by rw [nI_toInt (by omega)]; omega, h1, h0, hF⟩, fun r hr => ?_⟩))
      unfold post_X6_hasOrder at hr
      rw [tnn, tn_nI (by omega)] at hr
      subst hr
      refine ⟨fun h => ?_, fun h => ⟨k, by rw [tnn]; omega, by rw [tnn]; exact zb_1 h, rfl⟩⟩
      rw [nI_1]
      exact ih (k + 1) (by omega)
  exact key (x % n - 1) 1 (by omega)
