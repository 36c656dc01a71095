/-! the text, its numbers -/
/-- the class holds the text T of length L -/
def TxC (T : Nat → Nat) (L : Nat) (g : Gs) (a : As) : Prop := L ≤ 200 ∧ g 3 = nI L ∧ ∀ i, i < L → T i < 256 ∧ a 5 i = nI (T i)
def sB (x : Nat) : Int32 := (nI x).toInt8.toInt32
/-- the reference holds it -/
def TxM (T : Nat → Nat) (L : Nat) (g : Gs) (a : As) : Prop := L ≤ 200 ∧ g 0 = nI L ∧ ∀ i, i < L → T i < 256 ∧ a 0 i = sB (T i)
theorem sB_i : ∀ x, x < 256 → (sB x).toInt = if x < 128 then (x : Int) else (x : Int) - 256 := by decide +kernel
theorem sB_eq {x c : Nat} (hx : x < 256) (hc : c < 128) : sB x = nI c ↔ x = c := by
  rw [i_eq, sB_i x hx, nI_toInt (by omega)]
  split <;> omega
theorem sB_lo {x : Nat} (hx : x < 128) : sB x = nI x := (sB_eq (by omega) hx).mpr rfl
def tAt (T : Nat → Nat) (L p : Nat) : Int32 := if p < L then nI (T p) else -1
def pre_X5_at (g : Gs) (a : As) (w : Ws) (p0 : Int32) : Prop := (∃ T L, TxC T L g a) ∧ 0 ≤ p0.toInt
set_option maxHeartbeats 4000000 in
set_option maxRecDepth 100000 in
theorem met_X5_at (l : Launch) (D : va_G) (cy : Nat → ClassId) (ad : Nat → Nat) (sz : Nat) (g : Gs) (a : As) (w : Ws) (p0 : Int32) (post : Int32 → Prop)
  (hV : ((p0 < 0 → post (-1 : Int32)) ∧ (¬ p0 < 0 → (((g 3) ≤ p0 → post (-1 : Int32)) ∧ (¬ (g 3) ≤ p0 → vp_in p0 200 ∧ (post ((a 5) p0.toNatClampNeg))))))) :
  Met l yX5_at wsX5_at ({ frames := 0, cells := 0, slots := 0, locals := 0 } : Room) (va_Pc [.ref (ad 9), .int p0] (ArP D cy sz (caW ad cy g a w))) (Qpi post) 0 0 noF := by
  refine Met.ofW (cc := cX5_at) (maxL := 2) (ret := (some .int)) (by decide) rfl ?_
  intro p e s m args below meth c s₁ B hml hv
  obtain ⟨rfl, hsz, hP, hK, hD0, hN⟩ := hv
  have hx := B.exec
  have hb := B.bytes
  have hr := B.returns
  have hts := atoms_spec (ws := wsX5_at) B.pre
  have hown : s.vm.findClass RX5 = some m.cls := findClass_of_methodNamed B.named
  have hlocks := B.notSynchronized
  subst hsz
  have hP : va_P D vwCl (caW ad cy g a w) s.heap := hP
  have hD : va_D (fun _ => True) (caW ad cy g a w) := hD0
  have hl := lv_entry ([.ref (ad 9), .int p0]) (n := 2) (Nat.le_of_ble_eq_true rfl)
  rw [lg_entry_eq]
  generalize (lg_sl ([.ref (ad 9), .int p0]) ++ List.replicate (2 - (lg_sl ([.ref (ad 9), .int p0])).length) Slot.unset).toArray = ls at hl ⊢
  have hl : lv_has ls 2 [(0, .ref (ad 9)), (1, .int p0)] := hl
  refine lv_iload_n hx hb dX5_at_0 rfl (lv_at hl 1 rfl) ?_
  refine lv_if_lt (tgt := 21) hx hb dX5_at_1 (by decide) (fun c_1 => ?_) (fun c_1 => ?_)
  · have hV := hV.1 c_1
    refine lv_iconst (v := (-1 : Int32)) hx hb dX5_at_21 (by decide) ?_
    exact W.iret (v := (-1 : Int32)) hx hb hr (fun t ht hW => ⟨_, rfl, hV, ht⟩) (fun _ h => by cases h) dX5_at_22
  · have hV := hV.2 c_1
    refine lv_iload_n hx hb dX5_at_4 rfl (lv_at hl 1 rfl) ?_
    refine lv_aload_n hx hb dX5_at_5 rfl (lv_at hl 0 rfl) ?_
    refine va_get (D := D) (ci := 4) (v := .int (g 3)) (C := RX5) (T := TX5) (N := 2) hx hb hts (by decide +kernel) hown hK hP 9 rfl rfl 1 (by decide) (hts (.fieldLink RX5 13 "PowerRests$Text" "length" "I") (by decide +kernel)) (fun _ h9 => h9) rfl dX5_at_6 ?_
    refine lv_icmp_ge (tgt := 21) hx hb dX5_at_9 (by decide) (fun c_9 => ?_) (fun c_9 => ?_)
    · have hV := hV.1 c_9
      refine lv_iconst (v := (-1 : Int32)) hx hb dX5_at_21 (by decide) ?_
      exact W.iret (v := (-1 : Int32)) hx hb hr (fun t ht hW => ⟨_, rfl, hV, ht⟩) (fun _ h => by cases h) dX5_at_22
    · have hV := hV.2 c_9
      refine lv_aload_n hx hb dX5_at_12 rfl (lv_at hl 0 rfl) ?_
      refine va_get (D := D) (ci := 4) (v := .ref (ad 10)) (C := RX5) (T := TX5) (N := 2) hx hb hts (by decide +kernel) hown hK hP 9 rfl rfl 0 (by decide) (hts (.fieldLink RX5 7 "PowerRests$Text" "bytes" "[I") (by decide +kernel)) (fun _ h9 => h9) rfl dX5_at_13 ?_
      refine lv_iload_n hx hb dX5_at_16 rfl (lv_at hl 1 rfl) ?_
      obtain ⟨h_17, hV⟩ := hV
      refine va_iald (f := (a 5)) hx hb hK hP 10 0 rfl rfl h_17 dX5_at_17 ?_
      refine lv_goto (tgt := 22) hx hb dX5_at_18 (by decide) ?_
      exact W.iret (v := (a 5) p0.toNatClampNeg) hx hb hr (fun t ht hW => ⟨_, rfl, hV, ht⟩) (fun _ h => by cases h) dX5_at_22
def post_X5_at (g : Gs) (a : As) (w : Ws) (p0 r : Int32) : Prop := ∀ T L, TxC T L g a → r = tAt T L (tn p0)
set_option maxRecDepth 4000 in
theorem spec_X5_at (l : Launch) (D : va_G) (cy : Nat → ClassId) (ad : Nat → Nat) (sz : Nat) (g : Gs) (a : As) (w : Ws) (p0 : Int32) (hpre : pre_X5_at g a w p0) : Met l yX5_at wsX5_at ({ frames := 0, cells := 0, slots := 0, locals := 0 } : Room) (va_Pc [.ref (ad 9), .int p0] (ArP D cy sz (caW ad cy g a w))) (Qpi (post_X5_at g a w p0)) 0 0 noF := by
  apply met_X5_at
  obtain ⟨⟨T, L, hT⟩, h0⟩ := hpre
  obtain ⟨p, hp, rfl, hp2⟩ := of_i h0
  have tnp : tn (nI p) = p := tn_nI hp
  refine ⟨fun h => absurd h (nI_pos hp), fun _ => pk_le L p (fun h T' L' h' => ?_) (fun h => ⟨vp_in_nI (by have := hT.1; omega) (by omega), fun T' L' h' => ?_⟩) hT.2.1 rfl (by have := hT.1; omega) (by omega)⟩
  · have : L' = L := (nI_eq (by have := h'.1; omega) (by have := hT.1; omega)).mp (h'.2.1.symm.trans hT.2.1)
    subst this
    unfold tAt
    rw [tnp, if_neg (by omega)]
  · have : L' = L := (nI_eq (by have := h'.1; omega) (by have := hT.1; omega)).mp (h'.2.1.symm.trans hT.2.1)
    subst this
    unfold tAt
    rw [tnp, if_pos h]
    show a 5 (tn (nI p)) = _
    rw [tnp]
    exact (h'.2.2 p h).2
def Dig (T : Nat → Nat) (L i : Nat) : Prop := i < L ∧ 48 ≤ T i ∧ T i ≤ 57
def valN (T : Nat → Nat) (p : Nat) : Nat → Nat
  | 0 => 0
  | f + 1 => 10 * valN T p f + T (p + f) - 48
theorem valN_lt {T : Nat → Nat} {L p : Nat} : ∀ {f : Nat}, (∀ j, j < f → Dig T L (p + j)) → valN T p f < 10 ^ f
  | 0, _ => by show 0 < 10 ^ 0; exact Nat.one_pos
  | f + 1, h => by
    have h1 := valN_lt (f := f) (fun j hj => h j (by omega))
    have h2 := h f (by omega)
    have h3 := h2.2
    show 10 * valN T p f + T (p + f) - 48 < 10 ^ (f + 1)
    rw [Nat.pow_succ]
    omega
/-- a number of one to four figures from p up to q -/
def Num (T : Nat → Nat) (L p q v : Nat) : Prop := ∃ f, (1 ≤ f ∧ f ≤ 4) ∧ q = p + f ∧ v = valN T p f ∧ (∀ j, j < f → Dig T L (p + j)) ∧ ¬ Dig T L (p + f)
theorem num_run {T : Nat → Nat} {L p q v f : Nat} (h : Num T L p q v) (hd : ∀ j, j < f → Dig T L (p + j)) (hn : ¬ Dig T L (p + f)) : q = p + f ∧ v = valN T p f ∧ 1 ≤ f ∧ f ≤ 4 := by
  obtain ⟨f', h1, h2, h3, h4, h5⟩ := h
  have : f' = f := by
    rcases Nat.lt_trichotomy f' f with z | z | z
    · exact absurd (hd f' z) h5
    · exact z
    · exact absurd (h4 f z) hn
  subst this
  exact ⟨h2, h3, h1⟩
theorem num_long {T : Nat → Nat} {L p q v f : Nat} (h : Num T L p q v) (hd : ∀ j, j < f → Dig T L (p + j)) : f ≤ 4 := by
  obtain ⟨f', h1, h2, h3, h4, h5⟩ := h
  apply Classical.byContradiction
  intro z
  exact h5 (hd f' (by omega))
theorem Num.one {T : Nat → Nat} {L p q v q' v' : Nat} (h : Num T L p q v) (h' : Num T L p q' v') : q = q' ∧ v = v' := by
  obtain ⟨f, h1, h2, h3, h4, h5⟩ := h'
  obtain ⟨k1, k2, -⟩ := num_run h h4 h5
  exact ⟨k1.trans h2.symm, k2.trans h3.symm⟩
theorem Num.b {T : Nat → Nat} {L p q v : Nat} (h : Num T L p q v) : v < 10000 ∧ p < q ∧ q ≤ p + 4 ∧ q ≤ L := by
  obtain ⟨f, h1, h2, h3, h4, h5⟩ := h
  have := valN_lt h4
  have h6 : 10 ^ f ≤ 10 ^ 4 := Nat.pow_le_pow_right (by decide) h1.2
  have h7 := (h4 (f - 1) (by omega)).1
  exact ⟨by omega, by omega, by omega, by omega⟩
/-- a number and what closes it -/
def NumC (T : Nat → Nat) (L p c q v : Nat) : Prop := Num T L p q v ∧ q < L ∧ T q = c
def NumAns (T : Nat → Nat) (L p c : Nat) (r : Int32) (e : Nat) : Prop := (∃ q v, NumC T L p c q v ∧ r = nI v ∧ e = q + 1) ∨ ((¬ ∃ q v, NumC T L p c q v) ∧ r = -1 ∧ e ≤ p + 6)
def pre_X1_number (g : Gs) (a : As) (w : Ws) (p1 : Int32) : Prop := (∃ T L, TxC T L g a) ∧ (∃ p, p ≤ 300 ∧ g 8 = nI p) ∧ 0 ≤ p1.toInt
set_option maxHeartbeats 4000000 in
set_option maxRecDepth 100000 in
theorem met_X1_number (l : Launch) (D : va_G) (cy : Nat → ClassId) (ad : Nat → Nat) (sz : Nat) (g : Gs) (a : As) (w : Ws) (p1 : Int32) (post : Int32 → Gs → As → Ws → Prop)
  (hV : ∀ (J5 : Int32 → Int32 → Gs → As → Ws → Prop) (J70 : Int32 → Int32 → Gs → As → Ws → Prop),
    (∀ (x3 : Int32) (x4 : Int32) (g_ : Gs) (a_ : As) (w_ : Ws), (((5 : Int32) ≤ x4 → J70 x3 x4 g_ a_ w_) ∧ (¬ (5 : Int32) ≤ x4 → pre_X5_at g_ a_ w_ (g_ 8) ∧ (∀ r16 : Int32, post_X5_at g_ a_ w_ (g_ 8) r16 → ((r16 < (48 : Int32) → J70 x3 x4 g_ a_ w_) ∧ (¬ r16 < (48 : Int32) → pre_X5_at g_ a_ w_ (g_ 8) ∧ (∀ r29 : Int32, post_X5_at g_ a_ w_ (g_ 8) r29 → (((57 : Int32) < r29 → J70 x3 x4 g_ a_ w_) ∧ (¬ (57 : Int32) < r29 → pre_X5_at g_ a_ w_ (g_ 8) ∧ (∀ r46 : Int32, post_X5_at g_ a_ w_ (g_ 8) r46 → J5 ((((10 : Int32) * x3) + r46) - (48 : Int32)) (x4 + 1) (va_up g_ 8 ((g_ 8) + (1 : Int32))) a_ w_))))))))) → J5 x3 x4 g_ a_ w_) →
    (∀ (x3 : Int32) (x4 : Int32) (g_ : Gs) (a_ : As) (w_ : Ws), ((x4 < (1 : Int32) → post (-1 : Int32) (va_up g_ 8 ((g_ 8) + (1 : Int32))) a_ w_) ∧ (¬ x4 < (1 : Int32) → (((4 : Int32) < x4 → post (-1 : Int32) (va_up g_ 8 ((g_ 8) + (1 : Int32))) a_ w_) ∧ (¬ (4 : Int32) < x4 → pre_X5_at g_ a_ w_ (g_ 8) ∧ (∀ r87 : Int32, post_X5_at g_ a_ w_ (g_ 8) r87 → ((r87 = p1 → post x3 (va_up g_ 8 ((g_ 8) + (1 : Int32))) a_ w_) ∧ (¬ r87 = p1 → post (-1 : Int32) (va_up g_ 8 ((g_ 8) + (1 : Int32))) a_ w_))))))) → J70 x3 x4 g_ a_ w_) →
    J5 (0 : Int32) (0 : Int32) g a w) :
  Met l yX1_number wsX1_number ({ frames := 1, cells := 0, slots := 0, locals := 21 } : Room) (va_Pc [.ref (ad 11), .ref (ad 9), .int p1] (ArP D cy sz (caW ad cy g a w))) (va_Qi (fun (r : Int32) (u : Gs × As × Ws) => post r u.1 u.2.1 u.2.2) (fun u t => va_P D vwCl (caW ad cy u.1 u.2.1 u.2.2) t.heap) (va_A (caW ad cy g a w) sz)) 0 0 (va_A (caW ad cy g a w) sz) := by
  refine Met.ofW (cc := cX1_number) (maxL := 6) (ret := (some .int)) (by decide) rfl ?_
  intro p e s m args below meth c s₁ B hml hv
  obtain ⟨rfl, hsz, hP, hK, hD0, hN⟩ := hv
  have hx := B.exec
  have hb := B.bytes
  have hr := B.returns
  have hts := atoms_spec (ws := wsX1_number) B.pre
  have hown : s.vm.findClass RX1 = some m.cls := findClass_of_methodNamed B.named
  have hlocks := B.notSynchronized
  subst hsz
  have hD := hD0.self (sz := s.heap.size)
  have hP : va_P D vwCl (caW ad cy g a w) s.heap := hP
  have hD : va_D (va_A (caW ad cy g a w) s.heap.size) (caW ad cy g a w) := hD
  have hS : va_S (va_A (caW ad cy g a w) s.heap.size) s.heap s.heap [] := va_S.rf
  have hA : ∀ q : Nat, s.heap.size ≤ q → va_A (caW ad cy g a w) s.heap.size q := fun q h => Or.inr h
  obtain ⟨J5, iJ5, oJ5⟩ : ∃ J : Int32 → Int32 → Gs → As → Ws → Prop, (∀ (x3 : Int32) (x4 : Int32) (g_ : Gs) (a_ : As) (w_ : Ws), (∀ (H : Heap) (locs : List Loc), va_P D vwCl (caW ad cy g_ a_ w_) H → va_S (va_A (caW ad cy g a w) s.heap.size) s.heap H locs → ∀ ls : Array Slot, lv_has ls 6 [(0, .ref (ad 11)), (1, .ref (ad 9)), (2, .int p1), (3, .int x3), (4, .int x4)] → W p l e (headSpec wsX1_number ({ frames := 1, cells := 0, slots := 0, locals := 21 } : Room)).room s m [.ref (ad 11), .ref (ad 9), .int p1].toArray below meth c H locs 0 0 (MQ below (va_Qi (fun (r : Int32) (u : Gs × As × Ws) => post r u.1 u.2.1 u.2.2) (fun u t => va_P D vwCl (caW ad cy u.1 u.2.1 u.2.2) t.heap) (va_A (caW ad cy g a w) s.heap.size)) [.ref (ad 11), .ref (ad 9), .int p1].toArray s 0 0 (va_A (caW ad cy g a w) s.heap.size)) (F0 m 5 ls [])) → J x3 x4 g_ a_ w_) ∧ (∀ (x3 : Int32) (x4 : Int32) (g_ : Gs) (a_ : As) (w_ : Ws), J x3 x4 g_ a_ w_ → (∀ (H : Heap) (locs : List Loc), va_P D vwCl (caW ad cy g_ a_ w_) H → va_S (va_A (caW ad cy g a w) s.heap.size) s.heap H locs → ∀ ls : Array Slot, lv_has ls 6 [(0, .ref (ad 11)), (1, .ref (ad 9)), (2, .int p1), (3, .int x3), (4, .int x4)] → W p l e (headSpec wsX1_number ({ frames := 1, cells := 0, slots := 0, locals := 21 } : Room)).room s m [.ref (ad 11), .ref (ad 9), .int p1].toArray below meth c H locs 0 0 (MQ below (va_Qi (fun (r : Int32) (u : Gs × As × Ws) => post r u.1 u.2.1 u.2.2) (fun u t => va_P D vwCl (caW ad cy u.1 u.2.1 u.2.2) t.heap) (va_A (caW ad cy g a w) s.heap.size)) [.ref (ad 11), .ref (ad 9), .int p1].toArray s 0 0 (va_A (caW ad cy g a w) s.heap.size)) (F0 m 5 ls []))) := ⟨fun (x3 : Int32) (x4 : Int32) (g_ : Gs) (a_ : As) (w_ : Ws) => (∀ (H : Heap) (locs : List Loc), va_P D vwCl (caW ad cy g_ a_ w_) H → va_S (va_A (caW ad cy g a w) s.heap.size) s.heap H locs → ∀ ls : Array Slot, lv_has ls 6 [(0, .ref (ad 11)), (1, .ref (ad 9)), (2, .int p1), (3, .int x3), (4, .int x4)] → W p l e (headSpec wsX1_number ({ frames := 1, cells := 0, slots := 0, locals := 21 } : Room)).room s m [.ref (ad 11), .ref (ad 9), .int p1].toArray below meth c H locs 0 0 (MQ below (va_Qi (fun (r : Int32) (u : Gs × As × Ws) => post r u.1 u.2.1 u.2.2) (fun u t => va_P D vwCl (caW ad cy u.1 u.2.1 u.2.2) t.heap) (va_A (caW ad cy g a w) s.heap.size)) [.ref (ad 11), .ref (ad 9), .int p1].toArray s 0 0 (va_A (caW ad cy g a w) s.heap.size)) (F0 m 5 ls [])), fun _ _ _ _ _ h => h, fun _ _ _ _ _ h => h⟩
  obtain ⟨J70, iJ70, oJ70⟩ : ∃ J : Int32 → Int32 → Gs → As → Ws → Prop, (∀ (x3 : Int32) (x4 : Int32) (g_ : Gs) (a_ : As) (w_ : Ws), (∀ (H : Heap) (locs : List Loc), va_P D vwCl (caW ad cy g_ a_ w_) H → va_S (va_A (caW ad cy g a w) s.heap.size) s.heap H locs → ∀ ls : Array Slot, lv_has ls 6 [(0, .ref (ad 11)), (1, .ref (ad 9)), (2, .int p1), (3, .int x3), (4, .int x4)] → W p l e (headSpec wsX1_number ({ frames := 1, cells := 0, slots := 0, locals := 21 } : Room)).room s m [.ref (ad 11), .ref (ad 9), .int p1].toArray below meth c H locs 0 0 (MQ below (va_Qi (fun (r : Int32) (u : Gs × As × Ws) => post r u.1 u.2.1 u.2.2) (fun u t => va_P D vwCl (caW ad cy u.1 u.2.1 u.2.2) t.heap) (va_A (caW ad cy g a w) s.heap.size)) [.ref (ad 11), .ref (ad 9), .int p1].toArray s 0 0 (va_A (caW ad cy g a w) s.heap.size)) (F0 m 70 ls [])) → J x3 x4 g_ a_ w_) ∧ (∀ (x3 : Int32) (x4 : Int32) (g_ : Gs) (a_ : As) (w_ : Ws), J x3 x4 g_ a_ w_ → (∀ (H : Heap) (locs : List Loc), va_P D vwCl (caW ad cy g_ a_ w_) H → va_S (va_A (caW ad cy g a w) s.heap.size) s.heap H locs → ∀ ls : Array Slot, lv_has ls 6 [(0, .ref (ad 11)), (1, .ref (ad 9)), (2, .int p1), (3, .int x3), (4, .int x4)] → W p l e (headSpec wsX1_number ({ frames := 1, cells := 0, slots := 0, locals := 21 } : Room)).room s m [.ref (ad 11), .ref (ad 9), .int p1].toArray below meth c H locs 0 0 (MQ below (va_Qi (fun (r : Int32) (u : Gs × As × Ws) => post r u.1 u.2.1 u.2.2) (fun u t => va_P D vwCl (caW ad cy u.1 u.2.1 u.2.2) t.heap) (va_A (caW ad cy g a w) s.heap.size)) [.ref (ad 11), .ref (ad 9), .int p1].toArray s 0 0 (va_A (caW ad cy g a w) s.heap.size)) (F0 m 70 ls []))) := ⟨fun (x3 : Int32) (x4 : Int32) (g_ : Gs) (a_ : As) (w_ : Ws) => (∀ (H : Heap) (locs : List Loc), va_P D vwCl (caW ad cy g_ a_ w_) H → va_S (va_A (caW ad cy g a w) s.heap.size) s.heap H locs → ∀ ls : Array Slot, lv_has ls 6 [(0, .ref (ad 11)), (1, .ref (ad 9)), (2, .int p1), (3, .int x3), (4, .int x4)] → W p l e (headSpec wsX1_number ({ frames := 1, cells := 0, slots := 0, locals := 21 } : Room)).room s m [.ref (ad 11), .ref (ad 9), .int p1].toArray below meth c H locs 0 0 (MQ below (va_Qi (fun (r : Int32) (u : Gs × As × Ws) => post r u.1 u.2.1 u.2.2) (fun u t => va_P D vwCl (caW ad cy u.1 u.2.1 u.2.2) t.heap) (va_A (caW ad cy g a w) s.heap.size)) [.ref (ad 11), .ref (ad 9), .int p1].toArray s 0 0 (va_A (caW ad cy g a w) s.heap.size)) (F0 m 70 ls [])), fun _ _ _ _ _ h => h, fun _ _ _ _ _ h => h⟩
  have hV := hV J5 J70
  replace hV := hV (by
    intro x3 x4 g_ a_ w_ hV
    refine iJ5 x3 x4 g_ a_ w_ ?_
    intro H locs hP hS ls hl
    refine lv_iload hx hb dX1_number_5 (lv_at hl 4 rfl) ?_
    refine lv_iconst (v := (5 : Int32)) hx hb dX1_number_7 (by decide) ?_
    refine lv_icmp_ge (tgt := 70) hx hb dX1_number_8 (by decide) (fun c_8 => ?_) (fun c_8 => ?_)
    · have hV := hV.1 c_8
      exact oJ70 _ _ _ _ _ hV _ _ hP hS _ (lv_sub hl [0, 1, 2, 3, 4] rfl)
    · have hV := hV.2 c_8
      refine lv_aload_n hx hb dX1_number_11 rfl (lv_at hl 1 rfl) ?_
      refine lv_aload_n hx hb dX1_number_12 rfl (lv_at hl 0 rfl) ?_
      refine va_get (D := D) (ci := 1) (v := .int (g_ 8)) (C := RX1) (T := TX1) (N := 5) hx hb hts (by decide +kernel) hown hK hP 11 rfl rfl 4 (by decide) (hts (.fieldLink RX1 19 "PowerRests$Item" "end" "I") (by decide +kernel)) (fun _ h9 => h9) rfl dX1_number_13 ?_
      obtain ⟨h_16, hV⟩ := hV
      refine cp_i (va_runV (As := [.int (g_ 8)]) (rest := []) ⟨hx, hb, hml, hown, hts⟩ (spec_X5_at l D cy ad _ g_ a_ w_ (g_ 8) h_16) (cwV 1 hts gX1_number_X5_at rfl rfl rfl (by decide +kernel) ⟨Nat.le_of_ble_eq_true rfl, Nat.le_of_ble_eq_true rfl⟩) (ar_preV hN hK hP (caD hD) (ci := 4) (q0 := 9) rfl rfl) rfl rfl hl.1 rfl (lv_room (Nat.le_of_ble_eq_true rfl)) dX1_number_16 ⟨Nat.zero_le _, Nat.zero_le _⟩) (fun r16 q_16 => ?_)
      have hV := hV r16 q_16
      refine lv_bipush (v := (48 : Int32)) hx hb dX1_number_19 (by decide) ?_
      refine lv_icmp_lt (tgt := 70) hx hb dX1_number_21 (by decide) (fun c_21 => ?_) (fun c_21 => ?_)
      · have hV := hV.1 c_21
        exact oJ70 _ _ _ _ _ hV _ _ hP hS _ (lv_sub hl [0, 1, 2, 3, 4] rfl)
      · have hV := hV.2 c_21
        refine lv_aload_n hx hb dX1_number_24 rfl (lv_at hl 1 rfl) ?_
        refine lv_aload_n hx hb dX1_number_25 rfl (lv_at hl 0 rfl) ?_
        refine va_get (D := D) (ci := 1) (v := .int (g_ 8)) (C := RX1) (T := TX1) (N := 5) hx hb hts (by decide +kernel) hown hK hP 11 rfl rfl 4 (by decide) (hts (.fieldLink RX1 19 "PowerRests$Item" "end" "I") (by decide +kernel)) (fun _ h9 => h9) rfl dX1_number_26 ?_
        obtain ⟨h_29, hV⟩ := hV
        refine cp_i (va_runV (As := [.int (g_ 8)]) (rest := []) ⟨hx, hb, hml, hown, hts⟩ (spec_X5_at l D cy ad _ g_ a_ w_ (g_ 8) h_29) (cwV 1 hts gX1_number_X5_at rfl rfl rfl (by decide +kernel) ⟨Nat.le_of_ble_eq_true rfl, Nat.le_of_ble_eq_true rfl⟩) (ar_preV hN hK hP (caD hD) (ci := 4) (q0 := 9) rfl rfl) rfl rfl hl.1 rfl (lv_room (Nat.le_of_ble_eq_true rfl)) dX1_number_29 ⟨Nat.zero_le _, Nat.zero_le _⟩) (fun r29 q_29 => ?_)
        have hV := hV r29 q_29
        refine lv_bipush (v := (57 : Int32)) hx hb dX1_number_32 (by decide) ?_
        refine lv_icmp_gt (tgt := 70) hx hb dX1_number_34 (by decide) (fun c_34 => ?_) (fun c_34 => ?_)
        · have hV := hV.1 c_34
          exact oJ70 _ _ _ _ _ hV _ _ hP hS _ (lv_sub hl [0, 1, 2, 3, 4] rfl)
        · have hV := hV.2 c_34
          refine lv_bipush (v := (10 : Int32)) hx hb dX1_number_37 (by decide) ?_
          refine lv_iload_n hx hb dX1_number_39 rfl (lv_at hl 3 rfl) ?_
          refine lv_imul hx hb dX1_number_40 ?_
          refine lv_aload_n hx hb dX1_number_41 rfl (lv_at hl 1 rfl) ?_
          refine lv_aload_n hx hb dX1_number_42 rfl (lv_at hl 0 rfl) ?_
          refine va_get (D := D) (ci := 1) (v := .int (g_ 8)) (C := RX1) (T := TX1) (N := 5) hx hb hts (by decide +kernel) hown hK hP 11 rfl rfl 4 (by decide) (hts (.fieldLink RX1 19 "PowerRests$Item" "end" "I") (by decide +kernel)) (fun _ h9 => h9) rfl dX1_number_43 ?_
          obtain ⟨h_46, hV⟩ := hV
          refine cp_i (va_runV (As := [.int (g_ 8)]) (rest := [.int ((10 : Int32) * x3)]) ⟨hx, hb, hml, hown, hts⟩ (spec_X5_at l D cy ad _ g_ a_ w_ (g_ 8) h_46) (cwV 1 hts gX1_number_X5_at rfl rfl rfl (by decide +kernel) ⟨Nat.le_of_ble_eq_true rfl, Nat.le_of_ble_eq_true rfl⟩) (ar_preV hN hK hP (caD hD) (ci := 4) (q0 := 9) rfl rfl) rfl rfl hl.1 rfl (lv_room (Nat.le_of_ble_eq_true rfl)) dX1_number_46 ⟨Nat.zero_le _, Nat.zero_le _⟩) (fun r46 q_46 => ?_)
          have hV := hV r46 q_46
          refine lv_iadd hx hb dX1_number_49 ?_
          refine lv_bipush (v := (48 : Int32)) hx hb dX1_number_50 (by decide) ?_
          refine lv_isub hx hb dX1_number_52 ?_
          refine lv_istore_n (lv' := [(3, .int ((((10 : Int32) * x3) + r46) - (48 : Int32))), (0, .ref (ad 11)), (1, .ref (ad 9)), (2, .int p1), (4, .int x4)]) hx hb dX1_number_53 rfl hl (by decide) rfl (fun ls hl => ?_)
          refine lv_aload_n hx hb dX1_number_54 rfl (lv_at hl 1 rfl) ?_
          refine lv_dup hx hb dX1_number_55 rfl ?_
          refine va_get (D := D) (ci := 1) (v := .int (g_ 8)) (C := RX1) (T := TX1) (N := 5) hx hb hts (by decide +kernel) hown hK hP 11 rfl rfl 4 (by decide) (hts (.fieldLink RX1 19 "PowerRests$Item" "end" "I") (by decide +kernel)) (fun _ h9 => h9) rfl dX1_number_56 ?_
          refine lv_iconst (v := (1 : Int32)) hx hb dX1_number_59 (by decide) ?_
          refine lv_iadd hx hb dX1_number_60 ?_
          refine va_put (D := D) (ci := 1) (v := .int ((g_ 8) + (1 : Int32))) (ty := .int) (C := RX1) (T := TX1) (N := 5) hx hb hts (by decide +kernel) tyX1 tyX1_ok nmX1 hown hK hP (caD hD) hS 11 rfl rfl 4 (by decide) (hts (.fieldLink RX1 19 "PowerRests$Item" "end" "I") (by decide +kernel)) (fun _ h9 => h9) rfl (by decide +kernel) rfl rfl (Nat.le_of_ble_eq_true rfl) dX1_number_61 (fun H locs hP _ hS => ?_)
          have hP : va_P D vwCl (caW ad cy (va_up g_ 8 ((g_ 8) + (1 : Int32))) a_ w_) H := hP
          refine lv_iinc (v := x4 + 1) (lv' := [(4, .int (x4 + 1)), (3, .int ((((10 : Int32) * x3) + r46) - (48 : Int32))), (0, .ref (ad 11)), (1, .ref (ad 9)), (2, .int p1)]) hx hb dX1_number_64 hl (k := 4) rfl rfl (by decide) rfl (fun ls hl => ?_)
          refine lv_goto (tgt := 5) hx hb dX1_number_67 (by decide) ?_
          exact oJ5 _ _ _ _ _ hV _ _ hP hS _ (lv_sub hl [2, 3, 4, 1, 0] rfl))
  replace hV := hV (by
    intro x3 x4 g_ a_ w_ hV
    refine iJ70 x3 x4 g_ a_ w_ ?_
    intro H locs hP hS ls hl
    refine lv_iload hx hb dX1_number_70 (lv_at hl 4 rfl) ?_
    refine lv_iconst (v := (1 : Int32)) hx hb dX1_number_72 (by decide) ?_
    refine lv_icmp_lt (tgt := 98) hx hb dX1_number_73 (by decide) (fun c_73 => ?_) (fun c_73 => ?_)
    · have hV := hV.1 c_73
      refine lv_iconst (v := (0 : Int32)) hx hb dX1_number_98 (by decide) ?_
      refine lv_istore (lv' := [(5, .int (0 : Int32)), (0, .ref (ad 11)), (1, .ref (ad 9)), (2, .int p1), (3, .int x3), (4, .int x4)]) hx hb dX1_number_99 hl (by decide) rfl (fun ls hl => ?_)
      refine lv_aload_n hx hb dX1_number_101 rfl (lv_at hl 1 rfl) ?_
      refine lv_dup hx hb dX1_number_102 rfl ?_
      refine va_get (D := D) (ci := 1) (v := .int (g_ 8)) (C := RX1) (T := TX1) (N := 5) hx hb hts (by decide +kernel) hown hK hP 11 rfl rfl 4 (by decide) (hts (.fieldLink RX1 19 "PowerRests$Item" "end" "I") (by decide +kernel)) (fun _ h9 => h9) rfl dX1_number_103 ?_
      refine lv_iconst (v := (1 : Int32)) hx hb dX1_number_106 (by decide) ?_
      refine lv_iadd hx hb dX1_number_107 ?_
      refine va_put (D := D) (ci := 1) (v := .int ((g_ 8) + (1 : Int32))) (ty := .int) (C := RX1) (T := TX1) (N := 5) hx hb hts (by decide +kernel) tyX1 tyX1_ok nmX1 hown hK hP (caD hD) hS 11 rfl rfl 4 (by decide) (hts (.fieldLink RX1 19 "PowerRests$Item" "end" "I") (by decide +kernel)) (fun _ h9 => h9) rfl (by decide +kernel) rfl rfl (Nat.le_of_ble_eq_true rfl) dX1_number_108 (fun H locs hP _ hS => ?_)
      have hP : va_P D vwCl (caW ad cy (va_up g_ 8 ((g_ 8) + (1 : Int32))) a_ w_) H := hP
      refine lv_iload hx hb dX1_number_111 (lv_at hl 0 rfl) ?_
      refine lv_if_eq (tgt := 120) hx hb dX1_number_113 (by decide) (fun c_113 => ?_) (fun c_113 => ?_)
      · have hV := hV
        refine lv_iconst (v := (-1 : Int32)) hx hb dX1_number_120 (by decide) ?_
        exact W.iret (v := (-1 : Int32)) hx hb hr (fun t ht hW => ⟨⟨_, ((va_up g_ 8 ((g_ 8) + (1 : Int32))), a_, w_), rfl, hV, ar_heap ht hP⟩, hS.F ht⟩) hS.2.2 dX1_number_121
      · exact absurd (by decide) c_113
    · have hV := hV.2 c_73
      refine lv_iload hx hb dX1_number_76 (lv_at hl 4 rfl) ?_
      refine lv_iconst (v := (4 : Int32)) hx hb dX1_number_78 (by decide) ?_
      refine lv_icmp_gt (tgt := 98) hx hb dX1_number_79 (by decide) (fun c_79 => ?_) (fun c_79 => ?_)
      · have hV := hV.1 c_79
        refine lv_iconst (v := (0 : Int32)) hx hb dX1_number_98 (by decide) ?_
        refine lv_istore (lv' := [(5, .int (0 : Int32)), (0, .ref (ad 11)), (1, .ref (ad 9)), (2, .int p1), (3, .int x3), (4, .int x4)]) hx hb dX1_number_99 hl (by decide) rfl (fun ls hl => ?_)
        refine lv_aload_n hx hb dX1_number_101 rfl (lv_at hl 1 rfl) ?_
        refine lv_dup hx hb dX1_number_102 rfl ?_
        refine va_get (D := D) (ci := 1) (v := .int (g_ 8)) (C := RX1) (T := TX1) (N := 5) hx hb hts (by decide +kernel) hown hK hP 11 rfl rfl 4 (by decide) (hts (.fieldLink RX1 19 "PowerRests$Item" "end" "I") (by decide +kernel)) (fun _ h9 => h9) rfl dX1_number_103 ?_
        refine lv_iconst (v := (1 : Int32)) hx hb dX1_number_106 (by decide) ?_
        refine lv_iadd hx hb dX1_number_107 ?_
        refine va_put (D := D) (ci := 1) (v := .int ((g_ 8) + (1 : Int32))) (ty := .int) (C := RX1) (T := TX1) (N := 5) hx hb hts (by decide +kernel) tyX1 tyX1_ok nmX1 hown hK hP (caD hD) hS 11 rfl rfl 4 (by decide) (hts (.fieldLink RX1 19 "PowerRests$Item" "end" "I") (by decide +kernel)) (fun _ h9 => h9) rfl (by decide +kernel) rfl rfl (Nat.le_of_ble_eq_true rfl) dX1_number_108 (fun H locs hP _ hS => ?_)
        have hP : va_P D vwCl (caW ad cy (va_up g_ 8 ((g_ 8) + (1 : Int32))) a_ w_) H := hP
        refine lv_iload hx hb dX1_number_111 (lv_at hl 0 rfl) ?_
        refine lv_if_eq (tgt := 120) hx hb dX1_number_113 (by decide) (fun c_113 => ?_) (fun c_113 => ?_)
        · have hV := hV
          refine lv_iconst (v := (-1 : Int32)) hx hb dX1_number_120 (by decide) ?_
          exact W.iret (v := (-1 : Int32)) hx hb hr (fun t ht hW => ⟨⟨_, ((va_up g_ 8 ((g_ 8) + (1 : Int32))), a_, w_), rfl, hV, ar_heap ht hP⟩, hS.F ht⟩) hS.2.2 dX1_number_121
        · exact absurd (by decide) c_113
      · have hV := hV.2 c_79
        refine lv_aload_n hx hb dX1_number_82 rfl (lv_at hl 1 rfl) ?_
        refine lv_aload_n hx hb dX1_number_83 rfl (lv_at hl 0 rfl) ?_
        refine va_get (D := D) (ci := 1) (v := .int (g_ 8)) (C := RX1) (T := TX1) (N := 5) hx hb hts (by decide +kernel) hown hK hP 11 rfl rfl 4 (by decide) (hts (.fieldLink RX1 19 "PowerRests$Item" "end" "I") (by decide +kernel)) (fun _ h9 => h9) rfl dX1_number_84 ?_
        obtain ⟨h_87, hV⟩ := hV
        refine cp_i (va_runV (As := [.int (g_ 8)]) (rest := []) ⟨hx, hb, hml, hown, hts⟩ (spec_X5_at l D cy ad _ g_ a_ w_ (g_ 8) h_87) (cwV 1 hts gX1_number_X5_at rfl rfl rfl (by decide +kernel) ⟨Nat.le_of_ble_eq_true rfl, Nat.le_of_ble_eq_true rfl⟩) (ar_preV hN hK hP (caD hD) (ci := 4) (q0 := 9) rfl rfl) rfl rfl hl.1 rfl (lv_room (Nat.le_of_ble_eq_true rfl)) dX1_number_87 ⟨Nat.zero_le _, Nat.zero_le _⟩) (fun r87 q_87 => ?_)
        have hV := hV r87 q_87
        refine lv_iload_n hx hb dX1_number_90 rfl (lv_at hl 2 rfl) ?_
        refine lv_icmp_ne (tgt := 98) hx hb dX1_number_91 (by decide) (fun c_91 => ?_) (fun c_91 => ?_)
        · have hV := hV.2 c_91
          refine lv_iconst (v := (0 : Int32)) hx hb dX1_number_98 (by decide) ?_
          refine lv_istore (lv' := [(5, .int (0 : Int32)), (0, .ref (ad 11)), (1, .ref (ad 9)), (2, .int p1), (3, .int x3), (4, .int x4)]) hx hb dX1_number_99 hl (by decide) rfl (fun ls hl => ?_)
          refine lv_aload_n hx hb dX1_number_101 rfl (lv_at hl 1 rfl) ?_
          refine lv_dup hx hb dX1_number_102 rfl ?_
          refine va_get (D := D) (ci := 1) (v := .int (g_ 8)) (C := RX1) (T := TX1) (N := 5) hx hb hts (by decide +kernel) hown hK hP 11 rfl rfl 4 (by decide) (hts (.fieldLink RX1 19 "PowerRests$Item" "end" "I") (by decide +kernel)) (fun _ h9 => h9) rfl dX1_number_103 ?_
          refine lv_iconst (v := (1 : Int32)) hx hb dX1_number_106 (by decide) ?_
          refine lv_iadd hx hb dX1_number_107 ?_
          refine va_put (D := D) (ci := 1) (v := .int ((g_ 8) + (1 : Int32))) (ty := .int) (C := RX1) (T := TX1) (N := 5) hx hb hts (by decide +kernel) tyX1 tyX1_ok nmX1 hown hK hP (caD hD) hS 11 rfl rfl 4 (by decide) (hts (.fieldLink RX1 19 "PowerRests$Item" "end" "I") (by decide +kernel)) (fun _ h9 => h9) rfl (by decide +kernel) rfl rfl (Nat.le_of_ble_eq_true rfl) dX1_number_108 (fun H locs hP _ hS => ?_)
          have hP : va_P D vwCl (caW ad cy (va_up g_ 8 ((g_ 8) + (1 : Int32))) a_ w_) H := hP
          refine lv_iload hx hb dX1_number_111 (lv_at hl 0 rfl) ?_
          refine lv_if_eq (tgt := 120) hx hb dX1_number_113 (by decide) (fun c_113 => ?_) (fun c_113 => ?_)
          · have hV := hV
            refine lv_iconst (v := (-1 : Int32)) hx hb dX1_number_120 (by decide) ?_
            exact W.iret (v := (-1 : Int32)) hx hb hr (fun t ht hW => ⟨⟨_, ((va_up g_ 8 ((g_ 8) + (1 : Int32))), a_, w_), rfl, hV, ar_heap ht hP⟩, hS.F ht⟩) hS.2.2 dX1_number_121
          · exact absurd (by decide) c_113
        · have hV := hV.1 c_91
          refine lv_iconst (v := (1 : Int32)) hx hb dX1_number_94 (by decide) ?_
          refine lv_goto (tgt := 99) hx hb dX1_number_95 (by decide) ?_
          refine lv_istore (lv' := [(5, .int (1 : Int32)), (0, .ref (ad 11)), (1, .ref (ad 9)), (2, .int p1), (3, .int x3), (4, .int x4)]) hx hb dX1_number_99 hl (by decide) rfl (fun ls hl => ?_)
          refine lv_aload_n hx hb dX1_number_101 rfl (lv_at hl 1 rfl) ?_
          refine lv_dup hx hb dX1_number_102 rfl ?_
          refine va_get (D := D) (ci := 1) (v := .int (g_ 8)) (C := RX1) (T := TX1) (N := 5) hx hb hts (by decide +kernel) hown hK hP 11 rfl rfl 4 (by decide) (hts (.fieldLink RX1 19 "PowerRests$Item" "end" "I") (by decide +kernel)) (fun _ h9 => h9) rfl dX1_number_103 ?_
          refine lv_iconst (v := (1 : Int32)) hx hb dX1_number_106 (by decide) ?_
          refine lv_iadd hx hb dX1_number_107 ?_
          refine va_put (D := D) (ci := 1) (v := .int ((g_ 8) + (1 : Int32))) (ty := .int) (C := RX1) (T := TX1) (N := 5) hx hb hts (by decide +kernel) tyX1 tyX1_ok nmX1 hown hK hP (caD hD) hS 11 rfl rfl 4 (by decide) (hts (.fieldLink RX1 19 "PowerRests$Item" "end" "I") (by decide +kernel)) (fun _ h9 => h9) rfl (by decide +kernel) rfl rfl (Nat.le_of_ble_eq_true rfl) dX1_number_108 (fun H locs hP _ hS => ?_)
          have hP : va_P D vwCl (caW ad cy (va_up g_ 8 ((g_ 8) + (1 : Int32))) a_ w_) H := hP
          refine lv_iload hx hb dX1_number_111 (lv_at hl 0 rfl) ?_
          refine lv_if_eq (tgt := 120) hx hb dX1_number_113 (by decide) (fun c_113 => ?_) (fun c_113 => ?_)
          · exact absurd c_113 (by decide)
          · have hV := hV
            refine lv_iload_n hx hb dX1_number_116 rfl (lv_at hl 4 rfl) ?_
            refine lv_goto (tgt := 121) hx hb dX1_number_117 (by decide) ?_
            exact W.iret (v := x3) hx hb hr (fun t ht hW => ⟨⟨_, ((va_up g_ 8 ((g_ 8) + (1 : Int32))), a_, w_), rfl, hV, ar_heap ht hP⟩, hS.F ht⟩) hS.2.2 dX1_number_121)
  have hl := lv_entry ([.ref (ad 11), .ref (ad 9), .int p1]) (n := 6) (Nat.le_of_ble_eq_true rfl)
  rw [lg_entry_eq]
  generalize (lg_sl ([.ref (ad 11), .ref (ad 9), .int p1]) ++ List.replicate (6 - (lg_sl ([.ref (ad 11), .ref (ad 9), .int p1])).length) Slot.unset).toArray = ls at hl ⊢
  have hl : lv_has ls 6 [(0, .ref (ad 11)), (1, .ref (ad 9)), (2, .int p1)] := hl
  refine lv_iconst (v := (0 : Int32)) hx hb dX1_number_0 (by decide) ?_
  refine lv_istore_n (lv' := [(3, .int (0 : Int32)), (0, .ref (ad 11)), (1, .ref (ad 9)), (2, .int p1)]) hx hb dX1_number_1 rfl hl (by decide) rfl (fun ls hl => ?_)
  refine lv_iconst (v := (0 : Int32)) hx hb dX1_number_2 (by decide) ?_
  refine lv_istore (lv' := [(4, .int (0 : Int32)), (3, .int (0 : Int32)), (0, .ref (ad 11)), (1, .ref (ad 9)), (2, .int p1)]) hx hb dX1_number_3 hl (by decide) rfl (fun ls hl => ?_)
  exact oJ5 _ _ _ _ _ hV _ _ hP hS _ (lv_sub hl [2, 3, 4, 1, 0] rfl)
def post_X1_number (g : Gs) (a : As) (w : Ws) (p1 r : Int32) (g' : Gs) (a' : As) (w' : Ws) : Prop := a' = a ∧ w' = w ∧ ∃ e, g' = va_up g 8 (nI e) ∧ ∀ T L p, TxC T L g a → p ≤ 300 → g 8 = nI p → NumAns T L p (tn p1) r e
theorem TxC.up {T : Nat → Nat} {L : Nat} {g : Gs} {a : As} (h : TxC T L g a) {i : Nat} (hi : i ≠ 3) (x : Int32) : TxC T L (va_up g i x) a := ⟨h.1, by rw [up_n _ _ (by omega)]; exact h.2.1, h.2.2⟩
theorem TxC.one {T T' : Nat → Nat} {L L' : Nat} {g : Gs} {a : As} (h : TxC T L g a) (h' : TxC T' L' g a) : L = L' ∧ ∀ i, i < L → T i = T' i := by
  have : L' = L := (nI_eq (by have := h'.1; omega) (by have := h.1; omega)).mp (h'.2.1.symm.trans h.2.1)
  subst this
  refine ⟨rfl, fun i hi => ?_⟩
  obtain ⟨h1, h2⟩ := h.2.2 i hi
  obtain ⟨k1, k2⟩ := h'.2.2 i hi
  exact (nI_eq (by omega) (by omega)).mp (h2.symm.trans k2)
set_option maxRecDepth 4000 in
theorem spec_X1_number (l : Launch) (D : va_G) (cy : Nat → ClassId) (ad : Nat → Nat) (sz : Nat) (g : Gs) (a : As) (w : Ws) (p1 : Int32) (hpre : pre_X1_number g a w p1) : Met l yX1_number wsX1_number ({ frames := 1, cells := 0, slots := 0, locals := 21 } : Room) (va_Pc [.ref (ad 11), .ref (ad 9), .int p1] (ArP D cy sz (caW ad cy g a w))) (va_Qi (fun (r : Int32) (u : Gs × As × Ws) => (post_X1_number g a w p1) r u.1 u.2.1 u.2.2) (fun u t => va_P D vwCl (caW ad cy u.1 u.2.1 u.2.2) t.heap) (va_A (caW ad cy g a w) sz)) 0 0 (va_A (caW ad cy g a w) sz) := by
  apply met_X1_number
  intro J5 J70 h5 h70
  obtain ⟨⟨T, L, hT⟩, ⟨p, hp, hg8⟩, h0⟩ := hpre
  obtain ⟨c, hc, rfl, hc2⟩ := of_i h0
  have hL := hT.1
  have hg : va_up g 8 (nI p) = g := by rw [← hg8]; exact up_id g 8
  have good : ∀ r e, NumAns T L p c r e → post_X1_number g a w (nI c) r (va_up g 8 (nI e)) a w := fun r e h => by
    refine ⟨rfl, rfl, e, rfl, fun T' L' p' hT' hp' hg' => ?_⟩
    obtain ⟨rfl, hTT⟩ := hT.one hT'
    have : p' = p := (nI_eq (by omega) (by omega)).mp (hg'.symm.trans hg8)
    subst this
    rw [tn_nI hc]
    have dg : ∀ i, Dig T L i ↔ Dig T' L i := fun i => ⟨fun z => ⟨z.1, by rw [← hTT i z.1]; exact z.2⟩, fun z => ⟨z.1, by rw [hTT i z.1]; exact z.2⟩⟩
    have vl : ∀ f, (∀ j, j < f → Dig T L (p' + j)) → valN T p' f = valN T' p' f := by
      intro f
      induction f with
      | zero => intro _; rfl
      | succ f ih =>
        intro hf
        show 10 * valN T p' f + T (p' + f) - 48 = 10 * valN T' p' f + T' (p' + f) - 48
        rw [ih (fun j hj => hf j (by omega)), hTT _ (hf f (by omega)).1]
    have nc : ∀ q v, NumC T L p' c q v ↔ NumC T' L p' c q v := fun q v => by
      constructor
      · rintro ⟨⟨f, f1, f2, f3, f4, f5⟩, f6, f7⟩
        exact ⟨⟨f, f1, f2, f3.trans (vl f f4), fun j hj => (dg _).mp (f4 j hj), fun z => f5 ((dg _).mpr z)⟩, f6, by rw [← hTT q f6]; exact f7⟩
      · rintro ⟨⟨f, f1, f2, f3, f4, f5⟩, f6, f7⟩
        have f4' := fun j hj => (dg _).mpr (f4 j hj)
        exact ⟨⟨f, f1, f2, f3.trans (vl f f4').symm, f4', fun z => f5 ((dg _).mp z)⟩, f6, by rw [hTT q f6]; exact f7⟩
    rcases h with ⟨q, v, h1, h2⟩ | ⟨h1, h2⟩
    · exact Or.inl ⟨q, v, (nc q v).mp h1, h2⟩
    · exact Or.inr ⟨fun ⟨q, v, z⟩ => h1 ⟨q, v, (nc q v).mpr z⟩, h2⟩
  have at_ : ∀ (f : Nat) (r : Int32), f ≤ 10 → post_X5_at (va_up g 8 (nI (p + f))) a w ((va_up g 8 (nI (p + f))) 8) r → r = tAt T L (p + f) := fun f r hf h => by
    have := h T L (hT.up (by decide) _)
    rwa [up_0, tn_nI (by omega)] at this
  have pre : ∀ f : Nat, f ≤ 10 → pre_X5_at (va_up g 8 (nI (p + f))) a w ((va_up g 8 (nI (p + f))) 8) := fun f hf => ⟨⟨T, L, hT.up (by decide) _⟩, by rw [up_0, nI_toInt (by omega)]; omega⟩
  have nx : ∀ f : Nat, va_up (va_up g 8 (nI (p + f))) 8 ((va_up g 8 (nI (p + f))) 8 + 1) = va_up g 8 (nI (p + (f + 1))) := fun f => by
    rw [up_up, up_0, nI_1]; rfl
  -- the run is through
  have fin : ∀ f, f ≤ 5 → (∀ j, j < f → Dig T L (p + j)) → (f = 5 ∨ ¬ Dig T L (p + f)) → J70 (nI (valN T p f)) (nI f) (va_up g 8 (nI (p + f))) a w := by
    intro f hf hd hn
    have bad : (¬ ∃ q v, NumC T L p c q v) → post_X1_number g a w (nI c) (-1) (va_up (va_up g 8 (nI (p + f))) 8 ((va_up g 8 (nI (p + f))) 8 + 1)) a w := fun h => by
      rw [nx]; exact good _ _ (Or.inr ⟨h, rfl, by omega⟩)
    refine h70 _ _ _ _ _ (pk_lt f 1 (fun z => bad (fun ⟨q, v, y, _⟩ => ?_)) (fun z => pk_lt 4 f (fun z2 => bad (fun ⟨q, v, y, _⟩ => ?_)) (fun z2 => ⟨pre f (by omega), fun r hr => ?_⟩)))
    · rcases hn with e | e
      · omega
      · have := (num_run y hd e).2.2.1; omega
    · have := num_long y hd; omega
    · have hnd : ¬ Dig T L (p + f) := hn.resolve_left (by omega)
      rw [at_ f r (by omega) hr]
      unfold tAt
      by_cases hlt : p + f < L
      · rw [if_pos hlt]
        have hb := (hT.2.2 _ hlt).1
        refine pk_eq (T (p + f)) c (fun z3 => ?_) (fun z3 => bad (fun ⟨q, v, y, y2, y3⟩ => z3 ?_)) rfl rfl (by omega) (by omega)
        · rw [nx]
          exact good _ _ (Or.inl ⟨p + f, valN T p f, ⟨⟨f, ⟨by omega, by omega⟩, rfl, rfl, hd, hnd⟩, hlt, z3⟩, rfl, by omega⟩)
        · rw [← (num_run y hd hnd).1]; exact y3
      · rw [if_neg hlt]
        have ne : ¬ (-1 : Int32) = nI c := fun z => by
          rw [i_eq, nI_toInt hc] at z
          have : (-1 : Int32).toInt = -1 := rfl
          omega
        exact ⟨fun z => absurd z ne, fun _ => bad (fun ⟨q, v, y, y2, y3⟩ => by have := (num_run y hd hnd).1; omega)⟩
  have key : ∀ (d f : Nat), f + d = 5 → (∀ j, j < f → Dig T L (p + j)) → J5 (nI (valN T p f)) (nI f) (va_up g 8 (nI (p + f))) a w := by
    intro d
    induction d with
    | zero =>
      intro f hf hd
      have : f = 5 := by omega
      subst this
      exact h5 _ _ _ _ _ (pk_le 5 5 (fun _ => fin 5 (by omega) hd (Or.inl rfl)) (fun h => absurd h (by omega)))
    | succ d ih =>
      intro f hf hd
      refine h5 _ _ _ _ _ (pk_le 5 f (fun h => absurd h (by omega)) (fun _ => ⟨pre f (by omega), fun r hr => ?_⟩))
      rw [at_ f r (by omega) hr]
      unfold tAt
      by_cases hlt : p + f < L
      · rw [if_pos hlt]
        have hb := (hT.2.2 _ hlt).1
        refine pk_lt (T (p + f)) 48 (fun z => fin f (by omega) hd (Or.inr (fun y => by have := y.2.1; omega))) (fun z => ⟨pre f (by omega), fun r2 hr2 => ?_⟩) rfl rfl (by omega) (by omega)
        have e2 : r2 = nI (T (p + f)) := by rw [at_ f r2 (by omega) hr2]; unfold tAt; rw [if_pos hlt]
        rw [e2]
        refine pk_lt 57 (T (p + f)) (fun z2 => fin f (by omega) hd (Or.inr (fun y => by have := y.2.2; omega))) (fun z2 => ⟨pre f (by omega), fun r3 hr3 => ?_⟩) rfl rfl (by omega) (by omega)
        have e3 : r3 = nI (T (p + f)) := by rw [at_ f r3 (by omega) hr3]; unfold tAt; rw [if_pos hlt]
        rw [e3, nx, nI_1]
        have hv := valN_lt hd
        have hv2 : 10 ^ f ≤ 10 ^ 4 := Nat.pow_le_pow_right (by decide) (by omega)
        have ev : (10 : Int32) * nI (valN T p f) + nI (T (p + f)) - 48 = nI (valN T p (f + 1)) := by
          rw [show (10 : Int32) * nI (valN T p f) = nI (10 * valN T p f) from pk_mul 10 _, nI_add]
          exact pk_sub (b := 48) (by omega)
        rw [ev]
        refine ih (f + 1) (by omega) (fun j hj => ?_)
        by_cases hj2 : j = f
        · rw [hj2]; exact ⟨hlt, z, z2⟩
        · exact hd j (by omega)
      · rw [if_neg hlt]
        exact ⟨fun _ => fin f (by omega) hd (Or.inr (fun y => hlt y.1)), fun z => absurd (by decide) z⟩
  have := key 5 0 (by omega) (fun j hj => by omega)
  rw [Nat.add_zero, hg] at this
  exact this
