/-! the class beside the reference -/
theorem PowerAns.one {n a : Int32} {e : Int64} {r r' : Int32} (h : PowerAns n a e r) (h' : PowerAns n a e r') : r = r' := by
  rcases h with ⟨h1, h2⟩ | ⟨⟨h1, h2, h3⟩, h4⟩ <;> rcases h' with ⟨k1, k2⟩ | ⟨⟨k1, k2, k3⟩, k4⟩
  · rw [h2, k2]
  · rcases h1 with q | q | q
    · exact absurd k1 q
    · exact absurd k2 q
    · omega
  · rcases k1 with q | q | q
    · exact absurd h1 q
    · exact absurd h2 q
    · omega
  · rw [h4, k4]
theorem RootsAns.one {n a e i r r' : Int32} (h : RootsAns n a e i r) (h' : RootsAns n a e i r') : r = r' := by
  rcases h with ⟨h1, h2⟩ | ⟨⟨h1, h2, h3⟩, h4⟩ <;> rcases h' with ⟨k1, k2⟩ | ⟨⟨k1, k2, k3⟩, k4⟩
  · rw [h2, k2]
  · rcases h1 with q | q | q
    · exact absurd k1 q
    · exact absurd k2 q
    · omega
  · rcases k1 with q | q | q
    · exact absurd h1 q
    · exact absurd h2 q
    · omega
  · exact h4.one k4
theorem FigAns.one {b n i r r' : Int32} (h : FigAns b n i r) (h' : FigAns b n i r') : r = r' := by
  rcases h with ⟨h1, h2⟩ | ⟨⟨h1, h2, h3⟩, h4⟩ <;> rcases h' with ⟨k1, k2⟩ | ⟨⟨k1, k2, k3⟩, k4⟩
  · rw [h2, k2]
  · rcases h1 with q | q | q
    · exact absurd k1 q
    · exact absurd k2 q
    · omega
  · rcases k1 with q | q | q
    · exact absurd h1 q
    · exact absurd h2 q
    · omega
  · rw [h4, k4]
theorem LooksAns.one {n a what r r' : Int32} (h : LooksAns n a what r) (h' : LooksAns n a what r') : r = r' := by
  have i0 : (0 : Int32).toInt = 0 := rfl
  have i1 : (1 : Int32).toInt = 1 := rfl
  have i2 : (2 : Int32).toInt = 2 := rfl
  have w3 : ∀ {x : Int32} {A B C : Prop}, (x = 1 ∧ A) ∨ (x = 0 ∧ B) ∨ (x = 2 ∧ C) → 0 ≤ x.toInt ∧ x.toInt ≤ 2 := fun {x A B C} z => by
    rcases z with ⟨z, -⟩ | ⟨z, -⟩ | ⟨z, -⟩ <;> subst z <;> omega
  rcases h with ⟨h1, h2⟩ | ⟨⟨h1, h2, h3⟩, h4⟩ <;> rcases h' with ⟨k1, k2⟩ | ⟨⟨k1, k2, k3⟩, k4⟩
  · rw [h2, k2]
  · have := w3 k4
    rcases h1 with q | q
    · exact absurd k1 q
    · omega
  · have := w3 h4
    rcases k1 with q | q
    · exact absurd h1 q
    · omega
  · rcases h4 with ⟨z1, z2⟩ | ⟨z1, z2⟩ | ⟨z1, z2⟩ <;> rcases k4 with ⟨y1, y2⟩ | ⟨y1, y2⟩ | ⟨y1, y2⟩
    · rw [z2, y2]
    · exact absurd (z1.symm.trans y1) (by decide)
    · exact absurd (z1.symm.trans y1) (by decide)
    · exact absurd (z1.symm.trans y1) (by decide)
    · rw [z2, y2]
    · exact absurd (z1.symm.trans y1) (by decide)
    · exact absurd (z1.symm.trans y1) (by decide)
    · exact absurd (z1.symm.trans y1) (by decide)
    · rw [z2, y2]
/-! texts that are the same as far as they go -/
theorem Dig.cong {T T' : Nat → Nat} {L : Nat} (h : ∀ i, i < L → T i = T' i) {i : Nat} (z : Dig T L i) : Dig T' L i := ⟨z.1, by rw [← h i z.1]; exact z.2⟩
theorem Num.cong {T T' : Nat → Nat} {L p q v : Nat} (h : ∀ i, i < L → T i = T' i) (z : Num T L p q v) : Num T' L p q v := by
  obtain ⟨f, f1, f2, f3, f4, f5⟩ := z
  refine ⟨f, f1, f2, ?_, fun j hj => (f4 j hj).cong h, fun y => f5 (y.cong (fun i hi => (h i hi).symm))⟩
  rw [f3]
  clear f1 f2 f3 f5
  induction f with
  | zero => rfl
  | succ f ih =>
    show 10 * valN T p f + T (p + f) - 48 = 10 * valN T' p f + T' (p + f) - 48
    rw [ih (fun j hj => f4 j (by omega)), h _ (f4 f (by omega)).1]
theorem NumC.cong {T T' : Nat → Nat} {L p c q v : Nat} (h : ∀ i, i < L → T i = T' i) (z : NumC T L p c q v) : NumC T' L p c q v := ⟨z.1.cong h, z.2.1, by rw [← h q z.2.1]; exact z.2.2⟩
theorem It.cong {T T' : Nat → Nat} {L p q l f s b : Nat} (h : ∀ i, i < L → T i = T' i) (z : It T L p q l f s b) : It T' L p q l f s b := by
  obtain ⟨h0, h1, h2, ⟨q1, y1, q2, y2, q3, y3, y4⟩, h4⟩ := z
  exact ⟨h0, by rw [← h p h0]; exact h1, h2, ⟨q1, y1.imp id (fun y => ⟨y.1, y.2.cong h⟩), q2, y2.cong h, q3, y3.cong h, y4⟩, h4⟩
theorem itm_cong {T T' : Nat → Nat} {L : Nat} (h : ∀ i, i < L → T i = T' i) (p : Nat) : itm T L p = itm T' L p := by
  by_cases z : ∃ q l f s b, It T L p q l f s b
  · obtain ⟨q, l, f, s, b, z⟩ := z
    rw [itm_eq z, itm_eq (z.cong h)]
  · have z' : ¬ ∃ t : Nat × Nat × Nat × Nat × Nat, It T L p t.1 t.2.1 t.2.2.1 t.2.2.2.1 t.2.2.2.2 := fun ⟨t, y⟩ => z ⟨_, _, _, _, _, y⟩
    have z2 : ¬ ∃ t : Nat × Nat × Nat × Nat × Nat, It T' L p t.1 t.2.1 t.2.2.1 t.2.2.2.1 t.2.2.2.2 := fun ⟨t, y⟩ => z ⟨_, _, _, _, _, y.cong (fun i hi => (h i hi).symm)⟩
    unfold itm
    rw [dif_neg z', dif_neg z2]
theorem pos_cong {T T' : Nat → Nat} {L : Nat} (h : ∀ i, i < L → T i = T' i) : ∀ k, pos T L k = pos T' L k
  | 0 => rfl
  | k + 1 => by
    show (itm T L (pos T L k)).1 = (itm T' L (pos T' L k)).1
    rw [pos_cong h k, itm_cong h]
theorem x_cong {T T' : Nat → Nat} {L : Nat} (h : ∀ i, i < L → T i = T' i) : xl T L = xl T' L ∧ xf T L = xf T' L ∧ xs T L = xs T' L ∧ xb T L = xb T' L := by
  have e : ∀ k, itm T L (pos T L k) = itm T' L (pos T' L k) := fun k => by rw [pos_cong h k, itm_cong h]
  refine ⟨funext fun k => ?_, funext fun k => ?_, funext fun k => ?_, funext fun k => ?_⟩
  · unfold xl; rw [e k]
  · unfold xf; rw [e k]
  · unfold xs; rw [e k]
  · unfold xb; rw [e k]
theorem isIt_cong {T T' : Nat → Nat} {L : Nat} (h : ∀ i, i < L → T i = T' i) {k : Nat} (z : isIt T L k) : isIt T' L k := by
  obtain ⟨q, l, f, s, b, z⟩ := z
  exact ⟨q, l, f, s, b, by rw [← pos_cong h k]; exact z.cong h⟩
theorem Stop.cong {T T' : Nat → Nat} {L : Nat} (h : ∀ i, i < L → T i = T' i) {k : Nat} (z : Stop T L k) : Stop T' L k :=
  ⟨z.1, fun i hi => isIt_cong h (z.2.1 i hi), z.2.2.imp id (fun y q => y (isIt_cong (fun i hi => (h i hi).symm) q))⟩
theorem FaultAns.cong {T T' : Nat → Nat} {L : Nat} (h : ∀ i, i < L → T i = T' i) {r : Int32} (z : FaultAns T L r) : FaultAns T' L r := by
  obtain ⟨k, h1, h2⟩ := z
  exact ⟨k, h1.cong h, by rw [← pos_cong h k]; exact h2⟩
theorem LayOk.cong {T T' : Nat → Nat} {L : Nat} (h : ∀ i, i < L → T i = T' i) {n : Nat} (z : LayOk T L n) : LayOk T' L n := ⟨⟨z.1.1.cong h, by rw [← pos_cong h n]; exact z.1.2⟩, by rw [← (x_cong h).2.2.2]; exact z.2⟩
/-! laid ones that allow the same -/
theorem AsB_cong {n : Nat} {H H' : Nat → Nat → Bool} (h : ∀ k, k < n → ∀ x, H k x = H' k x) : AsB n H = AsB n H' := funext fun S => funext fun x => cb_iff ⟨fun z k hk hs => by rw [← h k hk]; exact z k hk hs, fun z k hk hs => by rw [h k hk]; exact z k hk hs⟩
theorem LfB_cong {n : Nat} {H H' : Nat → Nat → Bool} (h : ∀ k, k < n → ∀ x, H k x = H' k x) : LfB n H = LfB n H' := funext fun x => cb_iff ⟨fun z k hk => by rw [← h k hk]; exact z k hk, fun z k hk => by rw [h k hk]; exact z k hk⟩
theorem IthLAns.cong {n : Nat} {H H' : Nat → Nat → Bool} (h : ∀ k, k < n → ∀ x, H k x = H' k x) {P : Nat} {i r : Int64} (z : IthLAns n H P i r) : IthLAns n H' P i r := by
  unfold IthLAns LeftAt at *
  rw [← LfB_cong h]
  exact z
theorem FroAns.cong {n : Nat} {H H' : Nat → Nat → Bool} (h : ∀ k, k < n → ∀ x, H k x = H' k x) {P : Nat} {i r : Int64} (z : FroAns n H P i r) : FroAns n H' P i r := by
  unfold FroAns FromAns at *
  rw [← LfB_cong h]
  exact z
theorem LoneAns.cong {n : Nat} {H H' : Nat → Nat → Bool} (h : ∀ k, k < n → ∀ x, H k x = H' k x) {r : Int32} (z : LoneAns n H r) : LoneAns n H' r := by
  unfold LoneAns Emp at *
  rw [← AsB_cong h]
  exact z
theorem Ndl.cong {n : Nat} {H H' : Nat → Nat → Bool} (h : ∀ k, k < n → ∀ x, H k x = H' k x) {k : Nat} (hk : k < n) (z : Ndl n H k) : Ndl n H' k := fun x hx => by
  rw [← h k hk x]
  exact z x (fun j hj hjk => by rw [h j hj x]; exact hx j hj hjk)
theorem NdAns.cong {n : Nat} {H H' : Nat → Nat → Bool} (h : ∀ k, k < n → ∀ x, H k x = H' k x) {k r : Int32} (z : NdAns n H k r) : NdAns n H' k r := by
  rcases z with ⟨z1, z2⟩ | ⟨z1, z2⟩
  · exact Or.inl ⟨z1, z2⟩
  · refine Or.inr ⟨z1, ?_⟩
    obtain ⟨j, hj, rfl, hj2⟩ := of_i z1.1
    have hjn : tn (nI j) < n := by rw [tn_nI hj]; omega
    rw [z2]
    exact zb_c ⟨fun y => y.cong h hjn, fun y => y.cong (fun k hk x => (h k hk x).symm) hjn⟩
def TxR (gc : Gs) (ac : As) (gm : Gs) (am : As) : Prop := OkC gc ac ∧ OkM gm am ∧ cL gc = mL gm ∧ ∀ i, i < cL gc → cT ac i = mT am i
def LdR (gc : Gs) (ac : As) (wc : Ws) (gm : Gs) (am : As) : Prop := LdF gc ac wc ∧ LdM gm am ∧ cN gc = mN gm ∧ cP gc = mP gm ∧ ∀ k, k < cN gc → ∀ x, cH ac wc k x = mH am k x
/-- after j calls -/
def Rel (_ : Nat) (gc : Gs) (ac : As) (wc : Ws) (gm : Gs) (am : As) : Prop := LiInv gc ac ∧ TxR gc ac gm am ∧ LdR gc ac wc gm am
theorem LiInv.keep {g : Gs} {a : As} {g' : Gs} {a' : As} (h : LiInv g a) (h12 : g' 12 = g 12) (h13 : g' 13 = g 13) (h9 : a' 9 = a 9) : LiInv g' a' := by
  unfold LiInv LiOk at *
  rw [h12, h13, h9]
  exact h
theorem TxR.c {gc : Gs} {ac : As} {gm : Gs} {am : As} {gc' : Gs} {ac' : As} (h : TxR gc ac gm am) (h3 : gc' 3 = gc 3) (h5 : ac' 5 = ac 5) : TxR gc' ac' gm am := by
  have e1 : cL gc' = cL gc := by show tn (gc' 3) = tn (gc 3); rw [h3]
  have e2 : cT ac' = cT ac := by show (fun i => tn (ac' 5 i)) = _; rw [h5]
  unfold TxR OkC TxC at *
  rw [e1, e2, h3, h5]
  exact h
theorem TxR.m {gc : Gs} {ac : As} {gm : Gs} {am : As} {gm' : Gs} {am' : As} (h : TxR gc ac gm am) (h3 : gm' 0 = gm 0) (h5 : am' 0 = am 0) : TxR gc ac gm' am' := by
  have e1 : mL gm' = mL gm := by show tn (gm' 0) = tn (gm 0); rw [h3]
  have e2 : mT am' = mT am := by show (fun i => ((am' 0 i).toInt % 256).toNat) = _; rw [h5]
  unfold TxR OkM TxM at *
  rw [e1, e2, h3, h5]
  exact h
theorem LdR.c {gc : Gs} {ac : As} {wc : Ws} {gm : Gs} {am : As} {gc' : Gs} {ac' : As} {wc' : Ws} (h : LdR gc ac wc gm am) (h9 : gc' 9 = gc 9) (h10 : gc' 10 = gc 10) (h11 : gc' 11 = gc 11) (h6 : ac' 6 = ac 6) (hw : wc' = wc) : LdR gc' ac' wc' gm am := by
  subst hw
  have e1 : cN gc' = cN gc := by show tn (gc' 9) = tn (gc 9); rw [h9]
  have e2 : cP gc' = cP gc := by show tn (gc' 10) = tn (gc 10); rw [h10]
  have e3 : cB ac' = cB ac := by show (fun k => tn (ac' 6 k)) = _; rw [h6]
  have e4 : cH ac' wc' = cH ac wc' := by
    funext k x
    unfold cH
    rw [show cB ac' k = cB ac k from congrFun e3 k]
  obtain ⟨⟨⟨⟨a1, a2⟩, a3⟩, a4, a5, a6⟩, b, c1, c2, c3⟩ := h
  refine ⟨⟨⟨⟨by rw [e1]; exact a1, by rw [e1, h9]; exact a2⟩, fun k hk => ?_⟩, by rw [e2, h10]; exact a4, fun k hk => ?_, by rw [e1, e2, e4, h11]; exact a6⟩, b, by rw [e1]; exact c1, by rw [e2]; exact c2, fun k hk x => ?_⟩
  · rw [e1] at hk
    rw [show cB ac' k = cB ac k from congrFun e3 k, e4, h6]
    exact a3 k hk
  · rw [e1] at hk
    rw [show cB ac' k = cB ac k from congrFun e3 k, e2]
    exact a5 k hk
  · rw [e1] at hk
    rw [e4]
    exact c3 k hk x
theorem LdR.w {gc : Gs} {ac : As} {wc : Ws} {gm : Gs} {am : As} {wc' : Ws} (h : LdR gc ac wc gm am) (hw : ∀ k, k < 8 → wc' k = wc k) : LdR gc ac wc' gm am := by
  obtain ⟨⟨⟨⟨a1, a2⟩, a3⟩, a4, a5, a6⟩, b, c1, c2, c3⟩ := h
  have e : ∀ k, k < 8 → ∀ x, cH ac wc' k x = cH ac wc k x := fun k hk x => by
    unfold cH
    rw [hw k hk]
  have eL : LfB (cN gc) (cH ac wc') = LfB (cN gc) (cH ac wc) := LfB_cong (fun k hk x => e k (by omega) x)
  refine ⟨⟨⟨⟨a1, a2⟩, fun k hk => ?_⟩, a4, a5, by rw [eL]; exact a6⟩, b, c1, c2, fun k hk x => by rw [e k (by omega)]; exact c3 k hk x⟩
  obtain ⟨u1, u2, u3⟩ := a3 k hk
  exact ⟨u1, u2, fun x y h => by rw [e k (by omega), e k (by omega)]; exact u3 x y h⟩
theorem LdR.m {gc : Gs} {ac : As} {wc : Ws} {gm : Gs} {am : As} {gm' : Gs} {am' : As} (h : LdR gc ac wc gm am) (h2 : gm' 2 = gm 2) (h3 : gm' 3 = gm 3) (ha : ∀ j, 1 ≤ j → j < 5 → am' j = am j) : LdR gc ac wc gm' am' := by
  have e1 : mN gm' = mN gm := by show tn (gm' 2) = tn (gm 2); rw [h2]
  have e2 : mP gm' = mP gm := by show tn (gm' 3) = tn (gm 3); rw [h3]
  have r1 := ha 1 (by decide) (by decide)
  have r2 := ha 2 (by decide) (by decide)
  have r3 := ha 3 (by decide) (by decide)
  have r4 := ha 4 (by decide) (by decide)
  have f1 : ∀ k, ml am' k = ml am k := fun k => by show tn (am' 1 k) = tn (am 1 k); rw [r1]
  have f2 : ∀ k, mf am' k = mf am k := fun k => by show tn (am' 2 k) = tn (am 2 k); rw [r2]
  have f3 : ∀ k, ms am' k = ms am k := fun k => by show tn (am' 3 k) = tn (am 3 k); rw [r3]
  have f4 : ∀ k, mb am' k = mb am k := fun k => by show tn (am' 4 k) = tn (am 4 k); rw [r4]
  obtain ⟨a, ⟨b1, b2, b3⟩, c1, c2, c3⟩ := h
  refine ⟨a, ⟨by rw [e1, h2]; exact b1, by rw [e2, h3]; exact b2, fun k hk => ?_⟩, by rw [e1]; exact c1, by rw [e2]; exact c2, fun k hk x => ?_⟩
  · rw [e1] at hk
    rw [f1, f2, f3, f4, r1, r2, r3, r4, e2]
    exact b3 k hk
  · rw [c3 k hk x]
    unfold mH
    rw [f1, f2, f3, f4]
theorem Rel.up {j : Nat} {gc : Gs} {ac : As} {wc : Ws} {gm : Gs} {am : As} (h : Rel j gc ac wc gm am) : Rel (j + 1) gc ac wc gm am := by
  exact h
theorem Rel.fs {j : Nat} {gc : Gs} {ac : As} {wc : Ws} {gm : Gs} {am : As} {g' : Gs} {a' : As} {w' : Ws} (h : Rel j gc ac wc gm am) (k : FS gc ac wc g' a' w') : Rel (j + 1) g' a' w' gm am := by
  obtain ⟨h2, h3, h4⟩ := h
  exact ⟨h2.keep (k.1 12 (by omega)) (k.1 13 (by omega)) (k.2.1 9 (by omega)), h3.c (k.1 3 (by omega)) (k.2.1 5 (by omega)), h4.c (k.1 9 (by omega)) (k.1 10 (by omega)) (k.1 11 (by omega)) (k.2.1 6 (by omega)) k.2.2⟩
theorem Rel.ts {j : Nat} {gc : Gs} {ac : As} {wc : Ws} {gm : Gs} {am : As} {g' : Gs} {a' : As} {w' : Ws} (h : Rel j gc ac wc gm am) (k : TS gc ac wc g' a' w') : Rel (j + 1) g' a' w' gm am := by
  obtain ⟨h2, h3, h4⟩ := h
  exact ⟨h2.keep (k.1 12 (by omega)) (k.1 13 (by omega)) (k.2.1 9 (by omega) (by decide)), h3.c (k.1 3 (by omega)) (k.2.1 5 (by omega) (by decide)), h4.c (k.1 9 (by omega)) (k.1 10 (by omega)) (k.1 11 (by omega)) (k.2.1 6 (by omega) (by decide)) k.2.2⟩
theorem Rel.ms {j : Nat} {gc : Gs} {ac : As} {wc : Ws} {gm : Gs} {am : As} {g' : Gs} {a' : As} {w' : Ws} (h : Rel j gc ac wc gm am) (k : MS gc ac wc g' a' w') : Rel (j + 1) g' a' w' gm am := by
  obtain ⟨h2, h3, h4⟩ := h
  exact ⟨h2.keep (k.1 12 (by omega)) (k.1 13 (by omega)) (k.2.1 9 (by omega) (by decide)), h3.c (k.1 3 (by omega)) (k.2.1 5 (by omega) (by decide)), (h4.c (k.1 9 (by omega)) (k.1 10 (by omega)) (k.1 11 (by omega)) (k.2.1 6 (by omega) (by decide)) rfl).w k.2.2⟩
theorem Rel.li {j : Nat} {gc : Gs} {ac : As} {wc : Ws} {gm : Gs} {am : As} {g' : Gs} {a' : As} {w' : Ws} (h : Rel j gc ac wc gm am) (k : LiS gc ac wc g' a' w') : Rel (j + 1) g' a' w' gm am := by
  obtain ⟨h2, h3, h4⟩ := h
  exact ⟨k.2.2.2 h2, h3.c (k.1 3 (by omega)) (k.2.1 5 (by omega)), h4.c (k.1 9 (by omega)) (k.1 10 (by omega)) (k.1 11 (by omega)) (k.2.1 6 (by omega)) k.2.2.1⟩
theorem Rel.ks {j : Nat} {gc : Gs} {ac : As} {wc : Ws} {gm : Gs} {am : As} {g' : Gs} {a' : As} (h : Rel j gc ac wc gm am) (k : KS gm am g' a') : Rel j gc ac wc g' a' := by
  obtain ⟨h2, h3, h4⟩ := h
  obtain ⟨rfl, ha⟩ := k
  exact ⟨h2, h3.m rfl (ha 0 (by decide)), h4.m rfl rfl (fun j _ hj => ha j (by omega))⟩
