/-! a call of both: the same answer, and again beside one another -/
section EQ
variable {j : Nat} {gc : Gs} {ac : As} {wc : Ws} {gm : Gs} {am : As} {g1 : Gs} {a1 : As} {w1 : Ws} {g2 : Gs} {a2 : As} {p0 p1 p2 p3 r1 r2 : Int32} {v0 v1 v2 s1 s2 : Int64}
theorem eq_units (_ : j < 80000) (h : Rel j gc ac wc gm am) (h1 : post_X6_units gc ac wc p0 p1 r1 g1 a1 w1) (h2 : post_X7_units gm am p0 p1 r2) : r1 = r2 ∧ Rel (j + 1) g1 a1 w1 gm am := ⟨h1.1.one h2, h.fs h1.2⟩
theorem eq_order (_ : j < 80000) (h : Rel j gc ac wc gm am) (h1 : post_X6_order gc ac wc p0 p1 r1 g1 a1 w1) (h2 : post_X7_order gm am p0 p1 r2) : r1 = r2 ∧ Rel (j + 1) g1 a1 w1 gm am := ⟨h1.1.one h2, h.fs h1.2⟩
theorem eq_orders (_ : j < 80000) (h : Rel j gc ac wc gm am) (h1 : post_X6_orders gc ac wc p0 p1 p2 r1 g1 a1 w1) (h2 : post_X7_orders gm am p0 p1 p2 r2 g2 a2) : r1 = r2 ∧ Rel (j + 1) g1 a1 w1 g2 a2 := ⟨h1.1.one h2.1, (h.fs h1.2).ks h2.2⟩
theorem eq_makers (_ : j < 80000) (h : Rel j gc ac wc gm am) (h1 : post_X6_makers gc ac wc p0 p1 r1 g1 a1 w1) (h2 : post_X7_makers gm am p0 p1 r2 g2 a2) : r1 = r2 ∧ Rel (j + 1) g1 a1 w1 g2 a2 := ⟨h1.1.one h2.1, (h.ms h1.2).ks h2.2⟩
theorem eq_power (_ : j < 80000) (h : Rel j gc ac wc gm am) (h1 : post_X6_power gc ac wc p0 p1 v2 r1) (h2 : post_X7_power gm am p0 p1 v2 r2) : r1 = r2 ∧ Rel (j + 1) gc ac wc gm am := ⟨PowerAns.one h1 h2, h.up⟩
theorem eq_log (_ : j < 80000) (h : Rel j gc ac wc gm am) (h1 : post_X6_log gc ac wc p0 p1 p2 r1) (h2 : post_X7_log gm am p0 p1 p2 r2) : r1 = r2 ∧ Rel (j + 1) gc ac wc gm am := ⟨LogR.one h1 h2, h.up⟩
theorem eq_roots (_ : j < 80000) (h : Rel j gc ac wc gm am) (h1 : post_X6_roots gc ac wc p0 p1 p2 p3 r1) (h2 : post_X7_roots gm am p0 p1 p2 p3 r2) : r1 = r2 ∧ Rel (j + 1) gc ac wc gm am := ⟨RootsAns.one h1 h2, h.up⟩
theorem eq_squares (_ : j < 80000) (h : Rel j gc ac wc gm am) (h1 : post_X6_squares gc ac wc p0 p1 r1 g1 a1 w1) (h2 : post_X7_squares gm am p0 p1 r2 g2 a2) : r1 = r2 ∧ Rel (j + 1) g1 a1 w1 g2 a2 := ⟨h1.1.one h2.1, (h.ms h1.2).ks h2.2⟩
theorem eq_sign (_ : j < 80000) (h : Rel j gc ac wc gm am) (h1 : post_X6_sign gc ac wc p0 p1 r1 g1 a1 w1) (h2 : post_X7_sign gm am p0 p1 r2) : r1 = r2 ∧ Rel (j + 1) g1 a1 w1 gm am := ⟨h1.1.one h2, h.fs h1.2⟩
theorem eq_looks (_ : j < 80000) (h : Rel j gc ac wc gm am) (h1 : post_X6_looks gc ac wc p0 p1 p2 r1) (h2 : post_X7_looks gm am p0 p1 p2 r2) : r1 = r2 ∧ Rel (j + 1) gc ac wc gm am := ⟨LooksAns.one h1 h2, h.up⟩
theorem eq_lied (_ : j < 80000) (h : Rel j gc ac wc gm am) (h1 : post_X6_lied gc ac wc p0 p1 r1 g1 a1 w1) (h2 : post_X7_lied gm am p0 p1 r2) : r1 = r2 ∧ Rel (j + 1) g1 a1 w1 gm am := ⟨h1.1.one h2, h.fs h1.2⟩
theorem eq_falseOnes (_ : j < 80000) (h : Rel j gc ac wc gm am) (h1 : post_X6_falseOnes gc ac wc p0 p1 r1 g1 a1 w1) (h2 : post_X7_falseOnes gm am p0 p1 r2) : r1 = r2 ∧ Rel (j + 1) g1 a1 w1 gm am := ⟨h1.1.one h2, h.fs h1.2⟩
theorem eq_fooled (_ : j < 80000) (h : Rel j gc ac wc gm am) (h1 : post_X6_fooled gc ac wc p0 p1 p2 r1 g1 a1 w1) (h2 : post_X7_fooled gm am p0 p1 p2 r2) : r1 = r2 ∧ Rel (j + 1) g1 a1 w1 gm am := ⟨h1.1.one h2, h.li h1.2⟩
theorem eq_broken (_ : j < 80000) (h : Rel j gc ac wc gm am) (h1 : post_X6_broken gc ac wc p0 p1 p2 r1 g1 a1 w1) (h2 : post_X7_broken gm am p0 p1 p2 r2) : r1 = r2 ∧ Rel (j + 1) g1 a1 w1 gm am := ⟨h1.1.one h2, h.fs h1.2⟩
theorem eq_figure (_ : j < 80000) (h : Rel j gc ac wc gm am) (h1 : post_X6_figure gc ac wc p0 p1 p2 r1) (h2 : post_X7_figure gm am p0 p1 p2 r2) : r1 = r2 ∧ Rel (j + 1) gc ac wc gm am := ⟨FigAns.one h1 h2, h.up⟩
theorem eq_soLong (_ : j < 80000) (h : Rel j gc ac wc gm am) (h1 : post_X6_soLong gc ac wc p0 p1 p2 p3 r1 g1 a1 w1) (h2 : post_X7_soLong gm am p0 p1 p2 p3 r2) : r1 = r2 ∧ Rel (j + 1) g1 a1 w1 gm am := ⟨h1.1.one h2, h.fs h1.2⟩
theorem eq_turning (_ : j < 80000) (h : Rel j gc ac wc gm am) (h1 : post_X6_turning gc ac wc p0 p1 p2 r1 g1 a1 w1) (h2 : post_X7_turning gm am p0 p1 p2 r2) : r1 = r2 ∧ Rel (j + 1) g1 a1 w1 gm am := ⟨h1.1.one h2, h.fs h1.2⟩
theorem eq_tower (_ : j < 80000) (h : Rel j gc ac wc gm am) (h1 : post_X6_tower gc ac wc p0 p1 v2 r1 g1 a1 w1) (h2 : post_X7_tower gm am p0 p1 v2 r2 g2 a2) : r1 = r2 ∧ Rel (j + 1) g1 a1 w1 g2 a2 := ⟨h1.1.one h2.1, (h.ts h1.2).ks h2.2⟩
theorem eq_back (_ : j < 80000) (h : Rel j gc ac wc gm am) (h1 : post_X6_back gc ac wc p0 p1 p2 r1 g1 a1 w1) (h2 : post_X7_back gm am p0 p1 p2 r2) : r1 = r2 ∧ Rel (j + 1) g1 a1 w1 gm am := ⟨h1.1.one h2, h.fs h1.2⟩
theorem eq_stay (_ : j < 80000) (h : Rel j gc ac wc gm am) (h1 : post_X6_stay gc ac wc p0 p1 p2 p3 r1 g1 a1 w1) (h2 : post_X7_stay gm am p0 p1 p2 p3 r2) : r1 = r2 ∧ Rel (j + 1) g1 a1 w1 gm am := ⟨h1.1.one h2, h.ms h1.2⟩
theorem eq_rounds (_ : j < 80000) (h : Rel j gc ac wc gm am) (h1 : post_X6_rounds gc ac wc p0 p1 p2 p3 r1 g1 a1 w1) (h2 : post_X7_rounds gm am p0 p1 p2 p3 r2) : r1 = r2 ∧ Rel (j + 1) g1 a1 w1 gm am := ⟨h1.1.one h2, h.fs h1.2⟩
theorem eq_left (_ : j < 80000) (h : Rel j gc ac wc gm am) (h1 : post_X6_left gc ac wc r1) (h2 : post_X7_left gm am r2) : r1 = r2 ∧ Rel (j + 1) gc ac wc gm am := by
  refine ⟨?_, h.up⟩
  obtain ⟨-, -, ⟨-, -, -, h11⟩, -, e1, e2, e3⟩ := h
  have h1 : r1 = _ := h1
  have h2 : r2 = _ := h2
  rw [h1, h2, h11, LfB_cong e3, e1, e2]
theorem eq_ith (_ : j < 80000) (h : Rel j gc ac wc gm am) (h1 : post_X6_ith gc ac wc v0 s1) (h2 : post_X7_ith gm am v0 s2) : s1 = s2 ∧ Rel (j + 1) gc ac wc gm am := by
  refine ⟨?_, h.up⟩
  obtain ⟨-, -, -, -, e1, e2, e3⟩ := h
  have h1 := IthLAns.cong e3 h1
  rw [e1, e2] at h1
  exact h1.one h2
theorem eq_from (_ : j < 80000) (h : Rel j gc ac wc gm am) (h1 : post_X6_from gc ac wc v0 s1) (h2 : post_X7_from gm am v0 s2) : s1 = s2 ∧ Rel (j + 1) gc ac wc gm am := by
  refine ⟨?_, h.up⟩
  obtain ⟨-, -, -, -, e1, e2, e3⟩ := h
  have h1 := FroAns.cong e3 h1
  rw [e1, e2] at h1
  exact h1.one h2
theorem eq_needless (_ : j < 80000) (h : Rel j gc ac wc gm am) (h1 : post_X6_needless gc ac wc p0 r1) (h2 : post_X7_needless gm am p0 r2 g2 a2) : r1 = r2 ∧ Rel (j + 1) gc ac wc g2 a2 := by
  refine ⟨?_, h.up.ks h2.2⟩
  obtain ⟨-, -, -, -, e1, e2, e3⟩ := h
  have h1 := NdAns.cong e3 h1
  rw [e1] at h1
  exact h1.one h2.1
theorem eq_lone (_ : j < 80000) (h : Rel j gc ac wc gm am) (h1 : post_X6_lone gc ac wc r1) (h2 : post_X7_lone gm am r2 g2 a2) : r1 = r2 ∧ Rel (j + 1) gc ac wc g2 a2 := by
  refine ⟨?_, h.up.ks h2.2⟩
  obtain ⟨-, -, -, -, e1, e2, e3⟩ := h
  have h1 := LoneAns.cong e3 h1
  rw [e1] at h1
  exact h1.one h2.1
theorem eq_count (_ : j < 80000) (h : Rel j gc ac wc gm am) (h1 : post_X6_count gc ac wc p0 r1) (h2 : post_X7_count gm am p0 r2) : r1 = r2 ∧ Rel (j + 1) gc ac wc gm am := by
  refine ⟨?_, h.up⟩
  obtain ⟨-, ⟨hC, hM, eL, -⟩, ⟨hF, hLM, e1, e2, -⟩⟩ := h
  have h1 : r1 = _ := h1
  have h2 : r2 = _ := h2
  rw [h1, h2, hC.2.1, hM.2.1, hF.1.1.2, hLM.1.2, hF.2.1.2.2, hLM.2.1.2.2, eL, e1, e2]
theorem eq_fault (_ : j < 80000) (h : Rel j gc ac wc gm am) (h1 : post_X6_fault gc ac wc r1 g1 a1 w1) (h2 : post_X7_fault gm am r2 g2 a2) : r1 = r2 ∧ Rel (j + 1) g1 a1 w1 g2 a2 := by
  obtain ⟨hL, hT, hD⟩ := h
  obtain ⟨⟨rfl, rfl, k⟩, hf⟩ := h1
  obtain ⟨k2, hf2, -⟩ := h2
  refine ⟨?_, hL.keep (k 12 (by omega)) (k 13 (by omega)) rfl, (hT.c (k 3 (by omega)) rfl).m (k2.1 0 (by decide) (by decide)) (k2.2 0 (by omega)), (hD.c (k 9 (by omega)) (k 10 (by omega)) (k 11 (by omega)) rfl rfl).m (k2.1 2 (by decide) (by decide)) (k2.1 3 (by decide) (by decide)) (fun j _ hj => k2.2 j (by omega))⟩
  have := hf.cong hT.2.2.2
  rw [hT.2.2.1] at this
  exact this.one hf2
theorem eq_wipe (_ : j < 80000) (h : Rel j gc ac wc gm am) (h1 : post_X6_wipe gc ac wc r1 g1 a1 w1) (h2 : post_X7_wipe gm am r2 g2 a2) : r1 = r2 ∧ Rel (j + 1) g1 a1 w1 g2 a2 := by
  obtain ⟨hL, ⟨hC, hO, eL, -⟩, hD⟩ := h
  obtain ⟨e1, rfl, rfl, rfl⟩ := h1
  obtain ⟨e2, rfl, rfl⟩ := h2
  refine ⟨by rw [e1, e2, hC.2.1, hO.2.1, eL], hL.keep (up_n _ _ (by decide)) (up_n _ _ (by decide)) rfl, ?_, (hD.c (up_n _ _ (by decide)) (up_n _ _ (by decide)) (up_n _ _ (by decide)) rfl rfl).m (up_n _ _ (by decide)) (up_n _ _ (by decide)) (fun _ _ _ => rfl)⟩
  have z1 : cL (va_up gc 3 0) = 0 := by show tn (va_up gc 3 0 3) = 0; rw [up_0]; rfl
  have z2 : mL (va_up gm 0 0) = 0 := by show tn (va_up gm 0 0 0) = 0; rw [up_0]; rfl
  refine ⟨⟨by omega, by rw [z1, up_0]; rfl, fun i hi => ?_⟩, ⟨by omega, by rw [z2, up_0]; rfl, fun i hi => ?_⟩, by rw [z1, z2], fun i hi => ?_⟩
  · rw [z1] at hi; omega
  · rw [z2] at hi; omega
  · rw [z1] at hi; omega
theorem byW_lt (v : Int64) (n j : Nat) : byW v n j < 256 := Nat.mod_lt _ (by decide)
theorem sB_m {x : Nat} (hx : x < 256) : ((sB x).toInt % 256).toNat = x := by
  rw [sB_i x hx]
  split <;> omega
theorem eq_write (_ : j < 80000) (h : Rel j gc ac wc gm am) (h1 : post_X6_write gc ac wc p0 v1 r1 g1 a1 w1) (h2 : post_X7_write gm am p0 v1 r2 g2 a2) : r1 = r2 ∧ Rel (j + 1) g1 a1 w1 g2 a2 := by
  have hR := h
  obtain ⟨hL, ⟨hC, hO, eL, eT⟩, hD⟩ := h
  obtain ⟨rfl, h1⟩ := h1
  have h2 : WrM gm am p0 v1 r2 g2 a2 := h2
  rcases h1 with ⟨b1, rfl, rfl, rfl⟩ | ⟨b1, h1⟩ <;> rcases h2 with ⟨c1, rfl, rfl, rfl⟩ | ⟨c1, h2⟩
  · exact ⟨rfl, hR.up⟩
  · exact absurd c1 b1
  · exact absurd b1 c1
  · rcases h1 with ⟨d1, rfl, rfl, rfl⟩ | ⟨d1, d2, d3⟩ <;> rcases h2 with ⟨e1, rfl, rfl, rfl⟩ | ⟨e1, e2, e3⟩
    · exact ⟨rfl, hR.up⟩
    · omega
    · omega
    · generalize tn p0 = n at *
      obtain ⟨rfl, f, rfl, f1, f2⟩ := d3
      obtain ⟨rfl, q, rfl, q1, q2⟩ := e3
      have z1 : cL (va_up gc 3 (nI (cL gc + n))) = cL gc + n := by show tn (va_up gc 3 _ 3) = _; rw [up_0]; exact tn_nI (by omega)
      have z2 : mL (va_up gm 0 (nI (mL gm + n))) = mL gm + n := by show tn (va_up gm 0 _ 0) = _; rw [up_0]; exact tn_nI (by omega)
      have y1 : ∀ i, i < cL gc → cT (va_up ac 5 f) i = cT ac i := fun i hi => by show tn (va_up ac 5 f 5 i) = tn (ac 5 i); rw [up_0, f1 i hi]
      have y2 : ∀ i, i < n → cT (va_up ac 5 f) (cL gc + i) = byW v1 n i := fun i hi => by
        have := byW_lt v1 n i
        show tn (va_up ac 5 f 5 (cL gc + i)) = _; rw [up_0, f2 i hi]; exact tn_nI (by omega)
      have x1 : ∀ i, i < mL gm → mT (va_up am 0 q) i = mT am i := fun i hi => by show ((va_up am 0 q 0 i).toInt % 256).toNat = ((am 0 i).toInt % 256).toNat; rw [up_0, q1 i hi]
      have x2 : ∀ i, i < n → mT (va_up am 0 q) (mL gm + i) = byW v1 n i := fun i hi => by
        show ((va_up am 0 q 0 (mL gm + i)).toInt % 256).toNat = _; rw [up_0, q2 i hi]; exact sB_m (byW_lt _ _ _)
      refine ⟨by rw [d2, e2, eL], hL.keep (up_n _ _ (by decide)) (up_n _ _ (by decide)) (up_n _ _ (by decide)), ?_, (hD.c (up_n _ _ (by decide)) (up_n _ _ (by decide)) (up_n _ _ (by decide)) (up_n _ _ (by decide)) rfl).m (up_n _ _ (by decide)) (up_n _ _ (by decide)) (fun j h1 _ => up_n _ _ (by omega))⟩
      refine ⟨⟨by rw [z1]; exact d1, by rw [z1, up_0], fun i hi => ?_⟩, ⟨by rw [z2]; exact e1, by rw [z2, up_0], fun i hi => ?_⟩, by rw [z1, z2, eL], fun i hi => ?_⟩
      · rw [z1] at hi
        by_cases z : i < cL gc
        · rw [y1 i z, up_0, f1 i z]
          exact hC.2.2 i z
        · obtain ⟨k, rfl⟩ : ∃ k, i = cL gc + k := ⟨i - cL gc, by omega⟩
          rw [y2 k (by omega), up_0, f2 k (by omega)]
          exact ⟨byW_lt _ _ _, rfl⟩
      · rw [z2] at hi
        by_cases z : i < mL gm
        · rw [x1 i z, up_0, q1 i z]
          exact hO.2.2 i z
        · obtain ⟨k, rfl⟩ : ∃ k, i = mL gm + k := ⟨i - mL gm, by omega⟩
          rw [x2 k (by omega), up_0, q2 k (by omega)]
          exact ⟨byW_lt _ _ _, rfl⟩
      · rw [z1] at hi
        by_cases z : i < cL gc
        · rw [y1 i z, x1 i (by omega)]; exact eT i z
        · obtain ⟨k, rfl⟩ : ∃ k, i = cL gc + k := ⟨i - cL gc, by omega⟩
          rw [y2 k (by omega), eL, x2 k (by omega)]
theorem Hold_fM {l f s b x : Nat} : Hold l (fM l f s) s b x ↔ Hold l f s b x := by
  unfold fM
  by_cases z : l = 110
  · rw [if_pos z]
    refine ⟨fun h => ⟨fun y => by omega, fun y => by omega, h.2.2.1, fun _ y => absurd z y⟩, fun h => ⟨fun y => by omega, fun y => by omega, h.2.2.1, fun _ y => absurd z y⟩⟩
  · rw [if_neg z]
theorem eq_lay (_ : j < 80000) (h : Rel j gc ac wc gm am) (h1 : post_X6_lay gc ac wc r1 g1 a1 w1) (h2 : post_X7_lay gm am r2 g2 a2) : r1 = r2 ∧ Rel (j + 1) g1 a1 w1 g2 a2 := by
  obtain ⟨hL, hT, hD⟩ := h
  have h1 : LayC _ _ _ _ _ _ _ _ _ := h1
  obtain ⟨⟨m0, m1⟩, h2⟩ := h2
  have hTe := hT.2.2.2
  have eL := hT.2.2.1
  have hTs : ∀ i, i < mL gm → mT am i = cT ac i := fun i hi => (hTe i (by omega)).symm
  rcases h1 with ⟨b1, rfl, k, rfl, rfl⟩ | ⟨n, b1, b2, b3, b4, b5, b6, b7, b8⟩ <;> rcases h2 with ⟨c1, rfl, c2, c3, c4⟩ | ⟨n', c1, c2, c3, c4, c5⟩
  · exact ⟨rfl, hL.keep (k 12 (by omega)) (k 13 (by omega)) rfl, (hT.c (k 3 (by omega)) rfl).m m0 m1, (hD.c (k 9 (by omega)) (k 10 (by omega)) (k 11 (by omega)) rfl rfl).m c2 c3 (fun j _ hj => c4 j hj)⟩
  · have := c1.cong hTs
    rw [← eL] at this
    exact absurd ⟨n', this⟩ b1
  · have := b1.cong hTe
    rw [eL] at this
    exact absurd ⟨n, this⟩ c1
  · have hb := b1.cong hTe
    rw [eL] at hb
    have hnn := hb.one c1
    subst hnn
    obtain ⟨el, ef, es, eb⟩ := x_cong hTe
    rw [el, ef, es, eb, eL] at b6
    rw [eb, eL] at b2 b4
    obtain ⟨⟨⟨hn8, hall, -⟩, -⟩, hlc⟩ := id hb
    have hlp : 1 ≤ lcmF (xb (mT am) (mL gm)) n := lcmF_pos (fun i hi => by have := (hall i hi).it.b; omega)
    have eN : mN g2 = n := by show tn (g2 2) = n; rw [c3]; exact tn_nI (by omega)
    have eP : mP g2 = lcmF (xb (mT am) (mL gm)) n := by show tn (g2 3) = _; rw [c4]; exact tn_nI (by omega)
    have rows : ∀ k, k < n → ml a2 k = xl (mT am) (mL gm) k ∧ mf a2 k = fM (xl (mT am) (mL gm) k) (xf (mT am) (mL gm) k) (xs (mT am) (mL gm) k) ∧ ms a2 k = xs (mT am) (mL gm) k ∧ mb a2 k = xb (mT am) (mL gm) k ∧ fM (xl (mT am) (mL gm) k) (xf (mT am) (mL gm) k) (xs (mT am) (mL gm) k) < 10000 := fun k hk => by
      obtain ⟨t1, t2, t3, t4⟩ := c5 k hk
      have hbk := (hall k hk).it.b
      have hf : fM (xl (mT am) (mL gm) k) (xf (mT am) (mL gm) k) (xs (mT am) (mL gm) k) < 10000 := by unfold fM; split <;> omega
      refine ⟨?_, ?_, ?_, ?_, hf⟩
      · show tn (a2 1 k) = _; rw [t1]; exact tn_nI (by omega)
      · show tn (a2 2 k) = _; rw [t2]; exact tn_nI (by omega)
      · show tn (a2 3 k) = _; rw [t3]; exact tn_nI (by omega)
      · show tn (a2 4 k) = _; rw [t4]; exact tn_nI (by omega)
    refine ⟨by rw [b2, c2], hL.keep (b7 12 (by omega)) (b7 13 (by omega)) (b8 9 (by decide) (by decide)), (hT.c (b7 3 (by omega)) (b8 5 (by decide) (by decide))).m m0 m1, b5, ⟨⟨by rw [eN]; exact hn8, by rw [eN]; exact c3⟩, ⟨by rw [eP]; exact hlp, by rw [eP]; exact hlc, by rw [eP]; exact c4⟩, fun k hk => ?_⟩, by rw [b3, eN], by rw [b4, eP], fun k hk x => ?_⟩
    · rw [eN] at hk
      obtain ⟨t1, t2, t3, t4⟩ := c5 k hk
      obtain ⟨u1, u2, u3, u4, u5⟩ := rows k hk
      have hbk := (hall k hk).it.b
      rw [u1, u2, u3, u4, eP]
      refine ⟨⟨t1, t2, t3, t4⟩, by omega, u5, by omega, ⟨by omega, by omega⟩, fun z => ?_, lcmF_mem hk⟩
      unfold fM
      rw [if_pos z]
    · rw [b3] at hk
      obtain ⟨u1, u2, u3, u4, -⟩ := rows k hk
      rw [b6 k hk x]
      unfold mH
      rw [u1, u2, u3, u4]
      exact cb_iff Hold_fM.symm
end EQ
