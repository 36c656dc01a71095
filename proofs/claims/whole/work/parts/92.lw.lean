/-! calls of the law: two arenas, one called at a time -/
abbrev bW (ad : Nat → Nat) (ad' : Nat → Nat) (cy : Nat → ClassId) (g : Gs) (a : As) (w : Ws) (g' : Gs) (a' : As) : va_W := caW ad cy g a w ++ maW ad' cy g' a'
theorem bD {A : Nat → Prop} {ad ad' : Nat → Nat} {cy : Nat → ClassId} {g g1 : Gs} {a a1 : As} {w w1 : Ws} {g' g2 : Gs} {a' a2 : As} (h : va_D A (bW ad ad' cy g a w g' a')) : va_D A (bW ad ad' cy g1 a1 w1 g2 a2) := ar_same (ws := bW ad ad' cy g a w g' a') (ws' := bW ad ad' cy g1 a1 w1 g2 a2) rfl h
section LW
variable {p : Program} {l : Launch} {e : Env} {R : Room} {s : State} {m : MethodId} {args : Array Value} {below : List Frame} {meth : Method} {c : Code} {H : Heap} {locs : List Loc} {cells slots : Nat} {Q : State → Prop}
variable {pc : Nat} {ls : Array Slot} {rest st0 : List Value} {a0 : Array Value} {A0 : Nat → Prop} {H0 : Heap} {D : va_G} {cy : Nat → ClassId} {ad ad' : Nat → Nat} {g : Gs} {a : As} {w : Ws} {g' : Gs} {a' : As}
theorem b_c (hP : va_P D vwCl (bW ad ad' cy g a w g' a') H) : va_P D vwCl (caW ad cy g a w) H := hP.sub (ws' := caW ad cy g a w) [0, 1, 2, 3, 4, 5, 6, 7, 8, 9, 10, 11, 12, 13, 14, 15, 16, 17, 18, 19, 20, 21, 22, 23, 24, 25] rfl
theorem b_m (hP : va_P D vwCl (bW ad ad' cy g a w g' a') H) : va_P D vwCl (maW ad' cy g' a') H := hP.sub (ws' := maW ad' cy g' a') [26, 27, 28, 29, 30, 31, 32, 33, 34, 35, 36, 37, 38, 39] rfl
theorem b_cD (hD : va_D A0 (bW ad ad' cy g a w g' a')) : va_D A0 (caW ad cy g a w) := hD.sub (ws' := caW ad cy g a w) [0, 1, 2, 3, 4, 5, 6, 7, 8, 9, 10, 11, 12, 13, 14, 15, 16, 17, 18, 19, 20, 21, 22, 23, 24, 25] (by decide) rfl
theorem b_mD (hD : va_D A0 (bW ad ad' cy g a w g' a')) : va_D A0 (maW ad' cy g' a') := hD.sub (ws' := maW ad' cy g' a') [26, 27, 28, 29, 30, 31, 32, 33, 34, 35, 36, 37, 38, 39] (by decide) rfl
theorem lw_ci {post : Int32 → Gs → As → Ws → Prop} (hr : va_Run p l e R s m args below meth c H locs cells slots 0 0 (F0 m pc ls st0) rest (va_Qi (fun (r : Int32) (u : Gs × As × Ws) => post r u.1 u.2.1 u.2.2) (fun u t => va_P D vwCl (caW ad cy u.1 u.2.1 u.2.2) t.heap) (va_A (caW ad cy g a w) H.size) a0) (va_A (caW ad cy g a w) H.size)) (hP : va_P D vwCl (bW ad ad' cy g a w g' a') H) (hD : va_D A0 (bW ad ad' cy g a w g' a')) (hS : va_S A0 H0 H locs) (hA : ∀ q, H0.size ≤ q → A0 q)
    (kk : ∀ (r : Int32) (g1 : Gs) (a1 : As) (w1 : Ws) (H1 : Heap) (locs1 : List Loc), post r g1 a1 w1 → va_P D vwCl (bW ad ad' cy g1 a1 w1 g' a') H1 → va_S A0 H0 H1 locs1 → W p l e R s m args below meth c H1 locs1 cells slots Q (F0 m (pc + 3) ls (.int r :: rest))) : W p l e R s m args below meth c H locs cells slots Q (F0 m pc ls st0) := by
  have hFc := va_free (wc := caW ad cy g a w) hD hS hA [0, 1, 2, 3, 4, 5, 6, 7, 8, 9, 10, 11, 12, 13, 14, 15, 16, 17, 18, 19, 20, 21, 22, 23, 24, 25] rfl
  refine va_calli hr hS (fun q _ h => hFc q h) hFc (fun r u t H1 locs1 ht hvm hw hB hz1 hk1 hS1 => ?_)
  rw [ht] at hB
  obtain ⟨hP2, -⟩ := va_join (wc := caW ad cy g a w) (wr := maW ad' cy g' a') (w1 := caW ad cy u.1 u.2.1 u.2.2) hP hD [0, 1, 2, 3, 4, 5, 6, 7, 8, 9, 10, 11, 12, 13, 14, 15, 16, 17, 18, 19, 20, 21, 22, 23, 24, 25] [26, 27, 28, 29, 30, 31, 32, 33, 34, 35, 36, 37, 38, 39] rfl rfl (by decide) (by decide) hk1 hFc hB (caD (va_D.self (b_cD hD)))
  exact kk r u.1 u.2.1 u.2.2 H1 locs1 hw (hP2.sub (ws' := bW ad ad' cy u.1 u.2.1 u.2.2 g' a') [14, 15, 16, 17, 18, 19, 20, 21, 22, 23, 24, 25, 26, 27, 28, 29, 30, 31, 32, 33, 34, 35, 36, 37, 38, 39, 0, 1, 2, 3, 4, 5, 6, 7, 8, 9, 10, 11, 12, 13] rfl) hS1
theorem lw_mi {post : Int32 → Gs → As → Prop} (hr : va_Run p l e R s m args below meth c H locs cells slots 0 0 (F0 m pc ls st0) rest (va_Qi (fun (r : Int32) (u : Gs × As) => post r u.1 u.2) (fun u t => va_P D vwCl (maW ad' cy u.1 u.2) t.heap) (va_A (maW ad' cy g' a') H.size) a0) (va_A (maW ad' cy g' a') H.size)) (hP : va_P D vwCl (bW ad ad' cy g a w g' a') H) (hD : va_D A0 (bW ad ad' cy g a w g' a')) (hS : va_S A0 H0 H locs) (hA : ∀ q, H0.size ≤ q → A0 q)
    (kk : ∀ (r : Int32) (g2 : Gs) (a2 : As) (H1 : Heap) (locs1 : List Loc), post r g2 a2 → va_P D vwCl (bW ad ad' cy g a w g2 a2) H1 → va_S A0 H0 H1 locs1 → W p l e R s m args below meth c H1 locs1 cells slots Q (F0 m (pc + 3) ls (.int r :: rest))) : W p l e R s m args below meth c H locs cells slots Q (F0 m pc ls st0) := by
  have hFc := va_free (wc := maW ad' cy g' a') hD hS hA [26, 27, 28, 29, 30, 31, 32, 33, 34, 35, 36, 37, 38, 39] rfl
  refine va_calli hr hS (fun q _ h => hFc q h) hFc (fun r u t H1 locs1 ht hvm hw hB hz1 hk1 hS1 => ?_)
  rw [ht] at hB
  obtain ⟨hP2, -⟩ := va_join (wc := maW ad' cy g' a') (wr := caW ad cy g a w) (w1 := maW ad' cy u.1 u.2) hP hD [26, 27, 28, 29, 30, 31, 32, 33, 34, 35, 36, 37, 38, 39] [0, 1, 2, 3, 4, 5, 6, 7, 8, 9, 10, 11, 12, 13, 14, 15, 16, 17, 18, 19, 20, 21, 22, 23, 24, 25] rfl rfl (by decide) (by decide) hk1 hFc hB (maD (va_D.self (b_mD hD)))
  exact kk r u.1 u.2 H1 locs1 hw hP2 hS1
end LW
