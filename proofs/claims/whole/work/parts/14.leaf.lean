theorem nI_lt31 (x : Int32) : tn x < 2 ^ 31 := by
  have := fb_rng x
  show x.toInt.toNat < 2 ^ 31
  omega
set_option maxHeartbeats 4000000 in
set_option maxRecDepth 100000 in
theorem met_X4_rest (l : Launch) (p0 : Int64) (p1 : Int32) (post : Int32 → Prop)
  (hV : (((1 : Int32) ≤ p1 → ¬ p1.toInt64 = 0 ∧ (post ((p0 - p0 / p1.toInt64 * p1.toInt64).toInt32))) ∧ (¬ (1 : Int32) ≤ p1 → post (0 : Int32)))) :
  Met l yX4_rest wsX4_rest ({ frames := 0, cells := 0, slots := 0, locals := 0 } : Room) (va_Pc [.long p0, .int p1] (fun _ => True)) (Qpi post) 0 0 noF := by
  refine Met.ofW (cc := cX4_rest) (maxL := 3) (ret := (some .int)) (by decide) rfl ?_
  intro p e s m args below meth c s₁ B hml hv
  obtain ⟨rfl, -⟩ := hv
  have hx := B.exec
  have hb := B.bytes
  have hr := B.returns
  have hts := atoms_spec (ws := wsX4_rest) B.pre
  have hown : s.vm.findClass RX4 = some m.cls := findClass_of_methodNamed B.named
  have hlocks := B.notSynchronized
  have hl := lv_entry ([.long p0, .int p1]) (n := 3) (Nat.le_of_ble_eq_true rfl)
  rw [lg_entry_eq]
  generalize (lg_sl ([.long p0, .int p1]) ++ List.replicate (3 - (lg_sl ([.long p0, .int p1])).length) Slot.unset).toArray = ls at hl ⊢
  have hl : lv_has ls 3 [(0, .long p0), (2, .int p1)] := hl
  refine lv_iload_n hx hb dX4_rest_0 rfl (lv_at hl 1 rfl) ?_
  refine lv_iconst (v := (1 : Int32)) hx hb dX4_rest_1 (by decide) ?_
  refine lv_icmp_ge (tgt := 9) hx hb dX4_rest_2 (by decide) (fun c_2 => ?_) (fun c_2 => ?_)
  · have hV := hV.1 c_2
    refine lv_lload_n hx hb dX4_rest_9 rfl (lv_at hl 0 rfl) ?_
    refine lv_iload_n hx hb dX4_rest_10 rfl (lv_at hl 1 rfl) ?_
    refine lv_i2l (v := p1.toInt64) hx hb dX4_rest_11 rfl ?_
    obtain ⟨h_12, hV⟩ := hV
    refine lv_lrem hx hb dX4_rest_12 h_12 ?_
    refine lv_l2i (v := (p0 - p0 / p1.toInt64 * p1.toInt64).toInt32) hx hb dX4_rest_13 rfl ?_
    exact W.iret (v := (p0 - p0 / p1.toInt64 * p1.toInt64).toInt32) hx hb hr (fun t ht hW => ⟨_, rfl, hV, ht⟩) (fun _ h => by cases h) dX4_rest_14
  · have hV := hV.2 c_2
    refine lv_iconst (v := (0 : Int32)) hx hb dX4_rest_5 (by decide) ?_
    refine lv_goto (tgt := 14) hx hb dX4_rest_6 (by decide) ?_
    exact W.iret (v := (0 : Int32)) hx hb hr (fun t ht hW => ⟨_, rfl, hV, ht⟩) (fun _ h => by cases h) dX4_rest_14
def post_X4_rest (p0 : Int64) (p1 r : Int32) : Prop := 0 ≤ p0.toInt → 1 ≤ p1.toInt → r = nI (tl p0 % tn p1)
set_option maxRecDepth 4000 in
theorem spec_X4_rest (l : Launch) (p0 : Int64) (p1 : Int32) : Met l yX4_rest wsX4_rest ({ frames := 0, cells := 0, slots := 0, locals := 0 } : Room) (va_Pc [.long p0, .int p1] (fun _ => True)) (Qpi (post_X4_rest p0 p1)) 0 0 noF := by
  apply met_X4_rest
  unfold post_X4_rest
  have e1 : (1 : Int32).toInt = 1 := rfl
  refine ⟨fun h => ?_, fun h h0 h1 => absurd (by rw [i_le, e1]; exact h1) h⟩
  rw [i_le, e1] at h
  obtain ⟨n, hn, rfl, hn2⟩ := of_i (x := p1) (by omega)
  rw [nI_l hn]
  refine ⟨lN_nz (by omega) (by omega), fun h0 h1 => ?_⟩
  obtain ⟨x, hx, rfl, -⟩ := of_l h0
  have hl := Nat.mod_lt x (show 0 < n by omega)
  rw [tl_lN hx, tn_nI hn, pk_lRem hx (by omega) (by omega), lN_i]
theorem rest_eq {x n : Nat} {r : Int32} (h : post_X4_rest (lN x) (nI n) r) (hx : x < 2 ^ 63) (h1 : 1 ≤ n) (hn : n < 2 ^ 31) : r = nI (x % n) := by
  have := h (by rw [pk_lT hx]; omega) (by rw [nI_toInt hn]; omega)
  rwa [tl_lN hx, tn_nI hn] at this
def pre_X6_leastLog (p0 p1 p2 : Int32) : Prop := 2 ≤ p0.toInt ∧ 0 ≤ p1.toInt ∧ p1.toInt < p0.toInt ∧ 0 ≤ p2.toInt ∧ p2.toInt < p0.toInt
set_option maxHeartbeats 4000000 in
set_option maxRecDepth 100000 in
theorem met_X6_leastLog (l : Launch) (p0 : Int32) (p1 : Int32) (p2 : Int32) (post : Int32 → Prop)
  (hV : ∀ (J5 : Int64 → Int32 → Prop),
    (∀ (x3 : Int64) (x5 : Int32), ((p0 ≤ x5 → post (-4 : Int32)) ∧ (¬ p0 ≤ x5 → ((x3 = p2.toInt64 → post x5) ∧ (¬ x3 = p2.toInt64 → ∀ r26 : Int32, post_X4_rest (x3 * p1.toInt64) p0 r26 → J5 r26.toInt64 (x5 + 1))))) → J5 x3 x5) →
    J5 (1 : Int64) (0 : Int32)) :
  Met l yX6_leastLog wsX6_leastLog ({ frames := 1, cells := 0, slots := 0, locals := 22 } : Room) (va_Pc [.int p0, .int p1, .int p2] (fun _ => True)) (Qpi post) 0 0 noF := by
  refine Met.ofW (cc := cX6_leastLog) (maxL := 6) (ret := (some .int)) (by decide) rfl ?_
  intro p e s m args below meth c s₁ B hml hv
  obtain ⟨rfl, -⟩ := hv
  have hx := B.exec
  have hb := B.bytes
  have hr := B.returns
  have hts := atoms_spec (ws := wsX6_leastLog) B.pre
  have hown : s.vm.findClass RX6 = some m.cls := findClass_of_methodNamed B.named
  have hlocks := B.notSynchronized
  obtain ⟨J5, iJ5, oJ5⟩ : ∃ J : Int64 → Int32 → Prop, (∀ (x3 : Int64) (x5 : Int32), (∀ ls : Array Slot, lv_has ls 6 [(0, .int p0), (1, .int p1), (2, .int p2), (3, .long x3), (5, .int x5)] → W p l e (headSpec wsX6_leastLog ({ frames := 1, cells := 0, slots := 0, locals := 22 } : Room)).room s m [.int p0, .int p1, .int p2].toArray below meth c s.heap [] 0 0 (MQ below (Qpi post) [.int p0, .int p1, .int p2].toArray s 0 0 noF) (F0 m 5 ls [])) → J x3 x5) ∧ (∀ (x3 : Int64) (x5 : Int32), J x3 x5 → (∀ ls : Array Slot, lv_has ls 6 [(0, .int p0), (1, .int p1), (2, .int p2), (3, .long x3), (5, .int x5)] → W p l e (headSpec wsX6_leastLog ({ frames := 1, cells := 0, slots := 0, locals := 22 } : Room)).room s m [.int p0, .int p1, .int p2].toArray below meth c s.heap [] 0 0 (MQ below (Qpi post) [.int p0, .int p1, .int p2].toArray s 0 0 noF) (F0 m 5 ls []))) := ⟨fun (x3 : Int64) (x5 : Int32) => (∀ ls : Array Slot, lv_has ls 6 [(0, .int p0), (1, .int p1), (2, .int p2), (3, .long x3), (5, .int x5)] → W p l e (headSpec wsX6_leastLog ({ frames := 1, cells := 0, slots := 0, locals := 22 } : Room)).room s m [.int p0, .int p1, .int p2].toArray below meth c s.heap [] 0 0 (MQ below (Qpi post) [.int p0, .int p1, .int p2].toArray s 0 0 noF) (F0 m 5 ls [])), fun _ _ h => h, fun _ _ h => h⟩
  have hV := hV J5
  replace hV := hV (by
    intro x3 x5 hV
    refine iJ5 x3 x5 ?_
    intro ls hl
    refine lv_iload hx hb dX6_leastLog_5 (lv_at hl 4 rfl) ?_
    refine lv_iload_n hx hb dX6_leastLog_7 rfl (lv_at hl 0 rfl) ?_
    refine lv_icmp_ge (tgt := 37) hx hb dX6_leastLog_8 (by decide) (fun c_8 => ?_) (fun c_8 => ?_)
    · have hV := hV.1 c_8
      refine lv_bipush (v := (-4 : Int32)) hx hb dX6_leastLog_37 (by decide) ?_
      exact W.iret (v := (-4 : Int32)) hx hb hr (fun t ht hW => ⟨_, rfl, hV, ht⟩) (fun _ h => by cases h) dX6_leastLog_39
    · have hV := hV.2 c_8
      refine lv_lload_n hx hb dX6_leastLog_11 rfl (lv_at hl 3 rfl) ?_
      refine lv_iload_n hx hb dX6_leastLog_12 rfl (lv_at hl 2 rfl) ?_
      refine lv_i2l (v := p2.toInt64) hx hb dX6_leastLog_13 rfl ?_
      refine lc_ne (tgt := 21) hx hb dX6_leastLog_14 dX6_leastLog_15 (by decide) (fun c_14 => ?_) (fun c_14 => ?_)
      · have hV := hV.2 c_14
        refine lv_lload_n hx hb dX6_leastLog_21 rfl (lv_at hl 3 rfl) ?_
        refine lv_iload_n hx hb dX6_leastLog_22 rfl (lv_at hl 1 rfl) ?_
        refine lv_i2l (v := p1.toInt64) hx hb dX6_leastLog_23 rfl ?_
        refine lv_lmul hx hb dX6_leastLog_24 ?_
        refine lv_iload_n hx hb dX6_leastLog_25 rfl (lv_at hl 0 rfl) ?_
        refine cp_i (va_runS (As := [.long (x3 * p1.toInt64), .int p0]) (rest := []) ⟨hx, hb, hml, hown, hts⟩ (spec_X4_rest l (x3 * p1.toInt64) p0) (va_cwS 2 hts gX6_leastLog_X4_rest rfl rfl rfl (by decide +kernel) ⟨Nat.le_of_ble_eq_true rfl, Nat.le_of_ble_eq_true rfl⟩) cp_pre rfl rfl hl.1 rfl (lv_room (Nat.le_of_ble_eq_true rfl)) dX6_leastLog_26 ⟨Nat.zero_le _, Nat.zero_le _⟩) (fun r26 q_26 => ?_)
        have hV := hV r26 q_26
        refine lv_i2l (v := r26.toInt64) hx hb dX6_leastLog_29 rfl ?_
        refine lv_lstore_n (lv' := [(3, .long r26.toInt64), (0, .int p0), (1, .int p1), (2, .int p2), (5, .int x5)]) hx hb dX6_leastLog_30 rfl hl (by decide) rfl (fun ls hl => ?_)
        refine lv_iinc (v := x5 + 1) (lv' := [(5, .int (x5 + 1)), (3, .long r26.toInt64), (0, .int p0), (1, .int p1), (2, .int p2)]) hx hb dX6_leastLog_31 hl (k := 4) rfl rfl (by decide) rfl (fun ls hl => ?_)
        refine lv_goto (tgt := 5) hx hb dX6_leastLog_34 (by decide) ?_
        exact oJ5 _ _ hV _ (lv_sub hl [2, 3, 4, 1, 0] rfl)
      · have hV := hV.1 c_14
        refine lv_iload hx hb dX6_leastLog_18 (lv_at hl 4 rfl) ?_
        exact W.iret (v := x5) hx hb hr (fun t ht hW => ⟨_, rfl, hV, ht⟩) (fun _ h => by cases h) dX6_leastLog_20)
  have hl := lv_entry ([.int p0, .int p1, .int p2]) (n := 6) (Nat.le_of_ble_eq_true rfl)
  rw [lg_entry_eq]
  generalize (lg_sl ([.int p0, .int p1, .int p2]) ++ List.replicate (6 - (lg_sl ([.int p0, .int p1, .int p2])).length) Slot.unset).toArray = ls at hl ⊢
  have hl : lv_has ls 6 [(0, .int p0), (1, .int p1), (2, .int p2)] := hl
  refine lv_lconst (v := (1 : Int64)) hx hb dX6_leastLog_0 (by decide) ?_
  refine lv_lstore_n (lv' := [(3, .long (1 : Int64)), (0, .int p0), (1, .int p1), (2, .int p2)]) hx hb dX6_leastLog_1 rfl hl (by decide) rfl (fun ls hl => ?_)
  refine lv_iconst (v := (0 : Int32)) hx hb dX6_leastLog_2 (by decide) ?_
  refine lv_istore (lv' := [(5, .int (0 : Int32)), (3, .long (1 : Int64)), (0, .int p0), (1, .int p1), (2, .int p2)]) hx hb dX6_leastLog_3 hl (by decide) rfl (fun ls hl => ?_)
  exact oJ5 _ _ hV _ (lv_sub hl [2, 3, 4, 1, 0] rfl)
/-- the least e so that the e-th power of a has rest b -/
def IsLog (n a b e : Nat) : Prop := a ^ e % n = b ∧ ∀ j, j < e → ¬ a ^ j % n = b
def LogAns (n a b : Nat) (r : Int32) : Prop := (∃ e, e < n ∧ IsLog n a b e ∧ r = nI e) ∨ ((∀ e, e < n → ¬ a ^ e % n = b) ∧ r = -4)
def post_X6_leastLog (p0 p1 p2 r : Int32) : Prop := LogAns (tn p0) (tn p1) (tn p2) r
set_option maxRecDepth 4000 in
theorem spec_X6_leastLog (l : Launch) (p0 : Int32) (p1 : Int32) (p2 : Int32) (hpre : pre_X6_leastLog p0 p1 p2) : Met l yX6_leastLog wsX6_leastLog ({ frames := 1, cells := 0, slots := 0, locals := 22 } : Room) (va_Pc [.int p0, .int p1, .int p2] (fun _ => True)) (Qpi (post_X6_leastLog p0 p1 p2)) 0 0 noF := by
  apply met_X6_leastLog
  intro J hJ
  obtain ⟨h0, h1, h2, h3, h4⟩ := hpre
  obtain ⟨n, hn, rfl, hn2⟩ := of_i (x := p0) (by omega)
  obtain ⟨a, ha, rfl, ha2⟩ := of_i h1
  obtain ⟨b, hb, rfl, hb2⟩ := of_i h3
  have hn1 : 2 ≤ n := by omega
  rw [nI_l ha, nI_l hb] at hJ
  have key : ∀ d k : Nat, k + d = n → (∀ j, j < k → ¬ a ^ j % n = b) → J (lN (a ^ k % n)) (nI k) := by
    intro d
    induction d with
    | zero =>
      intro k hk hi
      have : k = n := by omega
      subst this
      refine hJ _ _ (pk_le k k (fun _ => Or.inr ⟨fun e he => ?_, rfl⟩) (fun h => absurd h (by omega)))
      rw [tn_nI hn] at he ⊢
      rw [tn_nI ha, tn_nI hb]
      exact hi e he
    | succ d ih =>
      intro k hk hi
      have hlt := Nat.mod_lt (a ^ k) (show 0 < n by omega)
      refine hJ _ _ (pk_le n k (fun h => absurd h (by omega)) (fun _ => ql_eq (a ^ k % n) b (fun h => Or.inl ⟨k, ?_, ?_, rfl⟩) (fun h r hr => ?_)))
      · rw [tn_nI hn]; omega
      · rw [tn_nI hn, tn_nI ha, tn_nI hb]; exact ⟨h, hi⟩
      · have hm := mul_lt62 hn hlt (show a < n by omega)
        rw [lN_mul] at hr
        have hr := rest_eq hr (by omega) (by omega) hn
        have e1 : a ^ k % n * a % n = a ^ (k + 1) % n := by rw [Nat.mod_mul_mod, ← Nat.pow_succ]
        rw [e1] at hr
        rw [hr, nI_l (Nat.lt_trans (Nat.mod_lt (a ^ (k + 1)) (show 0 < n by omega)) hn), nI_1]
        refine ih (k + 1) (by omega) (fun j hj => ?_)
        by_cases hjk : j = k
        · subst hjk; exact h
        · exact hi j (by omega)
  have := key n 0 (by omega) (fun j h => by omega)
  rwa [Nat.pow_zero, Nat.mod_eq_of_lt hn1] at this
def pre_X6_signByPrime (p0 p1 : Int32) : Prop := 0 ≤ p0.toInt ∧ 2 ≤ p1.toInt
set_option maxHeartbeats 4000000 in
set_option maxRecDepth 100000 in
theorem met_X6_signByPrime (l : Launch) (p0 : Int32) (p1 : Int32) (post : Int32 → Prop)
  (hV : ∀ r3 : Int32, post_X4_rest p0.toInt64 p1 r3 → ((r3 = 0 → post (0 : Int32)) ∧ (¬ r3 = 0 → pre_X4_raise p0.toInt64 (((p1 - (1 : Int32)) / (2 : Int32)).toInt64) p1 ∧ (∀ r20 : Int32, post_X4_raise p0.toInt64 (((p1 - (1 : Int32)) / (2 : Int32)).toInt64) p1 r20 → ((r20 = (1 : Int32) → post (1 : Int32)) ∧ (¬ r20 = (1 : Int32) → post (-1 : Int32))))))) :
  Met l yX6_signByPrime wsX6_signByPrime ({ frames := 1, cells := 0, slots := 0, locals := 31 } : Room) (va_Pc [.int p0, .int p1] (fun _ => True)) (Qpi post) 0 0 noF := by
  refine Met.ofW (cc := cX6_signByPrime) (maxL := 2) (ret := (some .int)) (by decide) rfl ?_
  intro p e s m args below meth c s₁ B hml hv
  obtain ⟨rfl, -⟩ := hv
  have hx := B.exec
  have hb := B.bytes
  have hr := B.returns
  have hts := atoms_spec (ws := wsX6_signByPrime) B.pre
  have hown : s.vm.findClass RX6 = some m.cls := findClass_of_methodNamed B.named
  have hlocks := B.notSynchronized
  have hl := lv_entry ([.int p0, .int p1]) (n := 2) (Nat.le_of_ble_eq_true rfl)
  rw [lg_entry_eq]
  generalize (lg_sl ([.int p0, .int p1]) ++ List.replicate (2 - (lg_sl ([.int p0, .int p1])).length) Slot.unset).toArray = ls at hl ⊢
  have hl : lv_has ls 2 [(0, .int p0), (1, .int p1)] := hl
  refine lv_iload_n hx hb dX6_signByPrime_0 rfl (lv_at hl 0 rfl) ?_
  refine lv_i2l (v := p0.toInt64) hx hb dX6_signByPrime_1 rfl ?_
  refine lv_iload_n hx hb dX6_signByPrime_2 rfl (lv_at hl 1 rfl) ?_
  refine cp_i (va_runS (As := [.long p0.toInt64, .int p1]) (rest := []) ⟨hx, hb, hml, hown, hts⟩ (spec_X4_rest l p0.toInt64 p1) (va_cwS 2 hts gX6_signByPrime_X4_rest rfl rfl rfl (by decide +kernel) ⟨Nat.le_of_ble_eq_true rfl, Nat.le_of_ble_eq_true rfl⟩) cp_pre rfl rfl hl.1 rfl (lv_room (Nat.le_of_ble_eq_true rfl)) dX6_signByPrime_3 ⟨Nat.zero_le _, Nat.zero_le _⟩) (fun r3 q_3 => ?_)
  have hV := hV r3 q_3
  refine lv_if_ne (tgt := 11) hx hb dX6_signByPrime_6 (by decide) (fun c_6 => ?_) (fun c_6 => ?_)
  · have hV := hV.2 c_6
    refine lv_iload_n hx hb dX6_signByPrime_11 rfl (lv_at hl 0 rfl) ?_
    refine lv_i2l (v := p0.toInt64) hx hb dX6_signByPrime_12 rfl ?_
    refine lv_iload_n hx hb dX6_signByPrime_13 rfl (lv_at hl 1 rfl) ?_
    refine lv_iconst (v := (1 : Int32)) hx hb dX6_signByPrime_14 (by decide) ?_
    refine lv_isub hx hb dX6_signByPrime_15 ?_
    refine lv_iconst (v := (2 : Int32)) hx hb dX6_signByPrime_16 (by decide) ?_
    refine lv_idiv hx hb dX6_signByPrime_17 (by decide) ?_
    refine lv_i2l (v := ((p1 - (1 : Int32)) / (2 : Int32)).toInt64) hx hb dX6_signByPrime_18 rfl ?_
    refine lv_iload_n hx hb dX6_signByPrime_19 rfl (lv_at hl 1 rfl) ?_
    obtain ⟨h_20, hV⟩ := hV
    refine cp_i (va_runS (As := [.long p0.toInt64, .long (((p1 - (1 : Int32)) / (2 : Int32)).toInt64), .int p1]) (rest := []) ⟨hx, hb, hml, hown, hts⟩ (spec_X4_raise l p0.toInt64 (((p1 - (1 : Int32)) / (2 : Int32)).toInt64) p1 h_20) (va_cwS 3 hts gX6_signByPrime_X4_raise rfl rfl rfl (by decide +kernel) ⟨Nat.le_of_ble_eq_true rfl, Nat.le_of_ble_eq_true rfl⟩) cp_pre rfl rfl hl.1 rfl (lv_room (Nat.le_of_ble_eq_true rfl)) dX6_signByPrime_20 ⟨Nat.zero_le _, Nat.zero_le _⟩) (fun r20 q_20 => ?_)
    have hV := hV r20 q_20
    refine lv_iconst (v := (1 : Int32)) hx hb dX6_signByPrime_23 (by decide) ?_
    refine lv_icmp_ne (tgt := 31) hx hb dX6_signByPrime_24 (by decide) (fun c_24 => ?_) (fun c_24 => ?_)
    · have hV := hV.2 c_24
      refine lv_iconst (v := (-1 : Int32)) hx hb dX6_signByPrime_31 (by decide) ?_
      exact W.iret (v := (-1 : Int32)) hx hb hr (fun t ht hW => ⟨_, rfl, hV, ht⟩) (fun _ h => by cases h) dX6_signByPrime_32
    · have hV := hV.1 c_24
      refine lv_iconst (v := (1 : Int32)) hx hb dX6_signByPrime_27 (by decide) ?_
      refine lv_goto (tgt := 32) hx hb dX6_signByPrime_28 (by decide) ?_
      exact W.iret (v := (1 : Int32)) hx hb hr (fun t ht hW => ⟨_, rfl, hV, ht⟩) (fun _ h => by cases h) dX6_signByPrime_32
  · have hV := hV.1 c_6
    refine lv_iconst (v := (0 : Int32)) hx hb dX6_signByPrime_9 (by decide) ?_
    exact W.iret (v := (0 : Int32)) hx hb hr (fun t ht hW => ⟨_, rfl, hV, ht⟩) (fun _ h => by cases h) dX6_signByPrime_10
def Sg (a p : Nat) : Int32 := if a % p = 0 then 0 else if a ^ ((p - 1) / 2) % p = 1 then 1 else -1
def post_X6_signByPrime (p0 p1 r : Int32) : Prop := r = Sg (tn p0) (tn p1)
set_option maxRecDepth 4000 in
theorem spec_X6_signByPrime (l : Launch) (p0 : Int32) (p1 : Int32) (hpre : pre_X6_signByPrime p0 p1) : Met l yX6_signByPrime wsX6_signByPrime ({ frames := 1, cells := 0, slots := 0, locals := 31 } : Room) (va_Pc [.int p0, .int p1] (fun _ => True)) (Qpi (post_X6_signByPrime p0 p1)) 0 0 noF := by
  apply met_X6_signByPrime
  obtain ⟨h0, h1⟩ := hpre
  obtain ⟨a, ha, rfl, ha2⟩ := of_i h0
  obtain ⟨p, hp, rfl, hp2⟩ := of_i (x := p1) (by omega)
  have hp1 : 2 ≤ p := by omega
  have hl := Nat.mod_lt a (show 0 < p by omega)
  have e1 : nI p - (1 : Int32) = nI (p - 1) := pk_sub (b := 1) (by omega)
  have e2 : nI (p - 1) / (2 : Int32) = nI ((p - 1) / 2) := pk_div (d := 2) (by omega) (by decide) (by decide)
  unfold post_X6_signByPrime Sg
  rw [tn_nI ha, tn_nI hp, e1, e2, nI_l ha, nI_l (by omega)]
  intro r3 hr3
  have hr3 := rest_eq hr3 (by omega) (by omega) hp
  subst hr3
  refine pk_eq (a % p) 0 (fun h => (if_pos h).symm) (fun h => ?_)
  rw [if_neg h]
  refine ⟨⟨by rw [pk_lT (by omega)]; omega, by rw [pk_lT (by omega)]; omega, by rw [pk_lT (by omega)]; omega, by omega⟩, fun r hr => ?_⟩
  unfold post_X4_raise at hr
  rw [tl_lN (by omega), tl_lN (by omega), tn_nI hp] at hr
  have hl2 := Nat.mod_lt (a ^ ((p - 1) / 2)) (show 0 < p by omega)
  exact pk_eq (a ^ ((p - 1) / 2) % p) 1 (fun h => (if_pos h).symm) (fun h => (if_neg h).symm) hr
def pre_X6_looksStronglyUpTo (p0 p1 : Int32) : Prop := 3 ≤ p0.toInt ∧ 0 ≤ p1.toInt ∧ p1.toInt ≤ 1000
set_option maxHeartbeats 4000000 in
set_option maxRecDepth 100000 in
theorem met_X6_looksStronglyUpTo (l : Launch) (p0 : Int32) (p1 : Int32) (post : Int32 → Prop)
  (hV : ∀ (J2 : Int32 → Prop),
    (∀ (x2 : Int32), ((p1 < x2 → post (1 : Int32)) ∧ (¬ p1 < x2 → pre_X4_looksStrongly p0 x2 ∧ (∀ r9 : Int32, post_X4_looksStrongly p0 x2 r9 → ((r9 = 0 → post (0 : Int32)) ∧ (¬ r9 = 0 → J2 (x2 + 1)))))) → J2 x2) →
    J2 (3 : Int32)) :
  Met l yX6_looksStronglyUpTo wsX6_looksStronglyUpTo ({ frames := 3, cells := 0, slots := 0, locals := 67 } : Room) (va_Pc [.int p0, .int p1] (fun _ => True)) (Qpi post) 0 0 noF := by
  refine Met.ofW (cc := cX6_looksStronglyUpTo) (maxL := 3) (ret := (some .boolean)) (by decide) rfl ?_
  intro p e s m args below meth c s₁ B hml hv
  obtain ⟨rfl, -⟩ := hv
  have hx := B.exec
  have hb := B.bytes
  have hr := B.returns
  have hts := atoms_spec (ws := wsX6_looksStronglyUpTo) B.pre
  have hown : s.vm.findClass RX6 = some m.cls := findClass_of_methodNamed B.named
  have hlocks := B.notSynchronized
  obtain ⟨J2, iJ2, oJ2⟩ : ∃ J : Int32 → Prop, (∀ (x2 : Int32), (∀ ls : Array Slot, lv_has ls 3 [(0, .int p0), (1, .int p1), (2, .int x2)] → W p l e (headSpec wsX6_looksStronglyUpTo ({ frames := 3, cells := 0, slots := 0, locals := 67 } : Room)).room s m [.int p0, .int p1].toArray below meth c s.heap [] 0 0 (MQ below (Qpi post) [.int p0, .int p1].toArray s 0 0 noF) (F0 m 2 ls [])) → J x2) ∧ (∀ (x2 : Int32), J x2 → (∀ ls : Array Slot, lv_has ls 3 [(0, .int p0), (1, .int p1), (2, .int x2)] → W p l e (headSpec wsX6_looksStronglyUpTo ({ frames := 3, cells := 0, slots := 0, locals := 67 } : Room)).room s m [.int p0, .int p1].toArray below meth c s.heap [] 0 0 (MQ below (Qpi post) [.int p0, .int p1].toArray s 0 0 noF) (F0 m 2 ls []))) := ⟨fun (x2 : Int32) => (∀ ls : Array Slot, lv_has ls 3 [(0, .int p0), (1, .int p1), (2, .int x2)] → W p l e (headSpec wsX6_looksStronglyUpTo ({ frames := 3, cells := 0, slots := 0, locals := 67 } : Room)).room s m [.int p0, .int p1].toArray below meth c s.heap [] 0 0 (MQ below (Qpi post) [.int p0, .int p1].toArray s 0 0 noF) (F0 m 2 ls [])), fun _ h => h, fun _ h => h⟩
  have hV := hV J2
  replace hV := hV (by
    intro x2 hV
    refine iJ2 x2 ?_
    intro ls hl
    refine lv_iload_n hx hb dX6_looksStronglyUpTo_2 rfl (lv_at hl 2 rfl) ?_
    refine lv_iload_n hx hb dX6_looksStronglyUpTo_3 rfl (lv_at hl 1 rfl) ?_
    refine lv_icmp_gt (tgt := 23) hx hb dX6_looksStronglyUpTo_4 (by decide) (fun c_4 => ?_) (fun c_4 => ?_)
    · have hV := hV.1 c_4
      refine lv_iconst (v := (1 : Int32)) hx hb dX6_looksStronglyUpTo_23 (by decide) ?_
      exact W.zret (v := (1 : Int32)) hx hb hr rfl (fun t ht hW => ⟨_, rfl, hV, ht⟩) (fun _ h => by cases h) dX6_looksStronglyUpTo_24
    · have hV := hV.2 c_4
      refine lv_iload_n hx hb dX6_looksStronglyUpTo_7 rfl (lv_at hl 0 rfl) ?_
      refine lv_iload_n hx hb dX6_looksStronglyUpTo_8 rfl (lv_at hl 2 rfl) ?_
      obtain ⟨h_9, hV⟩ := hV
      refine cp_i (va_runS (As := [.int p0, .int x2]) (rest := []) ⟨hx, hb, hml, hown, hts⟩ (spec_X4_looksStrongly l p0 x2 h_9) (va_cwS 2 hts gX6_looksStronglyUpTo_X4_looksStrongly rfl rfl rfl (by decide +kernel) ⟨Nat.le_of_ble_eq_true rfl, Nat.le_of_ble_eq_true rfl⟩) cp_pre rfl rfl hl.1 rfl (lv_room (Nat.le_of_ble_eq_true rfl)) dX6_looksStronglyUpTo_9 ⟨Nat.zero_le _, Nat.zero_le _⟩) (fun r9 q_9 => ?_)
      have hV := hV r9 q_9
      refine lv_if_ne (tgt := 17) hx hb dX6_looksStronglyUpTo_12 (by decide) (fun c_12 => ?_) (fun c_12 => ?_)
      · have hV := hV.2 c_12
        refine lv_iinc (v := x2 + 1) (lv' := [(2, .int (x2 + 1)), (0, .int p0), (1, .int p1)]) hx hb dX6_looksStronglyUpTo_17 hl (k := 2) rfl rfl (by decide) rfl (fun ls hl => ?_)
        refine lv_goto (tgt := 2) hx hb dX6_looksStronglyUpTo_20 (by decide) ?_
        exact oJ2 _ hV _ (lv_sub hl [1, 2, 0] rfl)
      · have hV := hV.1 c_12
        refine lv_iconst (v := (0 : Int32)) hx hb dX6_looksStronglyUpTo_15 (by decide) ?_
        exact W.zret (v := (0 : Int32)) hx hb hr rfl (fun t ht hW => ⟨_, rfl, hV, ht⟩) (fun _ h => by cases h) dX6_looksStronglyUpTo_16)
  have hl := lv_entry ([.int p0, .int p1]) (n := 3) (Nat.le_of_ble_eq_true rfl)
  rw [lg_entry_eq]
  generalize (lg_sl ([.int p0, .int p1]) ++ List.replicate (3 - (lg_sl ([.int p0, .int p1])).length) Slot.unset).toArray = ls at hl ⊢
  have hl : lv_has ls 3 [(0, .int p0), (1, .int p1)] := hl
  refine lv_iconst (v := (3 : Int32)) hx hb dX6_looksStronglyUpTo_0 (by decide) ?_
  refine lv_istore_n (lv' := [(2, .int (3 : Int32)), (0, .int p0), (1, .int p1)]) hx hb dX6_looksStronglyUpTo_1 rfl hl (by decide) rfl (fun ls hl => ?_)
  exact oJ2 _ hV _ (lv_sub hl [1, 2, 0] rfl)
def post_X6_looksStronglyUpTo (p0 p1 r : Int32) : Prop := r = zb (∀ a, 3 ≤ a → a ≤ tn p1 → Strong (tn p0) a)
set_option maxRecDepth 4000 in
theorem spec_X6_looksStronglyUpTo (l : Launch) (p0 : Int32) (p1 : Int32) (hpre : pre_X6_looksStronglyUpTo p0 p1) : Met l yX6_looksStronglyUpTo wsX6_looksStronglyUpTo ({ frames := 3, cells := 0, slots := 0, locals := 67 } : Room) (va_Pc [.int p0, .int p1] (fun _ => True)) (Qpi (post_X6_looksStronglyUpTo p0 p1)) 0 0 noF := by
  apply met_X6_looksStronglyUpTo
  intro J hJ
  obtain ⟨h0, h1, h2⟩ := hpre
  obtain ⟨n, hn, rfl, hn2⟩ := of_i (x := p0) (by omega)
  obtain ⟨m, hm, rfl, hm2⟩ := of_i h1
  have hm3 : m ≤ 1000 := by omega
  have key : ∀ d k : Nat, k + d = 1001 → 3 ≤ k → (∀ a, 3 ≤ a → a < k → Strong n a) → J (nI k) := by
    intro d
    induction d with
    | zero =>
      intro k hk _ hi
      refine hJ _ (pk_lt m k (fun _ => (zb_t ?_).symm) (fun h => absurd h (by omega)))
      rw [tn_nI hn, tn_nI hm]
      exact fun a h3 h4 => hi a h3 (by omega)
    | succ d ih =>
      intro k hk hk3 hi
      refine hJ _ (pk_lt m k (fun h => (zb_t ?_).symm) (fun h => ⟨⟨h0, by rw [nI_toInt (by omega)]; omega⟩, fun r hr => ?_⟩))
      · rw [tn_nI hn, tn_nI hm]
        exact fun a h3 h4 => hi a h3 (by omega)
      · unfold post_X4_looksStrongly at hr
        rw [tn_nI hn, tn_nI (by omega)] at hr
        subst hr
        refine ⟨fun h5 => (zb_f ?_).symm, fun h5 => ?_⟩
        · rw [tn_nI hn, tn_nI hm]
          exact fun hall => zb_0 h5 (hall k hk3 h)
        · rw [nI_1]
          refine ih (k + 1) (by omega) (by omega) (fun a h6 h7 => ?_)
          by_cases hak : a = k
          · subst hak; exact zb_1 h5
          · exact hi a h6 (by omega)
  exact key 998 3 rfl (by omega) (fun a h3 h4 => by omega)
/-- n without what it shares with b, step by step -/
def pb (b n : Nat) : Nat → Nat
  | 0 => n
  | k + 1 => pb b n k / Nat.gcd (pb b n k) b
def Beside (b n t : Nat) : Prop := Nat.gcd (pb b n t) b = 1 ∧ ∀ j, j < t → ¬ Nat.gcd (pb b n j) b = 1
theorem pb_pos {b n : Nat} (hn : 1 ≤ n) : ∀ k, 1 ≤ pb b n k
  | 0 => hn
  | k + 1 => by
    have h := pb_pos (b := b) hn k
    exact Nat.div_pos (Nat.gcd_le_left b h) (Nat.gcd_pos_of_pos_left b h)
theorem pb_small {b n : Nat} (hb : 2 ≤ b) (hn : 1 ≤ n) : ∀ k, (∀ j, j < k → ¬ Nat.gcd (pb b n j) b = 1) → pb b n k * 2 ^ k ≤ n
  | 0, _ => by rw [Nat.pow_zero, Nat.mul_one]; exact Nat.le_refl n
  | k + 1, h => by
    have ih := pb_small hb hn k (fun j hj => h j (by omega))
    have hp := pb_pos (b := b) hn k
    have hg := Nat.gcd_pos_of_pos_left b hp
    have hg2 : 2 ≤ Nat.gcd (pb b n k) b := by have := h k (by omega); omega
    show pb b n k / Nat.gcd (pb b n k) b * 2 ^ (k + 1) ≤ n
    have h1 : pb b n k / Nat.gcd (pb b n k) b * 2 ≤ pb b n k := Nat.le_trans (Nat.mul_le_mul_left _ hg2) (Nat.div_mul_le_self _ _)
    rw [Nat.pow_succ, Nat.mul_comm (2 ^ k) 2, ← Nat.mul_assoc]
    exact Nat.le_trans (Nat.mul_le_mul_right _ h1) ih
theorem beside_one {b n t t' : Nat} (h : Beside b n t) (h' : Beside b n t') : t = t' := by
  rcases Nat.lt_trichotomy t t' with q | q | q
  · exact absurd h.1 (h'.2 t q)
  · exact q
  · exact absurd h'.1 (h.2 t' q)
theorem pb_le {b n : Nat} : ∀ k, pb b n k ≤ n
  | 0 => Nat.le_refl n
  | k + 1 => Nat.le_trans (Nat.div_le_self _ _) (pb_le k)
def pre_X6_partBeside (p0 p1 : Int32) : Prop := 2 ≤ p0.toInt ∧ 1 ≤ p1.toInt ∧ p1.toInt ≤ 60000
set_option maxHeartbeats 4000000 in
set_option maxRecDepth 100000 in
theorem met_X6_partBeside (l : Launch) (p0 : Int32) (p1 : Int32) (post : Int32 → Prop)
  (hV : ∀ (J4 : Int32 → Int32 → Prop),
    (∀ (x2 : Int32) (x3 : Int32), (((32 : Int32) ≤ x3 → post x2) ∧ (¬ (32 : Int32) ≤ x3 → pre_X4_commonDivisor x2 p0 ∧ (∀ r12 : Int32, post_X4_commonDivisor x2 p0 r12 → (((2 : Int32) ≤ r12 → ¬ r12 = 0 ∧ (J4 (x2 / r12) (x3 + 1))) ∧ (¬ (2 : Int32) ≤ r12 → post x2))))) → J4 x2 x3) →
    J4 p1 (0 : Int32)) :
  Met l yX6_partBeside wsX6_partBeside ({ frames := 1, cells := 0, slots := 0, locals := 25 } : Room) (va_Pc [.int p0, .int p1] (fun _ => True)) (Qpi post) 0 0 noF := by
  refine Met.ofW (cc := cX6_partBeside) (maxL := 5) (ret := (some .int)) (by decide) rfl ?_
  intro p e s m args below meth c s₁ B hml hv
  obtain ⟨rfl, -⟩ := hv
  have hx := B.exec
  have hb := B.bytes
  have hr := B.returns
  have hts := atoms_spec (ws := wsX6_partBeside) B.pre
  have hown : s.vm.findClass RX6 = some m.cls := findClass_of_methodNamed B.named
  have hlocks := B.notSynchronized
  obtain ⟨J4, iJ4, oJ4⟩ : ∃ J : Int32 → Int32 → Prop, (∀ (x2 : Int32) (x3 : Int32), (∀ ls : Array Slot, lv_has ls 5 [(0, .int p0), (2, .int x2), (3, .int x3)] → W p l e (headSpec wsX6_partBeside ({ frames := 1, cells := 0, slots := 0, locals := 25 } : Room)).room s m [.int p0, .int p1].toArray below meth c s.heap [] 0 0 (MQ below (Qpi post) [.int p0, .int p1].toArray s 0 0 noF) (F0 m 4 ls [])) → J x2 x3) ∧ (∀ (x2 : Int32) (x3 : Int32), J x2 x3 → (∀ ls : Array Slot, lv_has ls 5 [(0, .int p0), (2, .int x2), (3, .int x3)] → W p l e (headSpec wsX6_partBeside ({ frames := 1, cells := 0, slots := 0, locals := 25 } : Room)).room s m [.int p0, .int p1].toArray below meth c s.heap [] 0 0 (MQ below (Qpi post) [.int p0, .int p1].toArray s 0 0 noF) (F0 m 4 ls []))) := ⟨fun (x2 : Int32) (x3 : Int32) => (∀ ls : Array Slot, lv_has ls 5 [(0, .int p0), (2, .int x2), (3, .int x3)] → W p l e (headSpec wsX6_partBeside ({ frames := 1, cells := 0, slots := 0, locals := 25 } : Room)).room s m [.int p0, .int p1].toArray below meth c s.heap [] 0 0 (MQ below (Qpi post) [.int p0, .int p1].toArray s 0 0 noF) (F0 m 4 ls [])), fun _ _ h => h, fun _ _ h => h⟩
  have hV := hV J4
  replace hV := hV (by
    intro x2 x3 hV
    refine iJ4 x2 x3 ?_
    intro ls hl
    refine lv_iload_n hx hb dX6_partBeside_4 rfl (lv_at hl 2 rfl) ?_
    refine lv_bipush (v := (32 : Int32)) hx hb dX6_partBeside_5 (by decide) ?_
    refine lv_icmp_ge (tgt := 36) hx hb dX6_partBeside_7 (by decide) (fun c_7 => ?_) (fun c_7 => ?_)
    · have hV := hV.1 c_7
      refine lv_iload_n hx hb dX6_partBeside_36 rfl (lv_at hl 1 rfl) ?_
      exact W.iret (v := x2) hx hb hr (fun t ht hW => ⟨_, rfl, hV, ht⟩) (fun _ h => by cases h) dX6_partBeside_37
    · have hV := hV.2 c_7
      refine lv_iload_n hx hb dX6_partBeside_10 rfl (lv_at hl 1 rfl) ?_
      refine lv_iload_n hx hb dX6_partBeside_11 rfl (lv_at hl 0 rfl) ?_
      obtain ⟨h_12, hV⟩ := hV
      refine cp_i (va_runS (As := [.int x2, .int p0]) (rest := []) ⟨hx, hb, hml, hown, hts⟩ (spec_X4_commonDivisor l x2 p0 h_12) (va_cwS 2 hts gX6_partBeside_X4_commonDivisor rfl rfl rfl (by decide +kernel) ⟨Nat.le_of_ble_eq_true rfl, Nat.le_of_ble_eq_true rfl⟩) cp_pre rfl rfl hl.1 rfl (lv_room (Nat.le_of_ble_eq_true rfl)) dX6_partBeside_12 ⟨Nat.zero_le _, Nat.zero_le _⟩) (fun r12 q_12 => ?_)
      have hV := hV r12 q_12
      refine lv_istore (lv' := [(4, .int r12), (0, .int p0), (2, .int x2), (3, .int x3)]) hx hb dX6_partBeside_15 hl (by decide) rfl (fun ls hl => ?_)
      refine lv_iload hx hb dX6_partBeside_17 (lv_at hl 0 rfl) ?_
      refine lv_iconst (v := (2 : Int32)) hx hb dX6_partBeside_19 (by decide) ?_
      refine lv_icmp_ge (tgt := 25) hx hb dX6_partBeside_20 (by decide) (fun c_20 => ?_) (fun c_20 => ?_)
      · have hV := hV.1 c_20
        refine lv_iload_n hx hb dX6_partBeside_25 rfl (lv_at hl 2 rfl) ?_
        refine lv_iload hx hb dX6_partBeside_26 (lv_at hl 0 rfl) ?_
        obtain ⟨h_28, hV⟩ := hV
        refine lv_idiv hx hb dX6_partBeside_28 h_28 ?_
        refine lv_istore_n (lv' := [(2, .int (x2 / r12)), (4, .int r12), (0, .int p0), (3, .int x3)]) hx hb dX6_partBeside_29 rfl hl (by decide) rfl (fun ls hl => ?_)
        refine lv_iinc (v := x3 + 1) (lv' := [(3, .int (x3 + 1)), (2, .int (x2 / r12)), (4, .int r12), (0, .int p0)]) hx hb dX6_partBeside_30 hl (k := 3) rfl rfl (by decide) rfl (fun ls hl => ?_)
        refine lv_goto (tgt := 4) hx hb dX6_partBeside_33 (by decide) ?_
        exact oJ4 _ _ hV _ (lv_sub hl [3, 1, 0] rfl)
      · have hV := hV.2 c_20
        refine lv_iload_n hx hb dX6_partBeside_23 rfl (lv_at hl 2 rfl) ?_
        exact W.iret (v := x2) hx hb hr (fun t ht hW => ⟨_, rfl, hV, ht⟩) (fun _ h => by cases h) dX6_partBeside_24)
  have hl := lv_entry ([.int p0, .int p1]) (n := 5) (Nat.le_of_ble_eq_true rfl)
  rw [lg_entry_eq]
  generalize (lg_sl ([.int p0, .int p1]) ++ List.replicate (5 - (lg_sl ([.int p0, .int p1])).length) Slot.unset).toArray = ls at hl ⊢
  have hl : lv_has ls 5 [(0, .int p0), (1, .int p1)] := hl
  refine lv_iload_n hx hb dX6_partBeside_0 rfl (lv_at hl 1 rfl) ?_
  refine lv_istore_n (lv' := [(2, .int p1), (0, .int p0), (1, .int p1)]) hx hb dX6_partBeside_1 rfl hl (by decide) rfl (fun ls hl => ?_)
  refine lv_iconst (v := (0 : Int32)) hx hb dX6_partBeside_2 (by decide) ?_
  refine lv_istore_n (lv' := [(3, .int (0 : Int32)), (2, .int p1), (0, .int p0), (1, .int p1)]) hx hb dX6_partBeside_3 rfl hl (by decide) rfl (fun ls hl => ?_)
  exact oJ4 _ _ hV _ (lv_sub hl [2, 1, 0] rfl)
def post_X6_partBeside (p0 p1 r : Int32) : Prop := ∃ t, t < 16 ∧ Beside (tn p0) (tn p1) t ∧ r = nI (pb (tn p0) (tn p1) t)
set_option maxRecDepth 4000 in
theorem spec_X6_partBeside (l : Launch) (p0 : Int32) (p1 : Int32) (hpre : pre_X6_partBeside p0 p1) : Met l yX6_partBeside wsX6_partBeside ({ frames := 1, cells := 0, slots := 0, locals := 25 } : Room) (va_Pc [.int p0, .int p1] (fun _ => True)) (Qpi (post_X6_partBeside p0 p1)) 0 0 noF := by
  apply met_X6_partBeside
  intro J hJ
  obtain ⟨h0, h1, h2⟩ := hpre
  obtain ⟨b, hb, rfl, hb2⟩ := of_i (x := p0) (by omega)
  obtain ⟨n, hn, rfl, hn2⟩ := of_i (x := p1) (by omega)
  have key : ∀ d k : Nat, k + d = 16 → (∀ j, j < k → ¬ Nat.gcd (pb b n j) b = 1) → J (nI (pb b n k)) (nI k) := by
    intro d
    have ext : ∀ k, (∀ j, j < k → ¬ Nat.gcd (pb b n j) b = 1) → k < 16 := fun k hi => by
      apply Classical.byContradiction
      intro hc
      have h3 := pb_small (b := b) (n := n) (by omega) (by omega) 16 (fun j hj => hi j (by omega))
      have h4 := pb_pos (b := b) (n := n) (by omega) 16
      omega
    induction d with
    | zero =>
      intro k hk hi
      have := ext k hi
      omega
    | succ d ih =>
      intro k hk hi
      have hp := pb_pos (b := b) (n := n) (by omega) k
      have hle := pb_le (b := b) (n := n) k
      have hg := Nat.gcd_le_left b (show 0 < pb b n k by omega)
      have hg0 := Nat.gcd_pos_of_pos_left b (show 0 < pb b n k by omega)
      have hk16 := ext k hi
      refine hJ _ _ (pk_le 32 k (fun h => absurd h (by omega)) (fun _ => ⟨⟨by rw [nI_toInt (by omega)]; omega, by omega⟩, fun r hr => ?_⟩))
      unfold post_X4_commonDivisor at hr
      rw [tn_nI (by omega), tn_nI hb] at hr
      subst hr
      refine pk_le 2 (Nat.gcd (pb b n k) b) (fun h => ⟨nI_nz (by omega) (by omega), ?_⟩) (fun h => ⟨k, hk16, ?_, ?_⟩)
      · rw [pk_div (by omega) (by omega) (by omega), nI_1]
        refine ih (k + 1) (by omega) (fun j hj => ?_)
        by_cases hjk : j = k
        · subst hjk; omega
        · exact hi j (by omega)
      · rw [tn_nI hb, tn_nI hn]
        exact ⟨by omega, hi⟩
      · rw [tn_nI hb, tn_nI hn]
  exact key 16 0 rfl (fun j h => by omega)
def pre_X7_aheadOf (p0 p1 : Int32) : Prop := 2 ≤ p0.toInt ∧ 1 ≤ p1.toInt ∧ p1.toInt ≤ 60000
set_option maxHeartbeats 4000000 in
set_option maxRecDepth 100000 in
theorem met_X7_aheadOf (l : Launch) (p0 : Int32) (p1 : Int32) (post : Int32 → Prop)
  (hV : ∀ (J4 : Int32 → Int32 → Prop),
    (∀ (x2 : Int32) (x3 : Int32), pre_X7_common x2 p0 ∧ (∀ r6 : Int32, post_X7_common x2 p0 r6 → ((r6 ≤ (1 : Int32) → post x3) ∧ (¬ r6 ≤ (1 : Int32) → pre_X7_common x2 p0 ∧ (∀ r16 : Int32, post_X7_common x2 p0 r16 → ¬ r16 = 0 ∧ (J4 (x2 / r16) (x3 + 1)))))) → J4 x2 x3) →
    J4 p1 (0 : Int32)) :
  Met l yX7_aheadOf wsX7_aheadOf ({ frames := 1, cells := 0, slots := 0, locals := 24 } : Room) (va_Pc [.int p0, .int p1] (fun _ => True)) (Qpi post) 0 0 noF := by
  refine Met.ofW (cc := cX7_aheadOf) (maxL := 4) (ret := (some .int)) (by decide) rfl ?_
  intro p e s m args below meth c s₁ B hml hv
  obtain ⟨rfl, -⟩ := hv
  have hx := B.exec
  have hb := B.bytes
  have hr := B.returns
  have hts := atoms_spec (ws := wsX7_aheadOf) B.pre
  have hown : s.vm.findClass RX7 = some m.cls := findClass_of_methodNamed B.named
  have hlocks := B.notSynchronized
  obtain ⟨J4, iJ4, oJ4⟩ : ∃ J : Int32 → Int32 → Prop, (∀ (x2 : Int32) (x3 : Int32), (∀ ls : Array Slot, lv_has ls 4 [(0, .int p0), (2, .int x2), (3, .int x3)] → W p l e (headSpec wsX7_aheadOf ({ frames := 1, cells := 0, slots := 0, locals := 24 } : Room)).room s m [.int p0, .int p1].toArray below meth c s.heap [] 0 0 (MQ below (Qpi post) [.int p0, .int p1].toArray s 0 0 noF) (F0 m 4 ls [])) → J x2 x3) ∧ (∀ (x2 : Int32) (x3 : Int32), J x2 x3 → (∀ ls : Array Slot, lv_has ls 4 [(0, .int p0), (2, .int x2), (3, .int x3)] → W p l e (headSpec wsX7_aheadOf ({ frames := 1, cells := 0, slots := 0, locals := 24 } : Room)).room s m [.int p0, .int p1].toArray below meth c s.heap [] 0 0 (MQ below (Qpi post) [.int p0, .int p1].toArray s 0 0 noF) (F0 m 4 ls []))) := ⟨fun (x2 : Int32) (x3 : Int32) => (∀ ls : Array Slot, lv_has ls 4 [(0, .int p0), (2, .int x2), (3, .int x3)] → W p l e (headSpec wsX7_aheadOf ({ frames := 1, cells := 0, slots := 0, locals := 24 } : Room)).room s m [.int p0, .int p1].toArray below meth c s.heap [] 0 0 (MQ below (Qpi post) [.int p0, .int p1].toArray s 0 0 noF) (F0 m 4 ls [])), fun _ _ h => h, fun _ _ h => h⟩
  have hV := hV J4
  replace hV := hV (by
    intro x2 x3 hV
    refine iJ4 x2 x3 ?_
    intro ls hl
    refine lv_iload_n hx hb dX7_aheadOf_4 rfl (lv_at hl 1 rfl) ?_
    refine lv_iload_n hx hb dX7_aheadOf_5 rfl (lv_at hl 0 rfl) ?_
    obtain ⟨h_6, hV⟩ := hV
    refine cp_i (va_runS (As := [.int x2, .int p0]) (rest := []) ⟨hx, hb, hml, hown, hts⟩ (spec_X7_common l x2 p0 h_6) (va_cwS 2 hts gX7_aheadOf_X7_common rfl rfl rfl (by decide +kernel) ⟨Nat.le_of_ble_eq_true rfl, Nat.le_of_ble_eq_true rfl⟩) cp_pre rfl rfl hl.1 rfl (lv_room (Nat.le_of_ble_eq_true rfl)) dX7_aheadOf_6 ⟨Nat.zero_le _, Nat.zero_le _⟩) (fun r6 q_6 => ?_)
    have hV := hV r6 q_6
    refine lv_iconst (v := (1 : Int32)) hx hb dX7_aheadOf_9 (by decide) ?_
    refine lv_icmp_le (tgt := 27) hx hb dX7_aheadOf_10 (by decide) (fun c_10 => ?_) (fun c_10 => ?_)
    · have hV := hV.1 c_10
      refine lv_iload_n hx hb dX7_aheadOf_27 rfl (lv_at hl 2 rfl) ?_
      exact W.iret (v := x3) hx hb hr (fun t ht hW => ⟨_, rfl, hV, ht⟩) (fun _ h => by cases h) dX7_aheadOf_28
    · have hV := hV.2 c_10
      refine lv_iload_n hx hb dX7_aheadOf_13 rfl (lv_at hl 1 rfl) ?_
      refine lv_iload_n hx hb dX7_aheadOf_14 rfl (lv_at hl 1 rfl) ?_
      refine lv_iload_n hx hb dX7_aheadOf_15 rfl (lv_at hl 0 rfl) ?_
      obtain ⟨h_16, hV⟩ := hV
      refine cp_i (va_runS (As := [.int x2, .int p0]) (rest := [.int x2]) ⟨hx, hb, hml, hown, hts⟩ (spec_X7_common l x2 p0 h_16) (va_cwS 2 hts gX7_aheadOf_X7_common rfl rfl rfl (by decide +kernel) ⟨Nat.le_of_ble_eq_true rfl, Nat.le_of_ble_eq_true rfl⟩) cp_pre rfl rfl hl.1 rfl (lv_room (Nat.le_of_ble_eq_true rfl)) dX7_aheadOf_16 ⟨Nat.zero_le _, Nat.zero_le _⟩) (fun r16 q_16 => ?_)
      have hV := hV r16 q_16
      obtain ⟨h_19, hV⟩ := hV
      refine lv_idiv hx hb dX7_aheadOf_19 h_19 ?_
      refine lv_istore_n (lv' := [(2, .int (x2 / r16)), (0, .int p0), (3, .int x3)]) hx hb dX7_aheadOf_20 rfl hl (by decide) rfl (fun ls hl => ?_)
      refine lv_iinc (v := x3 + 1) (lv' := [(3, .int (x3 + 1)), (2, .int (x2 / r16)), (0, .int p0)]) hx hb dX7_aheadOf_21 hl (k := 2) rfl rfl (by decide) rfl (fun ls hl => ?_)
      refine lv_goto (tgt := 4) hx hb dX7_aheadOf_24 (by decide) ?_
      exact oJ4 _ _ hV _ (lv_sub hl [2, 1, 0] rfl))
  have hl := lv_entry ([.int p0, .int p1]) (n := 4) (Nat.le_of_ble_eq_true rfl)
  rw [lg_entry_eq]
  generalize (lg_sl ([.int p0, .int p1]) ++ List.replicate (4 - (lg_sl ([.int p0, .int p1])).length) Slot.unset).toArray = ls at hl ⊢
  have hl : lv_has ls 4 [(0, .int p0), (1, .int p1)] := hl
  refine lv_iload_n hx hb dX7_aheadOf_0 rfl (lv_at hl 1 rfl) ?_
  refine lv_istore_n (lv' := [(2, .int p1), (0, .int p0), (1, .int p1)]) hx hb dX7_aheadOf_1 rfl hl (by decide) rfl (fun ls hl => ?_)
  refine lv_iconst (v := (0 : Int32)) hx hb dX7_aheadOf_2 (by decide) ?_
  refine lv_istore_n (lv' := [(3, .int (0 : Int32)), (2, .int p1), (0, .int p0), (1, .int p1)]) hx hb dX7_aheadOf_3 rfl hl (by decide) rfl (fun ls hl => ?_)
  exact oJ4 _ _ hV _ (lv_sub hl [2, 1, 0] rfl)
def post_X7_aheadOf (p0 p1 r : Int32) : Prop := ∃ t, t < 16 ∧ Beside (tn p0) (tn p1) t ∧ r = nI t
theorem pb_ext {b n : Nat} (hb : 2 ≤ b) (h1 : 1 ≤ n) (h2 : n ≤ 60000) (k : Nat) (hi : ∀ j, j < k → ¬ Nat.gcd (pb b n j) b = 1) : k < 16 := by
  apply Classical.byContradiction
  intro hc
  have h3 := pb_small (b := b) (n := n) hb h1 16 (fun j hj => hi j (by omega))
  have h4 := pb_pos (b := b) h1 16
  omega
set_option maxRecDepth 4000 in
theorem spec_X7_aheadOf (l : Launch) (p0 : Int32) (p1 : Int32) (hpre : pre_X7_aheadOf p0 p1) : Met l yX7_aheadOf wsX7_aheadOf ({ frames := 1, cells := 0, slots := 0, locals := 24 } : Room) (va_Pc [.int p0, .int p1] (fun _ => True)) (Qpi (post_X7_aheadOf p0 p1)) 0 0 noF := by
  apply met_X7_aheadOf
  intro J hJ
  obtain ⟨h0, h1, h2⟩ := hpre
  obtain ⟨b, hb, rfl, hb2⟩ := of_i (x := p0) (by omega)
  obtain ⟨n, hn, rfl, hn2⟩ := of_i (x := p1) (by omega)
  have key : ∀ d k : Nat, k + d = 16 → (∀ j, j < k → ¬ Nat.gcd (pb b n j) b = 1) → J (nI (pb b n k)) (nI k) := by
    intro d
    induction d with
    | zero =>
      intro k hk hi
      have := pb_ext (b := b) (n := n) (by omega) (by omega) (by omega) k hi
      omega
    | succ d ih =>
      intro k hk hi
      have hp := pb_pos (b := b) (n := n) (by omega) k
      have hle := pb_le (b := b) (n := n) k
      have hg := Nat.gcd_le_left b (show 0 < pb b n k by omega)
      have hg0 := Nat.gcd_pos_of_pos_left b (show 0 < pb b n k by omega)
      have hk16 := pb_ext (b := b) (n := n) (by omega) (by omega) (by omega) k hi
      have pc : pre_X7_common (nI (pb b n k)) (nI b) := ⟨by rw [nI_toInt (by omega)]; omega, by omega⟩
      refine hJ _ _ ⟨pc, fun r hr => ?_⟩
      unfold post_X7_common at hr
      rw [tn_nI (by omega), tn_nI hb] at hr
      subst hr
      refine pk_le (Nat.gcd (pb b n k) b) 1 (fun h => ⟨k, hk16, ?_, rfl⟩) (fun h => ⟨pc, fun r hr => ?_⟩)
      · rw [tn_nI hb, tn_nI hn]
        exact ⟨by omega, hi⟩
      · unfold post_X7_common at hr
        rw [tn_nI (by omega), tn_nI hb] at hr
        subst hr
        refine ⟨nI_nz (by omega) (by omega), ?_⟩
        rw [pk_div (by omega) (by omega) (by omega), nI_1]
        refine ih (k + 1) (by omega) (fun j hj => ?_)
        by_cases hjk : j = k
        · subst hjk; omega
        · exact hi j (by omega)
  exact key 16 0 rfl (fun j h => by omega)
theorem ord_mod {n a e : Nat} : IsOrd n (a % n) e ↔ IsOrd n a e := by
  have h : ∀ k, (a % n) ^ k % n = a ^ k % n := fun k => (Nat.pow_mod a k n).symm
  unfold IsOrd
  simp only [h]
def pre_X7_roundOf (p0 p1 : Int32) : Prop := 2 ≤ p0.toInt ∧ 1 ≤ p1.toInt ∧ p1.toInt ≤ 60000
set_option maxHeartbeats 4000000 in
set_option maxRecDepth 100000 in
theorem met_X7_roundOf (l : Launch) (p0 : Int32) (p1 : Int32) (post : Int32 → Prop)
  (hV : ∀ (J2 : Int32 → Prop),
    (∀ (x2 : Int32), pre_X7_common x2 p0 ∧ (∀ r4 : Int32, post_X7_common x2 p0 r4 → ((r4 ≤ (1 : Int32) → ((x2 = (1 : Int32) → post (0 : Int32)) ∧ (¬ x2 = (1 : Int32) → ¬ x2 = 0 ∧ (pre_X7_orderOf x2 (p0 - p0 / x2 * x2) ∧ (∀ r35 : Int32, post_X7_orderOf x2 (p0 - p0 / x2 * x2) r35 → post r35))))) ∧ (¬ r4 ≤ (1 : Int32) → pre_X7_common x2 p0 ∧ (∀ r14 : Int32, post_X7_common x2 p0 r14 → ¬ r14 = 0 ∧ (J2 (x2 / r14)))))) → J2 x2) →
    J2 p1) :
  Met l yX7_roundOf wsX7_roundOf ({ frames := 1, cells := 0, slots := 0, locals := 24 } : Room) (va_Pc [.int p0, .int p1] (fun _ => True)) (Qpi post) 0 0 noF := by
  refine Met.ofW (cc := cX7_roundOf) (maxL := 3) (ret := (some .int)) (by decide) rfl ?_
  intro p e s m args below meth c s₁ B hml hv
  obtain ⟨rfl, -⟩ := hv
  have hx := B.exec
  have hb := B.bytes
  have hr := B.returns
  have hts := atoms_spec (ws := wsX7_roundOf) B.pre
  have hown : s.vm.findClass RX7 = some m.cls := findClass_of_methodNamed B.named
  have hlocks := B.notSynchronized
  obtain ⟨J2, iJ2, oJ2⟩ : ∃ J : Int32 → Prop, (∀ (x2 : Int32), (∀ ls : Array Slot, lv_has ls 3 [(0, .int p0), (2, .int x2)] → W p l e (headSpec wsX7_roundOf ({ frames := 1, cells := 0, slots := 0, locals := 24 } : Room)).room s m [.int p0, .int p1].toArray below meth c s.heap [] 0 0 (MQ below (Qpi post) [.int p0, .int p1].toArray s 0 0 noF) (F0 m 2 ls [])) → J x2) ∧ (∀ (x2 : Int32), J x2 → (∀ ls : Array Slot, lv_has ls 3 [(0, .int p0), (2, .int x2)] → W p l e (headSpec wsX7_roundOf ({ frames := 1, cells := 0, slots := 0, locals := 24 } : Room)).room s m [.int p0, .int p1].toArray below meth c s.heap [] 0 0 (MQ below (Qpi post) [.int p0, .int p1].toArray s 0 0 noF) (F0 m 2 ls []))) := ⟨fun (x2 : Int32) => (∀ ls : Array Slot, lv_has ls 3 [(0, .int p0), (2, .int x2)] → W p l e (headSpec wsX7_roundOf ({ frames := 1, cells := 0, slots := 0, locals := 24 } : Room)).room s m [.int p0, .int p1].toArray below meth c s.heap [] 0 0 (MQ below (Qpi post) [.int p0, .int p1].toArray s 0 0 noF) (F0 m 2 ls [])), fun _ h => h, fun _ h => h⟩
  have hV := hV J2
  replace hV := hV (by
    intro x2 hV
    refine iJ2 x2 ?_
    intro ls hl
    refine lv_iload_n hx hb dX7_roundOf_2 rfl (lv_at hl 1 rfl) ?_
    refine lv_iload_n hx hb dX7_roundOf_3 rfl (lv_at hl 0 rfl) ?_
    obtain ⟨h_4, hV⟩ := hV
    refine cp_i (va_runS (As := [.int x2, .int p0]) (rest := []) ⟨hx, hb, hml, hown, hts⟩ (spec_X7_common l x2 p0 h_4) (va_cwS 2 hts gX7_roundOf_X7_common rfl rfl rfl (by decide +kernel) ⟨Nat.le_of_ble_eq_true rfl, Nat.le_of_ble_eq_true rfl⟩) cp_pre rfl rfl hl.1 rfl (lv_room (Nat.le_of_ble_eq_true rfl)) dX7_roundOf_4 ⟨Nat.zero_le _, Nat.zero_le _⟩) (fun r4 q_4 => ?_)
    have hV := hV r4 q_4
    refine lv_iconst (v := (1 : Int32)) hx hb dX7_roundOf_7 (by decide) ?_
    refine lv_icmp_le (tgt := 22) hx hb dX7_roundOf_8 (by decide) (fun c_8 => ?_) (fun c_8 => ?_)
    · have hV := hV.1 c_8
      refine lv_iload_n hx hb dX7_roundOf_22 rfl (lv_at hl 1 rfl) ?_
      refine lv_iconst (v := (1 : Int32)) hx hb dX7_roundOf_23 (by decide) ?_
      refine lv_icmp_ne (tgt := 31) hx hb dX7_roundOf_24 (by decide) (fun c_24 => ?_) (fun c_24 => ?_)
      · have hV := hV.2 c_24
        refine lv_iload_n hx hb dX7_roundOf_31 rfl (lv_at hl 1 rfl) ?_
        refine lv_iload_n hx hb dX7_roundOf_32 rfl (lv_at hl 0 rfl) ?_
        refine lv_iload_n hx hb dX7_roundOf_33 rfl (lv_at hl 1 rfl) ?_
        obtain ⟨h_34, hV⟩ := hV
        refine lv_irem hx hb dX7_roundOf_34 h_34 ?_
        obtain ⟨h_35, hV⟩ := hV
        refine cp_i (va_runS (As := [.int x2, .int (p0 - p0 / x2 * x2)]) (rest := []) ⟨hx, hb, hml, hown, hts⟩ (spec_X7_orderOf l x2 (p0 - p0 / x2 * x2) h_35) (va_cwS 2 hts gX7_roundOf_X7_orderOf rfl rfl rfl (by decide +kernel) ⟨Nat.le_of_ble_eq_true rfl, Nat.le_of_ble_eq_true rfl⟩) cp_pre rfl rfl hl.1 rfl (lv_room (Nat.le_of_ble_eq_true rfl)) dX7_roundOf_35 ⟨Nat.zero_le _, Nat.zero_le _⟩) (fun r35 q_35 => ?_)
        have hV := hV r35 q_35
        exact W.iret (v := r35) hx hb hr (fun t ht hW => ⟨_, rfl, hV, ht⟩) (fun _ h => by cases h) dX7_roundOf_38
      · have hV := hV.1 c_24
        refine lv_iconst (v := (0 : Int32)) hx hb dX7_roundOf_27 (by decide) ?_
        refine lv_goto (tgt := 38) hx hb dX7_roundOf_28 (by decide) ?_
        exact W.iret (v := (0 : Int32)) hx hb hr (fun t ht hW => ⟨_, rfl, hV, ht⟩) (fun _ h => by cases h) dX7_roundOf_38
    · have hV := hV.2 c_8
      refine lv_iload_n hx hb dX7_roundOf_11 rfl (lv_at hl 1 rfl) ?_
      refine lv_iload_n hx hb dX7_roundOf_12 rfl (lv_at hl 1 rfl) ?_
      refine lv_iload_n hx hb dX7_roundOf_13 rfl (lv_at hl 0 rfl) ?_
      obtain ⟨h_14, hV⟩ := hV
      refine cp_i (va_runS (As := [.int x2, .int p0]) (rest := [.int x2]) ⟨hx, hb, hml, hown, hts⟩ (spec_X7_common l x2 p0 h_14) (va_cwS 2 hts gX7_roundOf_X7_common rfl rfl rfl (by decide +kernel) ⟨Nat.le_of_ble_eq_true rfl, Nat.le_of_ble_eq_true rfl⟩) cp_pre rfl rfl hl.1 rfl (lv_room (Nat.le_of_ble_eq_true rfl)) dX7_roundOf_14 ⟨Nat.zero_le _, Nat.zero_le _⟩) (fun r14 q_14 => ?_)
      have hV := hV r14 q_14
      obtain ⟨h_17, hV⟩ := hV
      refine lv_idiv hx hb dX7_roundOf_17 h_17 ?_
      refine lv_istore_n (lv' := [(2, .int (x2 / r14)), (0, .int p0)]) hx hb dX7_roundOf_18 rfl hl (by decide) rfl (fun ls hl => ?_)
      refine lv_goto (tgt := 2) hx hb dX7_roundOf_19 (by decide) ?_
      exact oJ2 _ hV _ (lv_sub hl [1, 0] rfl))
  have hl := lv_entry ([.int p0, .int p1]) (n := 3) (Nat.le_of_ble_eq_true rfl)
  rw [lg_entry_eq]
  generalize (lg_sl ([.int p0, .int p1]) ++ List.replicate (3 - (lg_sl ([.int p0, .int p1])).length) Slot.unset).toArray = ls at hl ⊢
  have hl : lv_has ls 3 [(0, .int p0), (1, .int p1)] := hl
  refine lv_iload_n hx hb dX7_roundOf_0 rfl (lv_at hl 1 rfl) ?_
  refine lv_istore_n (lv' := [(2, .int p1), (0, .int p0), (1, .int p1)]) hx hb dX7_roundOf_1 rfl hl (by decide) rfl (fun ls hl => ?_)
  exact oJ2 _ hV _ (lv_sub hl [1, 0] rfl)
/-- how many figures come round -/
def Round (b n : Nat) (r : Nat) : Prop := ∃ t, Beside b n t ∧ ((pb b n t = 1 ∧ r = 0) ∨ (¬ pb b n t = 1 ∧ IsOrd (pb b n t) b r ∧ r ≤ pb b n t))
def post_X7_roundOf (p0 p1 r : Int32) : Prop := ∃ e, Round (tn p0) (tn p1) e ∧ e ≤ tn p1 ∧ r = nI e
set_option maxRecDepth 4000 in
theorem spec_X7_roundOf (l : Launch) (p0 : Int32) (p1 : Int32) (hpre : pre_X7_roundOf p0 p1) : Met l yX7_roundOf wsX7_roundOf ({ frames := 1, cells := 0, slots := 0, locals := 24 } : Room) (va_Pc [.int p0, .int p1] (fun _ => True)) (Qpi (post_X7_roundOf p0 p1)) 0 0 noF := by
  apply met_X7_roundOf
  intro J hJ
  obtain ⟨h0, h1, h2⟩ := hpre
  obtain ⟨b, hb, rfl, hb2⟩ := of_i (x := p0) (by omega)
  obtain ⟨n, hn, rfl, hn2⟩ := of_i (x := p1) (by omega)
  have key : ∀ d k : Nat, k + d = 16 → (∀ j, j < k → ¬ Nat.gcd (pb b n j) b = 1) → J (nI (pb b n k)) := by
    intro d
    induction d with
    | zero =>
      intro k hk hi
      have := pb_ext (b := b) (n := n) (by omega) (by omega) (by omega) k hi
      omega
    | succ d ih =>
      intro k hk hi
      have hp := pb_pos (b := b) (n := n) (by omega) k
      have hle := pb_le (b := b) (n := n) k
      have hg := Nat.gcd_le_left b (show 0 < pb b n k by omega)
      have hg0 := Nat.gcd_pos_of_pos_left b (show 0 < pb b n k by omega)
      have pc : pre_X7_common (nI (pb b n k)) (nI b) := ⟨by rw [nI_toInt (by omega)]; omega, by omega⟩
      refine hJ _ ⟨pc, fun r hr => ?_⟩
      unfold post_X7_common at hr
      rw [tn_nI (by omega), tn_nI hb] at hr
      subst hr
      refine pk_le (Nat.gcd (pb b n k) b) 1 (fun h => ?_) (fun h => ⟨pc, fun r hr => ?_⟩)
      · have hbs : Beside b n k := ⟨by omega, hi⟩
        refine pk_eq (pb b n k) 1 (fun h1 => ⟨0, ?_, by omega, rfl⟩) (fun h1 => ⟨nI_nz (by omega) (by omega), ?_⟩)
        · rw [tn_nI hb, tn_nI hn]
          exact ⟨k, hbs, Or.inl ⟨h1, rfl⟩⟩
        · have hl := Nat.mod_lt b (show 0 < pb b n k by omega)
          rw [pk_rem hb (by omega) (by omega)]
          refine ⟨⟨by rw [nI_toInt (by omega)]; omega, by rw [nI_toInt (by omega)]; omega, by rw [nI_toInt (by omega), nI_toInt (by omega)]; omega, ?_⟩, fun r hr => ?_⟩
          · rw [tn_nI (by omega), tn_nI (by omega)]
            show Nat.gcd (pb b n k) (b % pb b n k) = 1
            rw [cop_mod]; omega
          · obtain ⟨e, h3, h4, rfl⟩ := hr
            rw [tn_nI (by omega), tn_nI (by omega)] at h3
            rw [tn_nI (by omega)] at h4
            refine ⟨e, ?_, by rw [tn_nI hn]; omega, rfl⟩
            rw [tn_nI hb, tn_nI hn]
            exact ⟨k, hbs, Or.inr ⟨h1, ord_mod.mp h3, h4⟩⟩
      · unfold post_X7_common at hr
        rw [tn_nI (by omega), tn_nI hb] at hr
        subst hr
        refine ⟨nI_nz (by omega) (by omega), ?_⟩
        rw [pk_div (by omega) (by omega) (by omega)]
        refine ih (k + 1) (by omega) (fun j hj => ?_)
        by_cases hjk : j = k
        · subst hjk; omega
        · exact hi j (by omega)
  exact key 16 0 rfl (fun j h => by omega)
def pre_X7_lift (p0 p1 : Int64) : Prop := 0 ≤ p0.toInt ∧ p0.toInt < 2 ^ 62 ∧ 1 ≤ p1.toInt ∧ p1.toInt < 2 ^ 62
set_option maxHeartbeats 4000000 in
set_option maxRecDepth 100000 in
theorem met_X7_lift (l : Launch) (p0 : Int64) (p1 : Int64) (post : Int64 → Prop)
  (hV : ((p1 ≤ p0 → ¬ p1 = 0 ∧ (post ((p0 - p0 / p1 * p1) + p1))) ∧ (¬ p1 ≤ p0 → post p0))) :
  Met l yX7_lift wsX7_lift ({ frames := 0, cells := 0, slots := 0, locals := 0 } : Room) (va_Pc [.long p0, .long p1] (fun _ => True)) (Qpl post) 0 0 noF := by
  refine Met.ofW (cc := cX7_lift) (maxL := 4) (ret := (some .long)) (by decide) rfl ?_
  intro p e s m args below meth c s₁ B hml hv
  obtain ⟨rfl, -⟩ := hv
  have hx := B.exec
  have hb := B.bytes
  have hr := B.returns
  have hts := atoms_spec (ws := wsX7_lift) B.pre
  have hown : s.vm.findClass RX7 = some m.cls := findClass_of_methodNamed B.named
  have hlocks := B.notSynchronized
  have hl := lv_entry ([.long p0, .long p1]) (n := 4) (Nat.le_of_ble_eq_true rfl)
  rw [lg_entry_eq]
  generalize (lg_sl ([.long p0, .long p1]) ++ List.replicate (4 - (lg_sl ([.long p0, .long p1])).length) Slot.unset).toArray = ls at hl ⊢
  have hl : lv_has ls 4 [(0, .long p0), (2, .long p1)] := hl
  refine lv_lload_n hx hb dX7_lift_0 rfl (lv_at hl 0 rfl) ?_
  refine lv_lload_n hx hb dX7_lift_1 rfl (lv_at hl 1 rfl) ?_
  refine lc_ge (tgt := 10) hx hb dX7_lift_2 dX7_lift_3 (by decide) (fun c_2 => ?_) (fun c_2 => ?_)
  · have hV := hV.1 c_2
    refine lv_lload_n hx hb dX7_lift_10 rfl (lv_at hl 0 rfl) ?_
    refine lv_lload_n hx hb dX7_lift_11 rfl (lv_at hl 1 rfl) ?_
    obtain ⟨h_12, hV⟩ := hV
    refine lv_lrem hx hb dX7_lift_12 h_12 ?_
    refine lv_lload_n hx hb dX7_lift_13 rfl (lv_at hl 1 rfl) ?_
    refine lv_ladd hx hb dX7_lift_14 ?_
    exact W.lret (v := (p0 - p0 / p1 * p1) + p1) hx hb hr (fun t ht hW => ⟨_, rfl, hV, ht⟩) (fun _ h => by cases h) dX7_lift_15
  · have hV := hV.2 c_2
    refine lv_lload_n hx hb dX7_lift_6 rfl (lv_at hl 0 rfl) ?_
    refine lv_goto (tgt := 15) hx hb dX7_lift_7 (by decide) ?_
    exact W.lret (v := p0) hx hb hr (fun t ht hW => ⟨_, rfl, hV, ht⟩) (fun _ h => by cases h) dX7_lift_15
def lift (v m : Nat) : Nat := if v < m then v else v % m + m
def post_X7_lift (p0 p1 r : Int64) : Prop := r = lN (lift (tl p0) (tl p1))
set_option maxRecDepth 4000 in
theorem spec_X7_lift (l : Launch) (p0 : Int64) (p1 : Int64) (hpre : pre_X7_lift p0 p1) : Met l yX7_lift wsX7_lift ({ frames := 0, cells := 0, slots := 0, locals := 0 } : Room) (va_Pc [.long p0, .long p1] (fun _ => True)) (Qpl (post_X7_lift p0 p1)) 0 0 noF := by
  apply met_X7_lift
  obtain ⟨h0, h1, h2, h3⟩ := hpre
  obtain ⟨v, hv, rfl, hv2⟩ := of_l h0
  obtain ⟨m, hm, rfl, hm2⟩ := of_l (x := p1) (by omega)
  unfold post_X7_lift lift
  rw [tl_lN hv, tl_lN hm, pk_lRem hv (by omega) hm, lN_add]
  exact ql_le m v (fun h => ⟨lN_nz (by omega) hm, by rw [if_neg (by omega)]⟩) (fun h => by rw [if_pos (by omega)])
set_option maxHeartbeats 4000000 in
set_option maxRecDepth 100000 in
theorem met_X6_isKeyPrime (l : Launch) (p0 : Int32) (post : Int32 → Prop)
  (hV : (((199 : Int32) < p0 → post (0 : Int32)) ∧ (¬ (199 : Int32) < p0 → pre_X4_isPrime p0 ∧ (∀ r8 : Int32, post_X4_isPrime p0 r8 → ((r8 = 0 → post (0 : Int32)) ∧ (¬ r8 = 0 → post (1 : Int32))))))) :
  Met l yX6_isKeyPrime wsX6_isKeyPrime ({ frames := 1, cells := 0, slots := 0, locals := 21 } : Room) (va_Pc [.int p0] (fun _ => True)) (Qpi post) 0 0 noF := by
  refine Met.ofW (cc := cX6_isKeyPrime) (maxL := 1) (ret := (some .boolean)) (by decide) rfl ?_
  intro p e s m args below meth c s₁ B hml hv
  obtain ⟨rfl, -⟩ := hv
  have hx := B.exec
  have hb := B.bytes
  have hr := B.returns
  have hts := atoms_spec (ws := wsX6_isKeyPrime) B.pre
  have hown : s.vm.findClass RX6 = some m.cls := findClass_of_methodNamed B.named
  have hlocks := B.notSynchronized
  have hl := lv_entry ([.int p0]) (n := 1) (Nat.le_of_ble_eq_true rfl)
  rw [lg_entry_eq]
  generalize (lg_sl ([.int p0]) ++ List.replicate (1 - (lg_sl ([.int p0])).length) Slot.unset).toArray = ls at hl ⊢
  have hl : lv_has ls 1 [(0, .int p0)] := hl
  refine lv_iload_n hx hb dX6_isKeyPrime_0 rfl (lv_at hl 0 rfl) ?_
  refine lv_sipush (v := (199 : Int32)) hx hb dX6_isKeyPrime_1 (by decide) ?_
  refine lv_icmp_gt (tgt := 18) hx hb dX6_isKeyPrime_4 (by decide) (fun c_4 => ?_) (fun c_4 => ?_)
  · have hV := hV.1 c_4
    refine lv_iconst (v := (0 : Int32)) hx hb dX6_isKeyPrime_18 (by decide) ?_
    exact W.zret (v := (0 : Int32)) hx hb hr rfl (fun t ht hW => ⟨_, rfl, hV, ht⟩) (fun _ h => by cases h) dX6_isKeyPrime_19
  · have hV := hV.2 c_4
    refine lv_iload_n hx hb dX6_isKeyPrime_7 rfl (lv_at hl 0 rfl) ?_
    obtain ⟨h_8, hV⟩ := hV
    refine cp_i (va_runS (As := [.int p0]) (rest := []) ⟨hx, hb, hml, hown, hts⟩ (spec_X4_isPrime l p0 h_8) (va_cwS 1 hts gX6_isKeyPrime_X4_isPrime rfl rfl rfl (by decide +kernel) ⟨Nat.le_of_ble_eq_true rfl, Nat.le_of_ble_eq_true rfl⟩) cp_pre rfl rfl hl.1 rfl (lv_room (Nat.le_of_ble_eq_true rfl)) dX6_isKeyPrime_8 ⟨Nat.zero_le _, Nat.zero_le _⟩) (fun r8 q_8 => ?_)
    have hV := hV r8 q_8
    refine lv_if_eq (tgt := 18) hx hb dX6_isKeyPrime_11 (by decide) (fun c_11 => ?_) (fun c_11 => ?_)
    · have hV := hV.1 c_11
      refine lv_iconst (v := (0 : Int32)) hx hb dX6_isKeyPrime_18 (by decide) ?_
      exact W.zret (v := (0 : Int32)) hx hb hr rfl (fun t ht hW => ⟨_, rfl, hV, ht⟩) (fun _ h => by cases h) dX6_isKeyPrime_19
    · have hV := hV.2 c_11
      refine lv_iconst (v := (1 : Int32)) hx hb dX6_isKeyPrime_14 (by decide) ?_
      refine lv_goto (tgt := 19) hx hb dX6_isKeyPrime_15 (by decide) ?_
      exact W.zret (v := (1 : Int32)) hx hb hr rfl (fun t ht hW => ⟨_, rfl, hV, ht⟩) (fun _ h => by cases h) dX6_isKeyPrime_19
def post_X6_isKeyPrime (p0 r : Int32) : Prop := r = zb (p0.toInt ≤ 199 ∧ Pr (tn p0))
set_option maxRecDepth 4000 in
theorem spec_X6_isKeyPrime (l : Launch) (p0 : Int32) : Met l yX6_isKeyPrime wsX6_isKeyPrime ({ frames := 1, cells := 0, slots := 0, locals := 21 } : Room) (va_Pc [.int p0] (fun _ => True)) (Qpi (post_X6_isKeyPrime p0)) 0 0 noF := by
  apply met_X6_isKeyPrime
  have e : (199 : Int32).toInt = 199 := rfl
  refine ⟨fun h => (zb_f (fun q => ?_)).symm, fun h => ?_⟩
  · rw [i_lt] at h; omega
  · rw [i_lt] at h
    refine ⟨show p0.toInt < 1000000 by omega, fun r hr => ?_⟩
    unfold post_X4_isPrime at hr
    subst hr
    exact ⟨fun h2 => (zb_f (fun q => zb_0 h2 q.2)).symm, fun h2 => (zb_t ⟨by omega, zb_1 h2⟩).symm⟩
/-- two unlike primes up to 199, and an exponent -/
def Keys (p q e : Int32) : Prop := (p.toInt ≤ 199 ∧ Pr (tn p)) ∧ (q.toInt ≤ 199 ∧ Pr (tn q)) ∧ ¬ p = q ∧ 1 ≤ e.toInt ∧ e.toInt ≤ 100000
set_option maxHeartbeats 4000000 in
set_option maxRecDepth 100000 in
theorem met_X6_areKeys (l : Launch) (p0 : Int32) (p1 : Int32) (p2 : Int32) (post : Int32 → Prop)
  (hV : ∀ r1 : Int32, post_X6_isKeyPrime p0 r1 → ((r1 = 0 → post (0 : Int32)) ∧ (¬ r1 = 0 → ∀ r8 : Int32, post_X6_isKeyPrime p1 r8 → ((r8 = 0 → post (0 : Int32)) ∧ (¬ r8 = 0 → ((p0 = p1 → post (0 : Int32)) ∧ (¬ p0 = p1 → ((p2 < (1 : Int32) → post (0 : Int32)) ∧ (¬ p2 < (1 : Int32) → (((100000 : Int32) < p2 → post (0 : Int32)) ∧ (¬ (100000 : Int32) < p2 → post (1 : Int32)))))))))))) :
  Met l yX6_areKeys wsX6_areKeys ({ frames := 2, cells := 0, slots := 0, locals := 41 } : Room) (va_Pc [.int p0, .int p1, .int p2] (fun _ => True)) (Qpi post) 0 0 noF := by
  refine Met.ofW (cc := cX6_areKeys) (maxL := 3) (ret := (some .boolean)) (by decide) rfl ?_
  intro p e s m args below meth c s₁ B hml hv
  obtain ⟨rfl, -⟩ := hv
  have hx := B.exec
  have hb := B.bytes
  have hr := B.returns
  have hts := atoms_spec (ws := wsX6_areKeys) B.pre
  have hown : s.vm.findClass RX6 = some m.cls := findClass_of_methodNamed B.named
  have hlocks := B.notSynchronized
  have hl := lv_entry ([.int p0, .int p1, .int p2]) (n := 3) (Nat.le_of_ble_eq_true rfl)
  rw [lg_entry_eq]
  generalize (lg_sl ([.int p0, .int p1, .int p2]) ++ List.replicate (3 - (lg_sl ([.int p0, .int p1, .int p2])).length) Slot.unset).toArray = ls at hl ⊢
  have hl : lv_has ls 3 [(0, .int p0), (1, .int p1), (2, .int p2)] := hl
  refine lv_iload_n hx hb dX6_areKeys_0 rfl (lv_at hl 0 rfl) ?_
  refine cp_i (va_runS (As := [.int p0]) (rest := []) ⟨hx, hb, hml, hown, hts⟩ (spec_X6_isKeyPrime l p0) (va_cwS 1 hts gX6_areKeys_X6_isKeyPrime rfl rfl rfl (by decide +kernel) ⟨Nat.le_of_ble_eq_true rfl, Nat.le_of_ble_eq_true rfl⟩) cp_pre rfl rfl hl.1 rfl (lv_room (Nat.le_of_ble_eq_true rfl)) dX6_areKeys_1 ⟨Nat.zero_le _, Nat.zero_le _⟩) (fun r1 q_1 => ?_)
  have hV := hV r1 q_1
  refine lv_if_eq (tgt := 35) hx hb dX6_areKeys_4 (by decide) (fun c_4 => ?_) (fun c_4 => ?_)
  · have hV := hV.1 c_4
    refine lv_iconst (v := (0 : Int32)) hx hb dX6_areKeys_35 (by decide) ?_
    exact W.zret (v := (0 : Int32)) hx hb hr rfl (fun t ht hW => ⟨_, rfl, hV, ht⟩) (fun _ h => by cases h) dX6_areKeys_36
  · have hV := hV.2 c_4
    refine lv_iload_n hx hb dX6_areKeys_7 rfl (lv_at hl 1 rfl) ?_
    refine cp_i (va_runS (As := [.int p1]) (rest := []) ⟨hx, hb, hml, hown, hts⟩ (spec_X6_isKeyPrime l p1) (va_cwS 1 hts gX6_areKeys_X6_isKeyPrime rfl rfl rfl (by decide +kernel) ⟨Nat.le_of_ble_eq_true rfl, Nat.le_of_ble_eq_true rfl⟩) cp_pre rfl rfl hl.1 rfl (lv_room (Nat.le_of_ble_eq_true rfl)) dX6_areKeys_8 ⟨Nat.zero_le _, Nat.zero_le _⟩) (fun r8 q_8 => ?_)
    have hV := hV r8 q_8
    refine lv_if_eq (tgt := 35) hx hb dX6_areKeys_11 (by decide) (fun c_11 => ?_) (fun c_11 => ?_)
    · have hV := hV.1 c_11
      refine lv_iconst (v := (0 : Int32)) hx hb dX6_areKeys_35 (by decide) ?_
      exact W.zret (v := (0 : Int32)) hx hb hr rfl (fun t ht hW => ⟨_, rfl, hV, ht⟩) (fun _ h => by cases h) dX6_areKeys_36
    · have hV := hV.2 c_11
      refine lv_iload_n hx hb dX6_areKeys_14 rfl (lv_at hl 0 rfl) ?_
      refine lv_iload_n hx hb dX6_areKeys_15 rfl (lv_at hl 1 rfl) ?_
      refine lv_icmp_eq (tgt := 35) hx hb dX6_areKeys_16 (by decide) (fun c_16 => ?_) (fun c_16 => ?_)
      · have hV := hV.1 c_16
        refine lv_iconst (v := (0 : Int32)) hx hb dX6_areKeys_35 (by decide) ?_
        exact W.zret (v := (0 : Int32)) hx hb hr rfl (fun t ht hW => ⟨_, rfl, hV, ht⟩) (fun _ h => by cases h) dX6_areKeys_36
      · have hV := hV.2 c_16
        refine lv_iload_n hx hb dX6_areKeys_19 rfl (lv_at hl 2 rfl) ?_
        refine lv_iconst (v := (1 : Int32)) hx hb dX6_areKeys_20 (by decide) ?_
        refine lv_icmp_lt (tgt := 35) hx hb dX6_areKeys_21 (by decide) (fun c_21 => ?_) (fun c_21 => ?_)
        · have hV := hV.1 c_21
          refine lv_iconst (v := (0 : Int32)) hx hb dX6_areKeys_35 (by decide) ?_
          exact W.zret (v := (0 : Int32)) hx hb hr rfl (fun t ht hW => ⟨_, rfl, hV, ht⟩) (fun _ h => by cases h) dX6_areKeys_36
        · have hV := hV.2 c_21
          refine lv_iload_n hx hb dX6_areKeys_24 rfl (lv_at hl 2 rfl) ?_
          refine lv_ldcw (v := (100000 : Int32)) hx hb hown (hts (.constant RX6 266 (100000)) (by decide +kernel)) dX6_areKeys_25 ?_
          refine lv_icmp_gt (tgt := 35) hx hb dX6_areKeys_28 (by decide) (fun c_28 => ?_) (fun c_28 => ?_)
          · have hV := hV.1 c_28
            refine lv_iconst (v := (0 : Int32)) hx hb dX6_areKeys_35 (by decide) ?_
            exact W.zret (v := (0 : Int32)) hx hb hr rfl (fun t ht hW => ⟨_, rfl, hV, ht⟩) (fun _ h => by cases h) dX6_areKeys_36
          · have hV := hV.2 c_28
            refine lv_iconst (v := (1 : Int32)) hx hb dX6_areKeys_31 (by decide) ?_
            refine lv_goto (tgt := 36) hx hb dX6_areKeys_32 (by decide) ?_
            exact W.zret (v := (1 : Int32)) hx hb hr rfl (fun t ht hW => ⟨_, rfl, hV, ht⟩) (fun _ h => by cases h) dX6_areKeys_36
def post_X6_areKeys (p0 p1 p2 r : Int32) : Prop := r = zb (Keys p0 p1 p2)
set_option maxRecDepth 4000 in
theorem spec_X6_areKeys (l : Launch) (p0 : Int32) (p1 : Int32) (p2 : Int32) : Met l yX6_areKeys wsX6_areKeys ({ frames := 2, cells := 0, slots := 0, locals := 41 } : Room) (va_Pc [.int p0, .int p1, .int p2] (fun _ => True)) (Qpi (post_X6_areKeys p0 p1 p2)) 0 0 noF := by
  apply met_X6_areKeys
  intro r hr
  unfold post_X6_isKeyPrime at hr
  subst hr
  refine ⟨fun h => (zb_f (fun q => zb_0 h q.1)).symm, fun h r2 hr2 => ?_⟩
  unfold post_X6_isKeyPrime at hr2
  subst hr2
  have e1 : (1 : Int32).toInt = 1 := rfl
  have e2 : (100000 : Int32).toInt = 100000 := rfl
  refine ⟨fun h2 => (zb_f (fun q => zb_0 h2 q.2.1)).symm, fun h2 => ⟨fun h3 => (zb_f (fun q => q.2.2.1 h3)).symm, fun h3 => ⟨fun h4 => (zb_f (fun q => ?_)).symm, fun h4 => ⟨fun h5 => (zb_f (fun q => ?_)).symm, fun h5 => (zb_t ⟨zb_1 h, zb_1 h2, h3, ?_, ?_⟩).symm⟩⟩⟩⟩
  · rw [i_lt] at h4; have := q.2.2.2.1; omega
  · rw [i_lt] at h5; have := q.2.2.2.2; omega
  · rw [i_lt] at h4; omega
  · rw [i_lt] at h5; omega
set_option maxHeartbeats 4000000 in
set_option maxRecDepth 100000 in
theorem met_X7_isPair (l : Launch) (p0 : Int32) (p1 : Int32) (post : Int32 → Prop)
  (hV : ∀ r8 : Int32, post_X7_in p0.toInt64 (2 : Int64) (199 : Int64) r8 → ((r8 = 0 → post (0 : Int32)) ∧ (¬ r8 = 0 → ∀ r22 : Int32, post_X7_in p1.toInt64 (2 : Int64) (199 : Int64) r22 → ((r22 = 0 → post (0 : Int32)) ∧ (¬ r22 = 0 → ((p0 = p1 → post (0 : Int32)) ∧ (¬ p0 = p1 → pre_X7_isPrime p0 ∧ (∀ r34 : Int32, post_X7_isPrime p0 r34 → ((r34 = 0 → post (0 : Int32)) ∧ (¬ r34 = 0 → pre_X7_isPrime p1 ∧ (∀ r41 : Int32, post_X7_isPrime p1 r41 → ((r41 = 0 → post (0 : Int32)) ∧ (¬ r41 = 0 → post (1 : Int32)))))))))))))) :
  Met l yX7_isPair wsX7_isPair ({ frames := 1, cells := 0, slots := 0, locals := 25 } : Room) (va_Pc [.int p0, .int p1] (fun _ => True)) (Qpi post) 0 0 noF := by
  refine Met.ofW (cc := cX7_isPair) (maxL := 2) (ret := (some .boolean)) (by decide) rfl ?_
  intro p e s m args below meth c s₁ B hml hv
  obtain ⟨rfl, -⟩ := hv
  have hx := B.exec
  have hb := B.bytes
  have hr := B.returns
  have hts := atoms_spec (ws := wsX7_isPair) B.pre
  have hown : s.vm.findClass RX7 = some m.cls := findClass_of_methodNamed B.named
  have hlocks := B.notSynchronized
  have hl := lv_entry ([.int p0, .int p1]) (n := 2) (Nat.le_of_ble_eq_true rfl)
  rw [lg_entry_eq]
  generalize (lg_sl ([.int p0, .int p1]) ++ List.replicate (2 - (lg_sl ([.int p0, .int p1])).length) Slot.unset).toArray = ls at hl ⊢
  have hl : lv_has ls 2 [(0, .int p0), (1, .int p1)] := hl
  refine lv_iload_n hx hb dX7_isPair_0 rfl (lv_at hl 0 rfl) ?_
  refine lv_i2l (v := p0.toInt64) hx hb dX7_isPair_1 rfl ?_
  refine lv_ldc2 (v := (2 : Int64)) hx hb hown (hts (.constantLong RX7 56 (2)) (by decide +kernel)) dX7_isPair_2 ?_
  refine lv_ldc2 (v := (199 : Int64)) hx hb hown (hts (.constantLong RX7 210 (199)) (by decide +kernel)) dX7_isPair_5 ?_
  refine cp_i (va_runS (As := [.long p0.toInt64, .long (2 : Int64), .long (199 : Int64)]) (rest := []) ⟨hx, hb, hml, hown, hts⟩ (spec_X7_in l p0.toInt64 (2 : Int64) (199 : Int64)) (va_cwS 3 hts gX7_isPair_X7_in rfl rfl rfl (by decide +kernel) ⟨Nat.le_of_ble_eq_true rfl, Nat.le_of_ble_eq_true rfl⟩) cp_pre rfl rfl hl.1 rfl (lv_room (Nat.le_of_ble_eq_true rfl)) dX7_isPair_8 ⟨Nat.zero_le _, Nat.zero_le _⟩) (fun r8 q_8 => ?_)
  have hV := hV r8 q_8
  refine lv_if_eq (tgt := 51) hx hb dX7_isPair_11 (by decide) (fun c_11 => ?_) (fun c_11 => ?_)
  · have hV := hV.1 c_11
    refine lv_iconst (v := (0 : Int32)) hx hb dX7_isPair_51 (by decide) ?_
    exact W.zret (v := (0 : Int32)) hx hb hr rfl (fun t ht hW => ⟨_, rfl, hV, ht⟩) (fun _ h => by cases h) dX7_isPair_52
  · have hV := hV.2 c_11
    refine lv_iload_n hx hb dX7_isPair_14 rfl (lv_at hl 1 rfl) ?_
    refine lv_i2l (v := p1.toInt64) hx hb dX7_isPair_15 rfl ?_
    refine lv_ldc2 (v := (2 : Int64)) hx hb hown (hts (.constantLong RX7 56 (2)) (by decide +kernel)) dX7_isPair_16 ?_
    refine lv_ldc2 (v := (199 : Int64)) hx hb hown (hts (.constantLong RX7 210 (199)) (by decide +kernel)) dX7_isPair_19 ?_
    refine cp_i (va_runS (As := [.long p1.toInt64, .long (2 : Int64), .long (199 : Int64)]) (rest := []) ⟨hx, hb, hml, hown, hts⟩ (spec_X7_in l p1.toInt64 (2 : Int64) (199 : Int64)) (va_cwS 3 hts gX7_isPair_X7_in rfl rfl rfl (by decide +kernel) ⟨Nat.le_of_ble_eq_true rfl, Nat.le_of_ble_eq_true rfl⟩) cp_pre rfl rfl hl.1 rfl (lv_room (Nat.le_of_ble_eq_true rfl)) dX7_isPair_22 ⟨Nat.zero_le _, Nat.zero_le _⟩) (fun r22 q_22 => ?_)
    have hV := hV r22 q_22
    refine lv_if_eq (tgt := 51) hx hb dX7_isPair_25 (by decide) (fun c_25 => ?_) (fun c_25 => ?_)
    · have hV := hV.1 c_25
      refine lv_iconst (v := (0 : Int32)) hx hb dX7_isPair_51 (by decide) ?_
      exact W.zret (v := (0 : Int32)) hx hb hr rfl (fun t ht hW => ⟨_, rfl, hV, ht⟩) (fun _ h => by cases h) dX7_isPair_52
    · have hV := hV.2 c_25
      refine lv_iload_n hx hb dX7_isPair_28 rfl (lv_at hl 0 rfl) ?_
      refine lv_iload_n hx hb dX7_isPair_29 rfl (lv_at hl 1 rfl) ?_
      refine lv_icmp_eq (tgt := 51) hx hb dX7_isPair_30 (by decide) (fun c_30 => ?_) (fun c_30 => ?_)
      · have hV := hV.1 c_30
        refine lv_iconst (v := (0 : Int32)) hx hb dX7_isPair_51 (by decide) ?_
        exact W.zret (v := (0 : Int32)) hx hb hr rfl (fun t ht hW => ⟨_, rfl, hV, ht⟩) (fun _ h => by cases h) dX7_isPair_52
      · have hV := hV.2 c_30
        refine lv_iload_n hx hb dX7_isPair_33 rfl (lv_at hl 0 rfl) ?_
        obtain ⟨h_34, hV⟩ := hV
        refine cp_i (va_runS (As := [.int p0]) (rest := []) ⟨hx, hb, hml, hown, hts⟩ (spec_X7_isPrime l p0 h_34) (va_cwS 1 hts gX7_isPair_X7_isPrime rfl rfl rfl (by decide +kernel) ⟨Nat.le_of_ble_eq_true rfl, Nat.le_of_ble_eq_true rfl⟩) cp_pre rfl rfl hl.1 rfl (lv_room (Nat.le_of_ble_eq_true rfl)) dX7_isPair_34 ⟨Nat.zero_le _, Nat.zero_le _⟩) (fun r34 q_34 => ?_)
        have hV := hV r34 q_34
        refine lv_if_eq (tgt := 51) hx hb dX7_isPair_37 (by decide) (fun c_37 => ?_) (fun c_37 => ?_)
        · have hV := hV.1 c_37
          refine lv_iconst (v := (0 : Int32)) hx hb dX7_isPair_51 (by decide) ?_
          exact W.zret (v := (0 : Int32)) hx hb hr rfl (fun t ht hW => ⟨_, rfl, hV, ht⟩) (fun _ h => by cases h) dX7_isPair_52
        · have hV := hV.2 c_37
          refine lv_iload_n hx hb dX7_isPair_40 rfl (lv_at hl 1 rfl) ?_
          obtain ⟨h_41, hV⟩ := hV
          refine cp_i (va_runS (As := [.int p1]) (rest := []) ⟨hx, hb, hml, hown, hts⟩ (spec_X7_isPrime l p1 h_41) (va_cwS 1 hts gX7_isPair_X7_isPrime rfl rfl rfl (by decide +kernel) ⟨Nat.le_of_ble_eq_true rfl, Nat.le_of_ble_eq_true rfl⟩) cp_pre rfl rfl hl.1 rfl (lv_room (Nat.le_of_ble_eq_true rfl)) dX7_isPair_41 ⟨Nat.zero_le _, Nat.zero_le _⟩) (fun r41 q_41 => ?_)
          have hV := hV r41 q_41
          refine lv_if_eq (tgt := 51) hx hb dX7_isPair_44 (by decide) (fun c_44 => ?_) (fun c_44 => ?_)
          · have hV := hV.1 c_44
            refine lv_iconst (v := (0 : Int32)) hx hb dX7_isPair_51 (by decide) ?_
            exact W.zret (v := (0 : Int32)) hx hb hr rfl (fun t ht hW => ⟨_, rfl, hV, ht⟩) (fun _ h => by cases h) dX7_isPair_52
          · have hV := hV.2 c_44
            refine lv_iconst (v := (1 : Int32)) hx hb dX7_isPair_47 (by decide) ?_
            refine lv_goto (tgt := 52) hx hb dX7_isPair_48 (by decide) ?_
            exact W.zret (v := (1 : Int32)) hx hb hr rfl (fun t ht hW => ⟨_, rfl, hV, ht⟩) (fun _ h => by cases h) dX7_isPair_52
def post_X7_isPair (p0 p1 r : Int32) : Prop := r = zb ((p0.toInt ≤ 199 ∧ Pr (tn p0)) ∧ (p1.toInt ≤ 199 ∧ Pr (tn p1)) ∧ ¬ p0 = p1)
theorem tn_ge {x : Int32} (h : 2 ≤ tn x) : 2 ≤ x.toInt := by
  have : 2 ≤ x.toInt.toNat := h
  omega
set_option maxRecDepth 4000 in
theorem spec_X7_isPair (l : Launch) (p0 : Int32) (p1 : Int32) : Met l yX7_isPair wsX7_isPair ({ frames := 1, cells := 0, slots := 0, locals := 25 } : Room) (va_Pc [.int p0, .int p1] (fun _ => True)) (Qpi (post_X7_isPair p0 p1)) 0 0 noF := by
  apply met_X7_isPair
  intro r hr
  unfold post_X7_in at hr
  rw [il_t] at hr
  have e1 : (2 : Int64).toInt = 2 := rfl
  have e2 : (199 : Int64).toInt = 199 := rfl
  rw [e1, e2] at hr
  subst hr
  refine ⟨fun h => (zb_f (fun q => zb_0 h ⟨tn_ge q.1.2.1, q.1.1⟩)).symm, fun h r2 hr2 => ?_⟩
  unfold post_X7_in at hr2
  rw [il_t, e1, e2] at hr2
  subst hr2
  refine ⟨fun h2 => (zb_f (fun q => zb_0 h2 ⟨tn_ge q.2.1.2.1, q.2.1.1⟩)).symm, fun h2 => ⟨fun h3 => (zb_f (fun q => q.2.2 h3)).symm, fun h3 => ?_⟩⟩
  have h := zb_1 h
  have h2 := zb_1 h2
  refine ⟨show p0.toInt < 1000000 by omega, fun r3 hr3 => ?_⟩
  unfold post_X7_isPrime at hr3
  subst hr3
  refine ⟨fun h4 => (zb_f (fun q => zb_0 h4 q.1.2)).symm, fun h4 => ⟨show p1.toInt < 1000000 by omega, fun r5 hr5 => ?_⟩⟩
  unfold post_X7_isPrime at hr5
  subst hr5
  exact ⟨fun h6 => (zb_f (fun q => zb_0 h6 q.2.1.2)).symm, fun h6 => (zb_t ⟨⟨h.2, zb_1 h4⟩, ⟨h2.2, zb_1 h6⟩, h3⟩).symm⟩
theorem keys_mul {p q : Int32} (hp : 2 ≤ p.toInt ∧ p.toInt ≤ 199) (hq : 2 ≤ q.toInt ∧ q.toInt ≤ 199) : (p - 1) * (q - 1) = nI ((tn p - 1) * (tn q - 1)) ∧ (tn p - 1) * (tn q - 1) ≤ 39204 ∧ p - 1 = nI (tn p - 1) ∧ q - 1 = nI (tn q - 1) := by
  obtain ⟨a, ha, rfl, ha2⟩ := of_i (x := p) (by omega)
  obtain ⟨b, hb, rfl, hb2⟩ := of_i (x := q) (by omega)
  have e1 : nI a - (1 : Int32) = nI (a - 1) := pk_sub (b := 1) (by omega)
  have e2 : nI b - (1 : Int32) = nI (b - 1) := pk_sub (b := 1) (by omega)
  rw [tn_nI ha, tn_nI hb, e1, e2, pk_mul]
  exact ⟨rfl, Nat.mul_le_mul (show a - 1 ≤ 198 by omega) (show b - 1 ≤ 198 by omega), rfl, rfl⟩
def pre_X6_keySharesDivisor (p0 p1 p2 : Int32) : Prop := (2 ≤ p0.toInt ∧ p0.toInt ≤ 199) ∧ (2 ≤ p1.toInt ∧ p1.toInt ≤ 199) ∧ 1 ≤ p2.toInt
set_option maxHeartbeats 4000000 in
set_option maxRecDepth 100000 in
theorem met_X6_keySharesDivisor (l : Launch) (p0 : Int32) (p1 : Int32) (p2 : Int32) (post : Int32 → Prop)
  (hV : pre_X4_commonDivisor ((p0 - (1 : Int32)) * (p1 - (1 : Int32))) p2 ∧ (∀ r8 : Int32, post_X4_commonDivisor ((p0 - (1 : Int32)) * (p1 - (1 : Int32))) p2 r8 → ((r8 = (1 : Int32) → post (0 : Int32)) ∧ (¬ r8 = (1 : Int32) → post (1 : Int32))))) :
  Met l yX6_keySharesDivisor wsX6_keySharesDivisor ({ frames := 1, cells := 0, slots := 0, locals := 25 } : Room) (va_Pc [.int p0, .int p1, .int p2] (fun _ => True)) (Qpi post) 0 0 noF := by
  refine Met.ofW (cc := cX6_keySharesDivisor) (maxL := 3) (ret := (some .boolean)) (by decide) rfl ?_
  intro p e s m args below meth c s₁ B hml hv
  obtain ⟨rfl, -⟩ := hv
  have hx := B.exec
  have hb := B.bytes
  have hr := B.returns
  have hts := atoms_spec (ws := wsX6_keySharesDivisor) B.pre
  have hown : s.vm.findClass RX6 = some m.cls := findClass_of_methodNamed B.named
  have hlocks := B.notSynchronized
  have hl := lv_entry ([.int p0, .int p1, .int p2]) (n := 3) (Nat.le_of_ble_eq_true rfl)
  rw [lg_entry_eq]
  generalize (lg_sl ([.int p0, .int p1, .int p2]) ++ List.replicate (3 - (lg_sl ([.int p0, .int p1, .int p2])).length) Slot.unset).toArray = ls at hl ⊢
  have hl : lv_has ls 3 [(0, .int p0), (1, .int p1), (2, .int p2)] := hl
  refine lv_iload_n hx hb dX6_keySharesDivisor_0 rfl (lv_at hl 0 rfl) ?_
  refine lv_iconst (v := (1 : Int32)) hx hb dX6_keySharesDivisor_1 (by decide) ?_
  refine lv_isub hx hb dX6_keySharesDivisor_2 ?_
  refine lv_iload_n hx hb dX6_keySharesDivisor_3 rfl (lv_at hl 1 rfl) ?_
  refine lv_iconst (v := (1 : Int32)) hx hb dX6_keySharesDivisor_4 (by decide) ?_
  refine lv_isub hx hb dX6_keySharesDivisor_5 ?_
  refine lv_imul hx hb dX6_keySharesDivisor_6 ?_
  refine lv_iload_n hx hb dX6_keySharesDivisor_7 rfl (lv_at hl 2 rfl) ?_
  obtain ⟨h_8, hV⟩ := hV
  refine cp_i (va_runS (As := [.int ((p0 - (1 : Int32)) * (p1 - (1 : Int32))), .int p2]) (rest := []) ⟨hx, hb, hml, hown, hts⟩ (spec_X4_commonDivisor l ((p0 - (1 : Int32)) * (p1 - (1 : Int32))) p2 h_8) (va_cwS 2 hts gX6_keySharesDivisor_X4_commonDivisor rfl rfl rfl (by decide +kernel) ⟨Nat.le_of_ble_eq_true rfl, Nat.le_of_ble_eq_true rfl⟩) cp_pre rfl rfl hl.1 rfl (lv_room (Nat.le_of_ble_eq_true rfl)) dX6_keySharesDivisor_8 ⟨Nat.zero_le _, Nat.zero_le _⟩) (fun r8 q_8 => ?_)
  have hV := hV r8 q_8
  refine lv_iconst (v := (1 : Int32)) hx hb dX6_keySharesDivisor_11 (by decide) ?_
  refine lv_icmp_eq (tgt := 19) hx hb dX6_keySharesDivisor_12 (by decide) (fun c_12 => ?_) (fun c_12 => ?_)
  · have hV := hV.1 c_12
    refine lv_iconst (v := (0 : Int32)) hx hb dX6_keySharesDivisor_19 (by decide) ?_
    exact W.zret (v := (0 : Int32)) hx hb hr rfl (fun t ht hW => ⟨_, rfl, hV, ht⟩) (fun _ h => by cases h) dX6_keySharesDivisor_20
  · have hV := hV.2 c_12
    refine lv_iconst (v := (1 : Int32)) hx hb dX6_keySharesDivisor_15 (by decide) ?_
    refine lv_goto (tgt := 20) hx hb dX6_keySharesDivisor_16 (by decide) ?_
    exact W.zret (v := (1 : Int32)) hx hb hr rfl (fun t ht hW => ⟨_, rfl, hV, ht⟩) (fun _ h => by cases h) dX6_keySharesDivisor_20
def post_X6_keySharesDivisor (p0 p1 p2 r : Int32) : Prop := r = zb (¬ Nat.gcd ((tn p0 - 1) * (tn p1 - 1)) (tn p2) = 1)
set_option maxRecDepth 4000 in
theorem spec_X6_keySharesDivisor (l : Launch) (p0 : Int32) (p1 : Int32) (p2 : Int32) (hpre : pre_X6_keySharesDivisor p0 p1 p2) : Met l yX6_keySharesDivisor wsX6_keySharesDivisor ({ frames := 1, cells := 0, slots := 0, locals := 25 } : Room) (va_Pc [.int p0, .int p1, .int p2] (fun _ => True)) (Qpi (post_X6_keySharesDivisor p0 p1 p2)) 0 0 noF := by
  apply met_X6_keySharesDivisor
  obtain ⟨h0, h1, h2⟩ := hpre
  obtain ⟨e1, e2, -, -⟩ := keys_mul h0 h1
  rw [e1]
  obtain ⟨e, he, rfl, he2⟩ := of_i (x := p2) (by omega)
  refine ⟨⟨by rw [nI_toInt (by omega)]; omega, by omega⟩, fun r hr => ?_⟩
  unfold post_X4_commonDivisor at hr
  unfold post_X6_keySharesDivisor
  rw [tn_nI (by omega)] at hr
  rw [tn_nI he] at hr ⊢
  have hg := Nat.gcd_le_right ((tn p0 - 1) * (tn p1 - 1)) (show 0 < e by omega)
  exact pk_eq _ 1 (fun h => (zb_f (fun q => q h)).symm) (fun h => (zb_t h).symm) hr
def pre_X7_isFree (p0 p1 p2 : Int32) : Prop := (2 ≤ p0.toInt ∧ p0.toInt ≤ 199) ∧ (2 ≤ p1.toInt ∧ p1.toInt ≤ 199) ∧ 1 ≤ p2.toInt
set_option maxHeartbeats 4000000 in
set_option maxRecDepth 100000 in
theorem met_X7_isFree (l : Launch) (p0 : Int32) (p1 : Int32) (p2 : Int32) (post : Int32 → Prop)
  (hV : pre_X7_common ((p0 - (1 : Int32)) * (p1 - (1 : Int32))) p2 ∧ (∀ r8 : Int32, post_X7_common ((p0 - (1 : Int32)) * (p1 - (1 : Int32))) p2 r8 → ((r8 = (1 : Int32) → post (1 : Int32)) ∧ (¬ r8 = (1 : Int32) → post (0 : Int32))))) :
  Met l yX7_isFree wsX7_isFree ({ frames := 1, cells := 0, slots := 0, locals := 24 } : Room) (va_Pc [.int p0, .int p1, .int p2] (fun _ => True)) (Qpi post) 0 0 noF := by
  refine Met.ofW (cc := cX7_isFree) (maxL := 3) (ret := (some .boolean)) (by decide) rfl ?_
  intro p e s m args below meth c s₁ B hml hv
  obtain ⟨rfl, -⟩ := hv
  have hx := B.exec
  have hb := B.bytes
  have hr := B.returns
  have hts := atoms_spec (ws := wsX7_isFree) B.pre
  have hown : s.vm.findClass RX7 = some m.cls := findClass_of_methodNamed B.named
  have hlocks := B.notSynchronized
  have hl := lv_entry ([.int p0, .int p1, .int p2]) (n := 3) (Nat.le_of_ble_eq_true rfl)
  rw [lg_entry_eq]
  generalize (lg_sl ([.int p0, .int p1, .int p2]) ++ List.replicate (3 - (lg_sl ([.int p0, .int p1, .int p2])).length) Slot.unset).toArray = ls at hl ⊢
  have hl : lv_has ls 3 [(0, .int p0), (1, .int p1), (2, .int p2)] := hl
  refine lv_iload_n hx hb dX7_isFree_0 rfl (lv_at hl 0 rfl) ?_
  refine lv_iconst (v := (1 : Int32)) hx hb dX7_isFree_1 (by decide) ?_
  refine lv_isub hx hb dX7_isFree_2 ?_
  refine lv_iload_n hx hb dX7_isFree_3 rfl (lv_at hl 1 rfl) ?_
  refine lv_iconst (v := (1 : Int32)) hx hb dX7_isFree_4 (by decide) ?_
  refine lv_isub hx hb dX7_isFree_5 ?_
  refine lv_imul hx hb dX7_isFree_6 ?_
  refine lv_iload_n hx hb dX7_isFree_7 rfl (lv_at hl 2 rfl) ?_
  obtain ⟨h_8, hV⟩ := hV
  refine cp_i (va_runS (As := [.int ((p0 - (1 : Int32)) * (p1 - (1 : Int32))), .int p2]) (rest := []) ⟨hx, hb, hml, hown, hts⟩ (spec_X7_common l ((p0 - (1 : Int32)) * (p1 - (1 : Int32))) p2 h_8) (va_cwS 2 hts gX7_isFree_X7_common rfl rfl rfl (by decide +kernel) ⟨Nat.le_of_ble_eq_true rfl, Nat.le_of_ble_eq_true rfl⟩) cp_pre rfl rfl hl.1 rfl (lv_room (Nat.le_of_ble_eq_true rfl)) dX7_isFree_8 ⟨Nat.zero_le _, Nat.zero_le _⟩) (fun r8 q_8 => ?_)
  have hV := hV r8 q_8
  refine lv_iconst (v := (1 : Int32)) hx hb dX7_isFree_11 (by decide) ?_
  refine lv_icmp_ne (tgt := 19) hx hb dX7_isFree_12 (by decide) (fun c_12 => ?_) (fun c_12 => ?_)
  · have hV := hV.2 c_12
    refine lv_iconst (v := (0 : Int32)) hx hb dX7_isFree_19 (by decide) ?_
    exact W.zret (v := (0 : Int32)) hx hb hr rfl (fun t ht hW => ⟨_, rfl, hV, ht⟩) (fun _ h => by cases h) dX7_isFree_20
  · have hV := hV.1 c_12
    refine lv_iconst (v := (1 : Int32)) hx hb dX7_isFree_15 (by decide) ?_
    refine lv_goto (tgt := 20) hx hb dX7_isFree_16 (by decide) ?_
    exact W.zret (v := (1 : Int32)) hx hb hr rfl (fun t ht hW => ⟨_, rfl, hV, ht⟩) (fun _ h => by cases h) dX7_isFree_20
def post_X7_isFree (p0 p1 p2 r : Int32) : Prop := r = zb (Nat.gcd ((tn p0 - 1) * (tn p1 - 1)) (tn p2) = 1)
set_option maxRecDepth 4000 in
theorem spec_X7_isFree (l : Launch) (p0 : Int32) (p1 : Int32) (p2 : Int32) (hpre : pre_X7_isFree p0 p1 p2) : Met l yX7_isFree wsX7_isFree ({ frames := 1, cells := 0, slots := 0, locals := 24 } : Room) (va_Pc [.int p0, .int p1, .int p2] (fun _ => True)) (Qpi (post_X7_isFree p0 p1 p2)) 0 0 noF := by
  apply met_X7_isFree
  obtain ⟨h0, h1, h2⟩ := hpre
  obtain ⟨e1, e2, -, -⟩ := keys_mul h0 h1
  rw [e1]
  obtain ⟨e, he, rfl, he2⟩ := of_i (x := p2) (by omega)
  refine ⟨⟨by rw [nI_toInt (by omega)]; omega, by omega⟩, fun r hr => ?_⟩
  unfold post_X7_common at hr
  unfold post_X7_isFree
  rw [tn_nI (by omega)] at hr
  rw [tn_nI he] at hr ⊢
  have hg := Nat.gcd_le_right ((tn p0 - 1) * (tn p1 - 1)) (show 0 < e by omega)
  exact pk_eq _ 1 (fun h => (zb_t h).symm) (fun h => (zb_f h).symm) hr
def pre_X7_both (p0 p1 : Int32) : Prop := (2 ≤ p0.toInt ∧ p0.toInt ≤ 199) ∧ (2 ≤ p1.toInt ∧ p1.toInt ≤ 199)
set_option maxHeartbeats 4000000 in
set_option maxRecDepth 100000 in
theorem met_X7_both (l : Launch) (p0 : Int32) (p1 : Int32) (post : Int32 → Prop)
  (hV : pre_X7_common (p0 - (1 : Int32)) (p1 - (1 : Int32)) ∧ (∀ r9 : Int32, post_X7_common (p0 - (1 : Int32)) (p1 - (1 : Int32)) r9 → ¬ r9 = 0 ∧ (post (((p0 - (1 : Int32)) / r9) * (p1 - (1 : Int32)))))) :
  Met l yX7_both wsX7_both ({ frames := 1, cells := 0, slots := 0, locals := 24 } : Room) (va_Pc [.int p0, .int p1] (fun _ => True)) (Qpi post) 0 0 noF := by
  refine Met.ofW (cc := cX7_both) (maxL := 2) (ret := (some .int)) (by decide) rfl ?_
  intro p e s m args below meth c s₁ B hml hv
  obtain ⟨rfl, -⟩ := hv
  have hx := B.exec
  have hb := B.bytes
  have hr := B.returns
  have hts := atoms_spec (ws := wsX7_both) B.pre
  have hown : s.vm.findClass RX7 = some m.cls := findClass_of_methodNamed B.named
  have hlocks := B.notSynchronized
  have hl := lv_entry ([.int p0, .int p1]) (n := 2) (Nat.le_of_ble_eq_true rfl)
  rw [lg_entry_eq]
  generalize (lg_sl ([.int p0, .int p1]) ++ List.replicate (2 - (lg_sl ([.int p0, .int p1])).length) Slot.unset).toArray = ls at hl ⊢
  have hl : lv_has ls 2 [(0, .int p0), (1, .int p1)] := hl
  refine lv_iload_n hx hb dX7_both_0 rfl (lv_at hl 0 rfl) ?_
  refine lv_iconst (v := (1 : Int32)) hx hb dX7_both_1 (by decide) ?_
  refine lv_isub hx hb dX7_both_2 ?_
  refine lv_iload_n hx hb dX7_both_3 rfl (lv_at hl 0 rfl) ?_
  refine lv_iconst (v := (1 : Int32)) hx hb dX7_both_4 (by decide) ?_
  refine lv_isub hx hb dX7_both_5 ?_
  refine lv_iload_n hx hb dX7_both_6 rfl (lv_at hl 1 rfl) ?_
  refine lv_iconst (v := (1 : Int32)) hx hb dX7_both_7 (by decide) ?_
  refine lv_isub hx hb dX7_both_8 ?_
  obtain ⟨h_9, hV⟩ := hV
  refine cp_i (va_runS (As := [.int (p0 - (1 : Int32)), .int (p1 - (1 : Int32))]) (rest := [.int (p0 - (1 : Int32))]) ⟨hx, hb, hml, hown, hts⟩ (spec_X7_common l (p0 - (1 : Int32)) (p1 - (1 : Int32)) h_9) (va_cwS 2 hts gX7_both_X7_common rfl rfl rfl (by decide +kernel) ⟨Nat.le_of_ble_eq_true rfl, Nat.le_of_ble_eq_true rfl⟩) cp_pre rfl rfl hl.1 rfl (lv_room (Nat.le_of_ble_eq_true rfl)) dX7_both_9 ⟨Nat.zero_le _, Nat.zero_le _⟩) (fun r9 q_9 => ?_)
  have hV := hV r9 q_9
  obtain ⟨h_12, hV⟩ := hV
  refine lv_idiv hx hb dX7_both_12 h_12 ?_
  refine lv_iload_n hx hb dX7_both_13 rfl (lv_at hl 1 rfl) ?_
  refine lv_iconst (v := (1 : Int32)) hx hb dX7_both_14 (by decide) ?_
  refine lv_isub hx hb dX7_both_15 ?_
  refine lv_imul hx hb dX7_both_16 ?_
  exact W.iret (v := ((p0 - (1 : Int32)) / r9) * (p1 - (1 : Int32))) hx hb hr (fun t ht hW => ⟨_, rfl, hV, ht⟩) (fun _ h => by cases h) dX7_both_17
def post_X7_both (p0 p1 r : Int32) : Prop := r = nI (Nat.lcm (tn p0 - 1) (tn p1 - 1))
set_option maxRecDepth 4000 in
theorem spec_X7_both (l : Launch) (p0 : Int32) (p1 : Int32) (hpre : pre_X7_both p0 p1) : Met l yX7_both wsX7_both ({ frames := 1, cells := 0, slots := 0, locals := 24 } : Room) (va_Pc [.int p0, .int p1] (fun _ => True)) (Qpi (post_X7_both p0 p1)) 0 0 noF := by
  apply met_X7_both
  obtain ⟨e1, e2, e3, e4⟩ := keys_mul hpre.1 hpre.2
  obtain ⟨a, ha, rfl, ha2⟩ := of_i (x := p0) (by have := hpre.1; omega)
  obtain ⟨b, hb, rfl, hb2⟩ := of_i (x := p1) (by have := hpre.2; omega)
  obtain ⟨⟨h0, h1⟩, h2, h3⟩ := hpre
  rw [tn_nI ha, tn_nI hb] at *
  rw [e3, e4]
  refine ⟨⟨by rw [nI_toInt (by omega)]; omega, by rw [nI_toInt (by omega)]; omega⟩, fun r hr => ?_⟩
  unfold post_X7_common at hr
  unfold post_X7_both
  rw [tn_nI (by omega), tn_nI (by omega)] at hr
  subst hr
  have hg := Nat.gcd_le_left (b - 1) (show 0 < a - 1 by omega)
  have hg0 := Nat.gcd_pos_of_pos_left (b - 1) (show 0 < a - 1 by omega)
  refine ⟨nI_nz hg0 (by omega), ?_⟩
  rw [pk_div (by omega) hg0 (by omega), pk_mul, lcm_by hg0, tn_nI ha, tn_nI hb]
