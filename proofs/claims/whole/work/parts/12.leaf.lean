theorem mul_lt62 {a b n : Nat} (hn : n < 2 ^ 31) (ha : a < n) (hb : b < n) : a * b < 2 ^ 62 := by
  have h1 : a * b ≤ a * 2 ^ 31 := Nat.mul_le_mul_left a (by omega)
  have h2 : a * 2 ^ 31 < 2 ^ 31 * 2 ^ 31 := Nat.mul_lt_mul_of_pos_right (by omega) (by decide)
  have h3 : (2 : Nat) ^ 31 * 2 ^ 31 = 2 ^ 62 := by decide
  omega
theorem sq_pow (S k : Nat) : (S * S) ^ k = S ^ (2 * k) := by rw [Nat.pow_mul, Nat.pow_two]
theorem pw_step_e {n P S E : Nat} (h : E % 2 = 0) : P * (S * S % n) ^ (E / 2) % n = P * S ^ E % n := by
  apply md_mul rfl
  rw [← Nat.pow_mod, sq_pow]
  congr 2
  omega
theorem pw_step_o {n P S E : Nat} (h : E % 2 = 1) : (P * S % n) * (S * S % n) ^ (E / 2) % n = P * S ^ E % n := by
  have h1 : (P * S % n) * (S * S % n) ^ (E / 2) % n = (P * S) * (S * S) ^ (E / 2) % n := md_mul (Nat.mod_mod _ _) (by rw [← Nat.pow_mod])
  rw [h1, sq_pow, Nat.mul_assoc, ← Nat.pow_succ']
  congr 3
  omega
def pre_X4_raise (p0 p1 : Int64) (p2 : Int32) : Prop := 0 ≤ p0.toInt ∧ 0 ≤ p1.toInt ∧ p1.toInt < 2 ^ 62 ∧ 1 ≤ p2.toInt
set_option maxHeartbeats 4000000 in
set_option maxRecDepth 100000 in
theorem met_X4_raise (l : Launch) (p0 : Int64) (p1 : Int64) (p2 : Int32) (post : Int32 → Prop)
  (hV : ∀ (J28 : Int64 → Int64 → Int64 → Int32 → Prop),
    (∀ (x5 : Int64) (x7 : Int64) (x9 : Int64) (x11 : Int32), (((63 : Int32) ≤ x11 → post x5.toInt32) ∧ (¬ (63 : Int32) ≤ x11 → ((x9 ≤ (0 : Int64) → post x5.toInt32) ∧ (¬ x9 ≤ (0 : Int64) → (((x9 &&& (1 : Int64)) = (1 : Int64) → ¬ p2.toInt64 = 0 ∧ (J28 ((x5 * x7) - (x5 * x7) / p2.toInt64 * p2.toInt64) ((x7 * x7) - (x7 * x7) / p2.toInt64 * p2.toInt64) (x9 >>> ((1 : Int32).toInt64 &&& 63)) (x11 + 1))) ∧ (¬ (x9 &&& (1 : Int64)) = (1 : Int64) → ¬ p2.toInt64 = 0 ∧ (J28 x5 ((x7 * x7) - (x7 * x7) / p2.toInt64 * p2.toInt64) (x9 >>> ((1 : Int32).toInt64 &&& 63)) (x11 + 1)))))))) → J28 x5 x7 x9 x11) →
    (((1 : Int32) ≤ p2 → ¬ p2 = 0 ∧ (¬ p2.toInt64 = 0 ∧ (J28 (((1 : Int32) - (1 : Int32) / p2 * p2).toInt64) (p0 - p0 / p2.toInt64 * p2.toInt64) p1 (0 : Int32)))) ∧ (¬ (1 : Int32) ≤ p2 → post (0 : Int32)))) :
  Met l yX4_raise wsX4_raise ({ frames := 0, cells := 0, slots := 0, locals := 0 } : Room) (va_Pc [.long p0, .long p1, .int p2] (fun _ => True)) (Qpi post) 0 0 noF := by
  refine Met.ofW (cc := cX4_raise) (maxL := 12) (ret := (some .int)) (by decide) rfl ?_
  intro p e s m args below meth c s₁ B hml hv
  obtain ⟨rfl, -⟩ := hv
  have hx := B.exec
  have hb := B.bytes
  have hr := B.returns
  have hts := atoms_spec (ws := wsX4_raise) B.pre
  have hown : s.vm.findClass RX4 = some m.cls := findClass_of_methodNamed B.named
  have hlocks := B.notSynchronized
  obtain ⟨J28, iJ28, oJ28⟩ : ∃ J : Int64 → Int64 → Int64 → Int32 → Prop, (∀ (x5 : Int64) (x7 : Int64) (x9 : Int64) (x11 : Int32), (∀ ls : Array Slot, lv_has ls 12 [(4, .int p2), (5, .long x5), (7, .long x7), (9, .long x9), (11, .int x11)] → W p l e (headSpec wsX4_raise ({ frames := 0, cells := 0, slots := 0, locals := 0 } : Room)).room s m [.long p0, .long p1, .int p2].toArray below meth c s.heap [] 0 0 (MQ below (Qpi post) [.long p0, .long p1, .int p2].toArray s 0 0 noF) (F0 m 28 ls [])) → J x5 x7 x9 x11) ∧ (∀ (x5 : Int64) (x7 : Int64) (x9 : Int64) (x11 : Int32), J x5 x7 x9 x11 → (∀ ls : Array Slot, lv_has ls 12 [(4, .int p2), (5, .long x5), (7, .long x7), (9, .long x9), (11, .int x11)] → W p l e (headSpec wsX4_raise ({ frames := 0, cells := 0, slots := 0, locals := 0 } : Room)).room s m [.long p0, .long p1, .int p2].toArray below meth c s.heap [] 0 0 (MQ below (Qpi post) [.long p0, .long p1, .int p2].toArray s 0 0 noF) (F0 m 28 ls []))) := ⟨fun (x5 : Int64) (x7 : Int64) (x9 : Int64) (x11 : Int32) => (∀ ls : Array Slot, lv_has ls 12 [(4, .int p2), (5, .long x5), (7, .long x7), (9, .long x9), (11, .int x11)] → W p l e (headSpec wsX4_raise ({ frames := 0, cells := 0, slots := 0, locals := 0 } : Room)).room s m [.long p0, .long p1, .int p2].toArray below meth c s.heap [] 0 0 (MQ below (Qpi post) [.long p0, .long p1, .int p2].toArray s 0 0 noF) (F0 m 28 ls [])), fun _ _ _ _ h => h, fun _ _ _ _ h => h⟩
  have hV := hV J28
  replace hV := hV (by
    intro x5 x7 x9 x11 hV
    refine iJ28 x5 x7 x9 x11 ?_
    intro ls hl
    refine lv_iload hx hb dX4_raise_28 (lv_at hl 4 rfl) ?_
    refine lv_bipush (v := (63 : Int32)) hx hb dX4_raise_30 (by decide) ?_
    refine lv_icmp_ge (tgt := 85) hx hb dX4_raise_32 (by decide) (fun c_32 => ?_) (fun c_32 => ?_)
    · have hV := hV.1 c_32
      refine lv_lload hx hb dX4_raise_85 (lv_at hl 1 rfl) ?_
      refine lv_l2i (v := x5.toInt32) hx hb dX4_raise_87 rfl ?_
      exact W.iret (v := x5.toInt32) hx hb hr (fun t ht hW => ⟨_, rfl, hV, ht⟩) (fun _ h => by cases h) dX4_raise_88
    · have hV := hV.2 c_32
      refine lv_lload hx hb dX4_raise_35 (lv_at hl 3 rfl) ?_
      refine lv_lconst (v := (0 : Int64)) hx hb dX4_raise_37 (by decide) ?_
      refine lc_le (tgt := 85) hx hb dX4_raise_38 dX4_raise_39 (by decide) (fun c_38 => ?_) (fun c_38 => ?_)
      · have hV := hV.1 c_38
        refine lv_lload hx hb dX4_raise_85 (lv_at hl 1 rfl) ?_
        refine lv_l2i (v := x5.toInt32) hx hb dX4_raise_87 rfl ?_
        exact W.iret (v := x5.toInt32) hx hb hr (fun t ht hW => ⟨_, rfl, hV, ht⟩) (fun _ h => by cases h) dX4_raise_88
      · have hV := hV.2 c_38
        refine lv_lload hx hb dX4_raise_42 (lv_at hl 3 rfl) ?_
        refine lv_lconst (v := (1 : Int64)) hx hb dX4_raise_44 (by decide) ?_
        refine lv_land hx hb dX4_raise_45 ?_
        refine lv_lconst (v := (1 : Int64)) hx hb dX4_raise_46 (by decide) ?_
        refine lc_ne (tgt := 62) hx hb dX4_raise_47 dX4_raise_48 (by decide) (fun c_47 => ?_) (fun c_47 => ?_)
        · have hV := hV.2 c_47
          refine lv_lload hx hb dX4_raise_62 (lv_at hl 2 rfl) ?_
          refine lv_lload hx hb dX4_raise_64 (lv_at hl 2 rfl) ?_
          refine lv_lmul hx hb dX4_raise_66 ?_
          refine lv_iload hx hb dX4_raise_67 (lv_at hl 0 rfl) ?_
          refine lv_i2l (v := p2.toInt64) hx hb dX4_raise_69 rfl ?_
          obtain ⟨h_70, hV⟩ := hV
          refine lv_lrem hx hb dX4_raise_70 h_70 ?_
          refine lv_lstore (lv' := [(7, .long ((x7 * x7) - (x7 * x7) / p2.toInt64 * p2.toInt64)), (4, .int p2), (5, .long x5), (9, .long x9), (11, .int x11)]) hx hb dX4_raise_71 hl (by decide) rfl (fun ls hl => ?_)
          refine lv_lload hx hb dX4_raise_73 (lv_at hl 3 rfl) ?_
          refine lv_iconst (v := (1 : Int32)) hx hb dX4_raise_75 (by decide) ?_
          refine lv_lshr (v := x9 >>> ((1 : Int32).toInt64 &&& 63)) hx hb dX4_raise_76 rfl ?_
          refine lv_lstore (lv' := [(9, .long (x9 >>> ((1 : Int32).toInt64 &&& 63))), (7, .long ((x7 * x7) - (x7 * x7) / p2.toInt64 * p2.toInt64)), (4, .int p2), (5, .long x5), (11, .int x11)]) hx hb dX4_raise_77 hl (by decide) rfl (fun ls hl => ?_)
          refine lv_iinc (v := x11 + 1) (lv' := [(11, .int (x11 + 1)), (9, .long (x9 >>> ((1 : Int32).toInt64 &&& 63))), (7, .long ((x7 * x7) - (x7 * x7) / p2.toInt64 * p2.toInt64)), (4, .int p2), (5, .long x5)]) hx hb dX4_raise_79 hl (k := 4) rfl rfl (by decide) rfl (fun ls hl => ?_)
          refine lv_goto (tgt := 28) hx hb dX4_raise_82 (by decide) ?_
          exact oJ28 _ _ _ _ hV _ (lv_sub hl [3, 4, 2, 1, 0] rfl)
        · have hV := hV.1 c_47
          refine lv_lload hx hb dX4_raise_51 (lv_at hl 1 rfl) ?_
          refine lv_lload hx hb dX4_raise_53 (lv_at hl 2 rfl) ?_
          refine lv_lmul hx hb dX4_raise_55 ?_
          refine lv_iload hx hb dX4_raise_56 (lv_at hl 0 rfl) ?_
          refine lv_i2l (v := p2.toInt64) hx hb dX4_raise_58 rfl ?_
          obtain ⟨h_59, hV⟩ := hV
          refine lv_lrem hx hb dX4_raise_59 h_59 ?_
          refine lv_lstore (lv' := [(5, .long ((x5 * x7) - (x5 * x7) / p2.toInt64 * p2.toInt64)), (4, .int p2), (7, .long x7), (9, .long x9), (11, .int x11)]) hx hb dX4_raise_60 hl (by decide) rfl (fun ls hl => ?_)
          refine lv_lload hx hb dX4_raise_62 (lv_at hl 2 rfl) ?_
          refine lv_lload hx hb dX4_raise_64 (lv_at hl 2 rfl) ?_
          refine lv_lmul hx hb dX4_raise_66 ?_
          refine lv_iload hx hb dX4_raise_67 (lv_at hl 1 rfl) ?_
          refine lv_i2l (v := p2.toInt64) hx hb dX4_raise_69 rfl ?_
          refine lv_lrem hx hb dX4_raise_70 h_59 ?_
          refine lv_lstore (lv' := [(7, .long ((x7 * x7) - (x7 * x7) / p2.toInt64 * p2.toInt64)), (5, .long ((x5 * x7) - (x5 * x7) / p2.toInt64 * p2.toInt64)), (4, .int p2), (9, .long x9), (11, .int x11)]) hx hb dX4_raise_71 hl (by decide) rfl (fun ls hl => ?_)
          refine lv_lload hx hb dX4_raise_73 (lv_at hl 3 rfl) ?_
          refine lv_iconst (v := (1 : Int32)) hx hb dX4_raise_75 (by decide) ?_
          refine lv_lshr (v := x9 >>> ((1 : Int32).toInt64 &&& 63)) hx hb dX4_raise_76 rfl ?_
          refine lv_lstore (lv' := [(9, .long (x9 >>> ((1 : Int32).toInt64 &&& 63))), (7, .long ((x7 * x7) - (x7 * x7) / p2.toInt64 * p2.toInt64)), (5, .long ((x5 * x7) - (x5 * x7) / p2.toInt64 * p2.toInt64)), (4, .int p2), (11, .int x11)]) hx hb dX4_raise_77 hl (by decide) rfl (fun ls hl => ?_)
          refine lv_iinc (v := x11 + 1) (lv' := [(11, .int (x11 + 1)), (9, .long (x9 >>> ((1 : Int32).toInt64 &&& 63))), (7, .long ((x7 * x7) - (x7 * x7) / p2.toInt64 * p2.toInt64)), (5, .long ((x5 * x7) - (x5 * x7) / p2.toInt64 * p2.toInt64)), (4, .int p2)]) hx hb dX4_raise_79 hl (k := 4) rfl rfl (by decide) rfl (fun ls hl => ?_)
          refine lv_goto (tgt := 28) hx hb dX4_raise_82 (by decide) ?_
          exact oJ28 _ _ _ _ hV _ (lv_sub hl [4, 3, 2, 1, 0] rfl))
  have hl := lv_entry ([.long p0, .long p1, .int p2]) (n := 12) (Nat.le_of_ble_eq_true rfl)
  rw [lg_entry_eq]
  generalize (lg_sl ([.long p0, .long p1, .int p2]) ++ List.replicate (12 - (lg_sl ([.long p0, .long p1, .int p2])).length) Slot.unset).toArray = ls at hl ⊢
  have hl : lv_has ls 12 [(0, .long p0), (2, .long p1), (4, .int p2)] := hl
  refine lv_iload hx hb dX4_raise_0 (lv_at hl 2 rfl) ?_
  refine lv_iconst (v := (1 : Int32)) hx hb dX4_raise_2 (by decide) ?_
  refine lv_icmp_ge (tgt := 8) hx hb dX4_raise_3 (by decide) (fun c_3 => ?_) (fun c_3 => ?_)
  · have hV := hV.1 c_3
    refine lv_iconst (v := (1 : Int32)) hx hb dX4_raise_8 (by decide) ?_
    refine lv_iload hx hb dX4_raise_9 (lv_at hl 2 rfl) ?_
    obtain ⟨h_11, hV⟩ := hV
    refine lv_irem hx hb dX4_raise_11 h_11 ?_
    refine lv_i2l (v := ((1 : Int32) - (1 : Int32) / p2 * p2).toInt64) hx hb dX4_raise_12 rfl ?_
    refine lv_lstore (lv' := [(5, .long (((1 : Int32) - (1 : Int32) / p2 * p2).toInt64)), (0, .long p0), (2, .long p1), (4, .int p2)]) hx hb dX4_raise_13 hl (by decide) rfl (fun ls hl => ?_)
    refine lv_lload_n hx hb dX4_raise_15 rfl (lv_at hl 1 rfl) ?_
    refine lv_iload hx hb dX4_raise_16 (lv_at hl 3 rfl) ?_
    refine lv_i2l (v := p2.toInt64) hx hb dX4_raise_18 rfl ?_
    obtain ⟨h_19, hV⟩ := hV
    refine lv_lrem hx hb dX4_raise_19 h_19 ?_
    refine lv_lstore (lv' := [(7, .long (p0 - p0 / p2.toInt64 * p2.toInt64)), (5, .long (((1 : Int32) - (1 : Int32) / p2 * p2).toInt64)), (0, .long p0), (2, .long p1), (4, .int p2)]) hx hb dX4_raise_20 hl (by decide) rfl (fun ls hl => ?_)
    refine lv_lload_n hx hb dX4_raise_22 rfl (lv_at hl 3 rfl) ?_
    refine lv_lstore (lv' := [(9, .long p1), (7, .long (p0 - p0 / p2.toInt64 * p2.toInt64)), (5, .long (((1 : Int32) - (1 : Int32) / p2 * p2).toInt64)), (0, .long p0), (2, .long p1), (4, .int p2)]) hx hb dX4_raise_23 hl (by decide) rfl (fun ls hl => ?_)
    refine lv_iconst (v := (0 : Int32)) hx hb dX4_raise_25 (by decide) ?_
    refine lv_istore (lv' := [(11, .int (0 : Int32)), (9, .long p1), (7, .long (p0 - p0 / p2.toInt64 * p2.toInt64)), (5, .long (((1 : Int32) - (1 : Int32) / p2 * p2).toInt64)), (0, .long p0), (2, .long p1), (4, .int p2)]) hx hb dX4_raise_26 hl (by decide) rfl (fun ls hl => ?_)
    exact oJ28 _ _ _ _ hV _ (lv_sub hl [6, 3, 2, 1, 0] rfl)
  · have hV := hV.2 c_3
    refine lv_iconst (v := (0 : Int32)) hx hb dX4_raise_6 (by decide) ?_
    exact W.iret (v := (0 : Int32)) hx hb hr (fun t ht hW => ⟨_, rfl, hV, ht⟩) (fun _ h => by cases h) dX4_raise_7
def post_X4_raise (p0 p1 : Int64) (p2 r : Int32) : Prop := r = nI (tl p0 ^ tl p1 % tn p2)
set_option maxRecDepth 4000 in
theorem spec_X4_raise (l : Launch) (p0 : Int64) (p1 : Int64) (p2 : Int32) (hpre : pre_X4_raise p0 p1 p2) : Met l yX4_raise wsX4_raise ({ frames := 0, cells := 0, slots := 0, locals := 0 } : Room) (va_Pc [.long p0, .long p1, .int p2] (fun _ => True)) (Qpi (post_X4_raise p0 p1 p2)) 0 0 noF := by
  apply met_X4_raise
  intro J hJ
  obtain ⟨h0, h1, h2, h3⟩ := hpre
  obtain ⟨b, hb, rfl, -⟩ := of_l h0
  obtain ⟨e, he, rfl, he2⟩ := of_l h1
  obtain ⟨n, hn, rfl, hn2⟩ := of_i (x := p2) (by omega)
  have hn1 : 1 ≤ n := by omega
  have he3 : e < 2 ^ 62 := by omega
  rw [nI_l hn] at hJ ⊢
  have hz : ¬ lN n = 0 := lN_nz hn1 (by omega)
  have key : ∀ (E k P S : Nat), E < 2 ^ (62 - k) → k ≤ 62 → P < n → S < n → P * S ^ E % n = b ^ e % n → J (lN P) (lN S) (lN E) (nI k) := by
    intro E
    induction E using Nat.strongRecOn with
    | ind E ih =>
      intro k P S hE hk hP hS hc
      have hE62 : E < 2 ^ 62 := Nat.lt_of_lt_of_le hE (Nat.pow_le_pow_right (by decide) (by omega))
      refine hJ _ _ _ _ (pk_le 63 k (fun h => absurd h (by omega)) (fun h => ql_le E 0 (fun h0 => ?_) (fun h0 => ?_)))
      · have : E = 0 := by omega
        subst this
        rw [Nat.pow_zero, Nat.mul_one, Nat.mod_eq_of_lt hP] at hc
        unfold post_X4_raise
        rw [lN_i, tl_lN hb, tl_lN he, tn_nI hn, hc]
      · have hk2 : k < 62 := by
          apply Classical.byContradiction
          intro hne
          have : k = 62 := by omega
          subst this
          simp at hE
          omega
        have hE2 : E / 2 < 2 ^ (62 - (k + 1)) := by
          have e1 : 62 - k = (62 - (k + 1)) + 1 := by omega
          rw [e1, Nat.pow_succ] at hE
          omega
        have hsh : lN E >>> ((1 : Int32).toInt64 &&& 63) = lN (E / 2) := pf_shr (a := E) (d := 1) (by decide) hE62
        have hSS := mul_lt62 hn hS hS
        have hPS := mul_lt62 hn hP hS
        rw [wb_a1 (by omega), hsh, lN_mul, lN_mul, pk_lRem (by omega) hn1 (by omega), pk_lRem (by omega) hn1 (by omega), nI_1]
        refine ql_eq (E % 2) 1 (fun h5 => ⟨hz, ?_⟩) (fun h5 => ⟨hz, ?_⟩)
        · exact ih (E / 2) (by omega) (k + 1) _ _ hE2 (by omega) (Nat.mod_lt _ hn1) (Nat.mod_lt _ hn1) (by rw [pw_step_o h5]; exact hc)
        · exact ih (E / 2) (by omega) (k + 1) _ _ hE2 (by omega) hP (Nat.mod_lt _ hn1) (by rw [pw_step_e (by omega)]; exact hc)
  refine ⟨fun _ => ⟨nI_nz hn1 hn, hz, ?_⟩, fun h => absurd (i_le.mpr (show (1 : Int32).toInt ≤ (nI n).toInt from h3)) h⟩
  rw [pk_lRem hb hn1 (by omega)]
  have e1 : ((1 : Int32) - (1 : Int32) / nI n * nI n) = nI (1 % n) := pk_rem (a := 1) (by decide) hn1 hn
  rw [e1, nI_l (Nat.lt_of_le_of_lt (Nat.mod_le 1 n) (by decide))]
  exact key e 0 _ _ (by simpa using he3) (by omega) (Nat.mod_lt _ hn1) (Nat.mod_lt _ hn1) (by
    rw [← Nat.mod_mul_mod, ]
    have : (1 % n) * (b % n) ^ e % n = 1 * b ^ e % n := md_mul (Nat.mod_mod _ _) (by rw [← Nat.pow_mod])
    rw [Nat.mod_mul_mod, this, Nat.one_mul])
def pre_X7_powerOf (p0 p1 : Int32) (p2 : Int64) : Prop := 1 ≤ p0.toInt ∧ 0 ≤ p1.toInt ∧ 0 ≤ p2.toInt
set_option maxHeartbeats 4000000 in
set_option maxRecDepth 100000 in
theorem met_X7_powerOf (l : Launch) (p0 : Int32) (p1 : Int32) (p2 : Int64) (post : Int32 → Prop)
  (hV : ∀ (J15 : Int64 → Int64 → Int64 → Prop),
    (∀ (x4 : Int64) (x6 : Int64) (x8 : Int64), ((x8 ≤ (0 : Int64) → post x4.toInt32) ∧ (¬ x8 ≤ (0 : Int64) → (((x8 - x8 / (2 : Int64) * (2 : Int64)) = (1 : Int64) → ¬ p0.toInt64 = 0 ∧ (J15 ((x4 * x6) - (x4 * x6) / p0.toInt64 * p0.toInt64) ((x6 * x6) - (x6 * x6) / p0.toInt64 * p0.toInt64) (x8 / (2 : Int64)))) ∧ (¬ (x8 - x8 / (2 : Int64) * (2 : Int64)) = (1 : Int64) → ¬ p0.toInt64 = 0 ∧ (J15 x4 ((x6 * x6) - (x6 * x6) / p0.toInt64 * p0.toInt64) (x8 / (2 : Int64))))))) → J15 x4 x6 x8) →
    ¬ p0 = 0 ∧ (J15 (((1 : Int32) - (1 : Int32) / p0 * p0).toInt64) ((p1 - p1 / p0 * p0).toInt64) p2)) :
  Met l yX7_powerOf wsX7_powerOf ({ frames := 0, cells := 0, slots := 0, locals := 0 } : Room) (va_Pc [.int p0, .int p1, .long p2] (fun _ => True)) (Qpi post) 0 0 noF := by
  refine Met.ofW (cc := cX7_powerOf) (maxL := 10) (ret := (some .int)) (by decide) rfl ?_
  intro p e s m args below meth c s₁ B hml hv
  obtain ⟨rfl, -⟩ := hv
  have hx := B.exec
  have hb := B.bytes
  have hr := B.returns
  have hts := atoms_spec (ws := wsX7_powerOf) B.pre
  have hown : s.vm.findClass RX7 = some m.cls := findClass_of_methodNamed B.named
  have hlocks := B.notSynchronized
  obtain ⟨J15, iJ15, oJ15⟩ : ∃ J : Int64 → Int64 → Int64 → Prop, (∀ (x4 : Int64) (x6 : Int64) (x8 : Int64), (∀ ls : Array Slot, lv_has ls 10 [(0, .int p0), (4, .long x4), (6, .long x6), (8, .long x8)] → W p l e (headSpec wsX7_powerOf ({ frames := 0, cells := 0, slots := 0, locals := 0 } : Room)).room s m [.int p0, .int p1, .long p2].toArray below meth c s.heap [] 0 0 (MQ below (Qpi post) [.int p0, .int p1, .long p2].toArray s 0 0 noF) (F0 m 15 ls [])) → J x4 x6 x8) ∧ (∀ (x4 : Int64) (x6 : Int64) (x8 : Int64), J x4 x6 x8 → (∀ ls : Array Slot, lv_has ls 10 [(0, .int p0), (4, .long x4), (6, .long x6), (8, .long x8)] → W p l e (headSpec wsX7_powerOf ({ frames := 0, cells := 0, slots := 0, locals := 0 } : Room)).room s m [.int p0, .int p1, .long p2].toArray below meth c s.heap [] 0 0 (MQ below (Qpi post) [.int p0, .int p1, .long p2].toArray s 0 0 noF) (F0 m 15 ls []))) := ⟨fun (x4 : Int64) (x6 : Int64) (x8 : Int64) => (∀ ls : Array Slot, lv_has ls 10 [(0, .int p0), (4, .long x4), (6, .long x6), (8, .long x8)] → W p l e (headSpec wsX7_powerOf ({ frames := 0, cells := 0, slots := 0, locals := 0 } : Room)).room s m [.int p0, .int p1, .long p2].toArray below meth c s.heap [] 0 0 (MQ below (Qpi post) [.int p0, .int p1, .long p2].toArray s 0 0 noF) (F0 m 15 ls [])), fun _ _ _ h => h, fun _ _ _ h => h⟩
  have hV := hV J15
  replace hV := hV (by
    intro x4 x6 x8 hV
    refine iJ15 x4 x6 x8 ?_
    intro ls hl
    refine lv_lload hx hb dX7_powerOf_15 (lv_at hl 3 rfl) ?_
    refine lv_lconst (v := (0 : Int64)) hx hb dX7_powerOf_17 (by decide) ?_
    refine lc_le (tgt := 69) hx hb dX7_powerOf_18 dX7_powerOf_19 (by decide) (fun c_18 => ?_) (fun c_18 => ?_)
    · have hV := hV.1 c_18
      refine lv_lload hx hb dX7_powerOf_69 (lv_at hl 1 rfl) ?_
      refine lv_l2i (v := x4.toInt32) hx hb dX7_powerOf_71 rfl ?_
      exact W.iret (v := x4.toInt32) hx hb hr (fun t ht hW => ⟨_, rfl, hV, ht⟩) (fun _ h => by cases h) dX7_powerOf_72
    · have hV := hV.2 c_18
      refine lv_lload hx hb dX7_powerOf_22 (lv_at hl 3 rfl) ?_
      refine lv_ldc2 (v := (2 : Int64)) hx hb hown (hts (.constantLong RX7 56 (2)) (by decide +kernel)) dX7_powerOf_24 ?_
      refine lv_lrem hx hb dX7_powerOf_27 (by decide) ?_
      refine lv_lconst (v := (1 : Int64)) hx hb dX7_powerOf_28 (by decide) ?_
      refine lc_ne (tgt := 44) hx hb dX7_powerOf_29 dX7_powerOf_30 (by decide) (fun c_29 => ?_) (fun c_29 => ?_)
      · have hV := hV.2 c_29
        refine lv_lload hx hb dX7_powerOf_44 (lv_at hl 1 rfl) ?_
        refine lv_lstore (lv' := [(4, .long x4), (0, .int p0), (6, .long x6), (8, .long x8)]) hx hb dX7_powerOf_46 hl (by decide) rfl (fun ls hl => ?_)
        refine lv_lload hx hb dX7_powerOf_48 (lv_at hl 2 rfl) ?_
        refine lv_lload hx hb dX7_powerOf_50 (lv_at hl 2 rfl) ?_
        refine lv_lmul hx hb dX7_powerOf_52 ?_
        refine lv_iload_n hx hb dX7_powerOf_53 rfl (lv_at hl 1 rfl) ?_
        refine lv_i2l (v := p0.toInt64) hx hb dX7_powerOf_54 rfl ?_
        obtain ⟨h_55, hV⟩ := hV
        refine lv_lrem hx hb dX7_powerOf_55 h_55 ?_
        refine lv_lstore (lv' := [(6, .long ((x6 * x6) - (x6 * x6) / p0.toInt64 * p0.toInt64)), (4, .long x4), (0, .int p0), (8, .long x8)]) hx hb dX7_powerOf_56 hl (by decide) rfl (fun ls hl => ?_)
        refine lv_lload hx hb dX7_powerOf_58 (lv_at hl 3 rfl) ?_
        refine lv_ldc2 (v := (2 : Int64)) hx hb hown (hts (.constantLong RX7 56 (2)) (by decide +kernel)) dX7_powerOf_60 ?_
        refine lv_ldiv hx hb dX7_powerOf_63 (by decide) ?_
        refine lv_lstore (lv' := [(8, .long (x8 / (2 : Int64))), (6, .long ((x6 * x6) - (x6 * x6) / p0.toInt64 * p0.toInt64)), (4, .long x4), (0, .int p0)]) hx hb dX7_powerOf_64 hl (by decide) rfl (fun ls hl => ?_)
        refine lv_goto (tgt := 15) hx hb dX7_powerOf_66 (by decide) ?_
        exact oJ15 _ _ _ hV _ (lv_sub hl [3, 2, 1, 0] rfl)
      · have hV := hV.1 c_29
        refine lv_lload hx hb dX7_powerOf_33 (lv_at hl 1 rfl) ?_
        refine lv_lload hx hb dX7_powerOf_35 (lv_at hl 2 rfl) ?_
        refine lv_lmul hx hb dX7_powerOf_37 ?_
        refine lv_iload_n hx hb dX7_powerOf_38 rfl (lv_at hl 0 rfl) ?_
        refine lv_i2l (v := p0.toInt64) hx hb dX7_powerOf_39 rfl ?_
        obtain ⟨h_40, hV⟩ := hV
        refine lv_lrem hx hb dX7_powerOf_40 h_40 ?_
        refine lv_goto (tgt := 46) hx hb dX7_powerOf_41 (by decide) ?_
        refine lv_lstore (lv' := [(4, .long ((x4 * x6) - (x4 * x6) / p0.toInt64 * p0.toInt64)), (0, .int p0), (6, .long x6), (8, .long x8)]) hx hb dX7_powerOf_46 hl (by decide) rfl (fun ls hl => ?_)
        refine lv_lload hx hb dX7_powerOf_48 (lv_at hl 2 rfl) ?_
        refine lv_lload hx hb dX7_powerOf_50 (lv_at hl 2 rfl) ?_
        refine lv_lmul hx hb dX7_powerOf_52 ?_
        refine lv_iload_n hx hb dX7_powerOf_53 rfl (lv_at hl 1 rfl) ?_
        refine lv_i2l (v := p0.toInt64) hx hb dX7_powerOf_54 rfl ?_
        refine lv_lrem hx hb dX7_powerOf_55 h_40 ?_
        refine lv_lstore (lv' := [(6, .long ((x6 * x6) - (x6 * x6) / p0.toInt64 * p0.toInt64)), (4, .long ((x4 * x6) - (x4 * x6) / p0.toInt64 * p0.toInt64)), (0, .int p0), (8, .long x8)]) hx hb dX7_powerOf_56 hl (by decide) rfl (fun ls hl => ?_)
        refine lv_lload hx hb dX7_powerOf_58 (lv_at hl 3 rfl) ?_
        refine lv_ldc2 (v := (2 : Int64)) hx hb hown (hts (.constantLong RX7 56 (2)) (by decide +kernel)) dX7_powerOf_60 ?_
        refine lv_ldiv hx hb dX7_powerOf_63 (by decide) ?_
        refine lv_lstore (lv' := [(8, .long (x8 / (2 : Int64))), (6, .long ((x6 * x6) - (x6 * x6) / p0.toInt64 * p0.toInt64)), (4, .long ((x4 * x6) - (x4 * x6) / p0.toInt64 * p0.toInt64)), (0, .int p0)]) hx hb dX7_powerOf_64 hl (by decide) rfl (fun ls hl => ?_)
        refine lv_goto (tgt := 15) hx hb dX7_powerOf_66 (by decide) ?_
        exact oJ15 _ _ _ hV _ (lv_sub hl [3, 2, 1, 0] rfl))
  have hl := lv_entry ([.int p0, .int p1, .long p2]) (n := 10) (Nat.le_of_ble_eq_true rfl)
  rw [lg_entry_eq]
  generalize (lg_sl ([.int p0, .int p1, .long p2]) ++ List.replicate (10 - (lg_sl ([.int p0, .int p1, .long p2])).length) Slot.unset).toArray = ls at hl ⊢
  have hl : lv_has ls 10 [(0, .int p0), (1, .int p1), (2, .long p2)] := hl
  refine lv_iconst (v := (1 : Int32)) hx hb dX7_powerOf_0 (by decide) ?_
  refine lv_iload_n hx hb dX7_powerOf_1 rfl (lv_at hl 0 rfl) ?_
  obtain ⟨h_2, hV⟩ := hV
  refine lv_irem hx hb dX7_powerOf_2 h_2 ?_
  refine lv_i2l (v := ((1 : Int32) - (1 : Int32) / p0 * p0).toInt64) hx hb dX7_powerOf_3 rfl ?_
  refine lv_lstore (lv' := [(4, .long (((1 : Int32) - (1 : Int32) / p0 * p0).toInt64)), (0, .int p0), (1, .int p1), (2, .long p2)]) hx hb dX7_powerOf_4 hl (by decide) rfl (fun ls hl => ?_)
  refine lv_iload_n hx hb dX7_powerOf_6 rfl (lv_at hl 2 rfl) ?_
  refine lv_iload_n hx hb dX7_powerOf_7 rfl (lv_at hl 1 rfl) ?_
  refine lv_irem hx hb dX7_powerOf_8 h_2 ?_
  refine lv_i2l (v := (p1 - p1 / p0 * p0).toInt64) hx hb dX7_powerOf_9 rfl ?_
  refine lv_lstore (lv' := [(6, .long ((p1 - p1 / p0 * p0).toInt64)), (4, .long (((1 : Int32) - (1 : Int32) / p0 * p0).toInt64)), (0, .int p0), (1, .int p1), (2, .long p2)]) hx hb dX7_powerOf_10 hl (by decide) rfl (fun ls hl => ?_)
  refine lv_lload_n hx hb dX7_powerOf_12 rfl (lv_at hl 4 rfl) ?_
  refine lv_lstore (lv' := [(8, .long p2), (6, .long ((p1 - p1 / p0 * p0).toInt64)), (4, .long (((1 : Int32) - (1 : Int32) / p0 * p0).toInt64)), (0, .int p0), (1, .int p1), (2, .long p2)]) hx hb dX7_powerOf_13 hl (by decide) rfl (fun ls hl => ?_)
  exact oJ15 _ _ _ hV _ (lv_sub hl [3, 2, 1, 0] rfl)
def post_X7_powerOf (p0 p1 : Int32) (p2 : Int64) (r : Int32) : Prop := r = nI (tn p1 ^ tl p2 % tn p0)
set_option maxRecDepth 4000 in
theorem spec_X7_powerOf (l : Launch) (p0 : Int32) (p1 : Int32) (p2 : Int64) (hpre : pre_X7_powerOf p0 p1 p2) : Met l yX7_powerOf wsX7_powerOf ({ frames := 0, cells := 0, slots := 0, locals := 0 } : Room) (va_Pc [.int p0, .int p1, .long p2] (fun _ => True)) (Qpi (post_X7_powerOf p0 p1 p2)) 0 0 noF := by
  apply met_X7_powerOf
  intro J hJ
  obtain ⟨h0, h1, h2⟩ := hpre
  obtain ⟨n, hn, rfl, hn2⟩ := of_i (x := p0) (by omega)
  obtain ⟨b, hb, rfl, -⟩ := of_i h1
  obtain ⟨e, he, rfl, he2⟩ := of_l h2
  have hn1 : 1 ≤ n := by omega
  rw [nI_l hn] at hJ
  have hz : ¬ lN n = 0 := lN_nz hn1 (by omega)
  have key : ∀ (E P S : Nat), E < 2 ^ 63 → P < n → S < n → P * S ^ E % n = b ^ e % n → J (lN P) (lN S) (lN E) := by
    intro E
    induction E using Nat.strongRecOn with
    | ind E ih =>
      intro P S hE hP hS hc
      refine hJ _ _ _ (ql_le E 0 (fun h0 => ?_) (fun h0 => ?_))
      · have : E = 0 := by omega
        subst this
        rw [Nat.pow_zero, Nat.mul_one, Nat.mod_eq_of_lt hP] at hc
        unfold post_X7_powerOf
        rw [lN_i, tn_nI hb, tl_lN he, tn_nI hn, hc]
      · have hSS := mul_lt62 hn hS hS
        have hPS := mul_lt62 hn hP hS
        have e2 : lN E - lN E / (2 : Int64) * (2 : Int64) = lN (E % 2) := pk_lRem (b := 2) hE (by decide) (by decide)
        have e3 : lN E / (2 : Int64) = lN (E / 2) := pk_lDiv (b := 2) hE (by decide) (by decide)
        rw [e2, e3, lN_mul, lN_mul, pk_lRem (by omega) hn1 (by omega), pk_lRem (by omega) hn1 (by omega)]
        refine ql_eq (E % 2) 1 (fun h5 => ⟨hz, ?_⟩) (fun h5 => ⟨hz, ?_⟩)
        · exact ih (E / 2) (by omega) _ _ (by omega) (Nat.mod_lt _ hn1) (Nat.mod_lt _ hn1) (by rw [pw_step_o h5]; exact hc)
        · exact ih (E / 2) (by omega) _ _ (by omega) hP (Nat.mod_lt _ hn1) (by rw [pw_step_e (by omega)]; exact hc)
  refine ⟨nI_nz hn1 hn, ?_⟩
  have e1 : ((1 : Int32) - (1 : Int32) / nI n * nI n) = nI (1 % n) := pk_rem (a := 1) (by decide) hn1 hn
  have l1 : 1 % n < 2 ^ 31 := Nat.lt_of_le_of_lt (Nat.mod_le 1 n) (by decide)
  have l2 : b % n < 2 ^ 31 := Nat.lt_of_le_of_lt (Nat.mod_le b n) hb
  rw [e1, pk_rem hb hn1 hn, nI_l l1, nI_l l2]
  exact key e _ _ he (Nat.mod_lt _ hn1) (Nat.mod_lt _ hn1) (by
    have : (1 % n) * (b % n) ^ e % n = 1 * b ^ e % n := md_mul (Nat.mod_mod _ _) (by rw [← Nat.pow_mod])
    rw [this, Nat.one_mul])
def pre_X7_orderOf (p0 p1 : Int32) : Prop := 2 ≤ p0.toInt ∧ 0 ≤ p1.toInt ∧ p1.toInt < p0.toInt ∧ Nat.Coprime (tn p0) (tn p1)
set_option maxHeartbeats 4000000 in
set_option maxRecDepth 100000 in
theorem met_X7_orderOf (l : Launch) (p0 : Int32) (p1 : Int32) (post : Int32 → Prop)
  (hV : ∀ (J6 : Int64 → Int32 → Prop),
    (∀ (x2 : Int64) (x4 : Int32), ((x2 = (1 : Int64) → post x4) ∧ (¬ x2 = (1 : Int64) → ¬ p0.toInt64 = 0 ∧ (J6 ((x2 * p1.toInt64) - (x2 * p1.toInt64) / p0.toInt64 * p0.toInt64) (x4 + 1)))) → J6 x2 x4) →
    J6 p1.toInt64 (1 : Int32)) :
  Met l yX7_orderOf wsX7_orderOf ({ frames := 0, cells := 0, slots := 0, locals := 0 } : Room) (va_Pc [.int p0, .int p1] (fun _ => True)) (Qpi post) 0 0 noF := by
  refine Met.ofW (cc := cX7_orderOf) (maxL := 5) (ret := (some .int)) (by decide) rfl ?_
  intro p e s m args below meth c s₁ B hml hv
  obtain ⟨rfl, -⟩ := hv
  have hx := B.exec
  have hb := B.bytes
  have hr := B.returns
  have hts := atoms_spec (ws := wsX7_orderOf) B.pre
  have hown : s.vm.findClass RX7 = some m.cls := findClass_of_methodNamed B.named
  have hlocks := B.notSynchronized
  obtain ⟨J6, iJ6, oJ6⟩ : ∃ J : Int64 → Int32 → Prop, (∀ (x2 : Int64) (x4 : Int32), (∀ ls : Array Slot, lv_has ls 5 [(0, .int p0), (1, .int p1), (2, .long x2), (4, .int x4)] → W p l e (headSpec wsX7_orderOf ({ frames := 0, cells := 0, slots := 0, locals := 0 } : Room)).room s m [.int p0, .int p1].toArray below meth c s.heap [] 0 0 (MQ below (Qpi post) [.int p0, .int p1].toArray s 0 0 noF) (F0 m 6 ls [])) → J x2 x4) ∧ (∀ (x2 : Int64) (x4 : Int32), J x2 x4 → (∀ ls : Array Slot, lv_has ls 5 [(0, .int p0), (1, .int p1), (2, .long x2), (4, .int x4)] → W p l e (headSpec wsX7_orderOf ({ frames := 0, cells := 0, slots := 0, locals := 0 } : Room)).room s m [.int p0, .int p1].toArray below meth c s.heap [] 0 0 (MQ below (Qpi post) [.int p0, .int p1].toArray s 0 0 noF) (F0 m 6 ls []))) := ⟨fun (x2 : Int64) (x4 : Int32) => (∀ ls : Array Slot, lv_has ls 5 [(0, .int p0), (1, .int p1), (2, .long x2), (4, .int x4)] → W p l e (headSpec wsX7_orderOf ({ frames := 0, cells := 0, slots := 0, locals := 0 } : Room)).room s m [.int p0, .int p1].toArray below meth c s.heap [] 0 0 (MQ below (Qpi post) [.int p0, .int p1].toArray s 0 0 noF) (F0 m 6 ls [])), fun _ _ h => h, fun _ _ h => h⟩
  have hV := hV J6
  replace hV := hV (by
    intro x2 x4 hV
    refine iJ6 x2 x4 ?_
    intro ls hl
    refine lv_lload_n hx hb dX7_orderOf_6 rfl (lv_at hl 2 rfl) ?_
    refine lv_lconst (v := (1 : Int64)) hx hb dX7_orderOf_7 (by decide) ?_
    refine lc_eq (tgt := 26) hx hb dX7_orderOf_8 dX7_orderOf_9 (by decide) (fun c_8 => ?_) (fun c_8 => ?_)
    · have hV := hV.1 c_8
      refine lv_iload hx hb dX7_orderOf_26 (lv_at hl 3 rfl) ?_
      exact W.iret (v := x4) hx hb hr (fun t ht hW => ⟨_, rfl, hV, ht⟩) (fun _ h => by cases h) dX7_orderOf_28
    · have hV := hV.2 c_8
      refine lv_lload_n hx hb dX7_orderOf_12 rfl (lv_at hl 2 rfl) ?_
      refine lv_iload_n hx hb dX7_orderOf_13 rfl (lv_at hl 1 rfl) ?_
      refine lv_i2l (v := p1.toInt64) hx hb dX7_orderOf_14 rfl ?_
      refine lv_lmul hx hb dX7_orderOf_15 ?_
      refine lv_iload_n hx hb dX7_orderOf_16 rfl (lv_at hl 0 rfl) ?_
      refine lv_i2l (v := p0.toInt64) hx hb dX7_orderOf_17 rfl ?_
      obtain ⟨h_18, hV⟩ := hV
      refine lv_lrem hx hb dX7_orderOf_18 h_18 ?_
      refine lv_lstore_n (lv' := [(2, .long ((x2 * p1.toInt64) - (x2 * p1.toInt64) / p0.toInt64 * p0.toInt64)), (0, .int p0), (1, .int p1), (4, .int x4)]) hx hb dX7_orderOf_19 rfl hl (by decide) rfl (fun ls hl => ?_)
      refine lv_iinc (v := x4 + 1) (lv' := [(4, .int (x4 + 1)), (2, .long ((x2 * p1.toInt64) - (x2 * p1.toInt64) / p0.toInt64 * p0.toInt64)), (0, .int p0), (1, .int p1)]) hx hb dX7_orderOf_20 hl (k := 3) rfl rfl (by decide) rfl (fun ls hl => ?_)
      refine lv_goto (tgt := 6) hx hb dX7_orderOf_23 (by decide) ?_
      exact oJ6 _ _ hV _ (lv_sub hl [2, 3, 1, 0] rfl))
  have hl := lv_entry ([.int p0, .int p1]) (n := 5) (Nat.le_of_ble_eq_true rfl)
  rw [lg_entry_eq]
  generalize (lg_sl ([.int p0, .int p1]) ++ List.replicate (5 - (lg_sl ([.int p0, .int p1])).length) Slot.unset).toArray = ls at hl ⊢
  have hl : lv_has ls 5 [(0, .int p0), (1, .int p1)] := hl
  refine lv_iload_n hx hb dX7_orderOf_0 rfl (lv_at hl 1 rfl) ?_
  refine lv_i2l (v := p1.toInt64) hx hb dX7_orderOf_1 rfl ?_
  refine lv_lstore_n (lv' := [(2, .long p1.toInt64), (0, .int p0), (1, .int p1)]) hx hb dX7_orderOf_2 rfl hl (by decide) rfl (fun ls hl => ?_)
  refine lv_iconst (v := (1 : Int32)) hx hb dX7_orderOf_3 (by decide) ?_
  refine lv_istore (lv' := [(4, .int (1 : Int32)), (2, .long p1.toInt64), (0, .int p0), (1, .int p1)]) hx hb dX7_orderOf_4 hl (by decide) rfl (fun ls hl => ?_)
  exact oJ6 _ _ hV _ (lv_sub hl [2, 3, 1, 0] rfl)
def post_X7_orderOf (p0 p1 r : Int32) : Prop := ∃ e, IsOrd (tn p0) (tn p1) e ∧ e ≤ tn p0 ∧ r = nI e
set_option maxRecDepth 4000 in
theorem spec_X7_orderOf (l : Launch) (p0 : Int32) (p1 : Int32) (hpre : pre_X7_orderOf p0 p1) : Met l yX7_orderOf wsX7_orderOf ({ frames := 0, cells := 0, slots := 0, locals := 0 } : Room) (va_Pc [.int p0, .int p1] (fun _ => True)) (Qpi (post_X7_orderOf p0 p1)) 0 0 noF := by
  apply met_X7_orderOf
  intro J hJ
  obtain ⟨h0, h1, h2, h3⟩ := hpre
  obtain ⟨n, hn, rfl, hn2⟩ := of_i (x := p0) (by omega)
  obtain ⟨a, ha, rfl, ha2⟩ := of_i h1
  rw [tn_nI hn, tn_nI ha] at h3
  have hn1 : 2 ≤ n := by omega
  have han : a < n := by omega
  obtain ⟨e, ho, hle⟩ := ord_ex (by omega) h3
  rw [nI_l hn, nI_l ha] at hJ
  have hz : ¬ lN n = 0 := lN_nz (by omega) (by omega)
  have h1n : 1 % n = 1 := Nat.mod_eq_of_lt hn1
  have key : ∀ d k : Nat, 1 ≤ k → k + d = e → J (lN (a ^ k % n)) (nI k) := by
    intro d
    induction d with
    | zero =>
      intro k hk hke
      have : k = e := by omega
      subst this
      refine hJ _ _ ⟨fun _ => ⟨k, by rw [tn_nI hn, tn_nI ha]; exact ho, by rw [tn_nI hn]; exact hle, rfl⟩, fun h => absurd ?_ h⟩
      rw [ho.2.1, h1n]
      rfl
    | succ d ih =>
      intro k hk hke
      have hlt := Nat.mod_lt (a ^ k) (show 0 < n by omega)
      refine hJ _ _ (ql_eq (a ^ k % n) 1 (fun h => ?_) (fun h => ⟨hz, ?_⟩))
      · exact absurd (h.trans h1n.symm) (ho.2.2 k hk (by omega))
      · have hb := mul_lt62 hn hlt han
        rw [lN_mul, pk_lRem (by omega) (by omega) (by omega), nI_1]
        have e1 : a ^ k % n * a % n = a ^ (k + 1) % n := by rw [Nat.mod_mul_mod, ← Nat.pow_succ]
        rw [e1]
        exact ih (k + 1) (by omega) (by omega)
  rw [nI_l ha]
  have := key (e - 1) 1 (by omega) (by have := ho.1; omega)
  rwa [Nat.pow_one, Nat.mod_eq_of_lt han] at this
def pre_X4_commonMultiple (p0 p1 : Int32) : Prop := 0 ≤ p0.toInt ∧ 0 ≤ p1.toInt ∧ Nat.lcm (tn p0) (tn p1) < 2 ^ 31
set_option maxHeartbeats 4000000 in
set_option maxRecDepth 100000 in
theorem met_X4_commonMultiple (l : Launch) (p0 : Int32) (p1 : Int32) (post : Int32 → Prop)
  (hV : pre_X4_commonDivisor p0 p1 ∧ (∀ r2 : Int32, post_X4_commonDivisor p0 p1 r2 → (((1 : Int32) ≤ r2 → ¬ r2 = 0 ∧ (post ((p0 / r2) * p1))) ∧ (¬ (1 : Int32) ≤ r2 → post (0 : Int32))))) :
  Met l yX4_commonMultiple wsX4_commonMultiple ({ frames := 1, cells := 0, slots := 0, locals := 25 } : Room) (va_Pc [.int p0, .int p1] (fun _ => True)) (Qpi post) 0 0 noF := by
  refine Met.ofW (cc := cX4_commonMultiple) (maxL := 3) (ret := (some .int)) (by decide) rfl ?_
  intro p e s m args below meth c s₁ B hml hv
  obtain ⟨rfl, -⟩ := hv
  have hx := B.exec
  have hb := B.bytes
  have hr := B.returns
  have hts := atoms_spec (ws := wsX4_commonMultiple) B.pre
  have hown : s.vm.findClass RX4 = some m.cls := findClass_of_methodNamed B.named
  have hlocks := B.notSynchronized
  have hl := lv_entry ([.int p0, .int p1]) (n := 3) (Nat.le_of_ble_eq_true rfl)
  rw [lg_entry_eq]
  generalize (lg_sl ([.int p0, .int p1]) ++ List.replicate (3 - (lg_sl ([.int p0, .int p1])).length) Slot.unset).toArray = ls at hl ⊢
  have hl : lv_has ls 3 [(0, .int p0), (1, .int p1)] := hl
  refine lv_iload_n hx hb dX4_commonMultiple_0 rfl (lv_at hl 0 rfl) ?_
  refine lv_iload_n hx hb dX4_commonMultiple_1 rfl (lv_at hl 1 rfl) ?_
  obtain ⟨h_2, hV⟩ := hV
  refine cp_i (va_runS (As := [.int p0, .int p1]) (rest := []) ⟨hx, hb, hml, hown, hts⟩ (spec_X4_commonDivisor l p0 p1 h_2) (va_cwS 2 hts gX4_commonMultiple_X4_commonDivisor rfl rfl rfl (by decide +kernel) ⟨Nat.le_of_ble_eq_true rfl, Nat.le_of_ble_eq_true rfl⟩) cp_pre rfl rfl hl.1 rfl (lv_room (Nat.le_of_ble_eq_true rfl)) dX4_commonMultiple_2 ⟨Nat.zero_le _, Nat.zero_le _⟩) (fun r2 q_2 => ?_)
  have hV := hV r2 q_2
  refine lv_istore_n (lv' := [(2, .int r2), (0, .int p0), (1, .int p1)]) hx hb dX4_commonMultiple_5 rfl hl (by decide) rfl (fun ls hl => ?_)
  refine lv_iload_n hx hb dX4_commonMultiple_6 rfl (lv_at hl 0 rfl) ?_
  refine lv_iconst (v := (1 : Int32)) hx hb dX4_commonMultiple_7 (by decide) ?_
  refine lv_icmp_ge (tgt := 15) hx hb dX4_commonMultiple_8 (by decide) (fun c_8 => ?_) (fun c_8 => ?_)
  · have hV := hV.1 c_8
    refine lv_iload_n hx hb dX4_commonMultiple_15 rfl (lv_at hl 1 rfl) ?_
    refine lv_iload_n hx hb dX4_commonMultiple_16 rfl (lv_at hl 0 rfl) ?_
    obtain ⟨h_17, hV⟩ := hV
    refine lv_idiv hx hb dX4_commonMultiple_17 h_17 ?_
    refine lv_iload_n hx hb dX4_commonMultiple_18 rfl (lv_at hl 2 rfl) ?_
    refine lv_imul hx hb dX4_commonMultiple_19 ?_
    exact W.iret (v := (p0 / r2) * p1) hx hb hr (fun t ht hW => ⟨_, rfl, hV, ht⟩) (fun _ h => by cases h) dX4_commonMultiple_20
  · have hV := hV.2 c_8
    refine lv_iconst (v := (0 : Int32)) hx hb dX4_commonMultiple_11 (by decide) ?_
    refine lv_goto (tgt := 20) hx hb dX4_commonMultiple_12 (by decide) ?_
    exact W.iret (v := (0 : Int32)) hx hb hr (fun t ht hW => ⟨_, rfl, hV, ht⟩) (fun _ h => by cases h) dX4_commonMultiple_20
def post_X4_commonMultiple (p0 p1 r : Int32) : Prop := r = nI (Nat.lcm (tn p0) (tn p1))
theorem lcm_by {a b : Nat} (h : 0 < Nat.gcd a b) : a / Nat.gcd a b * b = Nat.lcm a b := by
  obtain ⟨t, ht⟩ := Nat.gcd_dvd_left a b
  have h1 : a / Nat.gcd a b = t := by
    have : Nat.gcd a b * t / Nat.gcd a b = t := Nat.mul_div_cancel_left t h
    rwa [← ht] at this
  rw [h1]
  apply Nat.eq_of_mul_eq_mul_left h
  rw [Nat.gcd_mul_lcm, ← Nat.mul_assoc, ← ht]
set_option maxRecDepth 4000 in
theorem spec_X4_commonMultiple (l : Launch) (p0 : Int32) (p1 : Int32) (hpre : pre_X4_commonMultiple p0 p1) : Met l yX4_commonMultiple wsX4_commonMultiple ({ frames := 1, cells := 0, slots := 0, locals := 25 } : Room) (va_Pc [.int p0, .int p1] (fun _ => True)) (Qpi (post_X4_commonMultiple p0 p1)) 0 0 noF := by
  apply met_X4_commonMultiple
  refine ⟨⟨hpre.1, hpre.2.1⟩, fun r hr => ?_⟩
  obtain ⟨a, ha, rfl, -⟩ := of_i hpre.1
  obtain ⟨b, hb, rfl, -⟩ := of_i hpre.2.1
  have h3 := hpre.2.2
  unfold post_X4_commonDivisor at hr
  unfold post_X4_commonMultiple
  rw [tn_nI ha, tn_nI hb] at *
  have hg : Nat.gcd a b < 2 ^ 31 := by
    rcases Nat.eq_zero_or_pos a with h0 | h0
    · rw [h0, Nat.gcd_zero_left]; exact hb
    · exact Nat.lt_of_le_of_lt (Nat.gcd_le_left b h0) ha
  subst hr
  refine pk_le 1 (Nat.gcd a b) (fun h => ⟨nI_nz h hg, ?_⟩) (fun h => ?_)
  · rw [pk_div ha h hg, pk_mul, lcm_by h]
  · have h0 : Nat.gcd a b = 0 := by omega
    obtain ⟨rfl, rfl⟩ := Nat.gcd_eq_zero_iff.mp h0
    rfl
def pre_X4_isPrime (p0 : Int32) : Prop := p0.toInt < 1000000
set_option maxHeartbeats 4000000 in
set_option maxRecDepth 100000 in
theorem met_X4_isPrime (l : Launch) (p0 : Int32) (post : Int32 → Prop)
  (hV : ∀ (J2 : Int32 → Prop),
    (∀ (x1 : Int32), (((1000 : Int32) ≤ x1 → ((p0 ≤ (1 : Int32) → post (0 : Int32)) ∧ (¬ p0 ≤ (1 : Int32) → post (1 : Int32)))) ∧ (¬ (1000 : Int32) ≤ x1 → ((p0 < (x1 * x1) → ((p0 ≤ (1 : Int32) → post (0 : Int32)) ∧ (¬ p0 ≤ (1 : Int32) → post (1 : Int32)))) ∧ (¬ p0 < (x1 * x1) → ¬ x1 = 0 ∧ ((((p0 - p0 / x1 * x1) = 0 → post (0 : Int32)) ∧ (¬ (p0 - p0 / x1 * x1) = 0 → J2 (x1 + 1)))))))) → J2 x1) →
    J2 (2 : Int32)) :
  Met l yX4_isPrime wsX4_isPrime ({ frames := 0, cells := 0, slots := 0, locals := 0 } : Room) (va_Pc [.int p0] (fun _ => True)) (Qpi post) 0 0 noF := by
  refine Met.ofW (cc := cX4_isPrime) (maxL := 2) (ret := (some .boolean)) (by decide) rfl ?_
  intro p e s m args below meth c s₁ B hml hv
  obtain ⟨rfl, -⟩ := hv
  have hx := B.exec
  have hb := B.bytes
  have hr := B.returns
  have hts := atoms_spec (ws := wsX4_isPrime) B.pre
  have hown : s.vm.findClass RX4 = some m.cls := findClass_of_methodNamed B.named
  have hlocks := B.notSynchronized
  obtain ⟨J2, iJ2, oJ2⟩ : ∃ J : Int32 → Prop, (∀ (x1 : Int32), (∀ ls : Array Slot, lv_has ls 2 [(0, .int p0), (1, .int x1)] → W p l e (headSpec wsX4_isPrime ({ frames := 0, cells := 0, slots := 0, locals := 0 } : Room)).room s m [.int p0].toArray below meth c s.heap [] 0 0 (MQ below (Qpi post) [.int p0].toArray s 0 0 noF) (F0 m 2 ls [])) → J x1) ∧ (∀ (x1 : Int32), J x1 → (∀ ls : Array Slot, lv_has ls 2 [(0, .int p0), (1, .int x1)] → W p l e (headSpec wsX4_isPrime ({ frames := 0, cells := 0, slots := 0, locals := 0 } : Room)).room s m [.int p0].toArray below meth c s.heap [] 0 0 (MQ below (Qpi post) [.int p0].toArray s 0 0 noF) (F0 m 2 ls []))) := ⟨fun (x1 : Int32) => (∀ ls : Array Slot, lv_has ls 2 [(0, .int p0), (1, .int x1)] → W p l e (headSpec wsX4_isPrime ({ frames := 0, cells := 0, slots := 0, locals := 0 } : Room)).room s m [.int p0].toArray below meth c s.heap [] 0 0 (MQ below (Qpi post) [.int p0].toArray s 0 0 noF) (F0 m 2 ls [])), fun _ h => h, fun _ h => h⟩
  have hV := hV J2
  replace hV := hV (by
    intro x1 hV
    refine iJ2 x1 ?_
    intro ls hl
    refine lv_iload_n hx hb dX4_isPrime_2 rfl (lv_at hl 1 rfl) ?_
    refine lv_sipush (v := (1000 : Int32)) hx hb dX4_isPrime_3 (by decide) ?_
    refine lv_icmp_ge (tgt := 30) hx hb dX4_isPrime_6 (by decide) (fun c_6 => ?_) (fun c_6 => ?_)
    · have hV := hV.1 c_6
      refine lv_iload_n hx hb dX4_isPrime_30 rfl (lv_at hl 0 rfl) ?_
      refine lv_iconst (v := (1 : Int32)) hx hb dX4_isPrime_31 (by decide) ?_
      refine lv_icmp_le (tgt := 39) hx hb dX4_isPrime_32 (by decide) (fun c_32 => ?_) (fun c_32 => ?_)
      · have hV := hV.1 c_32
        refine lv_iconst (v := (0 : Int32)) hx hb dX4_isPrime_39 (by decide) ?_
        exact W.zret (v := (0 : Int32)) hx hb hr rfl (fun t ht hW => ⟨_, rfl, hV, ht⟩) (fun _ h => by cases h) dX4_isPrime_40
      · have hV := hV.2 c_32
        refine lv_iconst (v := (1 : Int32)) hx hb dX4_isPrime_35 (by decide) ?_
        refine lv_goto (tgt := 40) hx hb dX4_isPrime_36 (by decide) ?_
        exact W.zret (v := (1 : Int32)) hx hb hr rfl (fun t ht hW => ⟨_, rfl, hV, ht⟩) (fun _ h => by cases h) dX4_isPrime_40
    · have hV := hV.2 c_6
      refine lv_iload_n hx hb dX4_isPrime_9 rfl (lv_at hl 1 rfl) ?_
      refine lv_iload_n hx hb dX4_isPrime_10 rfl (lv_at hl 1 rfl) ?_
      refine lv_imul hx hb dX4_isPrime_11 ?_
      refine lv_iload_n hx hb dX4_isPrime_12 rfl (lv_at hl 0 rfl) ?_
      refine lv_icmp_gt (tgt := 30) hx hb dX4_isPrime_13 (by decide) (fun c_13 => ?_) (fun c_13 => ?_)
      · have hV := hV.1 c_13
        refine lv_iload_n hx hb dX4_isPrime_30 rfl (lv_at hl 0 rfl) ?_
        refine lv_iconst (v := (1 : Int32)) hx hb dX4_isPrime_31 (by decide) ?_
        refine lv_icmp_le (tgt := 39) hx hb dX4_isPrime_32 (by decide) (fun c_32 => ?_) (fun c_32 => ?_)
        · have hV := hV.1 c_32
          refine lv_iconst (v := (0 : Int32)) hx hb dX4_isPrime_39 (by decide) ?_
          exact W.zret (v := (0 : Int32)) hx hb hr rfl (fun t ht hW => ⟨_, rfl, hV, ht⟩) (fun _ h => by cases h) dX4_isPrime_40
        · have hV := hV.2 c_32
          refine lv_iconst (v := (1 : Int32)) hx hb dX4_isPrime_35 (by decide) ?_
          refine lv_goto (tgt := 40) hx hb dX4_isPrime_36 (by decide) ?_
          exact W.zret (v := (1 : Int32)) hx hb hr rfl (fun t ht hW => ⟨_, rfl, hV, ht⟩) (fun _ h => by cases h) dX4_isPrime_40
      · have hV := hV.2 c_13
        refine lv_iload_n hx hb dX4_isPrime_16 rfl (lv_at hl 0 rfl) ?_
        refine lv_iload_n hx hb dX4_isPrime_17 rfl (lv_at hl 1 rfl) ?_
        obtain ⟨h_18, hV⟩ := hV
        refine lv_irem hx hb dX4_isPrime_18 h_18 ?_
        refine lv_if_ne (tgt := 24) hx hb dX4_isPrime_19 (by decide) (fun c_19 => ?_) (fun c_19 => ?_)
        · have hV := hV.2 c_19
          refine lv_iinc (v := x1 + 1) (lv' := [(1, .int (x1 + 1)), (0, .int p0)]) hx hb dX4_isPrime_24 hl (k := 1) rfl rfl (by decide) rfl (fun ls hl => ?_)
          refine lv_goto (tgt := 2) hx hb dX4_isPrime_27 (by decide) ?_
          exact oJ2 _ hV _ (lv_sub hl [1, 0] rfl)
        · have hV := hV.1 c_19
          refine lv_iconst (v := (0 : Int32)) hx hb dX4_isPrime_22 (by decide) ?_
          exact W.zret (v := (0 : Int32)) hx hb hr rfl (fun t ht hW => ⟨_, rfl, hV, ht⟩) (fun _ h => by cases h) dX4_isPrime_23)
  have hl := lv_entry ([.int p0]) (n := 2) (Nat.le_of_ble_eq_true rfl)
  rw [lg_entry_eq]
  generalize (lg_sl ([.int p0]) ++ List.replicate (2 - (lg_sl ([.int p0])).length) Slot.unset).toArray = ls at hl ⊢
  have hl : lv_has ls 2 [(0, .int p0)] := hl
  refine lv_iconst (v := (2 : Int32)) hx hb dX4_isPrime_0 (by decide) ?_
  refine lv_istore_n (lv' := [(1, .int (2 : Int32)), (0, .int p0)]) hx hb dX4_isPrime_1 rfl hl (by decide) rfl (fun ls hl => ?_)
  exact oJ2 _ hV _ (lv_sub hl [1, 0] rfl)
def post_X4_isPrime (p0 r : Int32) : Prop := r = zb (Pr (tn p0))
theorem tn_neg {x : Int32} (h : x.toInt ≤ 0) : tn x = 0 := by
  show x.toInt.toNat = 0
  omega
theorem npr_small {n : Nat} (h : n ≤ 1) : ¬ Pr n := fun q => by have := q.1; omega
set_option maxRecDepth 4000 in
theorem spec_X4_isPrime (l : Launch) (p0 : Int32) (hpre : pre_X4_isPrime p0) : Met l yX4_isPrime wsX4_isPrime ({ frames := 0, cells := 0, slots := 0, locals := 0 } : Room) (va_Pc [.int p0] (fun _ => True)) (Qpi (post_X4_isPrime p0)) 0 0 noF := by
  apply met_X4_isPrime
  intro J hJ
  by_cases hs : p0.toInt ≤ 1
  · have hp : post_X4_isPrime p0 0 := by
      refine (zb_f (npr_small ?_)).symm
      show p0.toInt.toNat ≤ 1
      omega
    have h1 : p0 ≤ 1 := i_le.mpr hs
    have h4 : p0 < 2 * 2 := i_lt.mpr (show p0.toInt < 4 by omega)
    exact hJ _ ⟨fun h => absurd h (by decide), fun _ => ⟨fun _ => ⟨fun _ => hp, fun h => absurd h1 h⟩, fun h => absurd h4 h⟩⟩
  · obtain ⟨n, hn, rfl, hn2⟩ := of_i (x := p0) (by omega)
    have hb : n < 1000000 := by unfold pre_X4_isPrime at hpre; omega
    have h2 : 2 ≤ n := by omega
    have fin : ∀ k : Nat, (∀ p, 2 ≤ p → p < k → ¬ p ∣ n) → n < k * k → ((nI n ≤ (1 : Int32) → post_X4_isPrime (nI n) 0) ∧ (¬ nI n ≤ (1 : Int32) → post_X4_isPrime (nI n) 1)) := by
      intro k hk hkk
      refine pk_le n 1 (fun h => absurd h (by omega)) (fun _ => (zb_t ?_).symm)
      rw [tn_nI hn]
      refine pr_trial h2 (fun p h3 h4 => hk p h3 ?_)
      apply Classical.byContradiction
      intro hc
      have : k * k ≤ p * p := Nat.mul_le_mul (by omega) (by omega)
      omega
    have key : ∀ d k : Nat, k + d = 1000 → 2 ≤ k → (∀ p, 2 ≤ p → p < k → ¬ p ∣ n) → J (nI k) := by
      intro d
      induction d with
      | zero =>
        intro k hk _ hi
        have : k = 1000 := by omega
        subst this
        exact hJ _ ⟨fun _ => fin 1000 hi (by omega), fun h => absurd (show (1000 : Int32) ≤ nI 1000 by decide) h⟩
      | succ d ih =>
        intro k hk hk2 hi
        have hkk : k * k ≤ 1000 * 1000 := Nat.mul_le_mul (by omega) (by omega)
        refine hJ _ (pk_le 1000 k (fun h => absurd h (by omega)) (fun _ => ?_))
        rw [pk_mul, nI_1, pk_rem hn (by omega) (by omega)]
        refine pk_lt n (k * k) (fun h => fin k hi h) (fun h => ⟨nI_nz (by omega) (by omega), ?_⟩)
        refine pk_eq (n % k) 0 (fun h0 => (zb_f ?_).symm) (fun h0 => ?_) rfl rfl (Nat.lt_of_le_of_lt (Nat.mod_le n k) hn)
        · rw [tn_nI hn]
          exact not_pr_of hk2 h (Nat.dvd_of_mod_eq_zero h0)
        · refine ih (k + 1) (by omega) (by omega) (fun p h3 h4 => ?_)
          by_cases hpk : p = k
          · subst hpk
            exact fun hd => h0 (Nat.mod_eq_zero_of_dvd hd)
          · exact hi p h3 (by omega)
    exact key 998 2 rfl (by omega) (fun p h3 h4 => by omega)
def pre_X7_isPrime (p0 : Int32) : Prop := p0.toInt < 1000000
set_option maxHeartbeats 4000000 in
set_option maxRecDepth 100000 in
theorem met_X7_isPrime (l : Launch) (p0 : Int32) (post : Int32 → Prop)
  (hV : ∀ (J13 : Int32 → Int32 → Prop),
    (∀ (x1 : Int32) (x2 : Int32), ((p0 < (x2 * x2) → (x1 = 0 ∨ x1 = 1) ∧ post x1) ∧ (¬ p0 < (x2 * x2) → ((x1 = 0 → (x1 = 0 ∨ x1 = 1) ∧ post x1) ∧ (¬ x1 = 0 → ¬ x2 = 0 ∧ ((((p0 - p0 / x2 * x2) = 0 → J13 (0 : Int32) (x2 + 1)) ∧ (¬ (p0 - p0 / x2 * x2) = 0 → J13 (1 : Int32) (x2 + 1)))))))) → J13 x1 x2) →
    ((p0 ≤ (1 : Int32) → J13 (0 : Int32) (2 : Int32)) ∧ (¬ p0 ≤ (1 : Int32) → J13 (1 : Int32) (2 : Int32)))) :
  Met l yX7_isPrime wsX7_isPrime ({ frames := 0, cells := 0, slots := 0, locals := 0 } : Room) (va_Pc [.int p0] (fun _ => True)) (Qpi post) 0 0 noF := by
  refine Met.ofW (cc := cX7_isPrime) (maxL := 3) (ret := (some .boolean)) (by decide) rfl ?_
  intro p e s m args below meth c s₁ B hml hv
  obtain ⟨rfl, -⟩ := hv
  have hx := B.exec
  have hb := B.bytes
  have hr := B.returns
  have hts := atoms_spec (ws := wsX7_isPrime) B.pre
  have hown : s.vm.findClass RX7 = some m.cls := findClass_of_methodNamed B.named
  have hlocks := B.notSynchronized
  obtain ⟨J13, iJ13, oJ13⟩ : ∃ J : Int32 → Int32 → Prop, (∀ (x1 : Int32) (x2 : Int32), (∀ ls : Array Slot, lv_has ls 3 [(0, .int p0), (1, .int x1), (2, .int x2)] → W p l e (headSpec wsX7_isPrime ({ frames := 0, cells := 0, slots := 0, locals := 0 } : Room)).room s m [.int p0].toArray below meth c s.heap [] 0 0 (MQ below (Qpi post) [.int p0].toArray s 0 0 noF) (F0 m 13 ls [])) → J x1 x2) ∧ (∀ (x1 : Int32) (x2 : Int32), J x1 x2 → (∀ ls : Array Slot, lv_has ls 3 [(0, .int p0), (1, .int x1), (2, .int x2)] → W p l e (headSpec wsX7_isPrime ({ frames := 0, cells := 0, slots := 0, locals := 0 } : Room)).room s m [.int p0].toArray below meth c s.heap [] 0 0 (MQ below (Qpi post) [.int p0].toArray s 0 0 noF) (F0 m 13 ls []))) := ⟨fun (x1 : Int32) (x2 : Int32) => (∀ ls : Array Slot, lv_has ls 3 [(0, .int p0), (1, .int x1), (2, .int x2)] → W p l e (headSpec wsX7_isPrime ({ frames := 0, cells := 0, slots := 0, locals := 0 } : Room)).room s m [.int p0].toArray below meth c s.heap [] 0 0 (MQ below (Qpi post) [.int p0].toArray s 0 0 noF) (F0 m 13 ls [])), fun _ _ h => h, fun _ _ h => h⟩
  have hV := hV J13
  replace hV := hV (by
    intro x1 x2 hV
    refine iJ13 x1 x2 ?_
    intro ls hl
    refine lv_iload_n hx hb dX7_isPrime_13 rfl (lv_at hl 2 rfl) ?_
    refine lv_iload_n hx hb dX7_isPrime_14 rfl (lv_at hl 2 rfl) ?_
    refine lv_imul hx hb dX7_isPrime_15 ?_
    refine lv_iload_n hx hb dX7_isPrime_16 rfl (lv_at hl 0 rfl) ?_
    refine lv_icmp_gt (tgt := 42) hx hb dX7_isPrime_17 (by decide) (fun c_17 => ?_) (fun c_17 => ?_)
    · have hV := hV.1 c_17
      refine lv_iload_n hx hb dX7_isPrime_42 rfl (lv_at hl 1 rfl) ?_
      obtain ⟨h_43, hV⟩ := hV
      exact W.zret (v := x1) hx hb hr (zr_nar h_43) (fun t ht hW => ⟨_, rfl, hV, ht⟩) (fun _ h => by cases h) dX7_isPrime_43
    · have hV := hV.2 c_17
      refine lv_iload_n hx hb dX7_isPrime_20 rfl (lv_at hl 1 rfl) ?_
      refine lv_if_eq (tgt := 42) hx hb dX7_isPrime_21 (by decide) (fun c_21 => ?_) (fun c_21 => ?_)
      · have hV := hV.1 c_21
        refine lv_iload_n hx hb dX7_isPrime_42 rfl (lv_at hl 1 rfl) ?_
        obtain ⟨h_43, hV⟩ := hV
        exact W.zret (v := x1) hx hb hr (zr_nar h_43) (fun t ht hW => ⟨_, rfl, hV, ht⟩) (fun _ h => by cases h) dX7_isPrime_43
      · have hV := hV.2 c_21
        refine lv_iload_n hx hb dX7_isPrime_24 rfl (lv_at hl 0 rfl) ?_
        refine lv_iload_n hx hb dX7_isPrime_25 rfl (lv_at hl 2 rfl) ?_
        obtain ⟨h_26, hV⟩ := hV
        refine lv_irem hx hb dX7_isPrime_26 h_26 ?_
        refine lv_if_eq (tgt := 34) hx hb dX7_isPrime_27 (by decide) (fun c_27 => ?_) (fun c_27 => ?_)
        · have hV := hV.1 c_27
          refine lv_iconst (v := (0 : Int32)) hx hb dX7_isPrime_34 (by decide) ?_
          refine lv_istore_n (lv' := [(1, .int (0 : Int32)), (0, .int p0), (2, .int x2)]) hx hb dX7_isPrime_35 rfl hl (by decide) rfl (fun ls hl => ?_)
          refine lv_iinc (v := x2 + 1) (lv' := [(2, .int (x2 + 1)), (1, .int (0 : Int32)), (0, .int p0)]) hx hb dX7_isPrime_36 hl (k := 2) rfl rfl (by decide) rfl (fun ls hl => ?_)
          refine lv_goto (tgt := 13) hx hb dX7_isPrime_39 (by decide) ?_
          exact oJ13 _ _ hV _ (lv_sub hl [2, 1, 0] rfl)
        · have hV := hV.2 c_27
          refine lv_iconst (v := (1 : Int32)) hx hb dX7_isPrime_30 (by decide) ?_
          refine lv_goto (tgt := 35) hx hb dX7_isPrime_31 (by decide) ?_
          refine lv_istore_n (lv' := [(1, .int (1 : Int32)), (0, .int p0), (2, .int x2)]) hx hb dX7_isPrime_35 rfl hl (by decide) rfl (fun ls hl => ?_)
          refine lv_iinc (v := x2 + 1) (lv' := [(2, .int (x2 + 1)), (1, .int (1 : Int32)), (0, .int p0)]) hx hb dX7_isPrime_36 hl (k := 2) rfl rfl (by decide) rfl (fun ls hl => ?_)
          refine lv_goto (tgt := 13) hx hb dX7_isPrime_39 (by decide) ?_
          exact oJ13 _ _ hV _ (lv_sub hl [2, 1, 0] rfl))
  have hl := lv_entry ([.int p0]) (n := 3) (Nat.le_of_ble_eq_true rfl)
  rw [lg_entry_eq]
  generalize (lg_sl ([.int p0]) ++ List.replicate (3 - (lg_sl ([.int p0])).length) Slot.unset).toArray = ls at hl ⊢
  have hl : lv_has ls 3 [(0, .int p0)] := hl
  refine lv_iload_n hx hb dX7_isPrime_0 rfl (lv_at hl 0 rfl) ?_
  refine lv_iconst (v := (1 : Int32)) hx hb dX7_isPrime_1 (by decide) ?_
  refine lv_icmp_le (tgt := 9) hx hb dX7_isPrime_2 (by decide) (fun c_2 => ?_) (fun c_2 => ?_)
  · have hV := hV.1 c_2
    refine lv_iconst (v := (0 : Int32)) hx hb dX7_isPrime_9 (by decide) ?_
    refine lv_istore_n (lv' := [(1, .int (0 : Int32)), (0, .int p0)]) hx hb dX7_isPrime_10 rfl hl (by decide) rfl (fun ls hl => ?_)
    refine lv_iconst (v := (2 : Int32)) hx hb dX7_isPrime_11 (by decide) ?_
    refine lv_istore_n (lv' := [(2, .int (2 : Int32)), (1, .int (0 : Int32)), (0, .int p0)]) hx hb dX7_isPrime_12 rfl hl (by decide) rfl (fun ls hl => ?_)
    exact oJ13 _ _ hV _ (lv_sub hl [2, 1, 0] rfl)
  · have hV := hV.2 c_2
    refine lv_iconst (v := (1 : Int32)) hx hb dX7_isPrime_5 (by decide) ?_
    refine lv_goto (tgt := 10) hx hb dX7_isPrime_6 (by decide) ?_
    refine lv_istore_n (lv' := [(1, .int (1 : Int32)), (0, .int p0)]) hx hb dX7_isPrime_10 rfl hl (by decide) rfl (fun ls hl => ?_)
    refine lv_iconst (v := (2 : Int32)) hx hb dX7_isPrime_11 (by decide) ?_
    refine lv_istore_n (lv' := [(2, .int (2 : Int32)), (1, .int (1 : Int32)), (0, .int p0)]) hx hb dX7_isPrime_12 rfl hl (by decide) rfl (fun ls hl => ?_)
    exact oJ13 _ _ hV _ (lv_sub hl [2, 1, 0] rfl)
def post_X7_isPrime (p0 r : Int32) : Prop := r = zb (Pr (tn p0))
set_option maxRecDepth 4000 in
theorem spec_X7_isPrime (l : Launch) (p0 : Int32) (hpre : pre_X7_isPrime p0) : Met l yX7_isPrime wsX7_isPrime ({ frames := 0, cells := 0, slots := 0, locals := 0 } : Room) (va_Pc [.int p0] (fun _ => True)) (Qpi (post_X7_isPrime p0)) 0 0 noF := by
  apply met_X7_isPrime
  intro J hJ
  by_cases hs : p0.toInt ≤ 1
  · have hp : post_X7_isPrime p0 0 := by
      refine (zb_f (npr_small ?_)).symm
      show p0.toInt.toNat ≤ 1
      omega
    have h1 : p0 ≤ 1 := i_le.mpr hs
    have h4 : p0 < 2 * 2 := i_lt.mpr (show p0.toInt < 4 by omega)
    exact ⟨fun _ => hJ _ _ ⟨fun _ => ⟨Or.inl rfl, hp⟩, fun h => absurd h4 h⟩, fun h => absurd h1 h⟩
  · obtain ⟨n, hn, rfl, hn2⟩ := of_i (x := p0) (by omega)
    have hb : n < 1000000 := by unfold pre_X7_isPrime at hpre; omega
    have h2 : 2 ≤ n := by omega
    have hno : ∀ k : Nat, k ≤ 1001 → ¬ Pr n → J 0 (nI k) := by
      intro k hk hp
      have hq : post_X7_isPrime (nI n) 0 := by
        refine (zb_f ?_).symm
        rw [tn_nI hn]; exact hp
      exact hJ _ _ ⟨fun _ => ⟨Or.inl rfl, hq⟩, fun _ => ⟨fun _ => ⟨Or.inl rfl, hq⟩, fun h => absurd rfl h⟩⟩
    have key : ∀ d k : Nat, k + d = 1001 → 2 ≤ k → (∀ p, 2 ≤ p → p < k → ¬ p ∣ n) → J 1 (nI k) := by
      intro d
      have fin : ∀ k : Nat, (∀ p, 2 ≤ p → p < k → ¬ p ∣ n) → n < k * k → post_X7_isPrime (nI n) 1 := by
        intro k hk hkk
        refine (zb_t ?_).symm
        rw [tn_nI hn]
        refine pr_trial h2 (fun p h3 h4 => hk p h3 ?_)
        apply Classical.byContradiction
        intro hc
        have : k * k ≤ p * p := Nat.mul_le_mul (by omega) (by omega)
        omega
      induction d with
      | zero =>
        intro k hk hk2 hi
        have : k = 1001 := by omega
        subst this
        refine hJ _ _ ?_
        rw [pk_mul]
        exact pk_lt n (1001 * 1001) (fun h => ⟨Or.inr rfl, fin 1001 hi h⟩) (fun h => absurd h (by omega))
      | succ d ih =>
        intro k hk hk2 hi
        have hkk : k * k ≤ 1001 * 1001 := Nat.mul_le_mul (by omega) (by omega)
        refine hJ _ _ ?_
        rw [pk_mul, nI_1, pk_rem hn (by omega) (by omega)]
        refine pk_lt n (k * k) (fun h => ⟨Or.inr rfl, fin k hi h⟩) (fun h => ⟨fun h => absurd h (by decide), fun _ => ⟨nI_nz (by omega) (by omega), ?_⟩⟩)
        refine pk_eq (n % k) 0 (fun h0 => hno (k + 1) (by omega) (not_pr_of hk2 h (Nat.dvd_of_mod_eq_zero h0))) (fun h0 => ?_) rfl rfl (Nat.lt_of_le_of_lt (Nat.mod_le n k) hn)
        refine ih (k + 1) (by omega) (by omega) (fun p h3 h4 => ?_)
        by_cases hpk : p = k
        · subst hpk
          exact fun hd => h0 (Nat.mod_eq_zero_of_dvd hd)
        · exact hi p h3 (by omega)
    exact pk_le n 1 (fun h => absurd h (by omega)) (fun _ => key 999 2 rfl (by omega) (fun p h3 h4 => by omega))
