def st1 (x : Int64) : Int64 := x - (((x.toUInt64 >>> ((1 : Int32).toInt64.toUInt64 &&& Int64.toUInt64 63)).toInt64) &&& (6148914691236517205 : Int64))
def st2 (x : Int64) : Int64 := (x &&& (3689348814741910323 : Int64)) + (((x.toUInt64 >>> ((2 : Int32).toInt64.toUInt64 &&& Int64.toUInt64 63)).toInt64) &&& (3689348814741910323 : Int64))
def st3 (x : Int64) : Int64 := (x + (x.toUInt64 >>> ((4 : Int32).toInt64.toUInt64 &&& Int64.toUInt64 63)).toInt64) &&& (1085102592571150095 : Int64)
def st4 (x : Int64) : Int64 := x + (x.toUInt64 >>> ((8 : Int32).toInt64.toUInt64 &&& Int64.toUInt64 63)).toInt64
def st5 (x : Int64) : Int64 := x + (x.toUInt64 >>> ((16 : Int32).toInt64.toUInt64 &&& Int64.toUInt64 63)).toInt64
def st6 (x : Int64) : Int64 := x + (x.toUInt64 >>> ((32 : Int32).toInt64.toUInt64 &&& Int64.toUInt64 63)).toInt64
theorem i1L : (1 : Int32) = nI 1 := rfl
theorem st1_eq {n : Nat} (hn : n < 2 ^ 64) : st1 (lN n) = lN (pck pc1 8 n) := by
  have hB : ∀ b, b < 256 → (id b) < 256 := fun b h => h
  have i1 : pck id 8 n = n := pck_id (by omega)
  have a1 : n / 2 &&& 6148914691236517205 = pck (fun b => id b / 2 &&& 85) 8 n := by
    have := pc_s1 hB 8 n
    rw [i1] at this
    exact this
  obtain ⟨s1, s1'⟩ := pck_sub id (fun b => id b / 2 &&& 85) (fun b hb => (pc_all b hb).2.2.2.1) 8 n
  rw [i1] at s1 s1'
  have e1 : ((lN n).toUInt64 >>> ((1 : Int32).toInt64.toUInt64 &&& Int64.toUInt64 63)).toInt64 = lN (n / 2) := wb_shr (k := 1) hn (by decide)
  have e2 : lN (n / 2) &&& (6148914691236517205 : Int64) = lN (n / 2 &&& 6148914691236517205) := wb_and (by omega) (by decide)
  unfold st1
  rw [e1, e2, a1, lN_sub s1', s1]
  exact congrArg lN (pck_cong (fun b _ => rfl) 8 n)
theorem st2_eq {n : Nat} : st2 (lN (pck pc1 8 n)) = lN (pck (fun b => pc2 (pc1 b)) 8 n) := by
  have q1 : ∀ b, b < 256 → pc1 b < 256 := fun b hb => (pc_all b hb).2.2.1
  have y1l : pck pc1 8 n < 2 ^ 64 := pck_lt q1 8 n
  have e1 := pc_s2a q1 8 n
  have e2 := pc_s2 q1 8 n
  have r51 : rpt 51 8 = 3689348814741910323 := by decide
  rw [r51] at e1 e2
  have ea := pck_add (fun b => pc1 b &&& 51) (fun b => pc1 b / 4 &&& 51) 8 n
  rw [← e1, ← e2] at ea
  generalize pck pc1 8 n = y at *
  have z1 : (((lN y).toUInt64 >>> ((2 : Int32).toInt64.toUInt64 &&& Int64.toUInt64 63)).toInt64) = lN (y / 4) := wb_shr (k := 2) y1l (by decide)
  have z2 : lN y &&& (3689348814741910323 : Int64) = lN (y &&& 3689348814741910323) := wb_and y1l (by decide)
  have z3 : lN (y / 4) &&& (3689348814741910323 : Int64) = lN (y / 4 &&& 3689348814741910323) := wb_and (by omega) (by decide)
  unfold st2
  rw [z1, z2, z3, lN_add, ea]
  exact congrArg lN (pck_cong (fun b _ => rfl) 8 n)
theorem pc2_l : ∀ b, b < 256 → pc2 (pc1 b) % 16 ≤ 4 ∧ pc2 (pc1 b) / 16 ≤ 4 := fun b hb => (pc_all b hb).2.2.2.2
theorem pck_top : ∀ m n, pck (fun b => pc2 (pc1 b)) (m + 1) n < 128 * 256 ^ m := by
  intro m
  induction m with
  | zero =>
    intro n
    have := pc2_l (n % 256) (Nat.mod_lt n (by decide))
    show pc2 (pc1 (n % 256)) + 256 * 0 < 128 * 256 ^ 0
    rw [Nat.pow_zero]
    omega
  | succ m ih =>
    intro n
    have := pc2_l (n % 256) (Nat.mod_lt n (by decide))
    have := ih (n / 256)
    show pc2 (pc1 (n % 256)) + 256 * pck (fun b => pc2 (pc1 b)) (m + 1) (n / 256) < 128 * 256 ^ (m + 1)
    rw [Nat.pow_succ]
    omega
theorem st3_eq {n : Nat} : st3 (lN (pck (fun b => pc2 (pc1 b)) 8 n)) = lN (pck pcB 8 n) := by
  have tp := pck_top 7 n
  have e1 := pc_s3 pc2_l 8 n
  have r15 : rpt 15 8 = 1085102592571150095 := by decide
  have e2 : pck (fun b => pc2 (pc1 b) + pc2 (pc1 b) / 16 &&& 15) 8 n = pck pcB 8 n := pck_cong (fun b hb => (pc_all b hb).1) 8 n
  rw [r15, e2] at e1
  generalize pck (fun b => pc2 (pc1 b)) 8 n = y at *
  have z1 : (((lN y).toUInt64 >>> ((4 : Int32).toInt64.toUInt64 &&& Int64.toUInt64 63)).toInt64) = lN (y / 16) := wb_shr (k := 4) (by omega) (by decide)
  have z2 : lN (y + y / 16) &&& (1085102592571150095 : Int64) = lN ((y + y / 16) &&& 1085102592571150095) := wb_and (by omega) (by decide)
  unfold st3
  rw [z1, lN_add, z2, e1]
theorem st4_eq {u : Nat} (h : u < 2 ^ 64) : st4 (lN u) = lN (u + u / 256) := by
  have z1 : (((lN u).toUInt64 >>> ((8 : Int32).toInt64.toUInt64 &&& Int64.toUInt64 63)).toInt64) = lN (u / 256) := wb_shr (k := 8) h (by decide)
  unfold st4
  rw [z1, lN_add]
theorem st5_eq {u : Nat} (h : u < 2 ^ 64) : st5 (lN u) = lN (u + u / 65536) := by
  have z1 : (((lN u).toUInt64 >>> ((16 : Int32).toInt64.toUInt64 &&& Int64.toUInt64 63)).toInt64) = lN (u / 65536) := wb_shr (k := 16) h (by decide)
  unfold st5
  rw [z1, lN_add]
theorem st6_eq {u : Nat} (h : u < 2 ^ 64) : st6 (lN u) = lN (u + u / 4294967296) := by
  have z1 : (((lN u).toUInt64 >>> ((32 : Int32).toInt64.toUInt64 &&& Int64.toUInt64 63)).toInt64) = lN (u / 4294967296) := wb_shr (k := 32) h (by decide)
  unfold st6
  rw [z1, lN_add]
theorem low_7 (x : Nat) : nI x &&& 127 = nI (x % 128) := by
  rw [pk_and (nI x) 7 (by decide)]
  have e : (nI x).toBitVec.toNat = x % 2 ^ 32 := BitVec.toNat_ofNat _ _
  rw [e]
  congr 1
  omega
theorem pop_u (n : Nat) : pck pcB 8 n < 2 ^ 60 ∧ (pck pcB 8 n + pck pcB 8 n / 256 + (pck pcB 8 n + pck pcB 8 n / 256) / 65536 + (pck pcB 8 n + pck pcB 8 n / 256 + (pck pcB 8 n + pck pcB 8 n / 256) / 65536) / 4294967296) % 128 = sumB 8 n := by
  have hb8 : ∀ x, pcB (x % 256) ≤ 8 := fun x => (pc_all _ (Nat.mod_lt x (by decide))).2.1
  exact pc_sum (hb8 n) (hb8 (n / 256)) (hb8 (n / 256 / 256)) (hb8 (n / 256 / 256 / 256)) (hb8 (n / 256 / 256 / 256 / 256)) (hb8 (n / 256 / 256 / 256 / 256 / 256)) (hb8 (n / 256 / 256 / 256 / 256 / 256 / 256)) (hb8 (n / 256 / 256 / 256 / 256 / 256 / 256 / 256)) rfl
theorem pop64 {n : Nat} (hn : n < 2 ^ 64) : (st6 (st5 (st4 (st3 (st2 (st1 (lN n))))))).toInt32 &&& 127 = nI (fb_ct (fun j => n.testBit j) 64) := by
  obtain ⟨hu, hs⟩ := pop_u n
  rw [st1_eq hn, st2_eq, st3_eq, ← sumB_ct 8 n, ← hs]
  generalize pck pcB 8 n = u at *
  rw [st4_eq (by omega), st5_eq (by omega), st6_eq (by omega), lN_i, low_7]
