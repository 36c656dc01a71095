/-! words of 64 bits -/
def wB (W : Int64) (j : Nat) : Bool := (uN W).testBit j
theorem wB_and (x y : Int64) (j : Nat) : wB (x &&& y) j = (wB x j && wB y j) := by
  have e : uN (x &&& y) = uN x &&& uN y := UInt64.toNat_and _ _
  unfold wB
  rw [e, Nat.testBit_and]
theorem wB_or (x y : Int64) (j : Nat) : wB (x ||| y) j = (wB x j || wB y j) := by
  have e : uN (x ||| y) = uN x ||| uN y := UInt64.toNat_or _ _
  unfold wB
  rw [e, Nat.testBit_or]
theorem uN_lN {n : Nat} (h : n < 2 ^ 64) : uN (lN n) = n := wb_tn h
theorem uN_lNm (n : Nat) : uN (lN n) = n % 2 ^ 64 := by
  rw [wb_mod, uN_lN (Nat.mod_lt n (by decide))]
theorem wB_big {W : Int64} {j : Nat} (h : 64 ≤ j) : wB W j = false := by
  unfold wB
  refine Nat.testBit_lt_two_pow (Nat.lt_of_lt_of_le (uN_lt W) ?_)
  exact Nat.pow_le_pow_right (n := 2) (by decide) h
theorem wB_ext {x y : Int64} (h : ∀ j, j < 64 → wB x j = wB y j) : x = y := by
  apply uN_inj
  apply Nat.eq_of_testBit_eq
  intro j
  by_cases hj : j < 64
  · exact h j hj
  · have h1 := wB_big (W := x) (j := j) (by omega)
    have h2 := wB_big (W := y) (j := j) (by omega)
    unfold wB at h1 h2
    rw [h1, h2]
theorem wB_0 (j : Nat) : wB 0 j = false := by
  have e : uN 0 = 0 := rfl
  unfold wB
  rw [e, Nat.zero_testBit]
theorem wB_nz {W : Int64} : W = 0 ↔ ∀ j, j < 64 → wB W j = false :=
  ⟨fun h j _ => by rw [h, wB_0], fun h => wB_ext (fun j hj => by rw [h j hj, wB_0])⟩
theorem wB_m1 {j : Nat} (h : j < 64) : wB (-1) j = true := by
  have e : uN (-1) = 2 ^ 64 - 1 := by decide
  unfold wB
  rw [e, Nat.testBit_two_pow_sub_one, decide_eq_true h]
theorem w_shl1 {k : Nat} (hk : k < 64) : (1 : Int64) <<< ((nI k).toInt64 &&& 63) = lN (2 ^ k) := by
  have := wb_shl 1 hk
  rw [Nat.one_mul] at this
  exact this
theorem wB_shl1 {k : Nat} (hk : k < 64) (j : Nat) : wB ((1 : Int64) <<< ((nI k).toInt64 &&& 63)) j = decide (k = j) := by
  unfold wB
  rw [w_shl1 hk, uN_lN (wb_lt2 hk), Nat.testBit_two_pow]
theorem sh_c : ∀ k, k < 64 → (((nI k).toInt64 &&& 63).toBitVec.smod 64).toNat = k := by decide +kernel
theorem up_id {α : Type} (a : Nat → α) (j : Nat) : va_up a j (a j) = a := funext fun i => by by_cases h : i = j <;> simp [va_up, h]
/-! a bit of a row of words -/
def mB (f : Nat → Int64) (x : Nat) : Bool := wB (f (x / 64)) (x % 64)
theorem sh_6 {x : Nat} (h : x < 2 ^ 31) : nI x >>> ((6 : Int32) &&& 31) = nI (x / 64) := pk_shrN h _ 6 (by decide)
theorem lo_6 {x : Nat} (h : x < 2 ^ 31) : nI x &&& (63 : Int32) = nI (x % 64) := pk_andN (by omega) 6 (by decide)
theorem wB_tb (W : Int64) (k : Nat) : wB W k = W.toBitVec.getLsbD k := rfl
theorem wB_test (W : Int64) {k : Nat} (hk : k < 64) : ((W >>> ((nI k).toInt64 &&& 63)) &&& (1 : Int64) = (1 : Int64)) ↔ wB W k = true := by
  have e1 : (W >>> ((nI k).toInt64 &&& 63)).toBitVec = W.toBitVec.sshiftRight k := by
    have h := sh_c k hk
    conv => rhs; rw [← h]
    rfl
  rw [← Int64.toBitVec_inj, Int64.toBitVec_and, e1, wB_tb]
  show W.toBitVec.sshiftRight k &&& 1#64 = 1#64 ↔ _
  constructor
  · intro h
    have t := congrArg (fun x => x.getLsbD 0) h
    simp only [BitVec.getLsbD_and, BitVec.getLsbD_sshiftRight] at t
    simpa [hk] using t
  · intro h
    apply BitVec.eq_of_getLsbD_eq
    intro i hi
    rw [BitVec.getLsbD_and, BitVec.getLsbD_sshiftRight]
    cases i with
    | zero => simp [h, hk]
    | succ i => simp
theorem mB_put (f : Nat → Int64) (x y : Nat) : mB (vp_updL f (x / 64) (f (x / 64) ||| ((1 : Int64) <<< ((nI (x % 64)).toInt64 &&& 63)))) y = (mB f y || decide (y = x)) := by
  unfold mB
  have hx : x % 64 < 64 := Nat.mod_lt _ (by decide)
  by_cases h : y / 64 = x / 64
  · rw [h, pk_uLs, wB_or, wB_shl1 hx]
    congr 1
    exact decide_eq_decide.mpr ⟨fun e => by omega, fun e => by omega⟩
  · rw [pk_uLn h, decide_eq_false (fun e => h (by rw [e])), Bool.or_false]
