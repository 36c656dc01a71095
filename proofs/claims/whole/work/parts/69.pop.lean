/-! how many bits -/
def rpt (c : Nat) : Nat → Nat
  | 0 => 0
  | m + 1 => c + 256 * rpt c m
/-- n's lowest m bytes, each through q -/
def pck (q : Nat → Nat) : Nat → Nat → Nat
  | 0, _ => 0
  | m + 1, n => q (n % 256) + 256 * pck q m (n / 256)
theorem and_cons {a c : Nat} (b d : Nat) (ha : a < 256) (hc : c < 256) : (a + 256 * b) &&& (c + 256 * d) = (a &&& c) + 256 * (b &&& d) := by
  have h1 := Nat.div_add_mod ((a + 256 * b) &&& (c + 256 * d)) (2 ^ 8)
  rw [Nat.and_mod_two_pow, Nat.and_div_two_pow] at h1
  have e1 : (a + 256 * b) % 2 ^ 8 = a := by omega
  have e2 : (c + 256 * d) % 2 ^ 8 = c := by omega
  have e3 : (a + 256 * b) / 2 ^ 8 = b := by omega
  have e4 : (c + 256 * d) / 2 ^ 8 = d := by omega
  rw [e1, e2, e3, e4] at h1
  omega
theorem pck_id : ∀ {m n : Nat}, n < 256 ^ m → pck id m n = n
  | 0, n, h => by rw [Nat.pow_zero] at h; show 0 = n; omega
  | m + 1, n, h => by
    show n % 256 + 256 * pck id m (n / 256) = n
    rw [pck_id (m := m) (by rw [Nat.pow_succ] at h; omega)]
    omega
theorem pck_cong {q r : Nat → Nat} (h : ∀ b, b < 256 → q b = r b) : ∀ m n, pck q m n = pck r m n
  | 0, _ => rfl
  | m + 1, n => by
    show q (n % 256) + 256 * pck q m (n / 256) = r (n % 256) + 256 * pck r m (n / 256)
    rw [h _ (Nat.mod_lt n (by decide)), pck_cong h m]
theorem pck_lt {q : Nat → Nat} (h : ∀ b, b < 256 → q b < 256) : ∀ m n, pck q m n < 256 ^ m
  | 0, _ => by show 0 < 256 ^ 0; decide
  | m + 1, n => by
    show q (n % 256) + 256 * pck q m (n / 256) < 256 ^ (m + 1)
    have h1 := h _ (Nat.mod_lt n (by decide))
    have h2 := pck_lt h m (n / 256)
    rw [Nat.pow_succ]
    omega
theorem pck_add (q r : Nat → Nat) : ∀ m n, pck q m n + pck r m n = pck (fun b => q b + r b) m n
  | 0, _ => rfl
  | m + 1, n => by
    show q (n % 256) + 256 * pck q m (n / 256) + (r (n % 256) + 256 * pck r m (n / 256)) = q (n % 256) + r (n % 256) + 256 * pck (fun b => q b + r b) m (n / 256)
    rw [← pck_add q r m]
    omega
def pc1 (b : Nat) : Nat := b - (b / 2 &&& 85)
def pc2 (b : Nat) : Nat := (b &&& 51) + (b / 4 &&& 51)
def pc3 (b : Nat) : Nat := (b + b / 16) &&& 15
theorem pc_s1 {q : Nat → Nat} (h : ∀ b, b < 256 → q b < 256) : ∀ m n, (pck q m n) / 2 &&& rpt 85 m = pck (fun b => q b / 2 &&& 85) m n
  | 0, n => by show 0 / 2 &&& 0 = 0; decide
  | m + 1, n => by
    have k : ∀ x, x < 128 → ∀ t, t < 2 → (x + 128 * t) &&& 85 = x &&& 85 := by decide +kernel
    have h1 := h _ (Nat.mod_lt n (by decide))
    have ih := pc_s1 h m (n / 256)
    show (q (n % 256) + 256 * pck q m (n / 256)) / 2 &&& (85 + 256 * rpt 85 m) = (q (n % 256) / 2 &&& 85) + 256 * pck _ m (n / 256)
    rw [← ih, ← k (q (n % 256) / 2) (by omega) (pck q m (n / 256) % 2) (by omega), ← and_cons _ _ (by omega) (by omega)]
    congr 1
    omega
theorem pc_s2 {q : Nat → Nat} (h : ∀ b, b < 256 → q b < 256) : ∀ m n, (pck q m n) / 4 &&& rpt 51 m = pck (fun b => q b / 4 &&& 51) m n
  | 0, n => by show 0 / 4 &&& 0 = 0; decide
  | m + 1, n => by
    have k : ∀ x, x < 64 → ∀ t, t < 4 → (x + 64 * t) &&& 51 = x &&& 51 := by decide +kernel
    have h1 := h _ (Nat.mod_lt n (by decide))
    have ih := pc_s2 h m (n / 256)
    show (q (n % 256) + 256 * pck q m (n / 256)) / 4 &&& (51 + 256 * rpt 51 m) = (q (n % 256) / 4 &&& 51) + 256 * pck _ m (n / 256)
    rw [← ih, ← k (q (n % 256) / 4) (by omega) (pck q m (n / 256) % 4) (by omega), ← and_cons _ _ (by omega) (by omega)]
    congr 1
    omega
theorem pc_s2a {q : Nat → Nat} (h : ∀ b, b < 256 → q b < 256) : ∀ m n, (pck q m n) &&& rpt 51 m = pck (fun b => q b &&& 51) m n
  | 0, n => by show 0 &&& 0 = 0; decide
  | m + 1, n => by
    have h1 := h _ (Nat.mod_lt n (by decide))
    have ih := pc_s2a h m (n / 256)
    show (q (n % 256) + 256 * pck q m (n / 256)) &&& (51 + 256 * rpt 51 m) = (q (n % 256) &&& 51) + 256 * pck _ m (n / 256)
    rw [← ih, ← and_cons _ _ h1 (by omega)]
theorem pck_low {q : Nat → Nat} (h : ∀ b, b < 256 → q b % 16 ≤ 4 ∧ q b / 16 ≤ 4) : ∀ m n, pck q m n % 16 ≤ 4
  | 0, _ => by show 0 % 16 ≤ 4; decide
  | m + 1, n => by
    have h1 := h _ (Nat.mod_lt n (by decide))
    show (q (n % 256) + 256 * pck q m (n / 256)) % 16 ≤ 4
    omega
theorem pc_s3 {q : Nat → Nat} (h : ∀ b, b < 256 → q b % 16 ≤ 4 ∧ q b / 16 ≤ 4) : ∀ m n, (pck q m n + pck q m n / 16) &&& rpt 15 m = pck (fun b => (q b + q b / 16) &&& 15) m n
  | 0, n => by show (0 + 0 / 16) &&& 0 = 0; decide
  | m + 1, n => by
    have k : ∀ x, x < 128 → ∀ t, t < 5 → (x + 16 * t) &&& 15 = x &&& 15 := by decide +kernel
    have h1 := h _ (Nat.mod_lt n (by decide))
    have h2 := pck_low h m (n / 256)
    have ih := pc_s3 h m (n / 256)
    show (q (n % 256) + 256 * pck q m (n / 256) + (q (n % 256) + 256 * pck q m (n / 256)) / 16) &&& (15 + 256 * rpt 15 m) = ((q (n % 256) + q (n % 256) / 16) &&& 15) + 256 * pck _ m (n / 256)
    rw [← ih, ← k (q (n % 256) + q (n % 256) / 16) (by omega) (pck q m (n / 256) % 16) (by omega), ← and_cons _ _ (by omega) (by omega)]
    congr 1
    omega
theorem pck_sub (q r : Nat → Nat) (h : ∀ b, b < 256 → r b ≤ q b) : ∀ m n, pck q m n - pck r m n = pck (fun b => q b - r b) m n ∧ pck r m n ≤ pck q m n
  | 0, _ => ⟨rfl, Nat.le_refl 0⟩
  | m + 1, n => by
    have h1 := h _ (Nat.mod_lt n (by decide))
    obtain ⟨h2, h3⟩ := pck_sub q r h m (n / 256)
    show q (n % 256) + 256 * pck q m (n / 256) - (r (n % 256) + 256 * pck r m (n / 256)) = q (n % 256) - r (n % 256) + 256 * pck (fun b => q b - r b) m (n / 256) ∧ r (n % 256) + 256 * pck r m (n / 256) ≤ q (n % 256) + 256 * pck q m (n / 256)
    rw [← h2]
    constructor <;> omega
def pcB (b : Nat) : Nat := fb_ct (fun j => b.testBit j) 8
theorem pc_all : ∀ b, b < 256 → pc3 (pc2 (pc1 b)) = pcB b ∧ pcB b ≤ 8 ∧ pc1 b < 256 ∧ b / 2 &&& 85 ≤ b ∧ pc2 (pc1 b) % 16 ≤ 4 ∧ pc2 (pc1 b) / 16 ≤ 4 := by decide +kernel
def sumB : Nat → Nat → Nat
  | 0, _ => 0
  | m + 1, n => pcB (n % 256) + sumB m (n / 256)
theorem sumB_ct : ∀ m n, sumB m n = fb_ct (fun j => n.testBit j) (8 * m)
  | 0, _ => rfl
  | m + 1, n => by
    rw [show 8 * (m + 1) = 8 + 8 * m by omega, fb_ct_split]
    show pcB (n % 256) + sumB m (n / 256) = _
    rw [sumB_ct m (n / 256)]
    congr 1
    · unfold pcB
      refine fb_ct_cong (fun j hj => ?_)
      rw [show (256 : Nat) = 2 ^ 8 from rfl, Nat.testBit_mod_two_pow, decide_eq_true hj, Bool.true_and]
    · refine fb_ct_cong (fun j hj => ?_)
      rw [show (256 : Nat) = 2 ^ 8 from rfl, Nat.testBit_div_two_pow, Nat.add_comm]
theorem dv_l {r q k : Nat} (h : r < k) : (r + k * q) / k = q := by
  rw [Nat.add_mul_div_left r q (by omega), Nat.div_eq_of_lt h, Nat.zero_add]
theorem ps1 (b0 b1 b2 b3 b4 b5 b6 b7 : Nat) : b0 + 256 * (b1 + 256 * (b2 + 256 * (b3 + 256 * (b4 + 256 * (b5 + 256 * (b6 + 256 * (b7 + 256 * 0))))))) + (b1 + 256 * (b2 + 256 * (b3 + 256 * (b4 + 256 * (b5 + 256 * (b6 + 256 * (b7 + 256 * 0))))))) = ((b0 + b1) + 256 * (b1 + b2)) + 65536 * ((b2 + b3) + 256 * (b3 + b4) + 65536 * ((b4 + b5) + 256 * (b5 + b6) + 65536 * ((b6 + b7) + 256 * b7))) := by omega
theorem ps2 (b0 b1 b2 b3 b4 b5 b6 b7 : Nat) : ((b0 + b1) + 256 * (b1 + b2)) + 65536 * ((b2 + b3) + 256 * (b3 + b4) + 65536 * ((b4 + b5) + 256 * (b5 + b6) + 65536 * ((b6 + b7) + 256 * b7))) + ((b2 + b3) + 256 * (b3 + b4) + 65536 * ((b4 + b5) + 256 * (b5 + b6) + 65536 * ((b6 + b7) + 256 * b7))) = ((b0 + b1 + b2 + b3) + 256 * (b1 + b2 + b3 + b4) + 65536 * (b2 + b3 + b4 + b5) + 16777216 * (b3 + b4 + b5 + b6)) + 4294967296 * ((b4 + b5 + b6 + b7) + 256 * (b5 + b6 + b7) + 65536 * (b6 + b7) + 16777216 * b7) := by omega
theorem ps3 (b0 b1 b2 b3 b4 b5 b6 b7 : Nat) : ((b0 + b1 + b2 + b3) + 256 * (b1 + b2 + b3 + b4) + 65536 * (b2 + b3 + b4 + b5) + 16777216 * (b3 + b4 + b5 + b6)) + 4294967296 * ((b4 + b5 + b6 + b7) + 256 * (b5 + b6 + b7) + 65536 * (b6 + b7) + 16777216 * b7) + ((b4 + b5 + b6 + b7) + 256 * (b5 + b6 + b7) + 65536 * (b6 + b7) + 16777216 * b7) = (b0 + (b1 + (b2 + (b3 + (b4 + (b5 + (b6 + (b7 + 0)))))))) + 128 * (2 * ((b1 + b2 + b3 + b4) + 256 * (b2 + b3 + b4 + b5) + 65536 * (b3 + b4 + b5 + b6) + 16777216 * ((b4 + b5 + b6 + b7) + 256 * (b5 + b6 + b7) + 65536 * (b6 + b7) + 16777216 * b7) + ((b5 + b6 + b7) + 256 * (b6 + b7) + 65536 * b7))) := by omega
theorem pc_sum {b0 b1 b2 b3 b4 b5 b6 b7 u : Nat} (h0 : b0 ≤ 8) (h1 : b1 ≤ 8) (h2 : b2 ≤ 8) (h3 : b3 ≤ 8) (h4 : b4 ≤ 8) (h5 : b5 ≤ 8) (h6 : b6 ≤ 8) (h7 : b7 ≤ 8) (hu : u = b0 + 256 * (b1 + 256 * (b2 + 256 * (b3 + 256 * (b4 + 256 * (b5 + 256 * (b6 + 256 * (b7 + 256 * 0)))))))) : u < 2 ^ 60 ∧ (u + u / 256 + (u + u / 256) / 65536 + (u + u / 256 + (u + u / 256) / 65536) / 4294967296) % 128 = b0 + (b1 + (b2 + (b3 + (b4 + (b5 + (b6 + (b7 + 0))))))) := by
  subst hu
  refine ⟨by omega, ?_⟩
  rw [dv_l (show b0 < 256 by omega), ps1, dv_l (show (b0 + b1) + 256 * (b1 + b2) < 65536 by omega), ps2, dv_l (show (b0 + b1 + b2 + b3) + 256 * (b1 + b2 + b3 + b4) + 65536 * (b2 + b3 + b4 + b5) + 16777216 * (b3 + b4 + b5 + b6) < 4294967296 by omega), ps3, Nat.add_mul_mod_self_left, Nat.mod_eq_of_lt (by omega)]
