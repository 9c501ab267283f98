/-! ===== how many bits: Long.bitCount ===== -/
theorem and_dig {w d e r s : Nat} (hd : d < 2 ^ w) (he : e < 2 ^ w) : (d + 2 ^ w * r) &&& (e + 2 ^ w * s) = (d &&& e) + 2 ^ w * (r &&& s) := by
  have hp : 0 < 2 ^ w := Nat.pow_pos (by decide)
  have h := Nat.div_add_mod ((d + 2 ^ w * r) &&& (e + 2 ^ w * s)) (2 ^ w)
  rw [Nat.and_div_two_pow, Nat.and_mod_two_pow, Nat.add_mul_div_left _ _ hp, Nat.add_mul_div_left _ _ hp, Nat.add_mul_mod_self_left, Nat.add_mul_mod_self_left, Nat.div_eq_of_lt hd, Nat.div_eq_of_lt he, Nat.mod_eq_of_lt hd, Nat.mod_eq_of_lt he, Nat.zero_add, Nat.zero_add] at h
  omega
theorem and_dig4 {d e r s : Nat} (hd : d < 4) (he : e < 4) : (d + 4 * r) &&& (e + 4 * s) = (d &&& e) + 4 * (r &&& s) := and_dig (w := 2) hd he
theorem and_dig16 {d e r s : Nat} (hd : d < 16) (he : e < 16) : (d + 16 * r) &&& (e + 16 * s) = (d &&& e) + 16 * (r &&& s) := and_dig (w := 4) hd he
theorem and_dig256 {d e r s : Nat} (hd : d < 256) (he : e < 256) : (d + 256 * r) &&& (e + 256 * s) = (d &&& e) + 256 * (r &&& s) := and_dig (w := 8) hd he
theorem and_3 {x : Nat} : x &&& 3 = x % 4 := Nat.and_two_pow_sub_one_eq_mod x 2
theorem and_15 {x : Nat} : x &&& 15 = x % 16 := Nat.and_two_pow_sub_one_eq_mod x 4
theorem and_127 {x : Nat} : x &&& 127 = x % 128 := Nat.and_two_pow_sub_one_eq_mod x 7
def mkD (B m : Nat) : Nat → Nat
  | 0 => 0
  | k + 1 => m + B * mkD B m k
def dsD (B : Nat) : Nat → Nat → Nat
  | 0, _ => 0
  | k + 1, y => y % B + dsD B k (y / B)
def adD (B m : Nat) : Nat → Nat → Prop
  | 0, y => y = 0
  | k + 1, y => y % B ≤ m ∧ adD B m k (y / B)
theorem adD_mod {B m : Nat} : ∀ k y, adD B m k y → y % B ≤ m := by
  intro k y h
  cases k with
  | zero => rw [show y = 0 from h, Nat.zero_mod]; exact Nat.zero_le _
  | succ k => exact h.1
theorem adD_lt {B m : Nat} (hB : 0 < B) : ∀ k y, adD B m k y → y < B ^ k := by
  intro k
  induction k with
  | zero => intro y h; rw [show y = 0 from h]; exact Nat.zero_lt_one
  | succ k ih =>
    intro y h
    have h1 := ih _ h.2
    rw [Nat.pow_succ]
    exact (Nat.div_lt_iff_lt_mul hB).mp h1
def sd1 : Nat → Nat → Nat
  | 0, _ => 0
  | k + 1, x => (x % 4 - x % 4 / 2) + 4 * sd1 k (x / 4)
def sd2 : Nat → Nat → Nat
  | 0, _ => 0
  | k + 1, y => (y % 4 + y / 4 % 4) + 16 * sd2 k (y / 16)
def sd3 : Nat → Nat → Nat
  | 0, _ => 0
  | k + 1, z => (z % 16 + z / 16 % 16) + 256 * sd3 k (z / 256)
theorem lev1 : ∀ k x, x < 4 ^ k → (x / 2 &&& mkD 4 1 k) + sd1 k x = x := by
  intro k
  induction k with
  | zero => intro x h; have : x = 0 := by omega
            subst this; rfl
  | succ k ih =>
    intro x h
    rw [Nat.pow_succ] at h
    have hr := ih (x / 4) (by omega)
    have e : x / 2 = (x % 4 / 2 + 2 * (x / 4 % 2)) + 4 * (x / 4 / 2) := by omega
    simp only [mkD, sd1]
    rw [e, and_dig4 (by omega) (by decide), Nat.and_one_is_mod]
    omega
theorem lev2 : ∀ k y, y < 16 ^ k → (y &&& mkD 16 3 k) + (y / 4 &&& mkD 16 3 k) = sd2 k y := by
  intro k
  induction k with
  | zero => intro y h; have : y = 0 := by omega
            subst this; rfl
  | succ k ih =>
    intro y h
    rw [Nat.pow_succ] at h
    have hr := ih (y / 16) (by omega)
    have e0 : y = y % 16 + 16 * (y / 16) := by omega
    have e : y / 4 = (y % 16 / 4 + 4 * (y / 16 % 4)) + 16 * (y / 16 / 4) := by omega
    have a1 : y &&& mkD 16 3 (k + 1) = (y % 16 &&& 3) + 16 * (y / 16 &&& mkD 16 3 k) := by
      simp only [mkD]
      rw [← and_dig16 (by omega) (by decide), ← e0]
    have a2 : y / 4 &&& mkD 16 3 (k + 1) = ((y % 16 / 4 + 4 * (y / 16 % 4)) &&& 3) + 16 * (y / 16 / 4 &&& mkD 16 3 k) := by
      simp only [mkD]
      rw [← and_dig16 (by omega) (by decide), ← e]
    rw [a1, a2, and_3, and_3]
    simp only [sd2]
    omega
theorem lev3 : ∀ k z, adD 16 4 (2 * k) z → (z + z / 16) &&& mkD 256 15 k = sd3 k z := by
  intro k
  induction k with
  | zero => intro z h; have : z = 0 := h
            subst this; rfl
  | succ k ih =>
    intro z h
    obtain ⟨h1, h2, h3⟩ : z % 16 ≤ 4 ∧ z / 16 % 16 ≤ 4 ∧ adD 16 4 (2 * k) (z / 16 / 16) := h
    have e256 : z / 16 / 16 = z / 256 := by omega
    rw [e256] at h3
    have hm := adD_mod _ _ h3
    have hr := ih (z / 256) h3
    have e : z + z / 16 = (z % 256 + z % 256 / 16 + 16 * (z / 256 % 16)) + 256 * (z / 256 + z / 256 / 16) := by omega
    simp only [mkD, sd3]
    rw [e, and_dig256 (by omega) (by decide), and_15, hr]
    omega
theorem ds1 : ∀ k x, dsD 4 k (sd1 k x) = dsD 2 (2 * k) x ∧ adD 4 2 k (sd1 k x) := by
  intro k
  induction k with
  | zero => intro x; exact ⟨rfl, rfl⟩
  | succ k ih =>
    intro x
    obtain ⟨i1, i2⟩ := ih (x / 4)
    have e1 : ((x % 4 - x % 4 / 2) + 4 * sd1 k (x / 4)) % 4 = x % 4 - x % 4 / 2 := by omega
    have e2 : ((x % 4 - x % 4 / 2) + 4 * sd1 k (x / 4)) / 4 = sd1 k (x / 4) := by omega
    have e3 : x / 2 / 2 = x / 4 := by omega
    constructor
    · show dsD 4 (k + 1) ((x % 4 - x % 4 / 2) + 4 * sd1 k (x / 4)) = dsD 2 (2 * k + 1 + 1) x
      simp only [dsD]
      rw [e1, e2, i1, e3]
      omega
    · show adD 4 2 (k + 1) ((x % 4 - x % 4 / 2) + 4 * sd1 k (x / 4))
      simp only [adD]
      rw [e1, e2]
      exact ⟨by omega, i2⟩
theorem ds2 : ∀ k y, adD 4 2 (2 * k) y → dsD 16 k (sd2 k y) = dsD 4 (2 * k) y ∧ adD 16 4 k (sd2 k y) := by
  intro k
  induction k with
  | zero => intro x _; exact ⟨rfl, rfl⟩
  | succ k ih =>
    intro y h
    obtain ⟨h1, h2, h3⟩ : y % 4 ≤ 2 ∧ y / 4 % 4 ≤ 2 ∧ adD 4 2 (2 * k) (y / 4 / 4) := h
    have e4 : y / 4 / 4 = y / 16 := by omega
    rw [e4] at h3
    obtain ⟨i1, i2⟩ := ih (y / 16) h3
    have e1 : ((y % 4 + y / 4 % 4) + 16 * sd2 k (y / 16)) % 16 = y % 4 + y / 4 % 4 := by omega
    have e2 : ((y % 4 + y / 4 % 4) + 16 * sd2 k (y / 16)) / 16 = sd2 k (y / 16) := by omega
    constructor
    · show dsD 16 (k + 1) ((y % 4 + y / 4 % 4) + 16 * sd2 k (y / 16)) = dsD 4 (2 * k + 1 + 1) y
      simp only [dsD]
      rw [e1, e2, i1, e4]
      omega
    · show adD 16 4 (k + 1) ((y % 4 + y / 4 % 4) + 16 * sd2 k (y / 16))
      simp only [adD]
      rw [e1, e2]
      exact ⟨by omega, i2⟩
theorem ds3 : ∀ k z, adD 16 4 (2 * k) z → dsD 256 k (sd3 k z) = dsD 16 (2 * k) z ∧ adD 256 8 k (sd3 k z) := by
  intro k
  induction k with
  | zero => intro x _; exact ⟨rfl, rfl⟩
  | succ k ih =>
    intro z h
    obtain ⟨h1, h2, h3⟩ : z % 16 ≤ 4 ∧ z / 16 % 16 ≤ 4 ∧ adD 16 4 (2 * k) (z / 16 / 16) := h
    have e4 : z / 16 / 16 = z / 256 := by omega
    rw [e4] at h3
    obtain ⟨i1, i2⟩ := ih (z / 256) h3
    have e1 : ((z % 16 + z / 16 % 16) + 256 * sd3 k (z / 256)) % 256 = z % 16 + z / 16 % 16 := by omega
    have e2 : ((z % 16 + z / 16 % 16) + 256 * sd3 k (z / 256)) / 256 = sd3 k (z / 256) := by omega
    constructor
    · show dsD 256 (k + 1) ((z % 16 + z / 16 % 16) + 256 * sd3 k (z / 256)) = dsD 16 (2 * k + 1 + 1) z
      simp only [dsD]
      rw [e1, e2, i1, e4]
      omega
    · show adD 256 8 (k + 1) ((z % 16 + z / 16 % 16) + 256 * sd3 k (z / 256))
      simp only [adD]
      rw [e1, e2]
      exact ⟨by omega, i2⟩
theorem finA {e0 e1 e2 w2 w3 : Nat} (h0 : e0 ≤ 8) (h1 : e1 ≤ 8) (h2 : e2 ≤ 8) : (e0 + 256 * (e1 + 256 * w2) + (e1 + 256 * (e2 + 256 * w3))) / 65536 = w2 + w3 := by omega
theorem finB {e0 e1 e2 e3 e4 e5 e6 w4 w5 w6 w7 : Nat} (h0 : e0 ≤ 8) (h1 : e1 ≤ 8) (h2 : e2 ≤ 8) (h3 : e3 ≤ 8) (h4 : e4 ≤ 8) (h5 : e5 ≤ 8) (h6 : e6 ≤ 8) : (e0 + 256 * (e1 + 256 * (e2 + 256 * (e3 + 256 * w4))) + (e1 + 256 * (e2 + 256 * (e3 + 256 * (e4 + 256 * w5)))) + (e2 + 256 * (e3 + 256 * (e4 + 256 * (e5 + 256 * w6))) + (e3 + 256 * (e4 + 256 * (e5 + 256 * (e6 + 256 * w7)))))) / 4294967296 = w4 + w5 + w6 + w7 := by omega
theorem finC {e0 e1 e2 e3 e4 e5 e6 e7 t : Nat} (h : e0 + e1 + e2 + e3 + e4 + e5 + e6 + e7 ≤ 64) : (e0 + e1 + e2 + e3 + e4 + e5 + e6 + e7 + 256 * t) % 128 = e0 + e1 + e2 + e3 + e4 + e5 + e6 + e7 := by omega
theorem finD {w w1 w2 w3 w4 w5 w6 w7 e0 e1 e2 e3 e4 e5 e6 : Nat} (h0 : e0 ≤ 8) (h1 : e1 ≤ 8) (h2 : e2 ≤ 8) (h3 : e3 ≤ 8) (h4 : e4 ≤ 8) (h5 : e5 ≤ 8) (h6 : e6 ≤ 8) (h7 : w7 ≤ 8) (g0 : w = e0 + 256 * w1) (g1 : w1 = e1 + 256 * w2) (g2 : w2 = e2 + 256 * w3) (g3 : w3 = e3 + 256 * w4) (g4 : w4 = e4 + 256 * w5) (g5 : w5 = e5 + 256 * w6) (g6 : w6 = e6 + 256 * w7) : w < 1152921504606846976 ∧ (w + w1 + (w + w1) / 65536 + (w + w1 + (w + w1) / 65536) / 4294967296) % 128 = e0 + e1 + e2 + e3 + e4 + e5 + e6 + w7 ∧ e0 + e1 + e2 + e3 + e4 + e5 + e6 + w7 ≤ 64 := by
  have hs : e0 + e1 + e2 + e3 + e4 + e5 + e6 + w7 ≤ 64 := by omega
  have a1 : (w + w1) / 65536 = w2 + w3 := by
    have := finA (w2 := w2) (w3 := w3) h0 h1 h2
    rw [← g2, ← g1, ← g0] at this
    exact this
  have a2 : (w + w1 + (w2 + w3)) / 4294967296 = w4 + w5 + w6 + w7 := by
    have := finB (w4 := w4) (w5 := w5) (w6 := w6) (w7 := w7) h0 h1 h2 h3 h4 h5 h6
    rw [← g3, ← g4, ← g5, ← g6, ← g3, ← g4, ← g5, ← g2, ← g3, ← g4, ← g1, ← g2, ← g3, ← g0] at this
    exact this
  rw [a1, a2]
  refine ⟨by omega, ?_, hs⟩
  have a3 : w + w1 + (w2 + w3) + (w4 + w5 + w6 + w7) = e0 + e1 + e2 + e3 + e4 + e5 + e6 + w7 + 256 * (w1 + w2 + w3 + w4 + w5 + w6 + w7) := by omega
  rw [a3]
  exact finC hs
theorem ad_split {k y : Nat} (h : adD 256 8 (k + 1) y) : ∃ e r, e ≤ 8 ∧ y = e + 256 * r ∧ adD 256 8 k r ∧ dsD 256 (k + 1) y = e + dsD 256 k r ∧ y / 256 = r := ⟨y % 256, y / 256, h.1, (Nat.mod_add_div _ _).symm, h.2, rfl, rfl⟩
theorem fin8 {w : Nat} (h : adD 256 8 8 w) : w < 1152921504606846976 ∧ (w + w / 256 + (w + w / 256) / 65536 + (w + w / 256 + (w + w / 256) / 65536) / 4294967296) % 128 = dsD 256 8 w ∧ dsD 256 8 w ≤ 64 := by
  obtain ⟨e0, w1, h0, g0, t1, d0, q0⟩ := ad_split (k := 7) h
  obtain ⟨e1, w2, h1, g1, t2, d1, q1⟩ := ad_split (k := 6) t1
  obtain ⟨e2, w3, h2, g2, t3, d2, q2⟩ := ad_split (k := 5) t2
  obtain ⟨e3, w4, h3, g3, t4, d3, q3⟩ := ad_split (k := 4) t3
  obtain ⟨e4, w5, h4, g4, t5, d4, q4⟩ := ad_split (k := 3) t4
  obtain ⟨e5, w6, h5, g5, t6, d5, q5⟩ := ad_split (k := 2) t5
  obtain ⟨e6, w7, h6, g6, t7, d6, q6⟩ := ad_split (k := 1) t6
  obtain ⟨e7, w8, h7, g7, t8, d7, q7⟩ := ad_split (k := 0) t7
  have z8 : w8 = 0 := t8
  have dz : dsD 256 0 w8 = 0 := rfl
  have g7' : w7 = e7 := by rw [g7, z8]; omega
  have k := finD h0 h1 h2 h3 h4 h5 h6 (by rw [g7']; exact h7) g0 g1 g2 g3 g4 g5 g6
  rw [q0]
  rw [d0, d1, d2, d3, d4, d5, d6, d7, dz, ← g7']
  have ea : e0 + (e1 + (e2 + (e3 + (e4 + (e5 + (e6 + (w7 + 0))))))) = e0 + e1 + e2 + e3 + e4 + e5 + e6 + w7 := by
    clear k d0 d1 d2 d3 d4 d5 d6 d7 g0 g1 g2 g3 g4 g5 g6 q0 q1 q2 q3 q4 q5 q6 q7
    omega
  rw [ea]
  exact k
theorem adD_lt' {B m : Nat} (hB : 0 < B) : ∀ k y, adD B m (k + 1) y → y < (m + 1) * B ^ k := by
  intro k
  induction k with
  | zero =>
    intro y h
    have h1 : y % B ≤ m := h.1
    have h2 : y / B = 0 := h.2
    have := Nat.mod_add_div y B
    rw [h2, Nat.mul_zero, Nat.add_zero] at this
    rw [Nat.pow_zero, Nat.mul_one]
    omega
  | succ k ih =>
    intro y h
    have h1 := ih _ h.2
    rw [Nat.pow_succ, ← Nat.mul_assoc]
    exact (Nat.div_lt_iff_lt_mul hB).mp h1
def wN (x : Int64) : Nat := x.toBitVec.toNat
theorem wN_lt {x : Int64} : wN x < 18446744073709551616 := x.toBitVec.isLt
theorem wN_and {x y : Int64} : wN (x &&& y) = wN x &&& wN y := by
  unfold wN
  rw [Int64.toBitVec_and, BitVec.toNat_and]
theorem wN_add {x y : Int64} (h : wN x + wN y < 18446744073709551616) : wN (x + y) = wN x + wN y := by
  unfold wN at *
  rw [Int64.toBitVec_add, BitVec.toNat_add]
  exact Nat.mod_eq_of_lt h
theorem wN_sub {x y : Int64} (h : wN y ≤ wN x) : wN (x - y) = wN x - wN y := by
  have hx := wN_lt (x := x)
  unfold wN at *
  rw [Int64.toBitVec_sub, BitVec.toNat_sub]
  omega
theorem wN_shr {x : Int64} {s : UInt64} {k : Nat} (h : s.toNat % 64 = k) : wN (x.toUInt64 >>> s).toInt64 = wN x / 2 ^ k := by
  show (x.toUInt64 >>> s).toNat = _
  rw [UInt64.toNat_shiftRight, h, Nat.shiftRight_eq_div_pow]
  rfl
def bc1 (x : Int64) : Int64 := x - ((x.toUInt64 >>> ((1 : Int32).toInt64.toUInt64 &&& Int64.toUInt64 63)).toInt64 &&& 6148914691236517205)
def bc2 (x : Int64) : Int64 := (x &&& 3689348814741910323) + ((x.toUInt64 >>> ((2 : Int32).toInt64.toUInt64 &&& Int64.toUInt64 63)).toInt64 &&& 3689348814741910323)
def bc3 (x : Int64) : Int64 := (x + (x.toUInt64 >>> ((4 : Int32).toInt64.toUInt64 &&& Int64.toUInt64 63)).toInt64) &&& 1085102592571150095
def bc4 (x : Int64) : Int64 := x + (x.toUInt64 >>> ((8 : Int32).toInt64.toUInt64 &&& Int64.toUInt64 63)).toInt64
def bc5 (x : Int64) : Int64 := x + (x.toUInt64 >>> ((16 : Int32).toInt64.toUInt64 &&& Int64.toUInt64 63)).toInt64
def bc6 (x : Int64) : Int64 := x + (x.toUInt64 >>> ((32 : Int32).toInt64.toUInt64 &&& Int64.toUInt64 63)).toInt64
def bcE (x : Int64) : Int32 := (bc6 (bc5 (bc4 (bc3 (bc2 (bc1 x)))))).toInt32 &&& 127
theorem mk_1 : mkD 4 1 32 = 6148914691236517205 := by decide +kernel
theorem mk_2 : mkD 16 3 16 = 3689348814741910323 := by decide +kernel
theorem mk_3 : mkD 256 15 8 = 1085102592571150095 := by decide +kernel
theorem wN_m1 : wN 6148914691236517205 = mkD 4 1 32 := by rw [mk_1]; decide +kernel
theorem wN_m2 : wN 3689348814741910323 = mkD 16 3 16 := by rw [mk_2]; decide +kernel
theorem wN_m3 : wN 1085102592571150095 = mkD 256 15 8 := by rw [mk_3]; decide +kernel
theorem bc_eq (x : Int64) : bcE x = Int32.ofInt ((dsD 2 64 (wN x) : Nat) : Int) := by
  have hx := wN_lt (x := x)
  have p1 : (4 : Nat) ^ 32 = 18446744073709551616 := by decide
  have p2 : (16 : Nat) ^ 16 = 18446744073709551616 := by decide
  have p3 : (2 : Nat) ^ 60 = 1152921504606846976 := by decide
  -- level 1
  have l1 := lev1 32 (wN x) (by omega)
  have e1 : wN (bc1 x) = sd1 32 (wN x) := by
    unfold bc1
    have a : wN ((x.toUInt64 >>> ((1 : Int32).toInt64.toUInt64 &&& Int64.toUInt64 63)).toInt64 &&& 6148914691236517205) = (wN x / 2 &&& mkD 4 1 32) := by
      rw [wN_and, wN_m1, wN_shr (k := 1) (by decide +kernel)]
    rw [wN_sub (by rw [a]; omega), a]
    omega
  obtain ⟨s1, d1⟩ := ds1 32 (wN x)
  have b1 := adD_lt (by decide) _ _ d1
  -- level 2
  have l2 := lev2 16 (wN (bc1 x)) (by rw [e1]; omega)
  obtain ⟨s2, d2⟩ := ds2 16 (wN (bc1 x)) (by rw [e1]; exact d1)
  have b2 := adD_lt (by decide) _ _ d2
  have e2 : wN (bc2 (bc1 x)) = sd2 16 (wN (bc1 x)) := by
    have a : wN ((bc1 x).toUInt64 >>> ((2 : Int32).toInt64.toUInt64 &&& Int64.toUInt64 63)).toInt64 = wN (bc1 x) / 4 := wN_shr (k := 2) (by decide +kernel)
    show wN ((bc1 x &&& 3689348814741910323) + (((bc1 x).toUInt64 >>> ((2 : Int32).toInt64.toUInt64 &&& Int64.toUInt64 63)).toInt64 &&& 3689348814741910323)) = _
    rw [wN_add (by rw [wN_and, wN_and, wN_m2, a]; omega), wN_and, wN_and, wN_m2, a]
    exact l2
  -- level 3
  have l3 := lev3 8 (wN (bc2 (bc1 x))) (by rw [e2]; exact d2)
  obtain ⟨s3, d3⟩ := ds3 8 (wN (bc2 (bc1 x))) (by rw [e2]; exact d2)
  obtain ⟨f1, f2, f3⟩ := fin8 d3
  have e3 : wN (bc3 (bc2 (bc1 x))) = sd3 8 (wN (bc2 (bc1 x))) := by
    have a : wN ((bc2 (bc1 x)).toUInt64 >>> ((4 : Int32).toInt64.toUInt64 &&& Int64.toUInt64 63)).toInt64 = wN (bc2 (bc1 x)) / 16 := wN_shr (k := 4) (by decide +kernel)
    have hb : wN (bc2 (bc1 x)) < 5764607523034234880 := by
      rw [e2]
      exact adD_lt' (B := 16) (m := 4) (by decide) 15 _ d2
    show wN ((bc2 (bc1 x) + ((bc2 (bc1 x)).toUInt64 >>> ((4 : Int32).toInt64.toUInt64 &&& Int64.toUInt64 63)).toInt64) &&& 1085102592571150095) = _
    rw [wN_and, wN_m3, wN_add (by rw [a]; omega), a]
    exact l3
  generalize hw : wN (bc3 (bc2 (bc1 x))) = w at *
  rw [← e3] at f1 f2 f3 s3
  have e4 : wN (bc4 (bc3 (bc2 (bc1 x)))) = w + w / 256 := by
    have a : wN ((bc3 (bc2 (bc1 x))).toUInt64 >>> ((8 : Int32).toInt64.toUInt64 &&& Int64.toUInt64 63)).toInt64 = w / 256 := by rw [wN_shr (k := 8) (by decide +kernel), hw]
    show wN (bc3 (bc2 (bc1 x)) + ((bc3 (bc2 (bc1 x))).toUInt64 >>> ((8 : Int32).toInt64.toUInt64 &&& Int64.toUInt64 63)).toInt64) = _
    rw [wN_add (by rw [a, hw]; omega), a, hw]
  generalize hx4 : bc4 (bc3 (bc2 (bc1 x))) = x4 at *
  have e5 : wN (bc5 x4) = w + w / 256 + (w + w / 256) / 65536 := by
    have a : wN (x4.toUInt64 >>> ((16 : Int32).toInt64.toUInt64 &&& Int64.toUInt64 63)).toInt64 = (w + w / 256) / 65536 := by rw [wN_shr (k := 16) (by decide +kernel), e4]
    show wN (x4 + (x4.toUInt64 >>> ((16 : Int32).toInt64.toUInt64 &&& Int64.toUInt64 63)).toInt64) = _
    rw [wN_add (by rw [a, e4]; omega), a, e4]
  generalize hx5 : bc5 x4 = x5 at *
  have e6 : wN (bc6 x5) = w + w / 256 + (w + w / 256) / 65536 + (w + w / 256 + (w + w / 256) / 65536) / 4294967296 := by
    have a : wN (x5.toUInt64 >>> ((32 : Int32).toInt64.toUInt64 &&& Int64.toUInt64 63)).toInt64 = (w + w / 256 + (w + w / 256) / 65536) / 4294967296 := by rw [wN_shr (k := 32) (by decide +kernel), e5]
    show wN (x5 + (x5.toUInt64 >>> ((32 : Int32).toInt64.toUInt64 &&& Int64.toUInt64 63)).toInt64) = _
    rw [wN_add (by rw [a, e5]; omega), a, e5]
  have hfin : dsD 256 8 w = dsD 2 64 (wN x) := by
    rw [s3, e2, s2, e1]
    exact s1
  unfold bcE
  rw [hx4, hx5]
  generalize hx6 : bc6 x5 = x6 at *
  rw [← hfin, i32_ofNat]
  apply Int32.toBitVec.inj
  apply BitVec.eq_of_toNat_eq
  show (x6.toBitVec.signExtend 32 &&& 127#32).toNat = (BitVec.ofNat 32 (dsD 256 8 w)).toNat
  rw [BitVec.toNat_and, BitVec.toNat_ofNat, Nat.mod_eq_of_lt (by omega), BitVec.toNat_ofNat]
  rw [and_127, BitVec.signExtend_eq_setWidth_of_le _ (by decide), BitVec.toNat_setWidth]
  have : x6.toBitVec.toNat = wN x6 := rfl
  rw [this, e6, Nat.mod_eq_of_lt (a := dsD 256 8 w) (by omega), ← f2]
  generalize w + w / 256 + (w + w / 256) / 65536 + (w + w / 256 + (w + w / 256) / 65536) / 4294967296 = y
  clear hfin e6 e5 e4 e3 f1 f2 f3 s3
  omega
theorem cnt_low (p : Nat → Bool) : ∀ k, cnt p (k + 1) = (if p 0 = true then 1 else 0) + cnt (fun i => p (i + 1)) k := by
  intro k
  induction k with
  | zero => simp [cnt]
  | succ k ih =>
    have e : cnt p (k + 1 + 1) = cnt p (k + 1) + (if p (k + 1) = true then 1 else 0) := rfl
    rw [e, ih]
    simp only [cnt]
    omega
theorem ds_cnt : ∀ k n, dsD 2 k n = cnt (fun i => n.testBit i) k := by
  intro k
  induction k with
  | zero => intro n; rfl
  | succ k ih =>
    intro n
    rw [cnt_low]
    simp only [dsD]
    rw [ih]
    have e : (fun i => n.testBit (i + 1)) = fun i => (n / 2).testBit i := by
      funext i
      exact Nat.testBit_succ n i
    rw [e, Nat.testBit_zero]
    by_cases h : n % 2 = 1
    · simp [h]
    · have : n % 2 = 0 := by omega
      simp [this]
theorem bc_cnt (x : Int64) : bcE x = Int32.ofInt ((cnt (fun i => x.toBitVec.getLsbD i) 64 : Nat) : Int) := by
  rw [bc_eq, ds_cnt]
  rfl
theorem c_bitCount {T : List am_C} {σ : am_S} {x : Int64} : Runs T mJ13_bitCount_95d88 [vL x] σ (QI (fun z σ' => z = (cnt (fun i => x.toBitVec.getLsbD i) 64 : Nat) ∧ σ' = σ)) := by
  intro l E
  refine Met.ofWF (cc := cJ13_bitCount_95d88) (maxL := 2) (ret := some .int) (by decide +kernel) rfl ?_
  intro p e s m args below meth c s₁ B hml hv
  obtain ⟨rfl, G⟩ := hv
  have hl := lv_entry ([vL x].map (am_tr E)) (n := 2) (Nat.le_refl 2)
  rw [lg_entry_eq]
  have C : am_Cx mJ13_bitCount_95d88 p s m ([vL x].map (am_tr E)).toArray meth c := ⟨B.exec, B.bytes, B.returns, hml, findClass_of_methodNamed B.named, atoms_spec (ws := am_wd mJ13_bitCount_95d88) B.pre, B.notSynchronized⟩
  have hT : ∀ w ∈ am_tb, w.before ([vL x].map (am_tr E)).toArray s = true := fun w hw => C.2.2.2.2.2.1 w (List.mem_cons_of_mem _ hw)
  revert hl
  generalize ((lg_sl (List.map (am_tr E) [vL x])) ++ List.replicate (2 - (lg_sl (List.map (am_tr E) [vL x])).length) Slot.unset).toArray = ls0
  intro hl
  have L0 : lv_has ls0 2 [(0, .long x)] := hl
  refine lv_lload_n C.1 C.2.1 dJ13_bitCount_95d88_0 rfl (L0.2.2 (0, .long _) List.mem_cons_self) ?_
  refine lv_lload_n C.1 C.2.1 dJ13_bitCount_95d88_1 rfl (L0.2.2 (0, .long _) List.mem_cons_self) ?_
  refine lv_iconst (v := 1) C.1 C.2.1 dJ13_bitCount_95d88_2 rfl ?_
  refine lv_lushr C.1 C.2.1 dJ13_bitCount_95d88_3 rfl ?_
  refine lv_ldc2 (v := 6148914691236517205) C.1 C.2.1 C.2.2.2.2.1 (hT _ (in_tb 365 (by decide +kernel) rfl)) dJ13_bitCount_95d88_4 ?_
  refine lv_land C.1 C.2.1 dJ13_bitCount_95d88_7 ?_
  refine lv_lsub C.1 C.2.1 dJ13_bitCount_95d88_8 ?_
  refine lv_lstore_n C.1 C.2.1 dJ13_bitCount_95d88_9 rfl L0 (by decide) rfl (fun ls1 L1 => ?_)
  refine lv_lload_n C.1 C.2.1 dJ13_bitCount_95d88_10 rfl (L1.2.2 (0, .long _) List.mem_cons_self) ?_
  refine lv_ldc2 (v := 3689348814741910323) C.1 C.2.1 C.2.2.2.2.1 (hT _ (in_tb 366 (by decide +kernel) rfl)) dJ13_bitCount_95d88_11 ?_
  refine lv_land C.1 C.2.1 dJ13_bitCount_95d88_14 ?_
  refine lv_lload_n C.1 C.2.1 dJ13_bitCount_95d88_15 rfl (L1.2.2 (0, .long _) List.mem_cons_self) ?_
  refine lv_iconst (v := 2) C.1 C.2.1 dJ13_bitCount_95d88_16 rfl ?_
  refine lv_lushr C.1 C.2.1 dJ13_bitCount_95d88_17 rfl ?_
  refine lv_ldc2 (v := 3689348814741910323) C.1 C.2.1 C.2.2.2.2.1 (hT _ (in_tb 366 (by decide +kernel) rfl)) dJ13_bitCount_95d88_18 ?_
  refine lv_land C.1 C.2.1 dJ13_bitCount_95d88_21 ?_
  refine lv_ladd C.1 C.2.1 dJ13_bitCount_95d88_22 ?_
  refine lv_lstore_n C.1 C.2.1 dJ13_bitCount_95d88_23 rfl L1 (by decide) rfl (fun ls2 L2 => ?_)
  refine lv_lload_n C.1 C.2.1 dJ13_bitCount_95d88_24 rfl (L2.2.2 (0, .long _) List.mem_cons_self) ?_
  refine lv_lload_n C.1 C.2.1 dJ13_bitCount_95d88_25 rfl (L2.2.2 (0, .long _) List.mem_cons_self) ?_
  refine lv_iconst (v := 4) C.1 C.2.1 dJ13_bitCount_95d88_26 rfl ?_
  refine lv_lushr C.1 C.2.1 dJ13_bitCount_95d88_27 rfl ?_
  refine lv_ladd C.1 C.2.1 dJ13_bitCount_95d88_28 ?_
  refine lv_ldc2 (v := 1085102592571150095) C.1 C.2.1 C.2.2.2.2.1 (hT _ (in_tb 367 (by decide +kernel) rfl)) dJ13_bitCount_95d88_29 ?_
  refine lv_land C.1 C.2.1 dJ13_bitCount_95d88_32 ?_
  refine lv_lstore_n C.1 C.2.1 dJ13_bitCount_95d88_33 rfl L2 (by decide) rfl (fun ls3 L3 => ?_)
  refine lv_lload_n C.1 C.2.1 dJ13_bitCount_95d88_34 rfl (L3.2.2 (0, .long _) List.mem_cons_self) ?_
  refine lv_lload_n C.1 C.2.1 dJ13_bitCount_95d88_35 rfl (L3.2.2 (0, .long _) List.mem_cons_self) ?_
  refine lv_bipush (v := 8) C.1 C.2.1 dJ13_bitCount_95d88_36 (by decide) ?_
  refine lv_lushr C.1 C.2.1 dJ13_bitCount_95d88_38 rfl ?_
  refine lv_ladd C.1 C.2.1 dJ13_bitCount_95d88_39 ?_
  refine lv_lstore_n C.1 C.2.1 dJ13_bitCount_95d88_40 rfl L3 (by decide) rfl (fun ls4 L4 => ?_)
  refine lv_lload_n C.1 C.2.1 dJ13_bitCount_95d88_41 rfl (L4.2.2 (0, .long _) List.mem_cons_self) ?_
  refine lv_lload_n C.1 C.2.1 dJ13_bitCount_95d88_42 rfl (L4.2.2 (0, .long _) List.mem_cons_self) ?_
  refine lv_bipush (v := 16) C.1 C.2.1 dJ13_bitCount_95d88_43 (by decide) ?_
  refine lv_lushr C.1 C.2.1 dJ13_bitCount_95d88_45 rfl ?_
  refine lv_ladd C.1 C.2.1 dJ13_bitCount_95d88_46 ?_
  refine lv_lstore_n C.1 C.2.1 dJ13_bitCount_95d88_47 rfl L4 (by decide) rfl (fun ls5 L5 => ?_)
  refine lv_lload_n C.1 C.2.1 dJ13_bitCount_95d88_48 rfl (L5.2.2 (0, .long _) List.mem_cons_self) ?_
  refine lv_lload_n C.1 C.2.1 dJ13_bitCount_95d88_49 rfl (L5.2.2 (0, .long _) List.mem_cons_self) ?_
  refine lv_bipush (v := 32) C.1 C.2.1 dJ13_bitCount_95d88_50 (by decide) ?_
  refine lv_lushr C.1 C.2.1 dJ13_bitCount_95d88_52 rfl ?_
  refine lv_ladd C.1 C.2.1 dJ13_bitCount_95d88_53 ?_
  refine lv_lstore_n C.1 C.2.1 dJ13_bitCount_95d88_54 rfl L5 (by decide) rfl (fun ls6 L6 => ?_)
  refine lv_lload_n C.1 C.2.1 dJ13_bitCount_95d88_55 rfl (L6.2.2 (0, .long _) List.mem_cons_self) ?_
  refine lv_l2i C.1 C.2.1 dJ13_bitCount_95d88_56 rfl ?_
  refine lv_bipush (v := 127) C.1 C.2.1 dJ13_bitCount_95d88_57 (by decide) ?_
  refine lv_iand C.1 C.2.1 dJ13_bitCount_95d88_59 ?_
  have hv := bc_cnt x
  have S0 : va_S (am_A T E) s.heap s.heap [] := va_S.rf
  show W _ _ _ _ _ _ _ _ _ _ _ _ _ _ _ (F0 m 60 ls6 [.int (bcE x)])
  rw [hv]
  exact W.iret C.1 C.2.1 (C.2.2.1.trans rfl) (fun t ht hW => am_end (r := some (vI _)) ⟨_, rfl, rfl, rfl⟩ G S0 ht hW) S0.2.2 dJ13_bitCount_95d88_60 C.2.2.2.2.2.2
