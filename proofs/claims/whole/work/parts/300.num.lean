/-! PURE PART: numbers. Int64 and Int32 as images of Int; ranges; places of rows. -/
theorem o_i2l (x : Int32) : x.toInt64 = Int64.ofInt x.toInt := rfl
theorem o_self (x : Int64) : x = Int64.ofInt x.toInt := (Int64.ofInt_toInt x).symm
theorem o_add (a b : Int) : Int64.ofInt a + Int64.ofInt b = Int64.ofInt (a + b) := (Int64.ofInt_add a b).symm
theorem o_sub (a b : Int) : Int64.ofInt a - Int64.ofInt b = Int64.ofInt (a - b) := (Int64.ofInt_sub a b).symm
theorem o_mul (a b : Int) : Int64.ofInt a * Int64.ofInt b = Int64.ofInt (a * b) := (Int64.ofInt_mul a b).symm
theorem o_neg (a : Int) : -Int64.ofInt a = Int64.ofInt (-a) := (Int64.ofInt_neg a).symm
def r63 (a : Int) : Prop := -9223372036854775808 ≤ a ∧ a < 9223372036854775808
theorem o_toInt {a : Int} (h : r63 a) : (Int64.ofInt a).toInt = a := Int64.toInt_ofInt_of_le (by have := h.1; omega) (by have := h.2; omega)
theorem o_lt {a b : Int} (ha : r63 a) (hb : r63 b) : Int64.ofInt a < Int64.ofInt b ↔ a < b := by rw [Int64.lt_iff_toInt_lt, o_toInt ha, o_toInt hb]
theorem o_le {a b : Int} (ha : r63 a) (hb : r63 b) : Int64.ofInt a ≤ Int64.ofInt b ↔ a ≤ b := by rw [Int64.le_iff_toInt_le, o_toInt ha, o_toInt hb]
theorem o_eq {a b : Int} (ha : r63 a) (hb : r63 b) : Int64.ofInt a = Int64.ofInt b ↔ a = b := by rw [← Int64.toInt_inj, o_toInt ha, o_toInt hb]
theorem o_0 : (0 : Int64) = Int64.ofInt 0 := rfl
theorem o_1 : (1 : Int64) = Int64.ofInt 1 := rfl
theorem o_m1 : (-1 : Int64) = Int64.ofInt (-1) := rfl
-- Int32
def r31 (a : Int) : Prop := -2147483648 ≤ a ∧ a < 2147483648
theorem q_self (x : Int32) : x = Int32.ofInt x.toInt := (Int32.ofInt_toInt x).symm
theorem q_add (a b : Int) : Int32.ofInt a + Int32.ofInt b = Int32.ofInt (a + b) := (Int32.ofInt_add a b).symm
theorem q_sub (a b : Int) : Int32.ofInt a - Int32.ofInt b = Int32.ofInt (a - b) := (Int32.ofInt_sub a b).symm
theorem q_mul (a b : Int) : Int32.ofInt a * Int32.ofInt b = Int32.ofInt (a * b) := (Int32.ofInt_mul a b).symm
theorem q_toInt {a : Int} (h : r31 a) : (Int32.ofInt a).toInt = a := Int32.toInt_ofInt_of_le (by have := h.1; omega) (by have := h.2; omega)
theorem q_l {a : Int} (h : r31 a) : (Int32.ofInt a).toInt64 = Int64.ofInt a := by rw [o_i2l, q_toInt h]
/-- a number within a bound -/
def bd (B a : Int) : Prop := -B ≤ a ∧ a ≤ B
theorem bd_mul {A B a b : Int} (ha : bd A a) (hb : bd B b) : bd (A * B) (a * b) := by
  obtain ⟨a1, a2⟩ := ha
  obtain ⟨b1, b2⟩ := hb
  have hA : 0 ≤ A := by omega
  have hB : 0 ≤ B := by omega
  have h1 : (a * b).natAbs ≤ A.natAbs * B.natAbs := by
    rw [Int.natAbs_mul]
    exact Nat.mul_le_mul (by omega) (by omega)
  have h2 : ((A.natAbs * B.natAbs : Nat) : Int) = A * B := by
    rw [Int.natCast_mul, Int.natAbs_of_nonneg hA, Int.natAbs_of_nonneg hB]
  constructor <;> omega
theorem bd_add {A B a b : Int} (ha : bd A a) (hb : bd B b) : bd (A + B) (a + b) := ⟨by have := ha.1; have := hb.1; omega, by have := ha.2; have := hb.2; omega⟩
theorem bd_sub {A B a b : Int} (ha : bd A a) (hb : bd B b) : bd (A + B) (a - b) := ⟨by have := ha.1; have := hb.2; omega, by have := ha.2; have := hb.1; omega⟩
theorem bd_neg {A a : Int} (ha : bd A a) : bd A (-a) := ⟨by have := ha.2; omega, by have := ha.1; omega⟩
theorem bd_le {A B a : Int} (h : A ≤ B) (ha : bd A a) : bd B a := ⟨by have := ha.1; omega, by have := ha.2; omega⟩
theorem bd_r63 {A a : Int} (h : A < 9223372036854775808) (ha : bd A a) : r63 a := ⟨by have := ha.1; omega, by have := ha.2; omega⟩
theorem bd_r31 {A a : Int} (h : A < 2147483648) (ha : bd A a) : r31 a := ⟨by have := ha.1; omega, by have := ha.2; omega⟩
-- literals as nI
theorem n_0 : (0 : Int32) = nI 0 := rfl
theorem n_1 : (1 : Int32) = nI 1 := rfl
theorem n_2 : (2 : Int32) = nI 2 := rfl
theorem n_3 : (3 : Int32) = nI 3 := rfl
theorem n_4 : (4 : Int32) = nI 4 := rfl
theorem n_5 : (5 : Int32) = nI 5 := rfl
theorem n_6 : (6 : Int32) = nI 6 := rfl
theorem n_7 : (7 : Int32) = nI 7 := rfl
theorem n_8 : (8 : Int32) = nI 8 := rfl
theorem n_9 : (9 : Int32) = nI 9 := rfl
theorem n_128 : (128 : Int32) = nI 128 := rfl
theorem bz_0 : bz 0 := ⟨rfl, rfl⟩
theorem bz_1 : bz 1 := ⟨rfl, rfl⟩
-- trials of what the solvers can do
theorem try_ring (a b c d : Int) : a * (b - c) * d = a * b * d - a * c * d := by grind
theorem try_cross (dx dy dz ax ay az bx by_ bz_ cx cy cz : Int) : dx * ((by_ - ay) * (cz - az) - (bz_ - az) * (cy - ay)) + dy * ((bz_ - az) * (cx - ax) - (bx - ax) * (cz - az)) + dz * ((bx - ax) * (cy - ay) - (by_ - ay) * (cx - ax))
  = (dx * (ay * bz_ - az * by_) + dy * (az * bx - ax * bz_) + dz * (ax * by_ - ay * bx)) + (dx * (by_ * cz - bz_ * cy) + dy * (bz_ * cx - bx * cz) + dz * (bx * cy - by_ * cx)) + (dx * (cy * az - cz * ay) + dy * (cz * ax - cx * az) + dz * (cx * ay - cy * ax)) := by grind
