/-! PURE PART: numbers of limbs, the class's -/
def vl (d : Nat → Nat) : Nat → Nat
  | 0 => 0
  | n + 1 => vl d n + d n * 1073741824 ^ n
def updN (d : Nat → Nat) (k x : Nat) : Nat → Nat := fun j => if j = k then x else d j
theorem vl_congr {d e : Nat → Nat} : ∀ n, (∀ j, j < n → d j = e j) → vl d n = vl e n
  | 0, _ => rfl
  | n + 1, h => by show vl d n + d n * _ = vl e n + e n * _; rw [vl_congr n (fun j hj => h j (by omega)), h n (by omega)]
theorem vl_upd {d : Nat → Nat} {k x : Nat} : vl (updN d k x) (k + 1) = vl d k + x * 1073741824 ^ k := by
  show vl (updN d k x) k + updN d k x k * _ = _
  rw [vl_congr (e := d) k (fun j hj => by unfold updN; rw [if_neg (by omega)])]
  unfold updN; rw [if_pos rfl]
/-- the first limbs of a row -/
def dig (row : Nat → Int64) (d : Nat → Nat) (n : Nat) : Prop := ∀ j, j < n → row j = Int64.ofInt ((d j : Nat) : Int) ∧ d j < 1073741824
theorem dig_0 {row : Nat → Int64} {d : Nat → Nat} : dig row d 0 := fun j h => absurd h (by omega)
theorem dig_s {row : Nat → Int64} {d : Nat → Nat} {k x : Nat} (h : dig row d k) (hx : x < 1073741824) : dig (vp_updL row k (Int64.ofInt (x : Int))) (updN d k x) (k + 1) := fun j hj => by
  unfold updN
  by_cases e : j = k
  · subst e; rw [uL_s, if_pos rfl]; exact ⟨rfl, hx⟩
  · rw [uL_n e, if_neg e]; exact h j (by omega)
/-- a row of limbs holds a number -/
def hlds (row : Nat → Int64) (n v : Nat) : Prop := ∃ d, dig row d n ∧ vl d n = v
theorem vl_lt {d : Nat → Nat} : ∀ n, (∀ j, j < n → d j < 1073741824) → vl d n < 1073741824 ^ n
  | 0, _ => by show 0 < 1; omega
  | n + 1, h => by
    have h1 := vl_lt n (fun j hj => h j (by omega))
    have h2 := h n (by omega)
    show vl d n + d n * 1073741824 ^ n < 1073741824 ^ (n + 1)
    rw [Nat.pow_succ]
    have h3 : (d n + 1) * 1073741824 ^ n ≤ 1073741824 * 1073741824 ^ n := Nat.mul_le_mul_right _ h2
    rw [Nat.add_mul, Nat.one_mul] at h3
    rw [Nat.mul_comm (1073741824 ^ n)]
    omega
theorem carry {P x d c T : Nat} (h1 : d = x % 1073741824) (h2 : c = x / 1073741824) : T + d * P + c * (P * 1073741824) = T + x * P := by
  have h3 : x = d + c * 1073741824 := by omega
  rw [h3]; grind
theorem over0 {T c v : Nat} {n : Nat} (h : T + c * 1073741824 ^ n = v) (hv : v < 1073741824 ^ n) : c = 0 ∧ T = v := by
  by_cases e : c = 0
  · subst e; exact ⟨rfl, by omega⟩
  · have : 1 * 1073741824 ^ n ≤ c * 1073741824 ^ n := Nat.mul_le_mul_right _ (by omega)
    omega
theorem s_put5 {post : (Nat → Int64) → Prop} {v : Nat} (hv : v < 9223372036854775808) (k : ∀ row, hlds row 5 v → post row) : ∀ (m i r : Nat) (row : Nat → Int64) (d : Nat → Nat), i + m = 5 → r ≤ v → dig row d i → vl d i + r * 1073741824 ^ i = v → L_X10_put_5 post (m + 1) (Int64.ofInt (r : Int)) (nI i) row
  | 0, i, r, row, d, hi, hr, hd, hs => by
    have : i = 5 := by omega
    subst this
    have := over0 hs (by omega)
    exact ⟨fun _ => k row ⟨d, hd, this.2⟩, fun q => absurd (by decide) q⟩
  | m + 1, i, r, row, d, hi, hr, hd, hs => by
    refine ⟨fun q => ?_, fun _ => ⟨vin i (by omega) (by omega) rfl, fun g eg x ex y ey => ?_⟩⟩
    · rw [n_5, nI_leI (by omega) (by omega)] at q; omega
    rw [nI_clamp (by omega), m30 (by omega)] at eg
    rw [s30 (by omega)] at ex
    rw [eg, ex, ey, nI_1]
    refine s_put5 hv k m (i + 1) (r / 1073741824) _ _ (by omega) (by omega) (dig_s hd (by omega)) ?_
    rw [vl_upd, Nat.pow_succ, carry (x := r) rfl rfl]; exact hs
theorem s_put {post : (Nat → Int64) → Prop} {v : Nat} {row : Nat → Int64} (hv : v < 9223372036854775808) (k : ∀ row, hlds row 5 v → post row) : F_X10_put (Int64.ofInt (v : Int)) row post :=
  ⟨6, s_put5 hv k 5 0 v row (fun _ => 0) (by omega) (by omega) dig_0 (by show 0 + v * 1 = v; omega)⟩
theorem s_add5 {post : (Nat → Int64) → Prop} {a b : Nat → Nat} {other : Nat → Int64} {v : Nat} (hb : dig other b 5) (ha : ∀ j, j < 5 → a j < 1073741824) (hv : vl a 5 + vl b 5 = v) (hv5 : v < 1073741824 ^ 5) (k : ∀ row, hlds row 5 v → post row) : ∀ (m i c : Nat) (row : Nat → Int64) (d : Nat → Nat), i + m = 5 → c < 4 → dig row d i → (∀ j, i ≤ j → j < 5 → row j = Int64.ofInt ((a j : Nat) : Int)) →
    vl d i + c * 1073741824 ^ i = vl a i + vl b i → L_X10_add_5 post other (m + 1) (Int64.ofInt (c : Int)) (nI i) row
  | 0, i, c, row, d, hi, hc, hd, hr, hs => by
    have : i = 5 := by omega
    subst this
    have := over0 (hs.trans hv) hv5
    exact ⟨fun _ => k row ⟨d, hd, this.2⟩, fun q => absurd (by decide) q⟩
  | m + 1, i, c, row, d, hi, hc, hd, hr, hs => by
    have v5 : vp_in (nI i) 5 := vin i (by omega) (by omega) rfl
    have hbi := hb i (by omega)
    have hai := ha i (by omega)
    refine ⟨fun q => ?_, fun _ => ⟨v5, v5, fun x ex => ⟨v5, fun g eg y ey z ez => ?_⟩⟩⟩
    · rw [n_5, nI_leI (by omega) (by omega)] at q; omega
    have ex' : x = Int64.ofInt ((c + (a i + b i) : Nat) : Int) := by
      rw [ex, nI_clamp (by omega), hr i (by omega) (by omega), hbi.1, o_add, o_add]; congr 1
    rw [nI_clamp (by omega), ex', m30 (by omega)] at eg
    rw [ex', s30 (by omega)] at ey
    rw [eg, ey, ez, nI_1]
    refine s_add5 hb ha hv hv5 k m (i + 1) ((c + (a i + b i)) / 1073741824) _ _ (by omega) (by omega) (dig_s hd (by omega)) (fun j h1 h2 => ?_) ?_
    · rw [uL_n (by omega)]; exact hr j (by omega) h2
    rw [vl_upd, Nat.pow_succ, carry (x := c + (a i + b i)) rfl rfl]
    show _ = (vl a i + a i * _) + (vl b i + b i * _)
    rw [Nat.add_mul, Nat.add_mul]; omega
theorem s_addW {post : (Nat → Int64) → Prop} {row other : Nat → Int64} {x y : Nat} (hx : hlds row 5 x) (hy : hlds other 5 y) (h : x + y < 1073741824 ^ 5) (k : ∀ row, hlds row 5 (x + y) → post row) : F_X10_add row other post := by
  obtain ⟨a, ha, ea⟩ := hx
  obtain ⟨b, hb, eb⟩ := hy
  exact ⟨6, s_add5 hb (fun j hj => (ha j hj).2) (v := x + y) (by rw [ea, eb]) h k 5 0 0 row (fun _ => 0) (by omega) (by omega) dig_0 (fun j _ hj => (ha j hj).1) (by show 0 + 0 * 1 = 0 + 0; omega)⟩
/-- a part of the sum of products -/
def cvp (a b : Nat → Nat) (i : Nat) : Nat → Nat
  | 0 => 0
  | j + 1 => cvp a b i j + a j * b (i - j)
def cvT (a b : Nat → Nat) : Nat → Nat
  | 0 => 0
  | i + 1 => cvT a b i + cvp a b i (i + 1) * 1073741824 ^ i
theorem mul_bd {x y : Nat} (hx : x < 1073741824) (hy : y < 1073741824) : x * y ≤ 1152921502459363329 := by
  have : x * y ≤ 1073741823 * 1073741823 := Nat.mul_le_mul (by omega) (by omega)
  omega
theorem cvp_le {a b : Nat → Nat} {i : Nat} (ha : ∀ j, j < 5 → a j < 1073741824) (hb : ∀ j, j < 5 → b j < 1073741824) (hi : i < 5) : ∀ j, j ≤ i + 1 → cvp a b i j ≤ j * 1152921502459363329
  | 0, _ => by show 0 ≤ _; omega
  | j + 1, h => by
    have h1 := cvp_le ha hb hi j (by omega)
    have h2 := mul_bd (ha j (by omega)) (hb (i - j) (by omega))
    show cvp a b i j + a j * b (i - j) ≤ _
    rw [Nat.add_mul]; omega
theorem conv5 (B a0 a1 a2 a3 a4 b0 b1 b2 b3 b4 : Nat) : (a0 + a1 * B + a2 * B ^ 2 + a3 * B ^ 3 + a4 * B ^ 4) * (b0 + b1 * B + b2 * B ^ 2 + b3 * B ^ 3 + b4 * B ^ 4)
    = (a0 * b0 + (a0 * b1 + a1 * b0) * B + (a0 * b2 + a1 * b1 + a2 * b0) * B ^ 2 + (a0 * b3 + a1 * b2 + a2 * b1 + a3 * b0) * B ^ 3 + (a0 * b4 + a1 * b3 + a2 * b2 + a3 * b1 + a4 * b0) * B ^ 4) + ((a1 * b4 + a2 * b3 + a3 * b2 + a4 * b1) + (a2 * b4 + a3 * b3 + a4 * b2) * B + (a3 * b4 + a4 * b3) * B ^ 2 + a4 * b4 * B ^ 3) * B ^ 5 := by grind
theorem vl_5 (d : Nat → Nat) : vl d 5 = d 0 + d 1 * 1073741824 + d 2 * 1073741824 ^ 2 + d 3 * 1073741824 ^ 3 + d 4 * 1073741824 ^ 4 := by
  show 0 + d 0 * 1073741824 ^ 0 + d 1 * 1073741824 ^ 1 + d 2 * 1073741824 ^ 2 + d 3 * 1073741824 ^ 3 + d 4 * 1073741824 ^ 4 = _
  rw [Nat.pow_zero, Nat.pow_one, Nat.mul_one, Nat.zero_add]
theorem cvT_5 (a b : Nat → Nat) : cvT a b 5 = a 0 * b 0 + (a 0 * b 1 + a 1 * b 0) * 1073741824 + (a 0 * b 2 + a 1 * b 1 + a 2 * b 0) * 1073741824 ^ 2 + (a 0 * b 3 + a 1 * b 2 + a 2 * b 1 + a 3 * b 0) * 1073741824 ^ 3 + (a 0 * b 4 + a 1 * b 3 + a 2 * b 2 + a 3 * b 1 + a 4 * b 0) * 1073741824 ^ 4 := by
  show 0 + (0 + a 0 * b 0) * 1073741824 ^ 0 + (0 + a 0 * b 1 + a 1 * b 0) * 1073741824 ^ 1 + (0 + a 0 * b 2 + a 1 * b 1 + a 2 * b 0) * 1073741824 ^ 2 + (0 + a 0 * b 3 + a 1 * b 2 + a 2 * b 1 + a 3 * b 0) * 1073741824 ^ 3 + (0 + a 0 * b 4 + a 1 * b 3 + a 2 * b 2 + a 3 * b 1 + a 4 * b 0) * 1073741824 ^ 4 = _
  rw [Nat.pow_zero, Nat.pow_one, Nat.mul_one]
  simp only [Nat.zero_add]
theorem over_sum {v c R T P X : Nat} (h : v + c * P = T) (e : X = T + R * P) : v + (c + R) * P = X := by rw [Nat.add_mul]; omega
theorem conv_eq {a b d : Nat → Nat} {c : Nat} (h : vl d 5 + c * 1073741824 ^ 5 = cvT a b 5) (hv : vl a 5 * vl b 5 < 1073741824 ^ 5) : vl d 5 = vl a 5 * vl b 5 := by
  have e := conv5 1073741824 (a 0) (a 1) (a 2) (a 3) (a 4) (b 0) (b 1) (b 2) (b 3) (b 4)
  rw [← vl_5 a, ← vl_5 b, ← cvT_5 a b] at e
  generalize (a 1 * b 4 + a 2 * b 3 + a 3 * b 2 + a 4 * b 1) + (a 2 * b 4 + a 3 * b 3 + a 4 * b 2) * 1073741824 + (a 3 * b 4 + a 4 * b 3) * 1073741824 ^ 2 + a 4 * b 4 * 1073741824 ^ 3 = R at e
  have h2 : vl d 5 + (c + R) * 1073741824 ^ 5 = vl a 5 * vl b 5 := over_sum h e
  exact (over0 h2 hv).2
theorem s_pp14 {k5 : Int64 → Int32 → (Nat → Int64) → Prop} {A Bb : Nat → Int64} {a b : Nat → Nat} {i c : Nat} {row : Nat → Int64} (ha : dig A a 5) (hb : dig Bb b 5) (hi : i < 5) (hc : c < 8589934592)
    (k : k5 (Int64.ofInt (((c + cvp a b i (i + 1)) / 1073741824 : Nat) : Int)) (nI (i + 1)) (vp_updL row i (Int64.ofInt (((c + cvp a b i (i + 1)) % 1073741824 : Nat) : Int)))) : ∀ (m j : Nat), j + m = i + 1 → L_X10_putProduct_14 k5 A Bb (m + 1) (Int64.ofInt ((c + cvp a b i j : Nat) : Int)) (nI i) (nI j) row
  | 0, j, hj => by
    have : j = i + 1 := by omega
    subst this
    have le := cvp_le (fun j hj => (ha j hj).2) (fun j hj => (hb j hj).2) hi (i + 1) (by omega)
    have lt : c + cvp a b i (i + 1) < 9223372036854775808 := by omega
    refine ⟨fun _ => ⟨vin i (by omega) (by omega) rfl, fun g eg x ex y ey => ?_⟩, fun q => absurd ?_ q⟩
    · rw [nI_clamp (by omega), m30 lt] at eg
      rw [s30 lt] at ex
      rw [eg, ex, ey, nI_1]; exact k
    · rw [i32_lt, nI_toInt (by omega), nI_toInt (by omega)]; omega
  | m + 1, j, hj => by
    have e : nI i - nI j = nI (i - j) := by
      have := nI_sub1 j (i - j)
      rw [show j + (i - j) = i by omega] at this; exact this
    refine ⟨fun q => ?_, fun _ => ⟨vin j (by omega) (by omega) rfl, vin (i - j) (by omega) (by omega) e, fun x ex y ey => ?_⟩⟩
    · rw [i32_lt, nI_toInt (by omega), nI_toInt (by omega)] at q; omega
    have ex' : x = Int64.ofInt ((c + cvp a b i (j + 1) : Nat) : Int) := by
      rw [ex, e, nI_clamp (by omega), nI_clamp (by omega), (ha j (by omega)).1, (hb (i - j) (by omega)).1, o_mul, o_add]
      congr 1
      show _ = ((c + (cvp a b i j + a j * b (i - j)) : Nat) : Int)
      rw [← Int.natCast_mul]; omega
    rw [ex', ey, nI_1]
    exact s_pp14 ha hb hi hc k m (j + 1) (by omega)
theorem s_pp5 {post : (Nat → Int64) → Prop} {A Bb : Nat → Int64} {a b : Nat → Nat} (ha : dig A a 5) (hb : dig Bb b 5) (hv : vl a 5 * vl b 5 < 1073741824 ^ 5) (k : ∀ row, hlds row 5 (vl a 5 * vl b 5) → post row) : ∀ (m i c : Nat) (row : Nat → Int64) (d : Nat → Nat), i + m = 5 → c < 8589934592 → dig row d i → vl d i + c * 1073741824 ^ i = cvT a b i → L_X10_putProduct_5 post A Bb (m + 1) (Int64.ofInt (c : Int)) (nI i) row
  | 0, i, c, row, d, hi, hc, hd, hs => by
    have : i = 5 := by omega
    subst this
    exact ⟨fun _ => k row ⟨d, hd, conv_eq hs hv⟩, fun q => absurd (by decide) q⟩
  | m + 1, i, c, row, d, hi, hc, hd, hs => by
    have le := cvp_le (fun j hj => (ha j hj).2) (fun j hj => (hb j hj).2) (show i < 5 by omega) (i + 1) (by omega)
    refine ⟨fun q => ?_, fun _ => ⟨i + 2, s_pp14 ha hb (show i < 5 by omega) hc ?_ (i + 1) 0 (by omega)⟩⟩
    · rw [n_5, nI_leI (by omega) (by omega)] at q; omega
    refine s_pp5 ha hb hv k m (i + 1) _ _ (updN d i ((c + cvp a b i (i + 1)) % 1073741824)) (by omega) (by omega) (dig_s hd (by omega)) ?_
    rw [vl_upd, Nat.pow_succ, carry (x := c + cvp a b i (i + 1)) rfl rfl]
    show _ = cvT a b i + cvp a b i (i + 1) * _
    rw [Nat.add_mul]; omega
theorem s_product {post : (Nat → Int64) → Prop} {A Bb row : Nat → Int64} {x y : Nat} (hx : hlds A 5 x) (hy : hlds Bb 5 y) (hv : x * y < 1073741824 ^ 5) (k : ∀ row, hlds row 5 (x * y) → post row) : F_X10_putProduct row A Bb post := by
  obtain ⟨a, ha, rfl⟩ := hx
  obtain ⟨b, hb, rfl⟩ := hy
  exact ⟨6, s_pp5 ha hb hv k 5 0 0 row (fun _ => 0) (by omega) (by omega) dig_0 (by show 0 + 0 * 1 = 0; omega)⟩
