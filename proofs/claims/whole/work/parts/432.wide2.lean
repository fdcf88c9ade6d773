/-! PURE PART: the square of a number of limbs (written from wide by a program) -/
theorem s_pq14 {k5 : Int64 → Int32 → (Nat → Int64) → Prop} {A : Nat → Int64} {a : Nat → Nat} {i c : Nat} {row : Nat → Int64} (ha : dig A a 5) (hi : i < 5) (hc : c < 8589934592)
    (k : k5 (Int64.ofInt (((c + cvp a a i (i + 1)) / 1073741824 : Nat) : Int)) (nI (i + 1)) (vp_updL row i (Int64.ofInt (((c + cvp a a i (i + 1)) % 1073741824 : Nat) : Int)))) : ∀ (m j : Nat), j + m = i + 1 → L_X10_putProduct_a21_14 k5 A (m + 1) (Int64.ofInt ((c + cvp a a i j : Nat) : Int)) (nI i) (nI j) row
  | 0, j, hj => by
    have : j = i + 1 := by omega
    subst this
    have le := cvp_le (fun j hj => (ha j hj).2) (fun j hj => (ha j hj).2) hi (i + 1) (by omega)
    have lt : c + cvp a a i (i + 1) < 9223372036854775808 := by omega
    refine ⟨fun _ => ⟨vin i (by omega) (by omega) rfl, fun g eg x ex y ey => ?_⟩, fun q => absurd ?_ q⟩
    · rw [nI_clamp (by omega), m30 lt] at eg
      rw [s30 lt] at ex
      rw [eg, ex, ey, nI_1]; exact k
    · rw [i32_lt, nI_toInt (by omega), nI_toInt (by omega)]; omega
  | m + 1, j, hj => by
    have e : nI i - nI j = nI (i - j) := by
      have := nI_sub1 j (i - j)
      rw [show j + (i - j) = i by omega] at this; exact this
    refine ⟨fun q => ?_, fun _ => ⟨vin j (by omega) (by omega) rfl, vin (i - j) (by omega) (by omega) e, fun x ex y ey => ?_⟩⟩
    · rw [i32_lt, nI_toInt (by omega), nI_toInt (by omega)] at q; omega
    have ex' : x = Int64.ofInt ((c + cvp a a i (j + 1) : Nat) : Int) := by
      rw [ex, e, nI_clamp (by omega), nI_clamp (by omega), (ha j (by omega)).1, (ha (i - j) (by omega)).1, o_mul, o_add]
      congr 1
      show _ = ((c + (cvp a a i j + a j * a (i - j)) : Nat) : Int)
      rw [← Int.natCast_mul]; omega
    rw [ex', ey, nI_1]
    exact s_pq14 ha hi hc k m (j + 1) (by omega)
theorem s_pq5 {post : (Nat → Int64) → Prop} {A : Nat → Int64} {a : Nat → Nat} (ha : dig A a 5) (hv : vl a 5 * vl a 5 < 1073741824 ^ 5) (k : ∀ row, hlds row 5 (vl a 5 * vl a 5) → post row) : ∀ (m i c : Nat) (row : Nat → Int64) (d : Nat → Nat), i + m = 5 → c < 8589934592 → dig row d i → vl d i + c * 1073741824 ^ i = cvT a a i → L_X10_putProduct_a21_5 post A (m + 1) (Int64.ofInt (c : Int)) (nI i) row
  | 0, i, c, row, d, hi, hc, hd, hs => by
    have : i = 5 := by omega
    subst this
    exact ⟨fun _ => k row ⟨d, hd, conv_eq hs hv⟩, fun q => absurd (by decide) q⟩
  | m + 1, i, c, row, d, hi, hc, hd, hs => by
    have le := cvp_le (fun j hj => (ha j hj).2) (fun j hj => (ha j hj).2) (show i < 5 by omega) (i + 1) (by omega)
    refine ⟨fun q => ?_, fun _ => ⟨i + 2, s_pq14 ha (show i < 5 by omega) hc ?_ (i + 1) 0 (by omega)⟩⟩
    · rw [n_5, nI_leI (by omega) (by omega)] at q; omega
    refine s_pq5 ha hv k m (i + 1) _ _ (updN d i ((c + cvp a a i (i + 1)) % 1073741824)) (by omega) (by omega) (dig_s hd (by omega)) ?_
    rw [vl_upd, Nat.pow_succ, carry (x := c + cvp a a i (i + 1)) rfl rfl]
    show _ = cvT a a i + cvp a a i (i + 1) * _
    rw [Nat.add_mul]; omega
theorem s_square {post : (Nat → Int64) → Prop} {A row : Nat → Int64} {x : Nat} (hx : hlds A 5 x) (hv : x * x < 1073741824 ^ 5) (k : ∀ row, hlds row 5 (x * x) → post row) : F_X10_putProduct_a21 row A post := by
  obtain ⟨a, ha, rfl⟩ := hx
  exact ⟨6, s_pq5 ha hv k 5 0 0 row (fun _ => 0) (by omega) (by omega) dig_0 (by show 0 + 0 * 1 = 0; omega)⟩
