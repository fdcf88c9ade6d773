/-! PURE PART: the level, the class's -/
theorem top_eq {a b : Nat → Nat} {m : Nat} (h : a m = b m) : vl b (m + 1) ≤ vl a (m + 1) ↔ vl b m ≤ vl a m := by
  show vl b m + b m * 1073741824 ^ m ≤ vl a m + a m * 1073741824 ^ m ↔ _
  rw [h]; omega
theorem top_lt {a b : Nat → Nat} {m : Nat} (ha : vl a m < 1073741824 ^ m) (h : a m < b m) : vl a (m + 1) < vl b (m + 1) := by
  show vl a m + a m * 1073741824 ^ m < vl b m + b m * 1073741824 ^ m
  have h3 : (a m + 1) * 1073741824 ^ m ≤ b m * 1073741824 ^ m := Nat.mul_le_mul_right _ h
  rw [Nat.add_mul, Nat.one_mul] at h3
  omega
theorem lg_eqN {a b : Nat} (ha : a < 1073741824) (hb : b < 1073741824) : lg_cmp (Int64.ofInt (a : Int)) (Int64.ofInt (b : Int)) = 0 ↔ a = b := by
  rw [lg_cmp_eq, o_eq ⟨by omega, by omega⟩ ⟨by omega, by omega⟩]; omega
theorem lg_leN {a b : Nat} (ha : a < 1073741824) (hb : b < 1073741824) : lg_cmp (Int64.ofInt (a : Int)) (Int64.ofInt (b : Int)) ≤ 0 ↔ a ≤ b := by
  rw [lg_cmp_le, o_le ⟨by omega, by omega⟩ ⟨by omega, by omega⟩]; omega
theorem lg_geN {a b : Nat} (ha : a < 1073741824) (hb : b < 1073741824) : 0 ≤ lg_cmp (Int64.ofInt (a : Int)) (Int64.ofInt (b : Int)) ↔ b ≤ a := by
  rw [lg_cmp_ge, o_le ⟨by omega, by omega⟩ ⟨by omega, by omega⟩]; omega
theorem s_al2 {post : Int32 → Prop} {A Bb : Nat → Int64} {a b : Nat → Nat} (ha : dig A a 5) (hb : dig Bb b 5) : ∀ m, m ≤ 5 → (vl b m ≤ vl a m → post 1) → (¬ vl b m ≤ vl a m → post 0) → L_X10_isAtLeast_2 post A Bb (m + 1) (nI m + (-1))
  | 0, _, h1, _ => ⟨fun _ => h1 (Nat.le_refl 0), fun q => absurd (by decide) q⟩
  | m + 1, hm, h1, h0 => by
    rw [nI_p1']
    have v : vp_in (nI m) 5 := vin m (by omega) (by omega) rfl
    have am := ha m (by omega)
    have bm := hb m (by omega)
    have la := vl_lt (d := a) m (fun j hj => (ha j (by omega)).2)
    have lb := vl_lt (d := b) m (fun j hj => (hb j (by omega)).2)
    refine ⟨fun q => absurd q (nI_nn (by omega)), fun _ => ⟨v, v, ?_⟩⟩
    rw [nI_clamp (by omega), am.1, bm.1, lg_eqN am.2 bm.2, lg_leN am.2 bm.2]
    refine ⟨fun q x ex => ?_, fun q => ⟨v, v, fun q2 => h0 ?_, fun q2 => h1 ?_⟩⟩
    · rw [ex]; exact s_al2 ha hb m (by omega) (fun z => h1 ((top_eq q).mpr z)) (fun z => h0 (fun y => z ((top_eq q).mp y)))
    · have := top_lt (a := a) (b := b) la (by omega); omega
    · have := top_lt (a := b) (b := a) lb (by omega); omega
theorem s_atLeast {post : Int32 → Prop} {A Bb : Nat → Int64} {x y : Nat} (hx : hlds A 5 x) (hy : hlds Bb 5 y) (h1 : y ≤ x → post 1) (h0 : ¬ y ≤ x → post 0) : F_X10_isAtLeast A Bb post := by
  obtain ⟨a, ha, rfl⟩ := hx
  obtain ⟨b, hb, rfl⟩ := hy
  exact ⟨6, s_al2 ha hb 5 (by omega) h1 h0⟩
def lev (A U : Nat) : Nat → Nat
  | 0 => 0
  | k + 1 => if U * ((k + 1) * (k + 1)) ≤ A then k + 1 else lev A U k
def sqs (D : Nat → Int) : Nat → Nat
  | 0 => 0
  | i + 1 => sqs D i + (D i).natAbs * (D i).natAbs
section
variable {post : Int32 → (Nat → Int64) → (Nat → Int64) → (Nat → Int64) → (Nat → Int64) → (Nat → Int64) → (Nat → Int64) → Prop} {al : Nat → Int64}
theorem s_lv120 {sq ws rs un : Nat → Int64} {A U : Nat} (hA : hlds rs 5 A) (hU : hlds un 5 U) (hb : U * 225 < 1073741824 ^ 5) : ∀ (k : Nat) (fac bou : Nat → Int64), k ≤ 15 → (∀ fac' bou', post (nI (lev A U k)) fac' sq ws rs un bou') → L_X8_level_120 post 3 al (k + 1) (nI k) fac sq ws rs un bou
  | 0, fac, bou, _, fin => ⟨fun _ => fin _ _, fun q => absurd (by decide) q⟩
  | k + 1, fac, bou, hk, fin => by
    refine ⟨fun q => absurd q (by rw [i32_le, nI_toInt (by omega)]; show ¬ ((k + 1 : Nat) : Int) ≤ 0; omega), fun _ => ?_⟩
    have kk : (k + 1) * (k + 1) ≤ 15 * 15 := Nat.mul_le_mul hk hk
    have e : (nI (k + 1) * nI (k + 1)).toInt64 = Int64.ofInt (((k + 1) * (k + 1) : Nat) : Int) := by rw [pk_mul, o_i2l, nI_toInt (by omega)]
    rw [e]
    refine s_put (by omega) (fun fac' hf => s_product hU hf ?_ (fun bou' hbo => s_atLeast hA hbo (fun z => ⟨fun q => absurd q (by decide), fun _ => ?_⟩) (fun z => ⟨fun _ x ex => ?_, fun q => absurd rfl q⟩)))
    · have := Nat.mul_le_mul_left U kk; omega
    · have f := fin fac' bou'
      unfold lev at f
      rw [if_pos z] at f; exact f
    · rw [ex, nI_p1']
      refine s_lv120 hA hU hb k _ _ (by omega) (fun fac' bou' => ?_)
      have f := fin fac' bou'
      unfold lev at f
      rw [if_neg z] at f; exact f
theorem sqs_le {D : Nat → Int} (hb : ∀ j, j < 3 → bd 818000000000 (D j)) : ∀ i, i ≤ 3 → sqs D i ≤ i * 669124000000000000000000
  | 0, _ => by show 0 ≤ _; omega
  | i + 1, h => by
    have h1 := sqs_le hb i (by omega)
    have ⟨h2, h3⟩ := hb i (by omega)
    have h4 : (D i).natAbs * (D i).natAbs ≤ 818000000000 * 818000000000 := Nat.mul_le_mul (by omega) (by omega)
    show sqs D i + _ ≤ _
    rw [Nat.add_mul]; omega
theorem s_lv38 {D : Nat → Int} {NN A : Nat} {rs : Nat → Int64} (hD : asI al D 3) (hb : ∀ j, j < 3 → bd 818000000000 (D j)) (hN : NN < 210000000000) (hA : hlds rs 5 A) (fin : ∀ r1 r2 r3 r4 r5 r6, post (nI (lev A (sqs D 3 * NN) 15)) r1 r2 r3 r4 r5 r6) : ∀ (m i : Nat) (fac sq ws un bou : Nat → Int64), i + m = 3 → hlds ws 5 (sqs D i) → L_X8_level_38 post 3 al (m + 1) (Int64.ofInt (NN : Int)) (nI i) fac sq ws rs un bou
  | 0, i, fac, sq, ws, un, bou, hi, hw => by
    have : i = 3 := by omega
    subst this
    have le := sqs_le hb 3 (by omega)
    have l2 : sqs D 3 * NN ≤ 3 * 669124000000000000000000 * 210000000000 := Nat.mul_le_mul le (by omega)
    refine ⟨fun _ => s_put (by omega) (fun fac' hf => s_product hw hf (by omega) (fun un' hu => ⟨16, s_lv120 hA hu (by omega) 15 _ _ (by omega) (fun _ _ => fin _ _ _ _ _ _)⟩)), fun q => absurd (by decide) q⟩
  | m + 1, i, fac, sq, ws, un, bou, hi, hw => by
    have ⟨h2, h3⟩ := hb i (by omega)
    have le := sqs_le hb i (by omega)
    have le2 := sqs_le hb (i + 1) (by omega)
    have h4 : (D i).natAbs * (D i).natAbs ≤ 818000000000 * 818000000000 := Nat.mul_le_mul (by omega) (by omega)
    have h5 : i * 669124000000000000000000 ≤ 3 * 669124000000000000000000 := Nat.mul_le_mul_right _ (by omega)
    refine ⟨fun q => ?_, fun _ => ⟨vin i (by omega) (by omega) rfl, ?_⟩⟩
    · rw [nI_leI (by omega) (by omega)] at q; omega
    rw [nI_clamp (by omega), hD i (by omega), jabs_o (bd_le (by decide) ⟨h2, h3⟩)]
    refine s_put (by omega) (fun fac' hf => s_square hf (by omega) (fun sq' hq => s_addW hw hq (by omega) (fun ws' hw' x ex => ?_)))
    rw [ex, nI_1]
    exact s_lv38 hD hb hN hA fin m (i + 1) _ _ _ _ _ (by omega) hw'
theorem s_level {D : Nat → Int} {NN R : Nat} {r1 r2 r3 r4 r5 r6 : Nat → Int64} (hD : asI al D 3) (hb : ∀ j, j < 3 → bd 818000000000 (D j)) (hN : NN < 210000000000) (hR : 15 * R < 9223372036854775808) (fin : ∀ r1 r2 r3 r4 r5 r6, post (nI (lev (15 * R * (15 * R)) (sqs D 3 * NN) 15)) r1 r2 r3 r4 r5 r6) : F_X8_level (Int64.ofInt (R : Int)) (Int64.ofInt (NN : Int)) 3 r1 r2 r3 r4 r5 r6 al post := by
  have e : (15 : Int64) * Int64.ofInt (R : Int) = Int64.ofInt ((15 * R : Nat) : Int) := by
    rw [show (15 : Int64) = Int64.ofInt 15 from rfl, o_mul]; congr 1
  have h4 : 15 * R * (15 * R) ≤ 9223372036854775808 * 9223372036854775808 := Nat.mul_le_mul (by omega) (by omega)
  unfold F_X8_level
  rw [e]
  refine s_put hR (fun f1 h1 => s_square h1 (by omega) (fun f2 h2 => ?_))
  have z : (0 : Int64) = Int64.ofInt ((0 : Nat) : Int) := rfl
  rw [z]
  exact s_put (by omega) (fun f3 h3 => ⟨4, s_lv38 hD hb hN h2 fin 3 0 _ _ _ _ _ (by omega) h3⟩)
end
