/-! PURE PART: greatest common divisors, hit, told -/
theorem o_div {a b : Int} (ha : r63 a) (hb : r63 b) : Int64.ofInt a / Int64.ofInt b = Int64.ofInt (a.tdiv b) := by
  have e1 : Int64.minValue.toInt = -9223372036854775808 := rfl
  have e2 : Int64.maxValue.toInt = 9223372036854775807 := rfl
  obtain ⟨a1, a2⟩ := ha
  obtain ⟨b1, b2⟩ := hb
  exact (Int64.ofInt_tdiv (by omega) (by omega) (by omega) (by omega)).symm
theorem nat_r63 {a : Nat} (h : a < 9223372036854775808) : r63 (a : Int) := ⟨by omega, by omega⟩
theorem o_mod {a b : Nat} (ha : a < 9223372036854775808) (hb : b < 9223372036854775808) : Int64.ofInt (a : Int) - (Int64.ofInt (a : Int) / Int64.ofInt (b : Int)) * Int64.ofInt (b : Int) = Int64.ofInt ((a % b : Nat) : Int) := by
  rw [o_div (nat_r63 ha) (nat_r63 hb), o_mul, o_sub]
  congr 1
  have h := Nat.div_add_mod a b
  have e : ((a : Int).tdiv (b : Int)) = ((a / b : Nat) : Int) := Int.ofNat_tdiv a b
  rw [e]
  have h2 : ((a / b : Nat) : Int) * (b : Int) = ((b * (a / b) : Nat) : Int) := by rw [Int.natCast_mul, Int.mul_comm]
  rw [h2]; omega
theorem o_ne0 {b : Nat} (hb : b < 9223372036854775808) (h : b ≠ 0) : ¬ Int64.ofInt (b : Int) = 0 := by
  rw [o_0, o_eq (nat_r63 hb) ⟨by omega, by omega⟩]; omega
theorem o_z0 {b : Nat} (hb : b < 9223372036854775808) : lg_cmp (Int64.ofInt (b : Int)) 0 = 0 ↔ b = 0 := by rw [o_zero (nat_r63 hb)]; omega
theorem gcd_st (a b : Nat) : Nat.gcd b (a % b) = Nat.gcd a b := by rw [Nat.gcd_comm b, ← Nat.gcd_rec, Nat.gcd_comm]
theorem s_cd9 {post : Int64 → Prop} : ∀ (m a b k n : Nat), b < 2 ^ m → k + 2 * m ≤ 126 → 2 * m + 1 ≤ n → a < 9223372036854775808 → b < 9223372036854775808 → post (Int64.ofInt ((Nat.gcd a b : Nat) : Int)) → L_X3_commonDivisor_9 post n (Int64.ofInt (a : Int)) (Int64.ofInt (b : Int)) (nI k)
  | m, a, b, k, 0, _, _, hn, _, _, _ => absurd hn (by omega)
  | 0, a, b, k, n + 1, hb, hk, hn, ha, hb2, h => by
    have : b = 0 := by omega
    subst this
    refine ⟨fun q => ?_, fun _ => ⟨fun _ => by rw [Nat.gcd_zero_right] at h; exact h, fun q => absurd ((o_z0 (by omega)).mpr rfl) q⟩⟩
    rw [n_128, nI_leI (by omega) (by omega)] at q; omega
  | m + 1, a, b, k, 1, hb, hk, hn, ha, hb2, h => absurd hn (by omega)
  | m + 1, a, b, k, n + 2, hb, hk, hn, ha, hb2, h => by
    refine ⟨fun q => ?_, fun _ => ⟨fun q => ?_, fun q => ⟨?_, fun x ex y ey => ?_⟩⟩⟩
    · rw [n_128, nI_leI (by omega) (by omega)] at q; omega
    · rw [o_z0 hb2] at q; subst q; rw [Nat.gcd_zero_right] at h; exact h
    · rw [o_z0 hb2] at q; exact o_ne0 hb2 q
    rw [o_z0 hb2] at q
    have hb0 : 0 < b := by omega
    have hr : a % b < b := Nat.mod_lt a hb0
    rw [ex, ey, o_mod ha hb2, nI_1]
    have h' : post (Int64.ofInt ((Nat.gcd b (a % b) : Nat) : Int)) := by rw [gcd_st]; exact h
    refine ⟨fun q => ?_, fun _ => ⟨fun q2 => ?_, fun q2 => ⟨?_, fun x ex y ey => ?_⟩⟩⟩
    · rw [n_128, nI_leI (by omega) (by omega)] at q; omega
    · rw [o_z0 (by omega)] at q2; rw [q2, Nat.gcd_zero_right] at h'; exact h'
    · rw [o_z0 (by omega)] at q2; exact o_ne0 (by omega) q2
    rw [o_z0 (by omega)] at q2
    have hs : b % (a % b) < a % b := Nat.mod_lt b (by omega)
    have hs2 : b % (a % b) < 2 ^ m := by
      have p : 2 ^ (m + 1) = 2 * 2 ^ m := by rw [Nat.pow_succ, Nat.mul_comm]
      by_cases c : 2 * (a % b) ≤ b
      · omega
      · have e : b % (a % b) = b - a % b := by
          rw [Nat.mod_eq_sub_mod (by omega), Nat.mod_eq_of_lt (by omega)]
        omega
    rw [ex, ey, o_mod hb2 (by omega), nI_1]
    refine s_cd9 m (a % b) (b % (a % b)) (k + 1 + 1) n hs2 (by omega) (by omega) (by omega) (by omega) ?_
    rw [gcd_st]; exact h'
theorem s_cd {post : Int64 → Prop} {a b : Nat} (ha : a < 9223372036854775808) (hb : b < 9223372036854775808) (h : post (Int64.ofInt ((Nat.gcd a b : Nat) : Int))) : F_X3_commonDivisor (Int64.ofInt (a : Int)) (Int64.ofInt (b : Int)) post :=
  ⟨127, s_cd9 63 a b 0 127 (by omega) (by omega) (by omega) ha hb h⟩
/-- the common divisor of a row -/
def gN (R : Nat → Int) : Nat → Nat
  | 0 => 0
  | i + 1 => Nat.gcd (gN R i) (R i).natAbs
theorem gN_lt {R : Nat → Int} {N : Nat} (hb : ∀ j, j < N → bd bM (R j)) : ∀ i, i ≤ N → gN R i < 9223372036854775808
  | 0, _ => by show (0 : Nat) < _; omega
  | i + 1, h => by
    have h1 := gN_lt hb i (by omega)
    have h2 := hb i (by omega)
    show Nat.gcd (gN R i) (R i).natAbs < _
    obtain ⟨h3, h4⟩ := h2
    by_cases c : gN R i = 0
    · rw [c, Nat.gcd_zero_left]; unfold bM at h3 h4; omega
    · exact Nat.lt_of_le_of_lt (Nat.gcd_le_left _ (by omega)) h1
theorem jabs_o {a : Int} (h : bd bM a) : jabsL (Int64.ofInt a) = Int64.ofInt ((a.natAbs : Nat) : Int) := by
  have l : (0 : Int64) < Int64.ofInt a ↔ 0 < a := o_lt (a := 0) ⟨by omega, by omega⟩ (bd_r63 (by decide) h)
  unfold jabsL
  by_cases c : 0 < a
  · rw [if_pos (l.mpr c)]; congr 1; omega
  · rw [if_neg (fun z => c (l.mp z)), o_neg]; congr 1; omega
theorem s_ilt {post : Int64 → Prop} {R : Nat → Int} {row : Nat → Int64} {N k : Nat} (hN : N ≤ 4) (hk : k < N) (hR : asI row R N) (hb : ∀ j, j < N → bd bM (R j)) (hg : gN R N ≠ 0) (h : post (Int64.ofInt ((R k).tdiv (gN R N : Nat)))) :
    ∀ (m i : Nat), i + m = N → L_X3_inLeastTerms_5 post N row (m + 1) (nI k) (Int64.ofInt (gN R i : Nat)) (nI i)
  | 0, i, hi => by
    have : i = N := by omega
    subst this
    have g1 := gN_lt hb i (by omega)
    refine ⟨fun _ => ⟨fun _ => ⟨vin k hk (by omega) rfl, o_ne0 g1 hg, ?_⟩, fun q => absurd ((o_z0 g1).mp q) hg⟩, fun q => absurd (by rw [nI_leI (by omega) (by omega)]; omega) q⟩
    rw [nI_clamp (by omega), hR k hk, o_div (bd_r63 (by decide) (hb k hk)) (nat_r63 g1)]; exact h
  | m + 1, i, hi => by
    have g1 := gN_lt hb i (by omega)
    have b1 := hb i (by omega)
    refine ⟨fun q => ?_, fun _ => ⟨vin i (by omega) (by omega) rfl, ?_⟩⟩
    · rw [nI_leI (by omega) (by omega)] at q; omega
    rw [nI_clamp (by omega), hR i (by omega), jabs_o b1]
    refine s_cd g1 (by obtain ⟨b3, b4⟩ := b1; unfold bM at b3 b4; omega) (fun x ex => ?_)
    rw [ex, nI_1]
    exact s_ilt hN hk hR hb hg h m (i + 1) (by omega)
theorem s_least {post : Int64 → Prop} {R : Nat → Int} {row : Nat → Int64} {N k : Nat} (hN : N ≤ 4) (hk : k < N) (hR : asI row R N) (hb : ∀ j, j < N → bd bM (R j)) (hg : gN R N ≠ 0) (h : post (Int64.ofInt ((R k).tdiv (gN R N : Nat)))) : F_X3_inLeastTerms (nI k) N row post :=
  ⟨N + 1, s_ilt hN hk hR hb hg h N 0 (by omega)⟩
-- the reference's
theorem s_c28 {post : Int64 → Prop} : ∀ (n a b : Nat), b < n → a < 9223372036854775808 → b < 9223372036854775808 → post (Int64.ofInt ((Nat.gcd a b : Nat) : Int)) → L_X12_common_28 post n (Int64.ofInt (a : Int)) (Int64.ofInt (b : Int))
  | 0, a, b, hn, _, _, _ => absurd hn (by omega)
  | n + 1, a, b, hn, ha, hb, h => by
    have l : lg_cmp (Int64.ofInt (b : Int)) 0 ≤ 0 ↔ b = 0 := by rw [lg_cmp_le, o_0, o_le (nat_r63 hb) ⟨by omega, by omega⟩]; omega
    refine ⟨fun q => ?_, fun q => ⟨?_, fun x ex => ?_⟩⟩
    · rw [l] at q; subst q; rw [Nat.gcd_zero_right] at h; exact h
    · rw [l] at q; exact o_ne0 hb q
    rw [l] at q
    have hr : a % b < b := Nat.mod_lt a (by omega)
    rw [ex, o_mod ha hb]
    refine s_c28 n b (a % b) (by omega) hb (by omega) ?_
    rw [gcd_st]; exact h
theorem s_common {post : Int64 → Prop} {a b : Int} (ha : bd bM a) (hb : bd bM b) (h : post (Int64.ofInt ((Nat.gcd a.natAbs b.natAbs : Nat) : Int))) : F_X12_common (Int64.ofInt a) (Int64.ofInt b) post := by
  have la := lg_ge0 ha
  have lb := lg_ge0 hb
  obtain ⟨a1, a2⟩ := ha
  obtain ⟨b1, b2⟩ := hb
  unfold bM at a1 a2 b1 b2
  have J : ∀ x : Int64, x = Int64.ofInt ((a.natAbs : Nat) : Int) → J_X12_common_12 post (Int64.ofInt b) x := by
    intro x ex
    subst ex
    have K : ∀ y : Int64, y = Int64.ofInt ((b.natAbs : Nat) : Int) → J_X12_common_26 post (Int64.ofInt ((a.natAbs : Nat) : Int)) y := by
      intro y ey
      subst ey
      exact ⟨b.natAbs + 1, s_c28 _ _ _ (by omega) (by omega) (by omega) h⟩
    refine ⟨fun q => K _ ?_, fun q => K _ ?_⟩
    · rw [lb] at q; congr 1; omega
    · rw [lb] at q; rw [o_neg]; congr 1; omega
  refine ⟨fun q => J _ ?_, fun q => J _ ?_⟩
  · rw [la] at q; congr 1; omega
  · rw [la] at q; rw [o_neg]; congr 1; omega
theorem gN_4 (R : Nat → Int) : Nat.gcd (Nat.gcd (Nat.gcd (R 3).natAbs (R 0).natAbs) (R 1).natAbs) (R 2).natAbs = gN R 4 := by
  show _ = Nat.gcd (Nat.gcd (Nat.gcd (Nat.gcd 0 (R 0).natAbs) (R 1).natAbs) (R 2).natAbs) (R 3).natAbs
  rw [Nat.gcd_zero_left, Nat.gcd_assoc (R 3).natAbs, Nat.gcd_assoc (R 3).natAbs, Nat.gcd_comm (R 3).natAbs]
theorem gN_2 (R : Nat → Int) : Nat.gcd (R 0).natAbs (R 1).natAbs = gN R 2 := by
  show _ = Nat.gcd (Nat.gcd 0 (R 0).natAbs) (R 1).natAbs
  rw [Nat.gcd_zero_left]
/-- a row in its least terms -/
def red (R : Nat → Int) (N k : Nat) : Int := (R k).tdiv (gN R N : Nat)
section
variable {post : (Nat → Int64) → Prop} {eye : Nat → Int32} {d : Nat → Int64} {D : Nat → Int} {A B : Int}
theorem st_fp61 {n k : Nat} {R : Nat → Int} {g : Nat} {pc : Nat → Int64} (hk : k < 3) (hg : g < 9223372036854775808) (hg0 : g ≠ 0) (hb : ∀ j, j < 4 → bd bM (R j)) (hp : ∀ j, k ≤ j → j < 3 → pc j = Int64.ofInt (R j)) (hq : asI pc (fun j => (R j).tdiv (g : Nat)) k)
    (h : ∀ pc', (∀ j, k + 1 ≤ j → j < 3 → pc' j = Int64.ofInt (R j)) → asI pc' (fun j => (R j).tdiv (g : Nat)) (k + 1) → L_X12_findPlace_61 post (Int64.ofInt A) (Int64.ofInt B) eye d n (Int64.ofInt (g : Int)) (nI (k + 1)) pc') :
    L_X12_findPlace_61 post (Int64.ofInt A) (Int64.ofInt B) eye d (n + 1) (Int64.ofInt (g : Int)) (nI k) pc := by
  have vk : vp_in (nI k) 4 := vin k (by omega) (by omega) rfl
  refine ⟨fun q => ?_, fun _ => ⟨vk, o_ne0 hg hg0, vk, fun g9 eg x ex => ?_⟩⟩
  · rw [n_3, nI_leI (by omega) (by omega)] at q; omega
  rw [nI_clamp (by omega), hp k (by omega) hk, o_div (bd_r63 (by decide) (hb k (by omega))) (nat_r63 hg)] at eg
  rw [ex, nI_1, eg]
  refine h _ (fun j hj hj3 => ?_) (asI_s (F := fun j => (R j).tdiv (g : Nat)) hq)
  rw [uL_n (by omega)]; exact hp j (by omega) hj3
theorem st_fp7 {n k g : Nat} {R : Nat → Int} {pc : Nat → Int64} (hk : k < 3) (hg : g < 9223372036854775808) (hb : bd bM (R k)) (hd : asI d D 3) (hR : R k = (eye k).toInt * B + D k * A)
    (h : L_X12_findPlace_7 post (Int64.ofInt A) (Int64.ofInt B) eye d n (Int64.ofInt ((Nat.gcd g (R k).natAbs : Nat) : Int)) (nI (k + 1)) (vp_updL pc k (Int64.ofInt (R k)))) (hg9 : g ≤ 9000000000000000000) :
    L_X12_findPlace_7 post (Int64.ofInt A) (Int64.ofInt B) eye d (n + 1) (Int64.ofInt (g : Int)) (nI k) pc := by
  have vk : vp_in (nI k) 4 := vin k (by omega) (by omega) rfl
  have v3 : vp_in (nI k) 3 := vin k (by omega) (by omega) rfl
  refine ⟨fun q => ?_, fun _ => ⟨v3, v3, vk, fun g9 eg => ⟨vk, ?_⟩⟩⟩
  · rw [n_3, nI_leI (by omega) (by omega)] at q; omega
  rw [nI_clamp (by omega), hd k hk, o_i2l, o_mul, o_mul, o_add, ← hR] at eg
  rw [nI_clamp (by omega), show g9 k = Int64.ofInt (R k) by rw [eg, uL_s]]
  refine s_common ⟨by unfold bM; omega, by unfold bM; omega⟩ hb (fun x ex => ?_)
  rw [ex, nI_1, eg, show ((g : Int)).natAbs = g from rfl]; exact h
theorem s_findPlace {R : Nat → Int} {pc : Nat → Int64} (hd : asI d D 3) (hR : ∀ k, k < 3 → R k = (eye k).toInt * B + D k * A) (hR3 : R 3 = B) (hb : ∀ j, j < 4 → bd bM (R j)) (hB : 0 < B) (h : ∀ pc', asI pc' (red R 4) 4 → post pc') : F_X12_findPlace (Int64.ofInt A) (Int64.ofInt B) eye d pc post := by
  have hBb := hb 3 (by omega)
  rw [hR3] at hBb
  obtain ⟨bb1, bb2⟩ := hBb
  unfold bM at bb1 bb2
  have eB : B = ((R 3).natAbs : Int) := by rw [hR3]; omega
  have g0 : (R 3).natAbs ≤ 9000000000000000000 := by rw [hR3]; omega
  have p0 : 0 < (R 3).natAbs := by rw [hR3]; omega
  have g1 := Nat.gcd_le_left (R 0).natAbs p0
  have p1 : 0 < Nat.gcd (R 3).natAbs (R 0).natAbs := Nat.gcd_pos_of_pos_left _ p0
  have g2 := Nat.gcd_le_left (R 1).natAbs p1
  have p2 : 0 < Nat.gcd (Nat.gcd (R 3).natAbs (R 0).natAbs) (R 1).natAbs := Nat.gcd_pos_of_pos_left _ p1
  have g3 := Nat.gcd_le_left (R 2).natAbs p2
  have p3 := Nat.gcd_pos_of_pos_left (R 2).natAbs p2
  have start : F_X12_findPlace (Int64.ofInt A) (Int64.ofInt B) eye d pc post = ∃ n0 : Nat, L_X12_findPlace_7 post (Int64.ofInt A) (Int64.ofInt B) eye d n0 (Int64.ofInt ((R 3).natAbs : Int)) 0 pc := by rw [← eB]; rfl
  rw [start]
  refine ⟨4, st_fp7 (R := R) (k := 0) (by omega) (by omega) (hb 0 (by omega)) hd (hR 0 (by omega)) (st_fp7 (R := R) (k := 1) (by omega) (by omega) (hb 1 (by omega)) hd (hR 1 (by omega)) (st_fp7 (R := R) (k := 2) (by omega) (by omega) (hb 2 (by omega)) hd (hR 2 (by omega)) ⟨fun _ => ⟨4, ?_⟩, fun q => absurd (by decide) q⟩ (by omega)) (by omega)) (by omega)⟩
  rw [gN_4]
  rw [gN_4] at p3 g3
  generalize eq : vp_updL (vp_updL (vp_updL pc 0 (Int64.ofInt (R 0))) 1 (Int64.ofInt (R 1))) 2 (Int64.ofInt (R 2)) = q
  have hq : ∀ j, 0 ≤ j → j < 3 → q j = Int64.ofInt (R j) := fun j _ hj => by
    have : asI q R 3 := by rw [← eq]; exact asI_s (asI_s (asI_s (asI_0 _ _)))
    exact this j hj
  refine st_fp61 (R := R) (k := 0) (by omega) (by omega) (by omega) hb hq (asI_0 _ _) (fun pc1 h1 a1 => ?_)
  refine st_fp61 (R := R) (k := 1) (by omega) (by omega) (by omega) hb h1 a1 (fun pc2 h2 a2 => ?_)
  refine st_fp61 (R := R) (k := 2) (by omega) (by omega) (by omega) hb h2 a2 (fun pc3 h3 a3 => ?_)
  refine ⟨fun _ => ⟨o_ne0 (by omega) (by omega), vin 3 (by omega) (by omega) rfl, fun g5 eg => ?_⟩, fun q => absurd (by decide) q⟩
  rw [cl_3, o_div ⟨by omega, by omega⟩ (nat_r63 (by omega))] at eg
  refine h _ ?_
  rw [eg]
  have e3 : B.tdiv ((gN R 4 : Nat) : Int) = red R 4 3 := by unfold red; rw [hR3]
  rw [e3]
  exact asI_s (F := red R 4) a3
end
