/-! PURE PART: numbers of limbs, the reference's; its level -/
theorem dig_u {row : Nat → Int64} {d : Nat → Nat} {n k x : Nat} (h : dig row d n) (hx : x < 1073741824) : dig (vp_updL row k (Int64.ofInt (x : Int))) (updN d k x) n := fun j hj => by
  unfold updN
  by_cases e : j = k
  · subst e; rw [uL_s, if_pos rfl]; exact ⟨rfl, hx⟩
  · rw [uL_n e, if_neg e]; exact h j hj
def dN (v k : Nat) : Nat := if k < 3 then v / 1073741824 ^ k % 1073741824 else 0
theorem dN_vl {v : Nat} (hv : v < 9223372036854775808) : vl (dN v) 8 = v := by
  show 0 + (v / 1073741824 ^ 0 % 1073741824) * 1073741824 ^ 0 + (v / 1073741824 ^ 1 % 1073741824) * 1073741824 ^ 1 + (v / 1073741824 ^ 2 % 1073741824) * 1073741824 ^ 2 + 0 * 1073741824 ^ 3 + 0 * 1073741824 ^ 4 + 0 * 1073741824 ^ 5 + 0 * 1073741824 ^ 6 + 0 * 1073741824 ^ 7 = v
  omega
theorem s_isN2 {post : (Nat → Int64) → Prop} {v : Nat} (hv : v < 9223372036854775808) (k : ∀ row, hlds row 8 v → post row) : ∀ (m i : Nat) (row : Nat → Int64), i + m = 8 → dig row (dN v) i → L_X12_isNumber_2 post 8 (m + 1) (Int64.ofInt (v : Int)) (nI i) row
  | 0, i, row, hi, hd => by
    have : i = 8 := by omega
    subst this
    exact ⟨fun _ => k row ⟨dN v, hd, dN_vl hv⟩, fun q => absurd (by decide) q⟩
  | m + 1, i, row, hi, hd => by
    have v8 : vp_in (nI i) 8 := vin i (by omega) (by omega) rfl
    have nx : ∀ g : Nat → Int64, g = vp_updL row i (Int64.ofInt ((dN v i : Nat) : Int)) → ∀ x : Int32, x = nI i + 1 → L_X12_isNumber_2 post 8 (m + 1) (Int64.ofInt (v : Int)) x g := fun g eg x ex => by
      rw [ex, nI_1]
      refine s_isN2 hv k m (i + 1) g (by omega) (fun j hj => ?_)
      rw [eg]
      by_cases e : j = i
      · subst e; rw [uL_s]; exact ⟨rfl, by unfold dN; split <;> omega⟩
      · rw [uL_n e]; exact hd j (by omega)
    refine ⟨fun q => ?_, fun _ => ⟨fun q => ⟨v8, fun g eg => nx g ?_⟩, fun q => ⟨v8, fun g eg => nx g ?_⟩⟩⟩
    · rw [n_8, nI_leI (by omega) (by omega)] at q; omega
    · rw [n_3, nI_leI (by omega) (by omega)] at q
      rw [eg, nI_clamp (by omega)]; unfold dN; rw [if_neg (by omega)]; rfl
    · rw [n_3, nI_leI (by omega) (by omega)] at q
      have lt : v / 1073741824 ^ i ≤ v := Nat.div_le_self _ _
      rw [eg, nI_clamp (by omega), uk30 (by omega) hv, m30 (by omega)]; unfold dN; rw [if_pos (by omega)]
theorem s_isNumber {post : (Nat → Int64) → Prop} {v : Nat} {row : Nat → Int64} (hv : v < 9223372036854775808) (k : ∀ row, hlds row 8 v → post row) : F_X12_isNumber (Int64.ofInt (v : Int)) 8 row post :=
  ⟨9, s_isN2 hv k 8 0 row (by omega) dig_0⟩
theorem t52a {Ve c Vd p Vr Bi Bk dk rk : Nat} (h : Ve + c * (Bi * Bk) = Vd + p * Vr * Bi) : Ve + (dk + p * rk + c) * (Bi * Bk) = (Vd + dk * (Bi * Bk)) + p * (Vr + rk * Bk) * Bi := by grind
section
variable {post : (Nat → Int64) → (Nat → Int64) → Prop} {row : Nat → Int64} {r : Nat → Nat} {v : Nat}
theorem s_t52 {k27 : Int64 → Int32 → (Nat → Int64) → (Nat → Int64) → Prop} {d : Nat → Nat} {p i : Nat} (hr : dig row r 8) (hd : ∀ j, j < 8 → d j < 1073741824) (hp : p < 1073741824) (hi : i < 3)
    (fin : ∀ pr' e' c', dig pr' e' 8 → vl e' 8 + c' * 1073741824 ^ 8 = vl d 8 + p * vl r (8 - i) * 1073741824 ^ i → k27 (Int64.ofInt (v : Int)) (nI (i + 1)) pr' row) :
    ∀ (m k c : Nat) (pr : Nat → Int64) (e : Nat → Nat), i + k + m = 8 → c ≤ 1073741824 → dig pr e 8 → (∀ j, i + k ≤ j → j < 8 → e j = d j) → vl e (i + k) + c * 1073741824 ^ (i + k) = vl d (i + k) + p * vl r k * 1073741824 ^ i → L_X12_times_52 k27 8 (m + 1) (Int64.ofInt (v : Int)) (nI i) (Int64.ofInt (p : Int)) (Int64.ofInt (c : Int)) (nI k) pr row
  | 0, k, c, pr, e, hk, hc, he, hj, hs => by
    have ek : k = 8 - i := by omega
    have e8 : i + k = 8 := by omega
    rw [e8, ek] at hs
    refine ⟨fun _ x ex => ?_, fun q => absurd ?_ q⟩
    · rw [ex, nI_1]; exact fin pr e c he hs
    · rw [nI_add, n_8, nI_leI (by omega) (by omega)]; omega
  | m + 1, k, c, pr, e, hk, hc, he, hj, hs => by
    have v8 : vp_in (nI i + nI k) 8 := vin (i + k) (by omega) (by omega) (nI_add i k)
    have ek := he (i + k) (by omega)
    have rk := hr k (by omega)
    have mb := mul_bd hp rk.2
    refine ⟨fun q => ?_, fun _ => ⟨v8, vin k (by omega) (by omega) rfl, fun x ex => ⟨v8, fun g eg y ey z ez => ?_⟩⟩⟩
    · rw [nI_add, n_8, nI_leI (by omega) (by omega)] at q; omega
    have ex' : x = Int64.ofInt ((e (i + k) + p * r k + c : Nat) : Int) := by
      rw [ex, nI_add, nI_clamp (by omega), nI_clamp (by omega), ek.1, rk.1, o_mul, o_add, o_add]
      congr 1
    rw [nI_add, nI_clamp (by omega), ex', m30 (by omega)] at eg
    rw [ex', u30 (by omega)] at ey
    rw [eg, ey, ez, nI_1]
    refine s_t52 hr hd hp hi fin m (k + 1) _ _ (updN e (i + k) ((e (i + k) + p * r k + c) % 1073741824)) (by omega) (by omega) (dig_u he (by omega)) (fun j h1 h2 => ?_) ?_
    · unfold updN; rw [if_neg (by omega)]; exact hj j (by omega) h2
    · rw [← Nat.add_assoc, vl_upd, Nat.pow_succ, carry (x := e (i + k) + p * r k + c) rfl rfl]
      rw [hj (i + k) (by omega) (by omega)]
      show _ = (vl d (i + k) + d (i + k) * 1073741824 ^ (i + k)) + p * (vl r k + r k * 1073741824 ^ k) * 1073741824 ^ i
      rw [Nat.pow_add] at hs ⊢
      exact t52a hs
theorem vl_top {r : Nat → Nat} (h : vl r 8 < 1073741824 ^ 5) : ∀ i, i < 3 → vl r (8 - i) = vl r 8 := by
  have e8 : vl r 8 = vl r 7 + r 7 * 1073741824 ^ 7 := rfl
  have e7 : vl r 7 = vl r 6 + r 6 * 1073741824 ^ 6 := rfl
  have z7 : r 7 = 0 := by
    by_cases c : r 7 = 0
    · exact c
    · have : 1 * 1073741824 ^ 7 ≤ r 7 * 1073741824 ^ 7 := Nat.mul_le_mul_right _ (by omega)
      omega
  have z6 : r 6 = 0 := by
    by_cases c : r 6 = 0
    · exact c
    · have : 1 * 1073741824 ^ 6 ≤ r 6 * 1073741824 ^ 6 := Nat.mul_le_mul_right _ (by omega)
      omega
  rw [z7, Nat.zero_mul] at e8
  rw [z6, Nat.zero_mul] at e7
  intro i hi
  rcases (show i = 0 ∨ i = 1 ∨ i = 2 by omega) with rfl | rfl | rfl
  · rfl
  · show vl r 7 = _; omega
  · show vl r 6 = _; omega
theorem s_t123 {pr : Nat → Int64} {e : Nat → Nat} (he : dig pr e 8) (k : ∀ row', dig row' e 8 → post pr row') : ∀ (m i : Nat) (row : Nat → Int64), i + m = 8 → dig row e i → L_X12_times_123 post 8 (m + 1) (nI i) pr row
  | 0, i, row, hi, hd => by
    have : i = 8 := by omega
    subst this
    exact ⟨fun _ => k row hd, fun q => absurd (by decide) q⟩
  | m + 1, i, row, hi, hd => by
    have v8 : vp_in (nI i) 8 := vin i (by omega) (by omega) rfl
    refine ⟨fun q => ?_, fun _ => ⟨v8, v8, fun g eg x ex => ?_⟩⟩
    · rw [n_8, nI_leI (by omega) (by omega)] at q; omega
    rw [nI_clamp (by omega)] at eg
    rw [ex, nI_1]
    refine s_t123 he k m (i + 1) g (by omega) (fun j hj => ?_)
    rw [eg]
    by_cases c : j = i
    · subst c; rw [uL_s]; exact he j (by omega)
    · rw [uL_n c]; exact hd j (by omega)
theorem mod_step (v P : Nat) : v % (P * 1073741824) = v % P + (v / P % 1073741824) * P := by
  rw [Nat.mod_mul, Nat.mul_comm P]
theorem s_t27 {i : Nat} {pr : Nat → Int64} {d : Nat → Nat} {n : Nat} (hr : dig row r 8) (hR : vl r 8 < 1073741824 ^ 5) (hv : v < 9223372036854775808) (hi : i < 3) (hd : dig pr d 8) (hs : vl d 8 = (v % 1073741824 ^ i) * vl r 8)
    (k : ∀ pr' d', dig pr' d' 8 → vl d' 8 = (v % 1073741824 ^ (i + 1)) * vl r 8 → L_X12_times_27 post 8 n (Int64.ofInt (v : Int)) (nI (i + 1)) pr' row) : L_X12_times_27 post 8 (n + 1) (Int64.ofInt (v : Int)) (nI i) pr row := by
  refine ⟨fun q => ?_, fun _ x ex => ?_⟩
  · rw [n_3, nI_leI (by omega) (by omega)] at q; omega
  have lt : v / 1073741824 ^ i ≤ v := Nat.div_le_self _ _
  rw [uk30 hi hv, m30 (by omega)] at ex
  rw [ex]
  refine ⟨8 - i + 1, s_t52 (d := d) hr (fun j hj => (hd j hj).2) (by omega) hi (fun pr' e' c' he' hs' => ?_) (8 - i) 0 0 pr d (by omega) (by omega) hd (fun _ _ _ => rfl) (by show vl d i + 0 * _ = vl d i + _ * 0 * _; rw [Nat.mul_zero, Nat.zero_mul, Nat.zero_mul])⟩
  rw [vl_top hR i hi, hs] at hs'
  have e2 : (v % 1073741824 ^ i) * vl r 8 + v / 1073741824 ^ i % 1073741824 * vl r 8 * 1073741824 ^ i = (v % 1073741824 ^ (i + 1)) * vl r 8 := by
    rw [Nat.pow_succ, mod_step]; grind
  rw [e2] at hs'
  have b1 : v % 1073741824 ^ (i + 1) ≤ v := Nat.mod_le _ _
  have b2 : (v % 1073741824 ^ (i + 1)) * vl r 8 ≤ 9223372036854775808 * 1073741824 ^ 5 := Nat.mul_le_mul (by omega) (by omega)
  exact k pr' e' he' (over0 hs' (by omega)).2
theorem s_t3 (k : ∀ pr, dig pr (fun _ => 0) 8 → ∃ n0, L_X12_times_27 post 8 n0 (Int64.ofInt (v : Int)) 0 pr row) : ∀ (m i : Nat) (pr : Nat → Int64), i + m = 8 → dig pr (fun _ => 0) i → L_X12_times_3 post 8 (m + 1) (Int64.ofInt (v : Int)) (nI i) pr row
  | 0, i, pr, hi, hd => by
    have : i = 8 := by omega
    subst this
    exact ⟨fun _ => k pr hd, fun q => absurd (by decide) q⟩
  | m + 1, i, pr, hi, hd => by
    refine ⟨fun q => ?_, fun _ => ⟨vin i (by omega) (by omega) rfl, fun g eg x ex => ?_⟩⟩
    · rw [n_8, nI_leI (by omega) (by omega)] at q; omega
    rw [nI_clamp (by omega)] at eg
    rw [ex, nI_1]
    refine s_t3 k m (i + 1) g (by omega) (fun j hj => ?_)
    rw [eg]
    by_cases c : j = i
    · subst c; rw [uL_s]; exact ⟨rfl, by show (0 : Nat) < 1073741824; omega⟩
    · rw [uL_n c]; exact hd j (by omega)
theorem vl_zero : ∀ n, vl (fun _ => 0) n = 0
  | 0 => rfl
  | n + 1 => by show vl (fun _ => 0) n + 0 * _ = 0; rw [vl_zero n, Nat.zero_mul]
theorem s_times {R : Nat} {pr : Nat → Int64} (hR : hlds row 8 R) (hb : R < 1073741824 ^ 5) (hv : v < 9223372036854775808) (k : ∀ pr' row', hlds row' 8 (R * v) → post pr' row') : F_X12_times (Int64.ofInt (v : Int)) 8 pr row post := by
  obtain ⟨r, hr, rfl⟩ := hR
  refine ⟨9, s_t3 (fun pr0 h0 => ⟨4, ?_⟩) 8 0 pr (by omega) dig_0⟩
  refine s_t27 (i := 0) hr hb hv (by omega) h0 (by rw [vl_zero, Nat.pow_zero, Nat.mod_one, Nat.zero_mul]) (fun pr1 d1 h1 e1 => ?_)
  refine s_t27 (i := 1) hr hb hv (by omega) h1 e1 (fun pr2 d2 h2 e2 => ?_)
  refine s_t27 (i := 2) hr hb hv (by omega) h2 e2 (fun pr3 d3 h3 e3 => ⟨fun _ => ⟨9, ?_⟩, fun q => absurd (by decide) q⟩)
  refine s_t123 h3 (fun row' hrow => k _ _ ⟨d3, hrow, ?_⟩) 8 0 row (by omega) dig_0
  rw [e3, Nat.mod_eq_of_lt (by omega), Nat.mul_comm]
end
theorem s_as36 {post : (Nat → Int64) → (Nat → Int64) → (Nat → Int64) → Prop} {a b : Nat → Nat} {one pr : Nat → Int64} {v : Nat} (hb : dig one b 8) (ha : ∀ j, j < 8 → a j < 1073741824) (hv : vl a 8 + vl b 8 = v) (hv5 : v < 1073741824 ^ 8) (k : ∀ row, hlds row 8 v → post one pr row) : ∀ (m i c : Nat) (row : Nat → Int64) (d : Nat → Nat), i + m = 8 → c < 4 → dig row d i → (∀ j, i ≤ j → j < 8 → row j = Int64.ofInt ((a j : Nat) : Int)) →
    vl d i + c * 1073741824 ^ i = vl a i + vl b i → L_X12_addSquare_36 post (m + 1) (Int64.ofInt (c : Int)) (nI i) one pr row
  | 0, i, c, row, d, hi, hc, hd, hr, hs => by
    have : i = 8 := by omega
    subst this
    have := over0 (hs.trans hv) hv5
    exact ⟨fun _ => k row ⟨d, hd, this.2⟩, fun q => absurd (by decide) q⟩
  | m + 1, i, c, row, d, hi, hc, hd, hr, hs => by
    have v8 : vp_in (nI i) 8 := vin i (by omega) (by omega) rfl
    have hbi := hb i (by omega)
    have hai := ha i (by omega)
    refine ⟨fun q => ?_, fun _ => ⟨v8, v8, fun x ex => ⟨v8, fun g eg y ey z ez => ?_⟩⟩⟩
    · rw [n_8, nI_leI (by omega) (by omega)] at q; omega
    have ex' : x = Int64.ofInt ((c + (a i + b i) : Nat) : Int) := by
      rw [ex, nI_clamp (by omega), hr i (by omega) (by omega), hbi.1, o_add, o_add]; congr 1; omega
    rw [nI_clamp (by omega), ex', m30 (by omega)] at eg
    rw [ex', u30 (by omega)] at ey
    rw [eg, ey, ez, nI_1]
    refine s_as36 hb ha hv hv5 k m (i + 1) ((c + (a i + b i)) / 1073741824) _ _ (by omega) (by omega) (dig_s hd (by omega)) (fun j h1 h2 => ?_) ?_
    · rw [uL_n (by omega)]; exact hr j (by omega) h2
    rw [vl_upd, Nat.pow_succ, carry (x := c + (a i + b i)) rfl rfl]
    show _ = (vl a i + a i * _) + (vl b i + b i * _)
    rw [Nat.add_mul, Nat.add_mul]; omega
theorem s_addSquare {post : (Nat → Int64) → (Nat → Int64) → (Nat → Int64) → Prop} {x : Int} {one pr sq : Nat → Int64} {S : Nat} (hx : bd bM x) (hS : hlds sq 8 S) (hb : S + x.natAbs * x.natAbs < 1073741824 ^ 8) (k : ∀ one' pr' sq', hlds sq' 8 (S + x.natAbs * x.natAbs) → post one' pr' sq') : F_X12_addSquare (Int64.ofInt x) one pr sq post := by
  have lx := lg_ge0 hx
  obtain ⟨x1, x2⟩ := hx
  unfold bM at x1 x2
  have J : ∀ s : Int64, s = Int64.ofInt ((x.natAbs : Nat) : Int) → J_X12_addSquare_12 post s one pr sq := by
    intro s es
    subst es
    refine s_isNumber (by omega) (fun o1 h1 => s_times h1 (by omega) (by omega) (fun pr' o2 h2 => ?_))
    obtain ⟨a, ha, ea⟩ := hS
    obtain ⟨b, hb2, eb⟩ := h2
    exact ⟨9, s_as36 hb2 (fun j hj => (ha j hj).2) (v := S + x.natAbs * x.natAbs) (by rw [ea, eb]) hb (fun row hr => k _ _ _ hr) 8 0 0 sq (fun _ => 0) (by omega) (by omega) dig_0 (fun j _ hj => (ha j hj).1) (by show 0 + 0 * 1 = 0 + 0; omega)⟩
  refine ⟨fun q => J _ ?_, fun q => J _ ?_⟩
  · rw [lx] at q; congr 1; omega
  · rw [lx] at q; rw [o_neg]; congr 1; omega
