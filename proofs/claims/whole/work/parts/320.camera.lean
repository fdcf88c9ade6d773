/-! PURE PART: the camera: which axes and sizes fit -/
theorem jabsL_o {a : Int} (h : bd 4611686018427387904 a) : jabsL (Int64.ofInt a) = Int64.ofInt (a.natAbs : Int) := by
  unfold jabsL
  have hr : r63 a := bd_r63 (by omega) h
  have h0 : r63 0 := ⟨by omega, by omega⟩
  rw [o_0]
  by_cases c : 0 < a
  · rw [if_pos ((o_lt h0 hr).mpr c)]; congr 1; omega
  · rw [if_neg (fun q => c ((o_lt h0 hr).mp q)), o_neg]; congr 1; omega
theorem i32_bd (x : Int32) : bd 2147483648 x.toInt := ⟨by have := Int32.le_toInt x; omega, by have := Int32.toInt_lt x; omega⟩
def fitK (a0 a1 a2 w h : Int) : Prop := -1023 ≤ a0 - ((w - 1) * (a1.natAbs : Int) + (h - 1) * (a2.natAbs : Int)) ∧ a0 + ((w - 1) * (a1.natAbs : Int) + (h - 1) * (a2.natAbs : Int)) ≤ 1023
def Fit (ax : Nat → Int32) (w h : Int) : Prop := ∀ k, k < 3 → fitK (ax k).toInt (ax (3 + k)).toInt (ax (6 + k)).toInt w h
theorem st_allRaysFit {post : Int32 → Prop} {ax : Nat → Int32} {n k : Nat} {p1 p2 : Int32} {w h : Int} (hk : k < 3) (hw : p1.toInt = w) (hh : p2.toInt = h) (w1 : 1 ≤ w ∧ w ≤ 32) (h1 : 1 ≤ h ∧ h ≤ 32)
    (ht : fitK (ax k).toInt (ax (3 + k)).toInt (ax (6 + k)).toInt w h → L_X1_allRaysFit_2 post 9 ax n p1 p2 (nI (k + 1))) (hf : ¬ fitK (ax k).toInt (ax (3 + k)).toInt (ax (6 + k)).toInt w h → post 0) : L_X1_allRaysFit_2 post 9 ax (n + 1) p1 p2 (nI k) := by
  have e3 : (3 : Int32) + nI k = nI (3 + k) := nI_add 3 k
  have e6 : (6 : Int32) + nI k = nI (6 + k) := nI_add 6 k
  have c0 : (nI k).toNatClampNeg = k := nI_clamp (by omega)
  have c3 : ((3 : Int32) + nI k).toNatClampNeg = 3 + k := by rw [e3]; exact nI_clamp (by omega)
  have c6 : ((6 : Int32) + nI k).toNatClampNeg = 6 + k := by rw [e6]; exact nI_clamp (by omega)
  have v0 : vp_in (nI k) 9 := vp_in_nI (by omega) (by omega)
  have v3 : vp_in ((3 : Int32) + nI k) 9 := by rw [e3]; exact vp_in_nI (by omega) (by omega)
  have v6 : vp_in ((6 : Int32) + nI k) 9 := by rw [e6]; exact vp_in_nI (by omega) (by omega)
  have ew : (p1 - 1).toInt64 = Int64.ofInt (w - 1) := by
    rw [q_self p1, hw, show (1 : Int32) = Int32.ofInt 1 from rfl, q_sub, q_l ⟨by omega, by omega⟩]
  have eh : (p2 - 1).toInt64 = Int64.ofInt (h - 1) := by
    rw [q_self p2, hh, show (1 : Int32) = Int32.ofInt 1 from rfl, q_sub, q_l ⟨by omega, by omega⟩]
  generalize ha0 : (ax k).toInt = a0 at *
  generalize ha1 : (ax (3 + k)).toInt = a1 at *
  generalize ha2 : (ax (6 + k)).toInt = a2 at *
  have b0 : bd 2147483648 a0 := ha0 ▸ i32_bd (ax k)
  have b1 : bd 2147483648 a1 := ha1 ▸ i32_bd (ax (3 + k))
  have b2 : bd 2147483648 a2 := ha2 ▸ i32_bd (ax (6 + k))
  have b1' : bd 2147483648 (a1.natAbs : Int) := ⟨by omega, by have := b1.1; have := b1.2; omega⟩
  have b2' : bd 2147483648 (a2.natAbs : Int) := ⟨by omega, by have := b2.1; have := b2.2; omega⟩
  have bs : bd (31 * 2147483648 + 31 * 2147483648) ((w - 1) * (a1.natAbs : Int) + (h - 1) * (a2.natAbs : Int)) := bd_add (bd_mul ⟨by omega, by omega⟩ b1') (bd_mul ⟨by omega, by omega⟩ b2')
  unfold fitK at ht hf
  generalize hs : (w - 1) * (a1.natAbs : Int) + (h - 1) * (a2.natAbs : Int) = sp at *
  have es : ((p1 - 1).toInt64 * jabsL (ax (3 + k)).toInt64) + ((p2 - 1).toInt64 * jabsL (ax (6 + k)).toInt64) = Int64.ofInt sp := by
    rw [ew, eh, o_i2l (ax (3 + k)), o_i2l (ax (6 + k)), ha1, ha2, jabsL_o (bd_le (by omega) b1), jabsL_o (bd_le (by omega) b2), o_mul, o_mul, o_add, hs]
  have rp : r63 (a0 + sp) := ⟨by have := b0.1; have := bs.1; omega, by have := b0.2; have := bs.2; omega⟩
  have rm : r63 (a0 - sp) := ⟨by have := b0.1; have := bs.2; omega, by have := b0.2; have := bs.1; omega⟩
  refine ⟨fun q => ?_, fun _ => ⟨v3, v6, fun x4 ex4 => ⟨v0, ?_⟩⟩⟩
  · rw [n_3, nI_leI (by omega) (by omega)] at q; omega
  rw [c3, c6, es] at ex4
  rw [ex4, c0, o_i2l (ax k), ha0, o_add, o_sub]
  have g1 : (0 < lg_cmp (Int64.ofInt (a0 + sp)) 1023) ↔ 1023 < a0 + sp := by
    rw [lg_cmp_gt, show (1023 : Int64) = Int64.ofInt 1023 from rfl, o_lt ⟨by omega, by omega⟩ rp]
  have g2 : (0 ≤ lg_cmp (Int64.ofInt (a0 - sp)) (-1023)) ↔ -1023 ≤ a0 - sp := by
    rw [lg_cmp_ge, show (-1023 : Int64) = Int64.ofInt (-1023) from rfl, o_le ⟨by omega, by omega⟩ rm]
  rw [g1, g2]
  refine ⟨fun q => hf (fun z => by omega), fun q => ⟨v0, fun q2 x9 ex9 => ?_, fun q2 => hf (fun z => q2 z.1)⟩⟩
  rw [ex9, nI_1]
  exact ht ⟨q2, by omega⟩
theorem s_allRaysFit {post : Int32 → Prop} {ax : Nat → Int32} {p1 p2 : Int32} {w h : Int} (hw : p1.toInt = w) (hh : p2.toInt = h) (w1 : 1 ≤ w ∧ w ≤ 32) (h1 : 1 ≤ h ∧ h ≤ 32) (ht : Fit ax w h → post 1) (hf : ¬ Fit ax w h → post 0) : F_X1_allRaysFit p1 p2 9 ax post := by
  refine ⟨4, ?_⟩
  refine st_allRaysFit (k := 0) (by omega) hw hh w1 h1 (fun k0 => ?_) (fun q => hf (fun z => q (z 0 (by omega))))
  refine st_allRaysFit (k := 1) (by omega) hw hh w1 h1 (fun k1 => ?_) (fun q => hf (fun z => q (z 1 (by omega))))
  refine st_allRaysFit (k := 2) (by omega) hw hh w1 h1 (fun k2 => ?_) (fun q => hf (fun z => q (z 2 (by omega))))
  refine ⟨fun _ => ht (fun k hk => ?_), fun q => absurd (by decide) q⟩
  rcases (show k = 0 ∨ k = 1 ∨ k = 2 by omega) with rfl | rfl | rfl
  · exact k0
  · exact k1
  · exact k2
def AX (ax : Nat → Int32) (am : Nat → Int64) : Prop := ∀ j, am j = (ax j).toInt64
theorem st_57 {k_14 : Int32 → Int32 → Int32 → Int32 → Int32 → Prop} {ax : Nat → Int32} {am : Nat → Int64} (hax : AX ax am) {l1 l2 g l5 : Int32} {k : Nat} {u v : Int64} {U V : Int} (hk : k < 3) (hg : g = 0 ∨ g = 1) (eu : u = Int64.ofInt U) (ev : v = Int64.ofInt V) (bU : bd 31 U) (bV : bd 31 V)
    (ht : g = 1 → bd 1023 ((ax k).toInt + U * (ax (3 + k)).toInt + V * (ax (6 + k)).toInt) → k_14 l1 l2 1 (nI k) (l5 + 1)) (hf : ¬ (g = 1 ∧ bd 1023 ((ax k).toInt + U * (ax (3 + k)).toInt + V * (ax (6 + k)).toInt)) → k_14 l1 l2 0 (nI k) (l5 + 1)) : J_X12_areRays_57 k_14 am l1 l2 g (nI k) l5 u v := by
  have e3 : (3 : Int32) + nI k = nI (3 + k) := nI_add 3 k
  have e6 : (6 : Int32) + nI k = nI (6 + k) := nI_add 6 k
  have c0 : (nI k).toNatClampNeg = k := nI_clamp (by omega)
  have c3 : ((3 : Int32) + nI k).toNatClampNeg = 3 + k := by rw [e3]; exact nI_clamp (by omega)
  have c6 : ((6 : Int32) + nI k).toNatClampNeg = 6 + k := by rw [e6]; exact nI_clamp (by omega)
  have v0 : vp_in (nI k) 9 := vp_in_nI (by omega) (by omega)
  have v3 : vp_in ((3 : Int32) + nI k) 9 := by rw [e3]; exact vp_in_nI (by omega) (by omega)
  have v6 : vp_in ((6 : Int32) + nI k) 9 := by rw [e6]; exact vp_in_nI (by omega) (by omega)
  rcases hg with rfl | rfl
  · exact ⟨fun _ x6 ex6 => ex6 ▸ hf (fun z => absurd z.1 (by decide)), fun q => absurd rfl q⟩
  refine ⟨fun q => absurd q (by decide), fun _ => ⟨v0, v3, v6, ?_⟩⟩
  rw [c0, c3, c6, hax, hax, hax, o_i2l, o_i2l, o_i2l, eu, ev, o_mul, o_mul, o_add, o_add]
  have b0 := i32_bd (ax k)
  have b1 := i32_bd (ax (3 + k))
  have b2 := i32_bd (ax (6 + k))
  generalize (ax k).toInt = a0, (ax (3 + k)).toInt = a1, (ax (6 + k)).toInt = a2 at *
  have hr : (Int64.ofInt (a0 + U * a1 + V * a2)).toInt = a0 + U * a1 + V * a2 := o_toInt (bd_r63 (A := 2147483648 + 31 * 2147483648 + 31 * 2147483648) (by omega) (bd_add (bd_add b0 (bd_mul bU b1)) (bd_mul bV b2)))
  refine s_in (fun z => ⟨fun q => absurd q (by decide), fun _ x ex => ex ▸ ht rfl ?_⟩) (fun z => ⟨fun _ x ex => ex ▸ hf (fun y => z ?_), fun q => absurd rfl q⟩)
  · rw [hr] at z; exact z
  · rw [hr]; exact y.2
def cU (c : Nat) (w : Int) : Int := if c % 2 = 0 then 1 - w else w - 1
def cV (c : Nat) (h : Int) : Int := if c < 2 then 1 - h else h - 1
def inK (a0 a1 a2 w h : Int) (c : Nat) : Prop := bd 1023 (a0 + cU c w * a1 + cV c h * a2)
theorem st_14 {k_5 : Int32 → Int32 → Int32 → Int32 → Prop} {ax : Nat → Int32} {am : Nat → Int64} (hax : AX ax am) {p1 p2 g : Int32} {n k c : Nat} {w h : Int} (hk : k < 3) (hc : c < 4) (hg : g = 0 ∨ g = 1) (hw : p1.toInt = w) (hh : p2.toInt = h) (w1 : 1 ≤ w ∧ w ≤ 32) (h1 : 1 ≤ h ∧ h ≤ 32)
    (ht : g = 1 → inK (ax k).toInt (ax (3 + k)).toInt (ax (6 + k)).toInt w h c → L_X12_areRays_14 k_5 am n p1 p2 1 (nI k) (nI (c + 1))) (hf : ¬ (g = 1 ∧ inK (ax k).toInt (ax (3 + k)).toInt (ax (6 + k)).toInt w h c) → L_X12_areRays_14 k_5 am n p1 p2 0 (nI k) (nI (c + 1))) : L_X12_areRays_14 k_5 am (n + 1) p1 p2 g (nI k) (nI c) := by
  have ew1 : p1.toInt64 - 1 = Int64.ofInt (w - 1) := by rw [o_i2l, hw, o_1, o_sub]
  have ew2 : 1 - p1.toInt64 = Int64.ofInt (1 - w) := by rw [o_i2l, hw, o_1, o_sub]
  have eh1 : p2.toInt64 - 1 = Int64.ofInt (h - 1) := by rw [o_i2l, hh, o_1, o_sub]
  have eh2 : 1 - p2.toInt64 = Int64.ofInt (1 - h) := by rw [o_i2l, hh, o_1, o_sub]
  have bw1 : bd 31 (w - 1) := ⟨by omega, by omega⟩
  have bw2 : bd 31 (1 - w) := ⟨by omega, by omega⟩
  have bh1 : bd 31 (h - 1) := ⟨by omega, by omega⟩
  have bh2 : bd 31 (1 - h) := ⟨by omega, by omega⟩
  have en : nI c + 1 = nI (c + 1) := nI_1 c
  unfold inK cU cV at ht hf
  rcases (show c = 0 ∨ c = 1 ∨ c = 2 ∨ c = 3 by omega) with rfl | rfl | rfl | rfl
  · exact ⟨fun q => absurd q (by decide), fun _ => ⟨fun q => absurd (by decide) q, fun _ => ⟨fun q => absurd q (by decide), fun _ => st_57 hax hk hg ew2 eh2 bw2 bh2 (by rw [en]; exact ht) (by rw [en]; exact hf)⟩⟩⟩
  · exact ⟨fun q => absurd q (by decide), fun _ => ⟨fun _ => ⟨fun q => absurd q (by decide), fun _ => st_57 hax hk hg ew1 eh2 bw1 bh2 (by rw [en]; exact ht) (by rw [en]; exact hf)⟩, fun q => absurd q (by decide)⟩⟩
  · exact ⟨fun q => absurd q (by decide), fun _ => ⟨fun q => absurd (by decide) q, fun _ => ⟨fun _ => st_57 hax hk hg ew2 eh1 bw2 bh1 (by rw [en]; exact ht) (by rw [en]; exact hf), fun q => absurd (by decide) q⟩⟩⟩
  · exact ⟨fun q => absurd q (by decide), fun _ => ⟨fun _ => ⟨fun _ => st_57 hax hk hg ew1 eh1 bw1 bh1 (by rw [en]; exact ht) (by rw [en]; exact hf), fun q => absurd (by decide) q⟩, fun q => absurd q (by decide)⟩⟩
theorem fit4 {a0 a1 a2 w h : Int} (w1 : 1 ≤ w) (h1 : 1 ≤ h) : (inK a0 a1 a2 w h 0 ∧ inK a0 a1 a2 w h 1 ∧ inK a0 a1 a2 w h 2 ∧ inK a0 a1 a2 w h 3) ↔ fitK a0 a1 a2 w h := by
  have eU : (w - 1) * (a1.natAbs : Int) = (((w - 1) * a1).natAbs : Int) := by rw [Int.natAbs_mul, Int.natCast_mul, Int.natAbs_of_nonneg (show 0 ≤ w - 1 by omega)]
  have eV : (h - 1) * (a2.natAbs : Int) = (((h - 1) * a2).natAbs : Int) := by rw [Int.natAbs_mul, Int.natCast_mul, Int.natAbs_of_nonneg (show 0 ≤ h - 1 by omega)]
  have nU : (1 - w) * a1 = -((w - 1) * a1) := by grind
  have nV : (1 - h) * a2 = -((h - 1) * a2) := by grind
  unfold inK fitK cU cV bd
  rw [eU, eV]
  simp only [show (0 : Nat) % 2 = 0 from rfl, show ¬ (1 : Nat) % 2 = 0 by decide, show (2 : Nat) % 2 = 0 from rfl, show ¬ (3 : Nat) % 2 = 0 by decide, show (0 : Nat) < 2 by decide, show (1 : Nat) < 2 by decide, show ¬ (2 : Nat) < 2 by decide, show ¬ (3 : Nat) < 2 by decide, if_true, if_false]
  rw [nU, nV]
  generalize (w - 1) * a1 = U, (h - 1) * a2 = V
  omega
theorem s_14 {k_5 : Int32 → Int32 → Int32 → Int32 → Prop} {ax : Nat → Int32} {am : Nat → Int64} (hax : AX ax am) {p1 p2 g : Int32} {k : Nat} {w h : Int} (hk : k < 3) (hg : g = 0 ∨ g = 1) (hw : p1.toInt = w) (hh : p2.toInt = h) (w1 : 1 ≤ w ∧ w ≤ 32) (h1 : 1 ≤ h ∧ h ≤ 32)
    (ht : g = 1 → fitK (ax k).toInt (ax (3 + k)).toInt (ax (6 + k)).toInt w h → k_5 p1 p2 1 (nI (k + 1))) (hf : ¬ (g = 1 ∧ fitK (ax k).toInt (ax (3 + k)).toInt (ax (6 + k)).toInt w h) → k_5 p1 p2 0 (nI (k + 1))) : L_X12_areRays_14 k_5 am 5 p1 p2 g (nI k) 0 := by
  rw [← fit4 w1.1 h1.1] at ht hf
  have endt : (g = 1 ∧ _) → L_X12_areRays_14 k_5 am 1 p1 p2 1 (nI k) (nI 4) := fun z => ⟨fun _ x ex => by rw [ex, nI_1]; exact ht z.1 z.2, fun q => absurd (by decide) q⟩
  have endf : ¬ (g = 1 ∧ _) → L_X12_areRays_14 k_5 am 1 p1 p2 0 (nI k) (nI 4) := fun z => ⟨fun _ x ex => by rw [ex, nI_1]; exact hf z, fun q => absurd (by decide) q⟩
  have z3 : ¬ (g = 1 ∧ _) → L_X12_areRays_14 k_5 am 2 p1 p2 0 (nI k) (nI 3) := fun z => st_14 hax hk (by omega) (Or.inl rfl) hw hh w1 h1 (fun q => absurd q (by decide)) (fun _ => endf z)
  have z2 : ¬ (g = 1 ∧ _) → L_X12_areRays_14 k_5 am 3 p1 p2 0 (nI k) (nI 2) := fun z => st_14 hax hk (by omega) (Or.inl rfl) hw hh w1 h1 (fun q => absurd q (by decide)) (fun _ => z3 z)
  have z1 : ¬ (g = 1 ∧ _) → L_X12_areRays_14 k_5 am 4 p1 p2 0 (nI k) (nI 1) := fun z => st_14 hax hk (by omega) (Or.inl rfl) hw hh w1 h1 (fun q => absurd q (by decide)) (fun _ => z2 z)
  refine st_14 (c := 0) hax hk (by omega) hg hw hh w1 h1 (fun g1 q0 => ?_) (fun q => z1 (fun z => q ⟨z.1, z.2.1⟩))
  refine st_14 (c := 1) hax hk (by omega) (Or.inr rfl) hw hh w1 h1 (fun _ q1 => ?_) (fun q => z2 (fun z => q ⟨rfl, z.2.2.1⟩))
  refine st_14 (c := 2) hax hk (by omega) (Or.inr rfl) hw hh w1 h1 (fun _ q2 => ?_) (fun q => z3 (fun z => q ⟨rfl, z.2.2.2.1⟩))
  refine st_14 (c := 3) hax hk (by omega) (Or.inr rfl) hw hh w1 h1 (fun _ q3 => ?_) (fun q => endf (fun z => q ⟨rfl, z.2.2.2.2⟩))
  exact endt ⟨g1, q0, q1, q2, q3⟩
theorem s_areRays {post : Int32 → Prop} {ax : Nat → Int32} {am : Nat → Int64} (hax : AX ax am) {p1 p2 : Int32} {w h : Int} (hw : p1.toInt = w) (hh : p2.toInt = h) (w1 : 1 ≤ w ∧ w ≤ 32) (h1 : 1 ≤ h ∧ h ≤ 32) (ht : Fit ax w h → post 1) (hf : ¬ Fit ax w h → post 0) : F_X12_areRays p1 p2 am post := by
  have endt : Fit ax w h → L_X12_areRays_5 post am 1 p1 p2 1 (nI 3) := fun z => ⟨fun _ => ⟨bz_1, ht z⟩, fun q => absurd (by decide) q⟩
  have endf : ¬ Fit ax w h → L_X12_areRays_5 post am 1 p1 p2 0 (nI 3) := fun z => ⟨fun _ => ⟨bz_0, hf z⟩, fun q => absurd (by decide) q⟩
  have z2 : ¬ Fit ax w h → L_X12_areRays_5 post am 2 p1 p2 0 (nI 2) := fun z => ⟨fun q => absurd q (by decide), fun _ => ⟨5, s_14 hax (by omega) (Or.inl rfl) hw hh w1 h1 (fun q => absurd q (by decide)) (fun _ => endf z)⟩⟩
  have z1 : ¬ Fit ax w h → L_X12_areRays_5 post am 3 p1 p2 0 (nI 1) := fun z => ⟨fun q => absurd q (by decide), fun _ => ⟨5, s_14 hax (by omega) (Or.inl rfl) hw hh w1 h1 (fun q => absurd q (by decide)) (fun _ => z2 z)⟩⟩
  refine ⟨4, fun q => absurd q (by decide), fun _ => ⟨5, s_14 (k := 0) hax (by omega) (Or.inr rfl) hw hh w1 h1 (fun _ q0 => ?_) (fun q => z1 (fun z => q ⟨rfl, z 0 (by omega)⟩))⟩⟩
  refine ⟨fun q => absurd q (by decide), fun _ => ⟨5, s_14 (k := 1) hax (by omega) (Or.inr rfl) hw hh w1 h1 (fun _ q1 => ?_) (fun q => z2 (fun z => q ⟨rfl, z 1 (by omega)⟩))⟩⟩
  refine ⟨fun q => absurd q (by decide), fun _ => ⟨5, s_14 (k := 2) hax (by omega) (Or.inr rfl) hw hh w1 h1 (fun _ q2 => ?_) (fun q => endf (fun z => q ⟨rfl, z 2 (by omega)⟩))⟩⟩
  refine endt (fun k hk => ?_)
  rcases (show k = 0 ∨ k = 1 ∨ k = 2 by omega) with rfl | rfl | rfl
  · exact q0
  · exact q1
  · exact q2
/-- the camera: both sides hold the same; all rays fit -/
def IC (xe xa : Nat → Int32) (xw xh : Int32) (me : Nat → Int32) (ma : Nat → Int64) (mw mh : Int32) : Prop :=
  me = xe ∧ (∀ j, bd 255 (xe j).toInt) ∧ AX xa ma ∧ mw = xw ∧ mh = xh ∧ (1 ≤ xw.toInt ∧ xw.toInt ≤ 32) ∧ (1 ≤ xh.toInt ∧ xh.toInt ≤ 32) ∧ Fit xa xw.toInt xh.toInt
theorem op_size {a b xw xh mw mh : Int32} {xe xa me : Nat → Int32} {ma : Nat → Int64} (I : IC xe xa xw xh me ma mw mh) {Q : Int32 → Int32 → Int32 → Int32 → Int32 → Int32 → Prop}
    (k : ∀ (r xw' xh' mw' mh' : Int32), IC xe xa xw' xh' me ma mw' mh' → Q r xw' xh' r mw' mh') :
    F_X11_size a b xw xh xa (fun r v1 v2 => F_X12_size a b mw mh ma (fun r' v3 v4 => Q r v1 v2 r' v3 v4)) := by
  obtain ⟨rfl, hb, hax, rfl, rfl, hw, hh, hf⟩ := I
  have same : Q (-1) mw mh (-1) mw mh := k _ _ _ _ _ ⟨rfl, hb, hax, rfl, rfl, hw, hh, hf⟩
  have e1 : (1 : Int32).toInt = 1 := rfl
  have e32 : (32 : Int32).toInt = 32 := rfl
  have bad : ¬ ((1 ≤ a.toInt ∧ a.toInt ≤ 32) ∧ (1 ≤ b.toInt ∧ b.toInt ≤ 32) ∧ Fit xa a.toInt b.toInt) → F_X12_size a b mw mh ma (fun r' v3 v4 => Q (-1) mw mh r' v3 v4) := by
    intro hn
    refine s_in32 (a := 1) (b := 32) rfl rfl (fun ha => ⟨fun q => absurd q (by decide), fun _ => ?_⟩) (fun _ => ⟨fun _ => same, fun q => absurd rfl q⟩)
    refine s_in32 (a := 1) (b := 32) rfl rfl (fun hb2 => ⟨fun q => absurd q (by decide), fun _ => ?_⟩) (fun _ => ⟨fun _ => same, fun q => absurd rfl q⟩)
    exact s_areRays hax rfl rfl ha hb2 (fun z => absurd ⟨ha, hb2, z⟩ hn) (fun _ => ⟨fun q => absurd rfl q, fun _ => same⟩)
  refine ⟨fun q => ⟨fun _ => bad (fun z => ?_), fun q => absurd rfl q⟩, fun q1 => ⟨fun q => ⟨fun _ => bad (fun z => ?_), fun q => absurd rfl q⟩, fun q2 => ⟨fun q => ⟨fun _ => bad (fun z => ?_), fun q => absurd rfl q⟩, fun q3 => ⟨fun q => ⟨fun _ => bad (fun z => ?_), fun q => absurd rfl q⟩, fun q4 => ?_⟩⟩⟩⟩
  · rw [i32_lt, e1] at q; have := z.1.1; omega
  · rw [i32_lt, e32] at q; have := z.1.2; omega
  · rw [i32_lt, e1] at q; have := z.2.1.1; omega
  · rw [i32_lt, e32] at q; have := z.2.1.2; omega
  rw [i32_lt, e1] at q1 q3
  rw [i32_lt, e32] at q2 q4
  have ha : 1 ≤ a.toInt ∧ a.toInt ≤ 32 := ⟨by omega, by omega⟩
  have hb2 : 1 ≤ b.toInt ∧ b.toInt ≤ 32 := ⟨by omega, by omega⟩
  refine s_allRaysFit rfl rfl ha hb2 (fun z => ⟨fun _ => ⟨fun q => absurd q (by decide), fun _ => ?_⟩, fun q => absurd q (by decide)⟩) (fun z => ⟨fun q => absurd rfl q, fun _ => ⟨fun _ => bad (fun y => z y.2.2), fun q => absurd rfl q⟩⟩)
  refine s_in32 (a := 1) (b := 32) rfl rfl (fun _ => ⟨fun q => absurd q (by decide), fun _ => ?_⟩) (fun q => absurd ha q)
  refine s_in32 (a := 1) (b := 32) rfl rfl (fun _ => ⟨fun q => absurd q (by decide), fun _ => ?_⟩) (fun q => absurd hb2 q)
  exact s_areRays hax rfl rfl ha hb2 (fun _ => ⟨fun _ => k _ _ _ _ _ ⟨rfl, hb, hax, rfl, rfl, ha, hb2, z⟩, fun q => absurd q (by decide)⟩) (fun q => absurd z q)
theorem fit_congr {f g : Nat → Int32} {w h : Int} (e : ∀ j, j < 9 → f j = g j) (hf : Fit f w h) : Fit g w h := fun k hk => by
  rw [← e k (by omega), ← e (3 + k) (by omega), ← e (6 + k) (by omega)]; exact hf k hk
theorem cl_9 : (9 : Int32).toNatClampNeg = 9 := by decide
theorem cpok_9 : cpok 0 0 9 9 9 := ⟨by decide, by decide, by decide, by decide, by decide⟩
theorem op_axis {p x y z xw xh mw mh : Int32} {xe xa xt me : Nat → Int32} {ma : Nat → Int64} (I : IC xe xa xw xh me ma mw mh) {Q : Int32 → (Nat → Int32) → (Nat → Int32) → Int32 → (Nat → Int64) → Prop}
    (k : ∀ (r : Int32) (xa' xt' : Nat → Int32) (ma' : Nat → Int64), IC xe xa' xw xh me ma' mw mh → Q r xa' xt' r ma') :
    F_X11_axis p x y z xw xh xa xt (fun r v1 v2 => F_X12_axis p x y z mw mh ma (fun r' v3 => Q r v1 v2 r' v3)) := by
  obtain ⟨rfl, hb, hax, rfl, rfl, hw, hh, hf⟩ := I
  have same : ∀ xt', Q (-1) xa xt' (-1) ma := fun xt' => k _ _ _ _ ⟨rfl, hb, hax, rfl, rfl, hw, hh, hf⟩
  have e0 : (0 : Int32).toInt = 0 := rfl
  have e2 : (2 : Int32).toInt = 2 := rfl
  have bad : ¬ (0 ≤ p.toInt ∧ p.toInt ≤ 2) → F_X12_axis p x y z mw mh ma (fun r' v3 => Q (-1) xa xt r' v3) := fun hn =>
    s_in32 (a := 0) (b := 2) rfl rfl (fun q => absurd q hn) (fun _ => ⟨fun q => absurd rfl q, fun _ => same xt⟩)
  refine ⟨fun q => bad (fun h => ?_), fun q0 => ⟨fun q2 => ?_, fun q => bad (fun h => ?_)⟩⟩
  · rw [i32_lt, e0] at q; omega
  rotate_left
  · rw [i32_le, e2] at q; omega
  rw [i32_lt, e0] at q0
  rw [i32_le, e2] at q2
  obtain ⟨a, ha, rfl⟩ : ∃ a : Nat, a < 3 ∧ p = nI a := by
    refine ⟨p.toInt.toNat, by omega, ?_⟩
    rw [← Int32.toInt_inj, nI_toInt (by omega)]; omega
  have m0 : (3 : Int32) * nI a = nI (3 * a) := pk_mul 3 a
  have m1 : (3 : Int32) * nI a + 1 = nI (3 * a + 1) := by rw [m0, nI_1]
  have m2 : (3 : Int32) * nI a + 2 = nI (3 * a + 2) := by rw [m0, n_2, nI_add]
  have i0 : vp_in ((3 : Int32) * nI a) 9 := by rw [m0]; exact vp_in_nI (by omega) (by omega)
  have i1 : vp_in ((3 : Int32) * nI a + 1) 9 := by rw [m1]; exact vp_in_nI (by omega) (by omega)
  have i2 : vp_in ((3 : Int32) * nI a + 2) 9 := by rw [m2]; exact vp_in_nI (by omega) (by omega)
  have t0 : ((3 : Int32) * nI a).toNatClampNeg = 3 * a := by rw [m0]; exact nI_clamp (by omega)
  have t1 : ((3 : Int32) * nI a + 1).toNatClampNeg = 3 * a + 1 := by rw [m1]; exact nI_clamp (by omega)
  have t2 : ((3 : Int32) * nI a + 2).toNatClampNeg = 3 * a + 2 := by rw [m2]; exact nI_clamp (by omega)
  refine ⟨cpok_9, fun g2 eg2 => ⟨i0, fun g4 eg4 => ⟨i1, fun g6 eg6 => ⟨i2, fun g8 eg8 => ?_⟩⟩⟩⟩
  rw [sb_cl0, cl_9] at eg2
  rw [t0] at eg4
  rw [t1] at eg6
  rw [t2] at eg8
  obtain ⟨nw, enw⟩ : ∃ f : Nat → Int32, f = upd (upd (upd xa (3 * a) x) (3 * a + 1) y) (3 * a + 2) z := ⟨_, rfl⟩
  have h8 : ∀ j, j < 9 → g8 j = nw j := fun j hj => by
    have h2 : g2 j = xa j := by rw [eg2, pk_cpy_in (by omega) (by omega)]; congr 1; omega
    rw [eg8, eg6, eg4, enw]
    unfold upd
    split
    · rfl
    · split
      · rfl
      · split
        · rfl
        · exact h2
  obtain ⟨nm, enm⟩ : ∃ f : Nat → Int64, f = vp_updL (vp_updL (vp_updL ma (3 * a) x.toInt64) (3 * a + 1) y.toInt64) (3 * a + 2) z.toInt64 := ⟨_, rfl⟩
  have hnm : AX nw nm := fun j => by
    rw [enw, enm]
    unfold upd vp_updL
    split
    · rfl
    · split
      · rfl
      · split
        · rfl
        · exact hax j
  have model : ∀ (post : Int32 → (Nat → Int64) → Prop), (Fit nw mw.toInt mh.toInt → post 0 nm) → (¬ Fit nw mw.toInt mh.toInt → post (-1) ma) → F_X12_axis (nI a) x y z mw mh ma post := by
    intro post hp hn
    refine s_in32 (a := 0) (b := 2) rfl rfl (fun _ => ⟨fun _ => ⟨i0, fun x4 ex4 => ⟨i1, fun x6 ex6 => ⟨i2, fun x8 ex8 => ?_⟩⟩⟩, fun q => absurd q (by decide)⟩) (fun q => absurd ⟨by omega, by omega⟩ q)
    refine ⟨i0, fun f2 ef2 => ⟨i1, fun f4 ef4 => ⟨i2, fun f6 ef6 => ?_⟩⟩⟩
    rw [t0] at ef2
    rw [t1] at ef4
    rw [t2] at ef6
    have ef : f6 = nm := by rw [enm, ef6, ef4, ef2]
    subst ef
    refine s_areRays hnm rfl rfl hw hh (fun q => ⟨fun c => absurd c (by decide), fun _ => hp q⟩) (fun q => ⟨fun _ => ?_, fun c => absurd rfl c⟩)
    refine ⟨i0, fun d2 ed2 => ⟨i1, fun d4 ed4 => ⟨i2, fun d6 ed6 => ?_⟩⟩⟩
    have ed : d6 = ma := by
      rw [t0] at ed2 ex4
      rw [t1] at ed4 ex6
      rw [t2] at ed6 ex8
      rw [ed6, ed4, ed2, ex4, ex6, ex8, enm]
      funext j
      unfold vp_updL
      by_cases c2 : j = 3 * a + 2
      · rw [if_pos c2, c2]
      · rw [if_neg c2]
        by_cases c1 : j = 3 * a + 1
        · rw [if_pos c1, c1]
        · rw [if_neg c1]
          by_cases c0 : j = 3 * a
          · rw [if_pos c0, c0]
          · rw [if_neg c0, if_neg c2, if_neg c1, if_neg c0]
    rw [ed]
    exact hn q
  refine s_allRaysFit rfl rfl hw hh (fun q => ⟨fun _ => ⟨cpok_9, fun g12 eg12 => ⟨fun c => absurd c (by decide), fun _ => ?_⟩⟩, fun c => absurd c (by decide)⟩) (fun q => ⟨fun c => absurd rfl c, fun _ => ⟨fun _ => ?_, fun c => absurd rfl c⟩⟩)
  · have e12 : g12 = nw := by
      rw [sb_cl0, cl_9] at eg12
      funext j
      rw [eg12]
      by_cases hj : j < 9
      · rw [pk_cpy_in (by omega) (by omega), show 0 + (j - 0) = j by omega]; exact h8 j hj
      · rw [pk_cpy_out (Or.inr (by omega)), enw]
        unfold upd
        rw [if_neg (by omega), if_neg (by omega), if_neg (by omega)]
    rw [e12]
    have fn : Fit nw mw.toInt mh.toInt := fit_congr h8 q
    exact model _ (fun _ => k _ _ _ _ ⟨rfl, hb, hnm, rfl, rfl, hw, hh, fn⟩) (fun c => absurd fn c)
  · exact model _ (fun c => absurd (fit_congr (fun j hj => (h8 j hj).symm) c) q) (fun _ => same g8)
