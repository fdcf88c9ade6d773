/-! PURE PART: the class's boxes -/
/-- middle and reach of the box between two points -/
def midI (pt : Nat → Int32) (k : Nat) : Int := (pt k).toInt + (pt (3 + k)).toInt
def reaI (pt : Nat → Int32) (k : Nat) : Int := (((pt k).toInt - (pt (3 + k)).toInt).natAbs : Int)
def alo (co pt : Nat → Int32) (t c : Nat) (w : Nat → Int) : Int := w 0 * (2 * (co (9 * t + 3 * c)).toInt - midI pt 0) + w 1 * (2 * (co (9 * t + 3 * c + 1)).toInt - midI pt 1) + w 2 * (2 * (co (9 * t + 3 * c + 2)).toInt - midI pt 2)
def wid (pt : Nat → Int32) (w : Nat → Int) : Int := ((w 0).natAbs : Int) * reaI pt 0 + ((w 1).natAbs : Int) * reaI pt 1 + ((w 2).natAbs : Int) * reaI pt 2
theorem mm1 (w a b : Int) : (w.natAbs : Int) * ((a - b).natAbs : Int) = max (w * a) (w * b) - min (w * a) (w * b) := by
  have e : (w.natAbs : Int) * ((a - b).natAbs : Int) = ((w * a - w * b).natAbs : Int) := by
    rw [← Int.natCast_mul, ← Int.natAbs_mul, Int.mul_sub]
  rw [e]; omega
theorem alo_hi {co pt : Nat → Int32} {t c : Nat} {w : Nat → Int} : wid pt w < alo co pt t c w ↔ bhi pt w < vcd co t c w := by
  have e1 : alo co pt t c w = 2 * vcd co t c w - ((w 0 * (pt 0).toInt + w 0 * (pt 3).toInt) + (w 1 * (pt 1).toInt + w 1 * (pt 4).toInt) + (w 2 * (pt 2).toInt + w 2 * (pt 5).toInt)) := by
    unfold alo vcd midI; grind
  have e2 : wid pt w = (max (w 0 * (pt 0).toInt) (w 0 * (pt 3).toInt) - min (w 0 * (pt 0).toInt) (w 0 * (pt 3).toInt)) + (max (w 1 * (pt 1).toInt) (w 1 * (pt 4).toInt) - min (w 1 * (pt 1).toInt) (w 1 * (pt 4).toInt)) + (max (w 2 * (pt 2).toInt) (w 2 * (pt 5).toInt) - min (w 2 * (pt 2).toInt) (w 2 * (pt 5).toInt)) := by
    unfold wid reaI; rw [mm1, mm1, mm1]
  rw [e1, e2]; unfold bhi; omega
theorem alo_lo {co pt : Nat → Int32} {t c : Nat} {w : Nat → Int} : alo co pt t c w < -wid pt w ↔ vcd co t c w < blo pt w := by
  have e1 : alo co pt t c w = 2 * vcd co t c w - ((w 0 * (pt 0).toInt + w 0 * (pt 3).toInt) + (w 1 * (pt 1).toInt + w 1 * (pt 4).toInt) + (w 2 * (pt 2).toInt + w 2 * (pt 5).toInt)) := by
    unfold alo vcd midI; grind
  have e2 : wid pt w = (max (w 0 * (pt 0).toInt) (w 0 * (pt 3).toInt) - min (w 0 * (pt 0).toInt) (w 0 * (pt 3).toInt)) + (max (w 1 * (pt 1).toInt) (w 1 * (pt 4).toInt) - min (w 1 * (pt 1).toInt) (w 1 * (pt 4).toInt)) + (max (w 2 * (pt 2).toInt) (w 2 * (pt 5).toInt) - min (w 2 * (pt 2).toInt) (w 2 * (pt 5).toInt)) := by
    unfold wid reaI; rw [mm1, mm1, mm1]
  rw [e1, e2]; unfold blo; omega
theorem s_pAt {pt : Nat → Int32} {i k : Nat} {post : Int32 → Prop} (hi : i < 3) (hk : k < 3) (h : post (pt (3 * i + k))) : F_X6_at (nI i) (nI k) pt post := by
  refine ⟨vin (3 * i + k) (by omega) (by omega) (n3k i k), ?_⟩
  rw [n3k, nI_clamp (by omega)]; exact h
theorem q_sum {a b : Int32} (ha : bd 255 a.toInt) (hb : bd 255 b.toInt) : (a + b).toInt64 = Int64.ofInt (a.toInt + b.toInt) := by
  have e : a + b = Int32.ofInt (a.toInt + b.toInt) := by rw [← q_add, Int32.ofInt_toInt, Int32.ofInt_toInt]
  rw [e, q_l]; unfold bd at ha hb; exact ⟨by omega, by omega⟩
theorem q_abs {a b : Int32} (ha : bd 255 a.toInt) (hb : bd 255 b.toInt) : (jabsI (a - b)).toInt64 = Int64.ofInt (((a.toInt - b.toInt).natAbs : Nat) : Int) := by
  have e : a - b = Int32.ofInt (a.toInt - b.toInt) := by rw [← q_sub, Int32.ofInt_toInt, Int32.ofInt_toInt]
  unfold bd at ha hb
  have t : (a - b).toInt = a.toInt - b.toInt := by rw [e, q_toInt ⟨by omega, by omega⟩]
  have z : (0 : Int32) ≤ a - b ↔ 0 ≤ a.toInt - b.toInt := by rw [i32_le, t]; rfl
  unfold jabsI
  by_cases c : 0 ≤ a.toInt - b.toInt
  · rw [if_pos (z.mpr c), o_i2l, t]; congr 1; omega
  · rw [if_neg (fun y => c (z.mp y)), e, show (0 : Int32) = Int32.ofInt 0 from rfl, q_sub, q_l ⟨by omega, by omega⟩]; congr 1; omega
theorem st_span {post : (Nat → Int64) → (Nat → Int64) → Prop} {pt : Nat → Int32} {n k : Nat} {mi re : Nat → Int64} (hk : k < 3) (hp : ∀ j, bd 255 (pt j).toInt) (h : L_X0_span_2 post pt n (nI (k + 1)) (vp_updL mi k (Int64.ofInt (midI pt k))) (vp_updL re k (Int64.ofInt (reaI pt k)))) : L_X0_span_2 post pt (n + 1) (nI k) mi re := by
  have v : vp_in (nI k) 3 := vin k (by omega) (by omega) rfl
  have e0 : 3 * 0 + k = k := by omega
  have e1 : 3 * 1 + k = 3 + k := by omega
  refine ⟨fun q => ?_, fun _ => s_pAt (i := 0) (by omega) hk (s_pAt (i := 1) (by omega) hk ⟨v, fun g eg => s_pAt (i := 0) (by omega) hk (s_pAt (i := 1) (by omega) hk ⟨v, fun g2 eg2 x ex => ?_⟩)⟩)⟩
  · rw [n_3, nI_leI (by omega) (by omega)] at q; omega
  rw [e0, e1, nI_clamp (by omega), q_sum (hp _) (hp _)] at eg
  rw [e0, e1, nI_clamp (by omega), q_abs (hp _) (hp _)] at eg2
  rw [eg, eg2, ex, nI_1]; exact h
theorem s_span {post : (Nat → Int64) → (Nat → Int64) → Prop} {pt : Nat → Int32} {mi re : Nat → Int64} (hp : ∀ j, bd 255 (pt j).toInt) (h : ∀ mi re, asI mi (midI pt) 3 → asI re (reaI pt) 3 → post mi re) : F_X0_span mi re pt post :=
  ⟨4, st_span (k := 0) (by omega) hp (st_span (k := 1) (by omega) hp (st_span (k := 2) (by omega) hp ⟨fun _ => h _ _ (asI_s (F := midI pt) (asI_s (F := midI pt) (asI_s (F := midI pt) (asI_0 _ _)))) (asI_s (F := reaI pt) (asI_s (F := reaI pt) (asI_s (F := reaI pt) (asI_0 _ _)))), fun q => absurd (by decide) q⟩))⟩
section
variable {post : Int32 → Prop} {co pt : Nat → Int32} {t : Nat} {mi re : Nat → Int64} {x y z : Int}
theorem mid_bd (hp : ∀ j, bd 255 (pt j).toInt) (k : Nat) : bd 510 (midI pt k) := bd_add (hp k) (hp (3 + k))
theorem rea_bd (hp : ∀ j, bd 255 (pt j).toInt) (k : Nat) : bd 510 (reaI pt k) := by
  have h1 := hp k
  have h2 := hp (3 + k)
  unfold bd at *; unfold reaI; omega
theorem alo_bd (hb : ∀ j, bd 255 (co j).toInt) (hp : ∀ j, bd 255 (pt j).toInt) {w : Nat → Int} (hw : wb w) (c : Nat) : bd 800000000 (alo co pt t c w) := by
  have d : ∀ j k, bd 1020 (2 * (co j).toInt - midI pt k) := fun j k => by
    have h1 := hb j
    have h2 := mid_bd hp k
    unfold bd at *; omega
  exact bd_le (by decide) (bd_add (bd_add (bd_mul (hw 0 (by omega)) (d _ _)) (bd_mul (hw 1 (by omega)) (d _ _))) (bd_mul (hw 2 (by omega)) (d _ _)))
theorem wid_bd (hp : ∀ j, bd 255 (pt j).toInt) {w : Nat → Int} (hw : wb w) : bd 800000000 (wid pt w) := by
  have n : ∀ j, j < 3 → bd 260100 ((w j).natAbs : Int) := fun j hj => by have := hw j hj; unfold bd at *; omega
  exact bd_le (by decide) (bd_add (bd_add (bd_mul (n 0 (by omega)) (rea_bd hp 0)) (bd_mul (n 1 (by omega)) (rea_bd hp 1))) (bd_mul (n 2 (by omega)) (rea_bd hp 2)))
theorem st_p48 {n c : Nat} {A Bp : Prop} (ht : t < 128) (hc : c < 3) (hm : asI mi (midI pt) 3) (hb : ∀ j, bd 255 (co j).toInt) (hp : ∀ j, bd 255 (pt j).toInt) (hw : wb (v3 x y z))
    (h : L_X0_isPartedAlong_48 post mi re co n (nI t) (Int64.ofInt x) (Int64.ofInt y) (Int64.ofInt z) (Int64.ofInt (wid pt (v3 x y z))) (fl (A ∧ wid pt (v3 x y z) < alo co pt t c (v3 x y z))) (fl (Bp ∧ alo co pt t c (v3 x y z) < -wid pt (v3 x y z))) (nI (c + 1))) :
    L_X0_isPartedAlong_48 post mi re co (n + 1) (nI t) (Int64.ofInt x) (Int64.ofInt y) (Int64.ofInt z) (Int64.ofInt (wid pt (v3 x y z))) (fl A) (fl Bp) (nI c) := by
  have ab' := alo_bd (t := t) hb hp hw c
  have wb' := wid_bd hp hw
  have v0 : vp_in 0 3 := vin 0 (by omega) (by omega) rfl
  have v1 : vp_in 1 3 := vin 1 (by omega) (by omega) rfl
  have v2 : vp_in 2 3 := vin 2 (by omega) (by omega) rfl
  have tw : ∀ a : Int32, bd 255 a.toInt → (2 * a).toInt64 = Int64.ofInt (2 * a.toInt) := fun a ha => by
    have e : (2 : Int32) * a = Int32.ofInt (2 * a.toInt) := by rw [← q_mul, Int32.ofInt_toInt]; rfl
    rw [e, q_l]; unfold bd at ha; exact ⟨by omega, by omega⟩
  refine ⟨fun q => ?_, fun _ => s_at (k := 0) ht hc (by omega) ⟨v0, s_at (k := 1) ht hc (by omega) ⟨v1, s_at (k := 2) ht hc (by omega) ⟨v2, fun u eu => ?_⟩⟩⟩⟩
  · rw [n_3, nI_leI (by omega) (by omega)] at q; omega
  have eu' : u = Int64.ofInt (alo co pt t c (v3 x y z)) := by
    rw [eu, tw _ (hb _), tw _ (hb _), tw _ (hb _), cl_0, cl_1, cl_2, hm 0 (by omega), hm 1 (by omega), hm 2 (by omega), o_sub, o_sub, o_sub, o_mul, o_mul, o_mul, o_add, o_add]; rfl
  subst eu'
  have J : ∀ s : Int32, s = fl (A ∧ wid pt (v3 x y z) < alo co pt t c (v3 x y z)) → J_X0_isPartedAlong_138 (L_X0_isPartedAlong_48 post mi re co n) mi re co (nI t) (Int64.ofInt x) (Int64.ofInt y) (Int64.ofInt z) (Int64.ofInt (wid pt (v3 x y z))) (fl Bp) (nI c) (Int64.ofInt (alo co pt t c (v3 x y z))) s := by
    intro s es
    subst es
    unfold J_X0_isPartedAlong_138
    rw [fl_z, o_neg, lg_ge (bd_r63 (by decide) ab') (bd_r63 (by decide) (bd_neg wb'))]
    refine ⟨fun q a ea => ?_, fun q => ⟨fun q2 a ea => ?_, fun q2 a ea => ?_⟩⟩
    · rw [fl_0 (P := Bp ∧ _) (fun w => q w.1)] at h; rw [ea, nI_1]; exact h
    · rw [fl_0 (P := Bp ∧ _) (fun w => by have := w.2; omega)] at h; rw [ea, nI_1]; exact h
    · rw [fl_1 (P := Bp ∧ _) ⟨Classical.byContradiction q, by omega⟩] at h; rw [ea, nI_1]; exact h
  rw [fl_z, lg_cmp_le, o_le (bd_r63 (by decide) ab') (bd_r63 (by decide) wb')]
  refine ⟨fun q => J 0 (fl_0 (fun w => q w.1)).symm, fun q => ⟨fun q2 => J 0 (fl_0 (fun w => by have := w.2; omega)).symm, fun q2 => J 1 (fl_1 ⟨Classical.byContradiction q, by omega⟩).symm⟩⟩
theorem s_parted (ht : t < 128) (hm : asI mi (midI pt) 3) (hr : asI re (reaI pt) 3) (hb : ∀ j, bd 255 (co j).toInt) (hp : ∀ j, bd 255 (pt j).toInt) (hw : wb (v3 x y z)) (h1 : prt co pt t (v3 x y z) → post 1) (h0 : ¬ prt co pt t (v3 x y z) → post 0) : F_X0_isPartedAlong (nI t) (Int64.ofInt x) (Int64.ofInt y) (Int64.ofInt z) mi re co post := by
  refine ⟨vin 0 (by omega) (by omega) rfl, vin 1 (by omega) (by omega) rfl, vin 2 (by omega) (by omega) rfl, fun u eu => ⟨4, ?_⟩⟩
  have eu' : u = Int64.ofInt (wid pt (v3 x y z)) := by
    rw [eu, jabs_o (a := x) (bd_le (by decide) (hw 0 (by omega))), jabs_o (a := y) (bd_le (by decide) (hw 1 (by omega))), jabs_o (a := z) (bd_le (by decide) (hw 2 (by omega))), cl_0, cl_1, cl_2, hr 0 (by omega), hr 1 (by omega), hr 2 (by omega), o_mul, o_mul, o_mul, o_add, o_add]; rfl
  subst eu'
  have s0 : ∀ n, L_X0_isPartedAlong_48 post mi re co n (nI t) (Int64.ofInt x) (Int64.ofInt y) (Int64.ofInt z) (Int64.ofInt (wid pt (v3 x y z))) (fl True) (fl True) (nI 0) → L_X0_isPartedAlong_48 post mi re co n (nI t) (Int64.ofInt x) (Int64.ofInt y) (Int64.ofInt z) (Int64.ofInt (wid pt (v3 x y z))) 1 1 0 := fun n h => by rw [fl_1 trivial] at h; exact h
  refine s0 4 (st_p48 (c := 0) ht (by omega) hm hb hp hw (st_p48 (c := 1) ht (by omega) hm hb hp hw (st_p48 (c := 2) ht (by omega) hm hb hp hw ⟨fun _ => ?_, fun q => absurd (by decide) q⟩)))
  simp only [alo_hi, alo_lo, true_and]
  rw [fl_z, fl_z]
  unfold prt at h1 h0
  refine ⟨fun q => h1 (Or.inl ?_), fun q => ⟨fun q2 => h0 (fun z => ?_), fun q2 => h1 (Or.inr ?_)⟩⟩
  · have := Classical.byContradiction q; exact ⟨this.1.1, this.1.2, this.2⟩
  · rcases z with z | z
    · exact q ⟨⟨z.1, z.2.1⟩, z.2.2⟩
    · exact q2 ⟨⟨z.1, z.2.1⟩, z.2.2⟩
  · have := Classical.byContradiction q2; exact ⟨this.1.1, this.1.2, this.2⟩
end
