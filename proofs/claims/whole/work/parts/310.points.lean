/-! PURE PART: small methods, points -/
theorem i32_lt {x y : Int32} : x < y ↔ x.toInt < y.toInt := Int32.lt_iff_toInt_lt
theorem i32_le {x y : Int32} : x ≤ y ↔ x.toInt ≤ y.toInt := Int32.le_iff_toInt_le
theorem s_isCoordinate {p0 : Int32} {post : Int32 → Prop} (h1 : bd 255 p0.toInt → post 1) (h0 : ¬ bd 255 p0.toInt → post 0) : F_X6_isCoordinate p0 post := by
  have e1 : (-255 : Int32).toInt = -255 := rfl
  have e2 : (255 : Int32).toInt = 255 := rfl
  refine ⟨fun h => h0 (fun hb => ?_), fun h => ⟨fun h2 => h0 (fun hb => ?_), fun h2 => h1 ⟨?_, ?_⟩⟩⟩
  · rw [i32_lt, e1] at h; have := hb.1; omega
  · rw [i32_lt, e2] at h2; have := hb.2; omega
  · rw [i32_lt, e1] at h; omega
  · rw [i32_lt, e2] at h2; omega
theorem s_isByte {p0 : Int32} {post : Int32 → Prop} (h1 : 0 ≤ p0.toInt ∧ p0.toInt ≤ 255 → post 1) (h0 : ¬ (0 ≤ p0.toInt ∧ p0.toInt ≤ 255) → post 0) : F_X11_isByte p0 post := by
  have e1 : (0 : Int32).toInt = 0 := rfl
  have e2 : (255 : Int32).toInt = 255 := rfl
  refine ⟨fun h => h0 (fun hb => ?_), fun h => ⟨fun h2 => h0 (fun hb => ?_), fun h2 => h1 ⟨?_, ?_⟩⟩⟩
  · rw [i32_lt, e1] at h; have := hb.1; omega
  · rw [i32_lt, e2] at h2; have := hb.2; omega
  · rw [i32_lt, e1] at h; omega
  · rw [i32_lt, e2] at h2; omega
theorem s_in {p0 p2 p4 : Int64} {post : Int32 → Prop} (h1 : p2.toInt ≤ p0.toInt ∧ p0.toInt ≤ p4.toInt → post 1) (h0 : ¬ (p2.toInt ≤ p0.toInt ∧ p0.toInt ≤ p4.toInt) → post 0) : F_X12_in p0 p2 p4 post := by
  refine ⟨fun h => h0 (fun hb => ?_), fun h => ⟨fun h2 => h0 (fun hb => ?_), fun h2 => h1 ⟨?_, ?_⟩⟩⟩
  · rw [lg_cmp_lt, Int64.lt_iff_toInt_lt] at h; have := hb.1; omega
  · rw [lg_cmp_gt, Int64.lt_iff_toInt_lt] at h2; have := hb.2; omega
  · rw [lg_cmp_lt, Int64.lt_iff_toInt_lt] at h; omega
  · rw [lg_cmp_gt, Int64.lt_iff_toInt_lt] at h2; omega
/-- 'in' of an int between two ints -/
theorem s_in32 {p0 : Int32} {p2 p4 : Int64} {a b : Int} {post : Int32 → Prop} (ha : p2.toInt = a) (hb : p4.toInt = b) (h1 : a ≤ p0.toInt ∧ p0.toInt ≤ b → post 1) (h0 : ¬ (a ≤ p0.toInt ∧ p0.toInt ≤ b) → post 0) : F_X12_in p0.toInt64 p2 p4 post :=
  s_in (by rw [Int32.toInt_toInt64, ha, hb]; exact h1) (by rw [Int32.toInt_toInt64, ha, hb]; exact h0)
theorem s_isPlace {p0 : Int32} {post : Int32 → Prop} (h1 : bd 255 p0.toInt → post 1) (h0 : ¬ bd 255 p0.toInt → post 0) : F_X12_isPlace p0 post :=
  s_in32 (a := -255) (b := 255) rfl rfl (fun h => ⟨bz_1, h1 h⟩) (fun h => ⟨bz_0, h0 h⟩)
/-- the points: both sides hold the same, within bounds -/
def IP (xm : Int32) (xc : Nat → Int32) (mm : Int32) (mc : Nat → Int32) : Prop := ∃ np : Nat, np ≤ 3 ∧ xm = nI np ∧ mm = nI np ∧ mc = xc ∧ ∀ j, bd 255 (xc j).toInt
theorem upd_bd {f : Nat → Int32} {k : Nat} {x : Int32} {B : Int} (h : ∀ j, bd B (f j).toInt) (hx : bd B x.toInt) : ∀ j, bd B (upd f k x j).toInt := fun j => by
  by_cases e : j = k
  · subst e; rw [pk_us]; exact hx
  · rw [pk_un e]; exact h j
theorem op_point {a b c xm mm : Int32} {xc mc : Nat → Int32} (I : IP xm xc mm mc) {Q : Int32 → Int32 → (Nat → Int32) → Int32 → Int32 → (Nat → Int32) → Prop}
    (k : ∀ (r xm' : Int32) (xc' : Nat → Int32) (mm' : Int32) (mc' : Nat → Int32), IP xm' xc' mm' mc' → Q r xm' xc' r mm' mc') :
    F_X11_point a b c xm xc (fun r v1 v2 => F_X12_point a b c mm mc (fun r' v3 v4 => Q r v1 v2 r' v3 v4)) := by
  obtain ⟨np, hnp, rfl, rfl, rfl, hbd⟩ := I
  have same : Q (-1) (nI np) mc (-1) (nI np) mc := k _ _ _ _ _ ⟨np, hnp, rfl, rfl, rfl, hbd⟩
  have bad : (¬ bd 255 a.toInt ∨ ¬ bd 255 b.toInt ∨ ¬ bd 255 c.toInt ∨ np = 3) → F_X12_point a b c (nI np) mc (fun r' v3 v4 => Q (-1) (nI np) mc r' v3 v4) := by
    intro hbad
    refine s_isPlace (fun ha => ⟨fun h => absurd h (by decide), fun _ => ?_⟩) (fun _ => ⟨fun _ => same, fun h => absurd rfl h⟩)
    refine s_isPlace (fun hb => ⟨fun h => absurd h (by decide), fun _ => ?_⟩) (fun _ => ⟨fun _ => same, fun h => absurd rfl h⟩)
    refine s_isPlace (fun hc => ⟨fun h => absurd h (by decide), fun _ => ?_⟩) (fun _ => ⟨fun _ => same, fun h => absurd rfl h⟩)
    refine ⟨fun h => absurd ?_ h, fun _ => same⟩
    rcases hbad with h | h | h | h
    · exact absurd ha h
    · exact absurd hb h
    · exact absurd hc h
    · rw [h]; rfl
  refine ⟨fun h => ⟨fun _ => bad (Or.inr (Or.inr (Or.inr ?_))), fun h => absurd rfl h⟩, fun h3 => ?_⟩
  · rw [n_3, nI_leI (by omega) (by omega)] at h; omega
  rw [n_3, nI_leI (by omega) (by omega)] at h3
  refine s_isCoordinate (fun ha => ⟨fun h => absurd h (by decide), fun _ => ?_⟩) (fun ha => ⟨fun _ => ⟨fun _ => bad (Or.inl ha), fun h => absurd rfl h⟩, fun h => absurd rfl h⟩)
  refine s_isCoordinate (fun hb => ⟨fun h => absurd h (by decide), fun _ => ?_⟩) (fun hb => ⟨fun _ => ⟨fun _ => bad (Or.inr (Or.inl hb)), fun h => absurd rfl h⟩, fun h => absurd rfl h⟩)
  refine s_isCoordinate (fun hc => ⟨fun _ => ?_, fun h => absurd h (by decide)⟩) (fun hc => ⟨fun h => absurd rfl h, fun _ => ⟨fun _ => bad (Or.inr (Or.inr (Or.inl hc))), fun h => absurd rfl h⟩⟩)
  have e0 : (3 : Int32) * nI np = nI (3 * np) := pk_mul 3 np
  have e1 : (3 : Int32) * nI np + 1 = nI (3 * np + 1) := by rw [e0, nI_1]
  have e2 : (3 : Int32) * nI np + 2 = nI (3 * np + 2) := by rw [e0, n_2, nI_add]
  have e3 : nI np + 1 = nI (np + 1) := nI_1 np
  have i0 : vp_in ((3 : Int32) * nI np) 9 := by rw [e0]; exact vp_in_nI (by omega) (by omega)
  have i1 : vp_in ((3 : Int32) * nI np + 1) 9 := by rw [e1]; exact vp_in_nI (by omega) (by omega)
  have i2 : vp_in ((3 : Int32) * nI np + 2) 9 := by rw [e2]; exact vp_in_nI (by omega) (by omega)
  refine ⟨i0, fun g1 eg1 => ⟨i1, fun g2 eg2 => ⟨i2, fun g3 eg3 x ex => ⟨fun h => absurd h (by decide), fun _ => ?_⟩⟩⟩⟩
  show F_X12_point a b c (nI np) mc (fun r' v3 v4 => Q x x g3 r' v3 v4)
  refine s_isPlace (fun _ => ⟨fun h => absurd h (by decide), fun _ => ?_⟩) (fun h => absurd ha h)
  refine s_isPlace (fun _ => ⟨fun h => absurd h (by decide), fun _ => ?_⟩) (fun h => absurd hb h)
  refine s_isPlace (fun _ => ⟨fun h => absurd h (by decide), fun _ => ?_⟩) (fun h => absurd hc h)
  refine ⟨fun _ => ⟨i0, fun f1 ef1 => ⟨i1, fun f2 ef2 => ⟨i2, fun f3 ef3 y ey => ?_⟩⟩⟩, fun h => ?_⟩
  · have hf : f3 = g3 := by rw [ef3, eg3, ef2, eg2, ef1, eg1]
    have hy : y = x := by rw [ex, ey]
    subst hf; subst hy
    refine k _ _ _ _ _ ⟨np + 1, by omega, by rw [ex, e3], by rw [ex, e3], rfl, ?_⟩
    rw [eg3, eg2, eg1]
    exact upd_bd (upd_bd (upd_bd hbd ha) hb) hc
  · rw [n_3, nI_eq (by omega) (by omega)] at h; omega
theorem op_drop {xm mm : Int32} {xc mc : Nat → Int32} (I : IP xm xc mm mc) {Q : Int32 → Int32 → Int32 → Int32 → Prop}
    (k : ∀ (r xm' mm' : Int32), IP xm' xc mm' mc → Q r xm' r mm') : F_X11_drop xm (fun r v1 => F_X12_drop mm (fun r' v3 => Q r v1 r' v3)) := by
  obtain ⟨np, hnp, rfl, rfl, rfl, hbd⟩ := I
  exact k _ _ _ ⟨0, by omega, rfl, rfl, rfl, hbd⟩
