/-! PURE PART: sides of planes, facing -/
/-- a vector along a triangle's normal -/
def dotN (no : Nat → Int32) (t : Nat) (x y z : Int) : Int := x * (no (3 * t)).toInt + y * (no (3 * t + 1)).toInt + z * (no (3 * t + 2)).toInt
/-- on which side of a triangle's plane a place lies -/
def sid (co no : Nat → Int32) (t : Nat) (x y z : Int) : Int := dotN no t (x - (co (9 * t)).toInt) (y - (co (9 * t + 1)).toInt) (z - (co (9 * t + 2)).toInt)
theorem s_alongNormal {no : Nat → Int32} {t : Nat} {x y z : Int} {post : Int64 → Prop} (ht : t < 128) (h : post (Int64.ofInt (dotN no t x y z))) : F_X5_alongNormal (nI t) (Int64.ofInt x) (Int64.ofInt y) (Int64.ofInt z) no post := by
  have m0 : (3 : Int32) * nI t = nI (3 * t) := pk_mul 3 t
  have m1 : (3 : Int32) * nI t + 1 = nI (3 * t + 1) := n3k t 1
  have m2 : (3 : Int32) * nI t + 2 = nI (3 * t + 2) := n3k t 2
  refine ⟨vin _ (by omega) (by omega) m0, vin _ (by omega) (by omega) m1, vin _ (by omega) (by omega) m2, ?_⟩
  rw [m1, m2, m0, nI_clamp (by omega), nI_clamp (by omega), nI_clamp (by omega), o_i2l, o_i2l, o_i2l, o_mul, o_mul, o_mul, o_add, o_add]
  exact h
theorem s_at {co : Nat → Int32} {t c k : Nat} {post : Int32 → Prop} (ht : t < 128) (hc : c < 3) (hk : k < 3) (h : post (co (9 * t + 3 * c + k))) : F_X5_at (nI t) (nI c) (nI k) co post := by
  have e : ((9 : Int32) * nI t + 3 * nI c) + nI k = nI (9 * t + 3 * c + k) := by
    rw [n_3, n_9, pk_mul, pk_mul, nI_add, nI_add]
  refine ⟨vin _ (by omega) (by omega) e, ?_⟩
  rw [e, nI_clamp (by omega)]; exact h
theorem s_side {co no : Nat → Int32} {t : Nat} {x y z : Int} {post : Int64 → Prop} (ht : t < 128) (h : post (Int64.ofInt (sid co no t x y z))) : F_X5_side (nI t) (Int64.ofInt x) (Int64.ofInt y) (Int64.ofInt z) co no post := by
  refine s_at (c := 0) (k := 0) ht (by omega) (by omega) (s_at (c := 0) (k := 1) ht (by omega) (by omega) (s_at (c := 0) (k := 2) ht (by omega) (by omega) ?_))
  rw [o_i2l, o_i2l, o_i2l, o_sub, o_sub, o_sub]
  exact s_alongNormal ht h
theorem sid_bd {co no : Nat → Int32} {t : Nat} {x y z : Int} (hc : ∀ j, bd 255 (co j).toInt) (hn : ∀ k, k < 3 → bd 520200 (no (3 * t + k)).toInt) (hx : bd 255 x) (hy : bd 255 y) (hz : bd 255 z) : bd 795906000 (sid co no t x y z) := by
  have h1 := bd_add (bd_add (bd_mul (bd_sub hx (hc (9 * t))) (hn 0 (by omega))) (bd_mul (bd_sub hy (hc (9 * t + 1))) (hn 1 (by omega)))) (bd_mul (bd_sub hz (hc (9 * t + 2))) (hn 2 (by omega)))
  exact h1
def sgn (a : Int) : Int32 := if a = 0 then 0 else if a < 0 then -1 else 1
theorem s_sign {a : Int} {post : Int32 → Prop} (hr : r63 a) (h : post (sgn a)) : F_X11_sign (Int64.ofInt a) post := by
  have e : lg_cmp (Int64.ofInt a) 0 = 0 ↔ a = 0 := o_zero hr
  have l : lg_cmp (Int64.ofInt a) 0 ≤ 0 ↔ a ≤ 0 := by rw [lg_cmp_le, o_0, o_le hr ⟨by omega, by omega⟩]
  unfold sgn at h
  refine ⟨fun q => ⟨fun q2 => ?_, fun q2 => ?_⟩, fun q => ?_⟩
  · rw [e] at q; rw [l] at q2; rw [if_neg q, if_pos (by omega)] at h; exact h
  · rw [e] at q; rw [l] at q2; rw [if_neg q, if_neg (by omega)] at h; exact h
  · rw [e] at q; rw [if_pos q] at h; exact h
theorem s_sideOf {co no row : Nat → Int32} {mno : Nat → Int64} {t o N : Nat} {post : Int32 → Prop} (ht : t < 128) (hN : o + 2 < N) (hN2 : N < 2 ^ 31) (hm : ∀ j, mno j = (no j).toInt64) (hc : ∀ j, bd 255 (co j).toInt) (hw : ∀ j, bd 255 (row j).toInt) (hn : ∀ k, k < 3 → bd 520200 (no (3 * t + k)).toInt)
    (h : post (sgn (sid co no t (row o).toInt (row (o + 1)).toInt (row (o + 2)).toInt))) : F_X12_sideOf (nI t) (nI o) N co mno row post := by
  have st : ∀ (n k : Nat) (v : Int), k < 3 → L_X12_sideOf_6 post N co mno row n (nI t) (nI o) (Int64.ofInt (v + ((row (o + k)).toInt - (co (9 * t + k)).toInt) * (no (3 * t + k)).toInt)) (nI (k + 1)) → L_X12_sideOf_6 post N co mno row (n + 1) (nI t) (nI o) (Int64.ofInt v) (nI k) := by
    intro n k v hk h
    refine ⟨fun q => ?_, fun _ => ⟨vin (o + k) (by omega) (by omega) (nI_add o k), vin (9 * t + k) (by omega) (by omega) (n9k t k), vin (3 * t + k) (by omega) (by omega) (n3k t k), fun x ex y ey => ?_⟩⟩
    · rw [n_3, nI_leI (by omega) (by omega)] at q; omega
    · rw [nI_add, n9k, n3k, nI_clamp (by omega), nI_clamp (by omega), nI_clamp (by omega), o_dif (hw _) (hc _), hm, o_i2l, o_mul, o_add] at ex
      rw [ex, ey, nI_1]; exact h
  refine ⟨4, st 3 0 0 (by omega) (st 2 1 _ (by omega) (st 1 2 _ (by omega) ⟨fun _ => ?_, fun q => absurd (by decide) q⟩))⟩
  have e : 0 + ((row (o + 0)).toInt - (co (9 * t + 0)).toInt) * (no (3 * t + 0)).toInt + ((row (o + 1)).toInt - (co (9 * t + 1)).toInt) * (no (3 * t + 1)).toInt + ((row (o + 2)).toInt - (co (9 * t + 2)).toInt) * (no (3 * t + 2)).toInt = sid co no t (row o).toInt (row (o + 1)).toInt (row (o + 2)).toInt := by
    unfold sid dotN; rw [Int.zero_add]; rfl
  rw [e]
  have hb := sid_bd (t := t) hc hn (hw o) (hw (o + 1)) (hw (o + 2))
  generalize sid co no t (row o).toInt (row (o + 1)).toInt (row (o + 2)).toInt = a at *
  have hr : r63 a := bd_r63 (by omega) hb
  have l : lg_cmp (Int64.ofInt a) 0 ≤ 0 ↔ a ≤ 0 := by rw [lg_cmp_le, o_0, o_le hr ⟨by omega, by omega⟩]
  have g : 0 ≤ lg_cmp (Int64.ofInt a) 0 ↔ 0 ≤ a := by rw [lg_cmp_ge, o_0, o_le ⟨by omega, by omega⟩ hr]
  rw [l, g]
  unfold sgn at h
  refine ⟨fun q => ⟨fun q2 => ?_, fun q2 => ?_⟩, fun q => ?_⟩
  · rw [if_pos (by omega)] at h; exact h
  · rw [if_neg (by omega), if_pos (by omega)] at h; exact h
  · rw [if_neg (by omega), if_neg (by omega)] at h; exact h
theorem IM_nb {nt : Nat} {xn mn : Int32} {xc xno xt mc mt : Nat → Int32} {mno : Nat → Int64} (I : IM nt xn xc xno xt mn mc mno mt) {t : Nat} (ht : t < nt) : ∀ k, k < 3 → bd 520200 (xno (3 * t + k)).toInt := fun k hk => by
  rw [I.2.2.2.2.2.2.2 t k ht hk]; exact crs_bd (fun j _ => I.2.2.2.2.2.1 _) k
theorem op_facing {a xn mn xw xh mw mh : Int32} {nt : Nat} {xc xno xt mc mt xe xa me : Nat → Int32} {mno ma : Nat → Int64} (I : IM nt xn xc xno xt mn mc mno mt) (K : IC xe xa xw xh me ma mw mh) {Q : Int32 → Int32 → Prop} (k : ∀ r, Q r r) :
    F_X11_facing a xn xc xno xe (fun r => F_X12_facing a mn mc mno me (fun r' => Q r r')) := by
  have I0 := I
  obtain ⟨hnt, rfl, rfl, rfl, rfl, hcb, hmn, hcr⟩ := I
  obtain ⟨rfl, heb, -⟩ := K
  refine s_has hnt (fun t ht et => ⟨fun y => absurd y (by decide), fun _ => ?_⟩) (fun z => ⟨fun _ => ?_, fun y => absurd rfl y⟩)
  · subst et
    refine ⟨vin 0 (by omega) (by omega) rfl, vin 1 (by omega) (by omega) rfl, vin 2 (by omega) (by omega) rfl, ?_⟩
    rw [cl_0, cl_1, cl_2, o_i2l, o_i2l, o_i2l]
    refine s_side (by omega) (s_sign (bd_r63 (by omega) (sid_bd hcb (IM_nb I0 ht) (heb 0) (heb 1) (heb 2))) ?_)
    refine s_inT hnt (fun _ _ _ => ⟨fun y => absurd y (by decide), fun _ => ?_⟩) (fun z => absurd z (nI_out ht hnt))
    exact s_sideOf (o := 0) (by omega) (by omega) (by omega) hmn hcb heb (IM_nb I0 ht) (k _)
  · exact s_inT hnt (fun t ht et => absurd z (by rw [et]; exact nI_out ht hnt)) (fun _ => ⟨fun _ => k _, fun y => absurd rfl y⟩)
