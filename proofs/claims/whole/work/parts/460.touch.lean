/-! PURE PART: boxes and triangles -/
def v3 (a b c : Int) (j : Nat) : Int := if j = 0 then a else if j = 1 then b else c
def vcd (co : Nat → Int32) (t c : Nat) (w : Nat → Int) : Int := w 0 * (co (9 * t + 3 * c)).toInt + w 1 * (co (9 * t + 3 * c + 1)).toInt + w 2 * (co (9 * t + 3 * c + 2)).toInt
def bhi (pt : Nat → Int32) (w : Nat → Int) : Int := max (w 0 * (pt 0).toInt) (w 0 * (pt 3).toInt) + max (w 1 * (pt 1).toInt) (w 1 * (pt 4).toInt) + max (w 2 * (pt 2).toInt) (w 2 * (pt 5).toInt)
def blo (pt : Nat → Int32) (w : Nat → Int) : Int := min (w 0 * (pt 0).toInt) (w 0 * (pt 3).toInt) + min (w 1 * (pt 1).toInt) (w 1 * (pt 4).toInt) + min (w 2 * (pt 2).toInt) (w 2 * (pt 5).toInt)
def prt (co pt : Nat → Int32) (t : Nat) (w : Nat → Int) : Prop := (bhi pt w < vcd co t 0 w ∧ bhi pt w < vcd co t 1 w ∧ bhi pt w < vcd co t 2 w) ∨ (vcd co t 0 w < blo pt w ∧ vcd co t 1 w < blo pt w ∧ vcd co t 2 w < blo pt w)
theorem prt_neg {co pt : Nat → Int32} {t : Nat} {w u : Nat → Int} (h : ∀ j, j < 3 → u j = -w j) : prt co pt t u ↔ prt co pt t w := by
  have e0 : ∀ c, vcd co t c u = -vcd co t c w := fun c => by unfold vcd; rw [h 0 (by omega), h 1 (by omega), h 2 (by omega)]; grind
  have e1 : bhi pt u = -blo pt w := by
    unfold bhi blo; rw [h 0 (by omega), h 1 (by omega), h 2 (by omega)]
    rw [Int.neg_mul, Int.neg_mul, Int.neg_mul, Int.neg_mul, Int.neg_mul, Int.neg_mul]; omega
  have e2 : blo pt u = -bhi pt w := by
    unfold bhi blo; rw [h 0 (by omega), h 1 (by omega), h 2 (by omega)]
    rw [Int.neg_mul, Int.neg_mul, Int.neg_mul, Int.neg_mul, Int.neg_mul, Int.neg_mul]; omega
  unfold prt
  rw [e0, e0, e0, e1, e2]
  constructor
  · rintro (⟨a, b, c⟩ | ⟨a, b, c⟩)
    · right; omega
    · left; omega
  · rintro (⟨a, b, c⟩ | ⟨a, b, c⟩)
    · right; omega
    · left; omega
noncomputable def fl (P : Prop) : Int32 := @ite _ P (Classical.propDecidable _) 1 0
theorem fl_1 {P : Prop} (h : P) : fl P = 1 := if_pos h
theorem fl_0 {P : Prop} (h : ¬ P) : fl P = 0 := if_neg h
theorem fl_z {P : Prop} : fl P = 0 ↔ ¬ P := ⟨fun e h => by rw [fl_1 h] at e; exact absurd e (by decide), fl_0⟩
/-- the direction's bound -/
def wb (w : Nat → Int) : Prop := ∀ j, j < 3 → bd 260100 (w j)
theorem vcd_bd {co : Nat → Int32} {t c : Nat} {w : Nat → Int} (hb : ∀ j, bd 255 (co j).toInt) (hw : wb w) : bd 198976500 (vcd co t c w) :=
  bd_add (bd_add (bd_mul (hw 0 (by omega)) (hb _)) (bd_mul (hw 1 (by omega)) (hb _))) (bd_mul (hw 2 (by omega)) (hb _))
theorem wp_bd {pt : Nat → Int32} {w : Nat → Int} (hp : ∀ j, bd 255 (pt j).toInt) (hw : wb w) (k j : Nat) (hk : k < 3) : bd 66325500 (w k * (pt j).toInt) := bd_mul (hw k hk) (hp j)
section
variable {post : Int32 → Prop} {co pt : Nat → Int32} {t : Nat} {w : Nat → Int} {way : Nat → Int64}
theorem st_ap24 {k12 : Int32 → Int64 → Int64 → Int32 → Prop} {n k c : Nat} {lo mo : Int64} {v : Int} (ht : t < 128) (hc : c < 3) (hk : k < 3) (hw : asI way w 3)
    (h : L_X12_areApart_24 k12 pt co way n (nI t) lo mo (nI c) (Int64.ofInt (v + w k * (co (9 * t + 3 * c + k)).toInt)) (nI (k + 1))) : L_X12_areApart_24 k12 pt co way (n + 1) (nI t) lo mo (nI c) (Int64.ofInt v) (nI k) := by
  have e : ((9 : Int32) * nI t + 3 * nI c) + nI k = nI (9 * t + 3 * c + k) := by rw [n_3, n_9, pk_mul, pk_mul, nI_add, nI_add]
  refine ⟨fun q => ?_, fun _ => ⟨vin k (by omega) (by omega) rfl, vin _ (by omega) (by omega) e, fun x ex y ey => ?_⟩⟩
  · rw [n_3, nI_leI (by omega) (by omega)] at q; omega
  rw [e, nI_clamp (by omega), nI_clamp (by omega), hw k hk, o_i2l, o_mul, o_add] at ex
  rw [ex, ey, nI_1]; exact h
theorem s_ap24 {k12 : Int32 → Int64 → Int64 → Int32 → Prop} {c : Nat} {lo mo : Int} (ht : t < 128) (hc : c < 3) (hw : asI way w 3) (hb : ∀ j, bd 255 (co j).toInt) (hwb : wb w) (hlo : bd bM lo) (hmo : bd bM mo)
    (h : k12 (nI t) (Int64.ofInt (min (vcd co t c w) lo)) (Int64.ofInt (max (vcd co t c w) mo)) (nI (c + 1))) : L_X12_areApart_24 k12 pt co way 4 (nI t) (Int64.ofInt lo) (Int64.ofInt mo) (nI c) 0 0 := by
  have vb : bd bM (vcd co t c w) := bd_le (by decide) (vcd_bd hb hwb)
  refine st_ap24 (v := 0) (k := 0) ht hc (by omega) hw (st_ap24 (k := 1) ht hc (by omega) hw (st_ap24 (k := 2) ht hc (by omega) hw ⟨fun _ => ?_, fun q => absurd (by decide) q⟩))
  have e : 0 + w 0 * (co (9 * t + 3 * c + 0)).toInt + w 1 * (co (9 * t + 3 * c + 1)).toInt + w 2 * (co (9 * t + 3 * c + 2)).toInt = vcd co t c w := by
    unfold vcd; rw [Int.zero_add]; rfl
  rw [e]
  have J : ∀ s : Int64, s = Int64.ofInt (min (vcd co t c w) lo) → J_X12_areApart_80 k12 pt co way (nI t) (Int64.ofInt mo) (nI c) (Int64.ofInt (vcd co t c w)) s := by
    intro s es
    subst es
    unfold J_X12_areApart_80
    rw [lg_cmp_le, o_le (bd_r63 (by decide) vb) (bd_r63 (by decide) hmo)]
    refine ⟨fun q x ex => ?_, fun q x ex => ?_⟩
    · rw [show max (vcd co t c w) mo = mo by omega] at h; rw [ex, nI_1]; exact h
    · rw [show max (vcd co t c w) mo = vcd co t c w by omega] at h; rw [ex, nI_1]; exact h
  rw [lg_ge (bd_r63 (by decide) vb) (bd_r63 (by decide) hlo)]
  exact ⟨fun q => J _ (by congr 1; omega), fun q => J _ (by congr 1; omega)⟩
theorem st_ap113 {n k : Nat} {l2 l4 : Int64} {a b : Int} (hk : k < 3) (hw : asI way w 3) (hp : ∀ j, bd 255 (pt j).toInt) (hwb : wb w)
    (h : L_X12_areApart_113 post pt co way n l2 l4 (Int64.ofInt (a + min (w k * (pt k).toInt) (w k * (pt (3 + k)).toInt))) (Int64.ofInt (b + max (w k * (pt k).toInt) (w k * (pt (3 + k)).toInt))) (nI (k + 1))) : L_X12_areApart_113 post pt co way (n + 1) l2 l4 (Int64.ofInt a) (Int64.ofInt b) (nI k) := by
  have e3 : (3 : Int32) + nI k = nI (3 + k) := nI_add 3 k
  have b0 : bd bM (w k * (pt k).toInt) := bd_le (by decide) (wp_bd hp hwb k k hk)
  have b1 : bd bM (w k * (pt (3 + k)).toInt) := bd_le (by decide) (wp_bd hp hwb k (3 + k) hk)
  have v : vp_in (nI k) 3 := vin k (by omega) (by omega) rfl
  refine ⟨fun q => ?_, fun _ => ⟨v, vin k (by omega) (by omega) rfl, fun x ex => ⟨v, vin (3 + k) (by omega) (by omega) e3, fun y ey => ?_⟩⟩⟩
  · rw [n_3, nI_leI (by omega) (by omega)] at q; omega
  rw [nI_clamp (by omega), hw k hk, o_i2l, o_mul] at ex
  rw [e3, nI_clamp (by omega), nI_clamp (by omega), hw k hk, o_i2l, o_mul] at ey
  subst ex; subst ey
  have J : ∀ s : Int64, s = Int64.ofInt (min (w k * (pt k).toInt) (w k * (pt (3 + k)).toInt)) → J_X12_areApart_174 (L_X12_areApart_113 post pt co way n) pt co way l2 l4 (Int64.ofInt b) (nI k) (Int64.ofInt (w k * (pt k).toInt)) (Int64.ofInt (w k * (pt (3 + k)).toInt)) (Int64.ofInt a) s := by
    intro s es x ex
    subst es
    rw [o_add] at ex
    rw [ex, lg_ge (bd_r63 (by decide) b0) (bd_r63 (by decide) b1)]
    refine ⟨fun q y ey z ez => ?_, fun q y ey z ez => ?_⟩
    · rw [show max (w k * (pt k).toInt) (w k * (pt (3 + k)).toInt) = w k * (pt k).toInt by omega] at h
      rw [ey, ez, nI_1, o_add]; exact h
    · rw [show max (w k * (pt k).toInt) (w k * (pt (3 + k)).toInt) = w k * (pt (3 + k)).toInt by omega] at h
      rw [ey, ez, nI_1, o_add]; exact h
  rw [lg_ge (bd_r63 (by decide) b0) (bd_r63 (by decide) b1)]
  exact ⟨fun q => J _ (by congr 1; omega), fun q => J _ (by congr 1; omega)⟩
theorem s_areApart (ht : t < 128) (hw : asI way w 3) (hb : ∀ j, bd 255 (co j).toInt) (hp : ∀ j, bd 255 (pt j).toInt) (hwb : wb w) (h1 : prt co pt t w → post 1) (h0 : ¬ prt co pt t w → post 0) : F_X12_areApart (nI t) pt co way post := by
  have c0 := vcd_bd (t := t) (c := 0) hb hwb
  have c1 := vcd_bd (t := t) (c := 1) hb hwb
  have c2 := vcd_bd (t := t) (c := 2) hb hwb
  have a0 := wp_bd hp hwb 0 0 (by omega)
  have a3 := wp_bd hp hwb 0 3 (by omega)
  have a1 := wp_bd hp hwb 1 1 (by omega)
  have a4 := wp_bd hp hwb 1 4 (by omega)
  have a2 := wp_bd hp hwb 2 2 (by omega)
  have a5 := wp_bd hp hwb 2 5 (by omega)
  unfold bd at c0 c1 c2 a0 a3 a1 a4 a2 a5
  have st : ∀ (n c : Nat) (lo mo : Int), c < 3 → bd bM lo → bd bM mo → L_X12_areApart_12 post pt co way n (nI t) (Int64.ofInt (min (vcd co t c w) lo)) (Int64.ofInt (max (vcd co t c w) mo)) (nI (c + 1)) → L_X12_areApart_12 post pt co way (n + 1) (nI t) (Int64.ofInt lo) (Int64.ofInt mo) (nI c) := fun n c lo mo hc hlo hmo h =>
    ⟨fun q => absurd q (by rw [n_3, nI_leI (by omega) (by omega)]; omega), fun _ => ⟨4, s_ap24 ht hc hw hb hwb hlo hmo h⟩⟩
  have rM : ∀ x : Int, -4000000000000000000 ≤ x → x ≤ 4000000000000000000 → bd bM x := fun x h1 h2 => ⟨by unfold bM; omega, by unfold bM; omega⟩
  unfold F_X12_areApart
  rw [show (-4000000000000000000 : Int64) = Int64.ofInt (-4000000000000000000) from rfl, show (4000000000000000000 : Int64) = Int64.ofInt 4000000000000000000 from rfl]
  refine ⟨4, st 3 0 4000000000000000000 (-4000000000000000000) (by omega) (rM _ (by omega) (by omega)) (rM _ (by omega) (by omega)) (st 2 1 _ _ (by omega) (rM _ (by omega) (by omega)) (rM _ (by omega) (by omega)) (st 1 2 _ _ (by omega) (rM _ (by omega) (by omega)) (rM _ (by omega) (by omega)) ⟨fun _ => ⟨4, ?_⟩, fun q => absurd (by decide) q⟩))⟩
  refine st_ap113 (a := 0) (b := 0) (k := 0) (by omega) hw hp hwb (st_ap113 (k := 1) (by omega) hw hp hwb (st_ap113 (k := 2) (by omega) hw hp hwb ⟨fun _ => ?_, fun q => absurd (by decide) q⟩))
  have el : 0 + min (w 0 * (pt 0).toInt) (w 0 * (pt (3 + 0)).toInt) + min (w 1 * (pt 1).toInt) (w 1 * (pt (3 + 1)).toInt) + min (w 2 * (pt 2).toInt) (w 2 * (pt (3 + 2)).toInt) = blo pt w := by unfold blo; rw [Int.zero_add]
  have eh : 0 + max (w 0 * (pt 0).toInt) (w 0 * (pt (3 + 0)).toInt) + max (w 1 * (pt 1).toInt) (w 1 * (pt (3 + 1)).toInt) + max (w 2 * (pt 2).toInt) (w 2 * (pt (3 + 2)).toInt) = bhi pt w := by unfold bhi; rw [Int.zero_add]
  rw [el, eh]
  have bl : -4000000000000000000 ≤ blo pt w ∧ blo pt w ≤ 4000000000000000000 := by unfold blo; omega
  have bh : -4000000000000000000 ≤ bhi pt w ∧ bhi pt w ≤ 4000000000000000000 := by unfold bhi; omega
  rw [lg_cmp_lt, o_lt (bd_r63 (by decide) (rM _ (by omega) (by omega))) (bd_r63 (by decide) (rM _ bl.1 bl.2)), lg_cmp_le, o_le (bd_r63 (by decide) (rM _ (by omega) (by omega))) (bd_r63 (by decide) (rM _ bh.1 bh.2))]
  unfold prt at h1 h0
  refine ⟨fun q => h1 (Or.inr ?_), fun q => ⟨fun q2 => h0 (fun z => ?_), fun q2 => h1 (Or.inl ?_)⟩⟩
  · omega
  · rcases z with z | z <;> omega
  · omega
end
