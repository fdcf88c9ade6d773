/-! PURE PART: how a light reaches a hit: class and reference answer alike -/
theorem mul_pos_i {g x : Int} (hg : 0 < g) : 0 < g * x ↔ 0 < x := by
  constructor
  · intro h
    rcases Int.lt_trichotomy 0 x with c | c | c
    · exact c
    · rw [← c, Int.mul_zero] at h; omega
    · have := Int.mul_neg_of_pos_of_neg hg c; omega
  · exact Int.mul_pos hg
theorem mul_nn_i {g x : Int} (hg : 0 < g) : 0 ≤ g * x ↔ 0 ≤ x := by
  constructor
  · intro h
    by_cases c : 0 ≤ x
    · exact c
    · have := Int.mul_neg_of_pos_of_neg hg (show x < 0 by omega); omega
  · exact Int.mul_nonneg (by omega)
section
variable {co no : Nat → Int32} {t : Nat} {F D E : Nat → Int} {g : Int}
theorem be_sc (h : ∀ k, k < 3 → E k = g * D k) : be no t E = g * be no t D := by
  unfold be dotN; rw [h 0 (by omega), h 1 (by omega), h 2 (by omega)]; grind
theorem wt_sc (h : ∀ k, k < 3 → E k = g * D k) (c : Nat) : wt co t F E c = g * wt co t F D c := by
  unfold wt tr3; rw [h 0 (by omega), h 1 (by omega), h 2 (by omega)]
  generalize sv co t F (3 * ((c + 1) % 3) + 1) = a1
  generalize sv co t F (3 * ((c + 1) % 3) + 2) = a2
  generalize sv co t F (3 * ((c + 1) % 3)) = a0
  generalize sv co t F (3 * ((c + 2) % 3) + 1) = b1
  generalize sv co t F (3 * ((c + 2) % 3) + 2) = b2
  generalize sv co t F (3 * ((c + 2) % 3)) = b0
  grind
theorem neg_sc {b : Int} (hg : 0 < g) : g * b < 0 ↔ b < 0 := by
  have := mul_nn_i (x := b) hg; omega
theorem sb_sc {b x : Int} (hg : 0 < g) : sb (g * b) x = sb b x := by
  unfold sb
  by_cases c : b < 0
  · rw [if_pos c, if_pos ((neg_sc hg).mpr c)]
  · rw [if_neg c, if_neg (fun z => c ((neg_sc hg).mp z))]
theorem sb_out (b x : Int) : sb b (g * x) = g * sb b x := by unfold sb; split <;> grind
theorem hitp_sc (hg : 0 < g) (h : ∀ k, k < 3 → E k = g * D k) : hitp co no t F E ↔ hitp co no t F D := by
  unfold hitp
  rw [be_sc h, wt_sc h, wt_sc h, wt_sc h]
  simp only [sb_sc hg, sb_out, mul_pos_i hg, mul_nn_i hg]
theorem fa_sc (hg : 0 < g) (h : ∀ k, k < 3 → E k = g * D k) : fa co no F E t = fa co no F D t := by unfold fa; rw [be_sc h, sb_sc hg]
theorem ov_sc (hg : 0 < g) (h : ∀ k, k < 3 → E k = g * D k) : ov no E t = g * ov no D t := by unfold ov; rw [be_sc h, sb_sc hg, sb_out]
theorem mul_lt_i {x y : Int} (hg : 0 < g) : g * x < g * y ↔ x < y := by
  have e : g * (y - x) = g * y - g * x := by grind
  have := mul_pos_i (x := y - x) hg
  rw [e] at this
  omega
theorem btw_sc {f : Nat} {o : Int} (hg : 0 < g) (h : ∀ k, k < 3 → E k = g * D k) : btw co no F E f (g * o) t ↔ btw co no F D f o t := by
  unfold btw
  rw [hitp_sc hg h, fa_sc hg h, ov_sc hg h, show fa co no F D t * (g * o) = g * (fa co no F D t * o) by grind, mul_lt_i hg]
end
theorem sqs_sc {D E : Nat → Int} {g : Nat} (h : ∀ k, k < 3 → E k = (g : Int) * D k) : ∀ i, i ≤ 3 → sqs E i = g * g * sqs D i
  | 0, _ => by show 0 = _ * 0; omega
  | i + 1, hi => by
    show sqs E i + (E i).natAbs * (E i).natAbs = g * g * (sqs D i + (D i).natAbs * (D i).natAbs)
    rw [sqs_sc h i (by omega), h i (by omega), Int.natAbs_mul, Int.natAbs_natCast]
    grind
theorem lev_sc {g A U : Nat} (hg : 0 < g) : ∀ k, lev (g * A) (g * U) k = lev A U k
  | 0 => rfl
  | k + 1 => by
    unfold lev
    rw [lev_sc hg k]
    have e : g * U * ((k + 1) * (k + 1)) ≤ g * A ↔ U * ((k + 1) * (k + 1)) ≤ A := by
      rw [Nat.mul_assoc]; exact Nat.mul_le_mul_left_iff hg
    by_cases c : U * ((k + 1) * (k + 1)) ≤ A
    · rw [if_pos c, if_pos (e.mpr c)]
    · rw [if_neg c, if_neg (fun z => c (e.mp z))]
section
variable {nt f i : Nat} {co no eye lt : Nat → Int32} {D : Nat → Int}
theorem on_plane {F : Nat → Int} : be no f (pl co no F D f) = ov no D f * dotN no f (co (9 * f)).toInt (co (9 * f + 1)).toInt (co (9 * f + 2)).toInt := by
  have p0 : pl co no F D f 0 = F 0 * ov no D f + D 0 * fa co no F D f := rfl
  have p1 : pl co no F D f 1 = F 1 * ov no D f + D 1 * fa co no F D f := rfl
  have p2 : pl co no F D f 2 = F 2 * ov no D f + D 2 * fa co no F D f := rfl
  unfold be
  rw [p0, p1, p2]
  have e : ov no D f * ab co no f F = be no f D * fa co no F D f := by
    unfold ov fa; rw [sb_mul _ (be no f D), sb_mul _ (ab co no f F)]; grind
  unfold ab sid at e
  unfold be at e
  unfold dotN at e ⊢
  grind
theorem lamp_rise {F : Nat → Int} : be no f (ltD lt i (pl co no F D f) (pl co no F D f 3)) = -(ov no D f * sid co no f (lt (3 * i)).toInt (lt (3 * i + 1)).toInt (lt (3 * i + 2)).toInt) := by
  have e := on_plane (co := co) (no := no) (f := f) (D := D) (F := F)
  have e3 : pl co no F D f 3 = ov no D f := rfl
  unfold ltD
  rw [e3]
  unfold be at e ⊢
  unfold sid
  unfold dotN at e ⊢
  show (pl co no F D f 0 - (lt (3 * i)).toInt * ov no D f) * _ + _ + _ = _
  grind
/-- all that is known of a hit of the camera -/
def HC (nt : Nat) (co no eye : Nat → Int32) (D : Nat → Int) (f : Nat) : Prop := SC nt co no (fun j => (eye j).toInt) D ∧ f < nt ∧ hitp co no f (fun j => (eye j).toInt) D ∧ (∀ j, bd 255 (eye j).toInt) ∧ (∀ k, k < 3 → bd 1023 (D k))
theorem HC_p (H : HC nt co no eye D f) : ∀ k, bd 613200000000 (pl co no (fun j => (eye j).toInt) D f k) := pl_bd (H.1.2.2 f H.2.1).2 (fun k _ => H.2.2.2.1 k) H.2.2.2.2
theorem HC_g (H : HC nt co no eye D f) : 0 < gN (pl co no (fun j => (eye j).toInt) D f) 4 := by
  have : gN (pl co no (fun j => (eye j).toInt) D f) 4 ≠ 0 := gN_ne (R := pl co no (fun j => (eye j).toInt) D f) (n := 3) (ov_pos H.2.2.1)
  omega
theorem HC_sc (k : Nat) (hk : k < 3) : ltD lt i (pl co no (fun j => (eye j).toInt) D f) (pl co no (fun j => (eye j).toInt) D f 3) k = (gN (pl co no (fun j => (eye j).toInt) D f) 4 : Int) * ltD lt i (red (pl co no (fun j => (eye j).toInt) D f) 4) (red (pl co no (fun j => (eye j).toInt) D f) 4 3) k := by
  have e := red_mul (R := pl co no (fun j => (eye j).toInt) D f) (N := 4) (j := k) (by omega)
  have e3 := red_mul (R := pl co no (fun j => (eye j).toInt) D f) (N := 4) (j := 3) (by omega)
  unfold ltD
  rw [← e, ← e3]
  generalize red (pl co no (fun j => (eye j).toInt) D f) 4 k = a
  generalize red (pl co no (fun j => (eye j).toInt) D f) 4 3 = b
  have e' : (gN (pl co no (fun j => (eye j).toInt) D f) 4 : Int) * a = (gN (pl co no (fun j => (eye j).toInt) D f) 4 : Int) * a := rfl
  grind
theorem HC_D (H : HC nt co no eye D f) (hl : ∀ j, bd 255 (lt j).toInt) (k : Nat) : bd 818000000000 (ltD lt i (pl co no (fun j => (eye j).toInt) D f) (pl co no (fun j => (eye j).toInt) D f 3) k) :=
  bd_le (by decide) (bd_sub (HC_p H k) (bd_mul (hl (3 * i + k)) (bd_le (show (800000000 : Int) ≤ 803000000 by decide) (sb_bd (b := be no f D) (H.1.2.2 f H.2.1).2.1))))
theorem bd_div {B g x : Int} (hg : 0 < g) (h : bd B (g * x)) : bd B x := by
  obtain ⟨h1, h2⟩ := h
  have k1 := mul_nn_i (x := x) hg
  have e1 : g * x - x = (g - 1) * x := by grind
  rcases Int.le_total 0 x with c | c
  · have := Int.mul_nonneg (show 0 ≤ g - 1 by omega) c
    constructor <;> omega
  · have := Int.mul_nonneg (show 0 ≤ g - 1 by omega) (show 0 ≤ -x by omega)
    have e2 : (g - 1) * -x = -((g - 1) * x) := by grind
    constructor <;> omega
theorem HC_E (H : HC nt co no eye D f) (hl : ∀ j, bd 255 (lt j).toInt) (k : Nat) (hk : k < 3) : bd 818000000000 (ltD lt i (red (pl co no (fun j => (eye j).toInt) D f) 4) (red (pl co no (fun j => (eye j).toInt) D f) 4 3) k) := by
  have h := HC_D (i := i) H hl k
  rw [HC_sc k hk] at h
  exact bd_div (by have := HC_g H; omega) h
theorem wide_SS {E : Nat → Int} (S : SC nt co no (fun j => (eye j).toInt) D) (hl : ∀ j, bd 255 (lt j).toInt) (hE : ∀ k, k < 3 → bd 818000000000 (E k)) : SS nt co no (ltF lt i) E :=
  ⟨S.1, S.2.1, fun t ht => ⟨(S.2.2 t ht).1, bd_le (by decide) (be_bd (NC_bd (S.2.2 t ht).1 S.2.1) hE), bd_le (by decide) (ab_bd S.2.1 (NC_bd (S.2.2 t ht).1 S.2.1) (fun k _ => hl _)), fun c hc => bd_le (by decide) (wt_bd S.2.1 (fun k _ => hl _) hE c hc)⟩⟩
theorem fa_r63 {E : Nat → Int} {o : Int} (S : SC nt co no (fun j => (eye j).toInt) D) (hl : ∀ j, bd 255 (lt j).toInt) (ho : bd 613200000000 o) (ho2 : bd 800000000 o) (t : Nat) (ht : t < nt) : r63 (fa co no (ltF lt i) E t * o) :=
  bd_r63 (by decide) (bd_mul (sb_bd (b := be no t E) (ab_bd S.2.1 (NC_bd (S.2.2 t ht).1 S.2.1) (fun k _ => hl _))) ho2)
theorem HC_o (H : HC nt co no eye D f) : bd 800000000 (pl co no (fun j => (eye j).toInt) D f 3) := sb_bd (b := be no f D) (H.1.2.2 f H.2.1).2.1
theorem HC_o2 (H : HC nt co no eye D f) : bd 800000000 (red (pl co no (fun j => (eye j).toInt) D f) 4 3) := by
  have h := HC_o H
  rw [← red_mul (R := pl co no (fun j => (eye j).toInt) D f) (N := 4) (j := 3) (by omega)] at h
  exact bd_div (by have := HC_g H; omega) h
/-- what stands between, on both sides -/
theorem HC_blk (H : HC nt co no eye D f) : blk (btw co no (ltF lt i) (ltD lt i (pl co no (fun j => (eye j).toInt) D f) (pl co no (fun j => (eye j).toInt) D f 3)) f (pl co no (fun j => (eye j).toInt) D f 3)) nt 0 = blk (btw co no (ltF lt i) (ltD lt i (red (pl co no (fun j => (eye j).toInt) D f) 4) (red (pl co no (fun j => (eye j).toInt) D f) 4 3)) f (red (pl co no (fun j => (eye j).toInt) D f) 4 3)) nt 0 := by
  refine blk_congr nt 0 (fun j _ _ => ?_)
  have e3 := red_mul (R := pl co no (fun j => (eye j).toInt) D f) (N := 4) (j := 3) (by omega)
  have hs := btw_sc (co := co) (no := no) (t := j) (F := ltF lt i) (f := f) (o := red (pl co no (fun j => (eye j).toInt) D f) 4 3) (g := (gN (pl co no (fun j => (eye j).toInt) D f) 4 : Int)) (by have := HC_g H; omega) (fun k hk => HC_sc (lt := lt) (i := i) (co := co) (no := no) (eye := eye) (D := D) (f := f) k hk)
  rw [e3] at hs
  exact hs
/-- the level, on both sides -/
theorem HC_lev (H : HC nt co no eye D f) (N : Nat) : lev (15 * ((sid co no f (lt (3 * i)).toInt (lt (3 * i + 1)).toInt (lt (3 * i + 2)).toInt).natAbs * (ov no D f).natAbs) * (15 * ((sid co no f (lt (3 * i)).toInt (lt (3 * i + 1)).toInt (lt (3 * i + 2)).toInt).natAbs * (ov no D f).natAbs))) (sqs (ltD lt i (pl co no (fun j => (eye j).toInt) D f) (pl co no (fun j => (eye j).toInt) D f 3)) 3 * N) 15
    = lev ((be no f (ltD lt i (red (pl co no (fun j => (eye j).toInt) D f) 4) (red (pl co no (fun j => (eye j).toInt) D f) 4 3))).natAbs * (be no f (ltD lt i (red (pl co no (fun j => (eye j).toInt) D f) 4) (red (pl co no (fun j => (eye j).toInt) D f) 4 3))).natAbs * 225) (sqs (ltD lt i (red (pl co no (fun j => (eye j).toInt) D f) 4) (red (pl co no (fun j => (eye j).toInt) D f) 4 3)) 3 * N) 15 := by
  have r := lamp_rise (lt := lt) (i := i) (co := co) (no := no) (f := f) (D := D) (F := fun j => (eye j).toInt)
  rw [be_sc (fun k hk => HC_sc k hk)] at r
  have hr := congrArg Int.natAbs r
  rw [Int.natAbs_mul, Int.natAbs_neg, Int.natAbs_mul, Int.natAbs_natCast] at hr
  rw [sqs_sc (fun k hk => HC_sc k hk) 3 (by omega)]
  rw [Nat.mul_comm (sid co no f (lt (3 * i)).toInt (lt (3 * i + 1)).toInt (lt (3 * i + 2)).toInt).natAbs, ← hr]
  have hg := HC_g H
  generalize gN (pl co no (fun j => (eye j).toInt) D f) 4 = g at *
  generalize (be no f (ltD lt i (red (pl co no (fun j => (eye j).toInt) D f) 4) (red (pl co no (fun j => (eye j).toInt) D f) 4 3))).natAbs = V
  generalize sqs (ltD lt i (red (pl co no (fun j => (eye j).toInt) D f) 4) (red (pl co no (fun j => (eye j).toInt) D f) 4 3)) 3 = W
  rw [show 15 * (g * V) * (15 * (g * V)) = g * g * (V * V * 225) by grind, Nat.mul_assoc (g * g) W N]
  exact lev_sc (Nat.mul_pos hg hg) 15
end
