/-! PURE PART: rays -/
theorem uL_s (f : Nat → Int64) (k : Nat) (x : Int64) : vp_updL f k x k = x := by unfold vp_updL; simp
theorem uL_n {f : Nat → Int64} {k j : Nat} {x : Int64} (h : j ≠ k) : vp_updL f k x j = f j := by unfold vp_updL; simp [h]
/-- a row of longs holds these numbers -/
def asI (f : Nat → Int64) (F : Nat → Int) (n : Nat) : Prop := ∀ j, j < n → f j = Int64.ofInt (F j)
theorem asI_0 (f : Nat → Int64) (F : Nat → Int) : asI f F 0 := fun _ h => absurd h (by omega)
theorem asI_s {f : Nat → Int64} {F : Nat → Int} {k : Nat} (h : asI f F k) : asI (vp_updL f k (Int64.ofInt (F k))) F (k + 1) := fun j hj => by
  by_cases e : j = k
  · subst e; rw [uL_s]
  · rw [uL_n e]; exact h j (by omega)
def camD (ax : Nat → Int32) (w h x y : Int) (k : Nat) : Int := (ax k).toInt + (2 * x - w + 1) * (ax (3 + k)).toInt + (h - 1 - 2 * y) * (ax (6 + k)).toInt
theorem bd_nat (a : Int) : bd (a.natAbs : Int) a := ⟨by omega, by omega⟩
theorem camD_bd {ax : Nat → Int32} {w h x y : Int} {k : Nat} (hf : Fit ax w h) (hk : k < 3) (hx : 0 ≤ x ∧ x < w) (hy : 0 ≤ y ∧ y < h) : bd 1023 (camD ax w h x y k) := by
  have f := hf k hk
  unfold fitK at f
  have b1 : bd ((w - 1) * ((ax (3 + k)).toInt.natAbs : Int)) ((2 * x - w + 1) * (ax (3 + k)).toInt) := bd_mul ⟨by omega, by omega⟩ (bd_nat _)
  have b2 : bd ((h - 1) * ((ax (6 + k)).toInt.natAbs : Int)) ((h - 1 - 2 * y) * (ax (6 + k)).toInt) := bd_mul ⟨by omega, by omega⟩ (bd_nat _)
  obtain ⟨b11, b12⟩ := b1
  obtain ⟨b21, b22⟩ := b2
  unfold camD
  constructor <;> omega
theorem st_aim {post : (Nat → Int64) → (Nat → Int64) → Prop} {w h : Int32} {eye ax : Nat → Int32} {fr al : Nat → Int64} {n k : Nat} {r u : Int} (hk : k < 3)
    (hh : L_X1_aim_29 post w h eye ax n (Int64.ofInt r) (Int64.ofInt u) (nI (k + 1)) (vp_updL fr k (Int64.ofInt (eye k).toInt)) (vp_updL al k (Int64.ofInt ((ax k).toInt + r * (ax (3 + k)).toInt + u * (ax (6 + k)).toInt)))) :
    L_X1_aim_29 post w h eye ax (n + 1) (Int64.ofInt r) (Int64.ofInt u) (nI k) fr al := by
  have e3 : (3 : Int32) + nI k = nI (3 + k) := nI_add 3 k
  have e6 : (6 : Int32) + nI k = nI (6 + k) := nI_add 6 k
  refine ⟨fun q => ?_, fun _ => ⟨vin k (by omega) (by omega) rfl, vin k (by omega) (by omega) rfl, fun g eg => ⟨vin k (by omega) (by omega) rfl, vin (3 + k) (by omega) (by omega) e3, vin (6 + k) (by omega) (by omega) e6, vin k (by omega) (by omega) rfl, fun g2 eg2 x ex => ?_⟩⟩⟩
  · rw [n_3, nI_leI (by omega) (by omega)] at q; omega
  · rw [nI_clamp (by omega)] at eg
    rw [e3, e6, nI_clamp (by omega), nI_clamp (by omega), nI_clamp (by omega), o_i2l, o_i2l, o_i2l, o_mul, o_mul, o_add, o_add] at eg2
    rw [eg, eg2, ex, nI_1]; exact hh
theorem q_right (x w : Int) : 2 * Int32.ofInt x - Int32.ofInt w + 1 = Int32.ofInt (2 * x - w + 1) := by
  rw [show (2 : Int32) = Int32.ofInt 2 from rfl, show (1 : Int32) = Int32.ofInt 1 from rfl, q_mul, q_sub, q_add]
theorem q_up (h y : Int) : Int32.ofInt h - 1 - 2 * Int32.ofInt y = Int32.ofInt (h - 1 - 2 * y) := by
  rw [show (2 : Int32) = Int32.ofInt 2 from rfl, show (1 : Int32) = Int32.ofInt 1 from rfl, q_mul, q_sub, q_sub]
/-- a pixel of the picture -/
def pix (x y w h : Int32) : Prop := 0 ≤ x.toInt ∧ x.toInt < w.toInt ∧ 0 ≤ y.toInt ∧ y.toInt < h.toInt
theorem s_aim {x y w h : Int32} {eye ax : Nat → Int32} {fr al : Nat → Int64} {post : (Nat → Int64) → (Nat → Int64) → Prop} (hp : pix x y w h) (hw : w.toInt ≤ 32) (hh : h.toInt ≤ 32)
    (k : ∀ fr' al', asI fr' (fun j => (eye j).toInt) 3 → asI al' (camD ax w.toInt h.toInt x.toInt y.toInt) 3 → post fr' al') : F_X1_aim x y w h eye ax fr al post := by
  intro x1 e1 x2 e2
  obtain ⟨p1, p2, p3, p4⟩ := hp
  have q1 := q_right x.toInt w.toInt
  have q2 := q_up h.toInt y.toInt
  rw [Int32.ofInt_toInt, Int32.ofInt_toInt] at q1 q2
  rw [q1, q_l ⟨by omega, by omega⟩] at e1
  rw [q2, q_l ⟨by omega, by omega⟩] at e2
  rw [e1, e2]
  exact ⟨4, st_aim (k := 0) (by omega) (st_aim (k := 1) (by omega) (st_aim (k := 2) (by omega) ⟨fun _ => k _ _ (asI_s (F := fun j => (eye j).toInt) (asI_s (F := fun j => (eye j).toInt) (asI_s (F := fun j => (eye j).toInt) (asI_0 _ _)))) (asI_s (F := camD ax w.toInt h.toInt x.toInt y.toInt) (asI_s (F := camD ax w.toInt h.toInt x.toInt y.toInt) (asI_s (F := camD ax w.toInt h.toInt x.toInt y.toInt) (asI_0 _ _)))), fun q => absurd (by decide) q⟩))⟩
theorem st_rayOf {post : (Nat → Int64) → Prop} {w h x y : Int32} {ax : Nat → Int32} {ma d : Nat → Int64} {n k : Nat} (A : AX ax ma) (hk : k < 3)
    (hh : L_X12_rayOf_2 post w h ma n x y (nI (k + 1)) (vp_updL d k (Int64.ofInt (camD ax w.toInt h.toInt x.toInt y.toInt k)))) : L_X12_rayOf_2 post w h ma (n + 1) x y (nI k) d := by
  have e3 : (3 : Int32) + nI k = nI (3 + k) := nI_add 3 k
  have e6 : (6 : Int32) + nI k = nI (6 + k) := nI_add 6 k
  refine ⟨fun q => ?_, fun _ => ⟨vin k (by omega) (by omega) rfl, vin (3 + k) (by omega) (by omega) e3, vin (6 + k) (by omega) (by omega) e6, vin k (by omega) (by omega) rfl, fun g2 eg2 x ex => ?_⟩⟩
  · rw [n_3, nI_leI (by omega) (by omega)] at q; omega
  · rw [e3, e6, nI_clamp (by omega), nI_clamp (by omega), nI_clamp (by omega), A, A, A, o_i2l, o_i2l, o_i2l, o_i2l, o_i2l, o_i2l, o_i2l, show (2 : Int64) = Int64.ofInt 2 from rfl, o_1, o_mul, o_mul, o_sub, o_sub, o_sub, o_add, o_mul, o_mul, o_add, o_add] at eg2
    rw [eg2, ex, nI_1]; exact hh
theorem s_rayOf {post : (Nat → Int64) → Prop} {w h x y : Int32} {ax : Nat → Int32} {ma d : Nat → Int64} (A : AX ax ma) (k : ∀ d', asI d' (camD ax w.toInt h.toInt x.toInt y.toInt) 3 → post d') : F_X12_rayOf x y w h ma d post :=
  ⟨4, st_rayOf (k := 0) A (by omega) (st_rayOf (k := 1) A (by omega) (st_rayOf (k := 2) A (by omega) ⟨fun _ => k _ (asI_s (F := camD ax w.toInt h.toInt x.toInt y.toInt) (asI_s (F := camD ax w.toInt h.toInt x.toInt y.toInt) (asI_s (F := camD ax w.toInt h.toInt x.toInt y.toInt) (asI_0 _ _)))), fun q => absurd (by decide) q⟩))⟩
theorem s_hasPixel {x y w h : Int32} {post : Int32 → Prop} (h1 : pix x y w h → post 1) (h0 : ¬ pix x y w h → post 0) : F_X1_hasPixel x y w h post := by
  have e0 : (0 : Int32).toInt = 0 := rfl
  unfold pix at h1 h0
  refine ⟨fun q => h0 (fun z => ?_), fun q => ⟨fun q2 => h0 (fun z => ?_), fun q2 => ⟨fun q3 => h0 (fun z => ?_), fun q3 => ⟨fun q4 => h0 (fun z => ?_), fun q4 => h1 ?_⟩⟩⟩⟩
  all_goals simp only [i32_lt, i32_le, e0] at *
  all_goals omega
theorem q_m1 {w : Int32} (h : 1 ≤ w.toInt) : ((w - 1).toInt64).toInt = w.toInt - 1 := by
  have e : w - 1 = Int32.ofInt (w.toInt - 1) := by
    have := q_sub w.toInt 1
    rw [Int32.ofInt_toInt] at this; exact this
  have l := w.toInt_lt
  rw [e, q_l ⟨by omega, by omega⟩, o_toInt ⟨by omega, by omega⟩]
theorem s_isPixel {x y w h : Int32} {post : Int32 → Prop} (hw : 1 ≤ w.toInt) (hh : 1 ≤ h.toInt) (h1 : pix x y w h → post 1) (h0 : ¬ pix x y w h → post 0) : F_X12_isPixel x y w h post := by
  refine s_in32 (a := 0) (b := w.toInt - 1) rfl (q_m1 hw) (fun z => ⟨fun q => absurd q (by decide), fun _ => s_in32 (a := 0) (b := h.toInt - 1) rfl (q_m1 hh) (fun z2 => ⟨fun q => absurd q (by decide), fun _ => h1 ⟨by omega, by omega, by omega, by omega⟩⟩) (fun z2 => ⟨fun _ => h0 (fun c => z2 ?_), fun q => absurd rfl q⟩)⟩) (fun z => ⟨fun _ => h0 (fun c => z ?_), fun q => absurd rfl q⟩)
  · have := c.2.2; omega
  · have := c.1; have := c.2.1; omega
-- a ray and a triangle
def be (no : Nat → Int32) (t : Nat) (D : Nat → Int) : Int := dotN no t (D 0) (D 1) (D 2)
def ab (co no : Nat → Int32) (t : Nat) (F : Nat → Int) : Int := -sid co no t (F 0) (F 1) (F 2)
def sv (co : Nat → Int32) (t : Nat) (F : Nat → Int) (j : Nat) : Int := (co (9 * t + j)).toInt - F (j % 3)
def tr3 (D s : Nat → Int) (a b : Nat) : Int := D 0 * (s (a + 1) * s (b + 2) - s (a + 2) * s (b + 1)) + D 1 * (s (a + 2) * s b - s a * s (b + 2)) + D 2 * (s a * s (b + 1) - s (a + 1) * s b)
def wt (co : Nat → Int32) (t : Nat) (F D : Nat → Int) (c : Nat) : Int := tr3 D (sv co t F) (3 * ((c + 1) % 3)) (3 * ((c + 2) % 3))
def sb (b x : Int) : Int := if b < 0 then -x else x
theorem sb_mul (b x : Int) : sb b x = sb b 1 * x := by unfold sb; split <;> grind
theorem sb_one (b : Int) : sb b 1 = 1 ∨ sb b 1 = -1 := by unfold sb; split <;> omega
theorem sb_bd {B b x : Int} (h : bd B x) : bd B (sb b x) := by unfold sb; split; exact bd_neg h; exact h
abbrev bM : Int := 9000000000000000000
def RB (co no : Nat → Int32) (t : Nat) (F D : Nat → Int) : Prop := bd bM (be no t D) ∧ bd bM (ab co no t F) ∧ ∀ c, c < 3 → bd bM (wt co t F D c)
def hitp (co no : Nat → Int32) (t : Nat) (F D : Nat → Int) : Prop := 0 < sb (be no t D) (be no t D) ∧ 0 < sb (be no t D) (ab co no t F) ∧ 0 ≤ sb (be no t D) (wt co t F D 0) ∧ 0 ≤ sb (be no t D) (wt co t F D 1) ∧ 0 ≤ sb (be no t D) (wt co t F D 2)
theorem wt_0 (co : Nat → Int32) (t : Nat) (F D : Nat → Int) : wt co t F D 0 = D 0 * (((co (9 * t + 4)).toInt - F 1) * ((co (9 * t + 8)).toInt - F 2) - ((co (9 * t + 5)).toInt - F 2) * ((co (9 * t + 7)).toInt - F 1)) + D 1 * (((co (9 * t + 5)).toInt - F 2) * ((co (9 * t + 6)).toInt - F 0) - ((co (9 * t + 3)).toInt - F 0) * ((co (9 * t + 8)).toInt - F 2)) + D 2 * (((co (9 * t + 3)).toInt - F 0) * ((co (9 * t + 7)).toInt - F 1) - ((co (9 * t + 4)).toInt - F 1) * ((co (9 * t + 6)).toInt - F 0)) := rfl
theorem wt_1 (co : Nat → Int32) (t : Nat) (F D : Nat → Int) : wt co t F D 1 = D 0 * (((co (9 * t + 7)).toInt - F 1) * ((co (9 * t + 2)).toInt - F 2) - ((co (9 * t + 8)).toInt - F 2) * ((co (9 * t + 1)).toInt - F 1)) + D 1 * (((co (9 * t + 8)).toInt - F 2) * ((co (9 * t)).toInt - F 0) - ((co (9 * t + 6)).toInt - F 0) * ((co (9 * t + 2)).toInt - F 2)) + D 2 * (((co (9 * t + 6)).toInt - F 0) * ((co (9 * t + 1)).toInt - F 1) - ((co (9 * t + 7)).toInt - F 1) * ((co (9 * t)).toInt - F 0)) := rfl
theorem wt_2 (co : Nat → Int32) (t : Nat) (F D : Nat → Int) : wt co t F D 2 = D 0 * (((co (9 * t + 1)).toInt - F 1) * ((co (9 * t + 5)).toInt - F 2) - ((co (9 * t + 2)).toInt - F 2) * ((co (9 * t + 4)).toInt - F 1)) + D 1 * (((co (9 * t + 2)).toInt - F 2) * ((co (9 * t + 3)).toInt - F 0) - ((co (9 * t)).toInt - F 0) * ((co (9 * t + 5)).toInt - F 2)) + D 2 * (((co (9 * t)).toInt - F 0) * ((co (9 * t + 4)).toInt - F 1) - ((co (9 * t + 1)).toInt - F 1) * ((co (9 * t + 3)).toInt - F 0)) := rfl
/-- the normal is the cross product -/
def NC (co no : Nat → Int32) (t : Nat) : Prop := ∀ k, k < 3 → (no (3 * t + k)).toInt = crs co (9 * t) k
theorem wsum {co no : Nat → Int32} {t : Nat} {F D : Nat → Int} (h : NC co no t) : be no t D = wt co t F D 0 + wt co t F D 1 + wt co t F D 2 := by
  have h0 : (no (3 * t)).toInt = crs co (9 * t) 0 := h 0 (by omega)
  rw [wt_0, wt_1, wt_2]
  unfold be dotN
  rw [h0, h 1 (by omega), h 2 (by omega)]
  show D 0 * (((co (9 * t + 4)).toInt - (co (9 * t + 1)).toInt) * ((co (9 * t + 8)).toInt - (co (9 * t + 2)).toInt) - ((co (9 * t + 5)).toInt - (co (9 * t + 2)).toInt) * ((co (9 * t + 7)).toInt - (co (9 * t + 1)).toInt)) + D 1 * (((co (9 * t + 5)).toInt - (co (9 * t + 2)).toInt) * ((co (9 * t + 6)).toInt - (co (9 * t)).toInt) - ((co (9 * t + 3)).toInt - (co (9 * t)).toInt) * ((co (9 * t + 8)).toInt - (co (9 * t + 2)).toInt)) + D 2 * (((co (9 * t + 3)).toInt - (co (9 * t)).toInt) * ((co (9 * t + 7)).toInt - (co (9 * t + 1)).toInt) - ((co (9 * t + 4)).toInt - (co (9 * t + 1)).toInt) * ((co (9 * t + 6)).toInt - (co (9 * t)).toInt)) = _
  generalize (co (9 * t)).toInt = c0
  generalize (co (9 * t + 1)).toInt = c1
  generalize (co (9 * t + 2)).toInt = c2
  generalize (co (9 * t + 3)).toInt = c3
  generalize (co (9 * t + 4)).toInt = c4
  generalize (co (9 * t + 5)).toInt = c5
  generalize (co (9 * t + 6)).toInt = c6
  generalize (co (9 * t + 7)).toInt = c7
  generalize (co (9 * t + 8)).toInt = c8
  generalize D 0 = d0
  generalize D 1 = d1
  generalize D 2 = d2
  generalize F 0 = f0
  generalize F 1 = f1
  generalize F 2 = f2
  grind
theorem lg_le0 {a : Int} (h : bd bM a) : lg_cmp (Int64.ofInt a) 0 ≤ 0 ↔ a ≤ 0 := by rw [lg_cmp_le, o_0, o_le (bd_r63 (by decide) h) ⟨by omega, by omega⟩]
theorem lg_ge0 {a : Int} (h : bd bM a) : 0 ≤ lg_cmp (Int64.ofInt a) 0 ↔ 0 ≤ a := by rw [lg_cmp_ge, o_0, o_le ⟨by omega, by omega⟩ (bd_r63 (by decide) h)]
theorem lg_lt0 {a : Int} (h : bd bM a) : lg_cmp (Int64.ofInt a) 0 < 0 ↔ a < 0 := by rw [lg_cmp_lt, o_0, o_lt (bd_r63 (by decide) h) ⟨by omega, by omega⟩]
theorem lg_eq0 {a : Int} (h : bd bM a) : lg_cmp (Int64.ofInt a) 0 = 0 ↔ a = 0 := o_zero (bd_r63 (by decide) h)
theorem s_comes {co no : Nat → Int32} {t : Nat} {F D : Nat → Int} {fr al : Nat → Int64} {tu fa ov : Int64} {post : Int32 → Int64 → Int64 → Int64 → Prop} (ht : t < 128) (hF : asI fr F 3) (hD : asI al D 3) (B : RB co no t F D)
    (h1 : 0 < sb (be no t D) (be no t D) → 0 < sb (be no t D) (ab co no t F) → post 1 (Int64.ofInt (sb (be no t D) 1)) (Int64.ofInt (sb (be no t D) (ab co no t F))) (Int64.ofInt (sb (be no t D) (be no t D))))
    (h0 : ¬ (0 < sb (be no t D) (be no t D) ∧ 0 < sb (be no t D) (ab co no t F)) → ∀ a b c, post 0 a b c) : F_X7_comesToPlane (nI t) tu fa ov fr al co no post := by
  refine ⟨vin 0 (by omega) (by omega) rfl, vin 1 (by omega) (by omega) rfl, vin 2 (by omega) (by omega) rfl, ?_⟩
  rw [cl_0, cl_1, cl_2, hD 0 (by omega), hD 1 (by omega), hD 2 (by omega)]
  obtain ⟨B1, B2, -⟩ := B
  refine s_alongNormal ht ?_
  show (0 ≤ lg_cmp (Int64.ofInt (be no t D)) 0 → _) ∧ (¬ 0 ≤ lg_cmp (Int64.ofInt (be no t D)) 0 → _)
  have J : ∀ T : Int, sb (be no t D) 1 = T → J_X7_comesToPlane_38 post fr al co no (nI t) (Int64.ofInt (be no t D)) (Int64.ofInt T) tu fa ov := by
    intro T hT x ex
    refine ⟨vin 0 (by omega) (by omega) rfl, vin 1 (by omega) (by omega) rfl, vin 2 (by omega) (by omega) rfl, ?_⟩
    rw [cl_0, cl_1, cl_2, hF 0 (by omega), hF 1 (by omega), hF 2 (by omega)]
    refine s_side ht (fun y ey => ?_)
    have e1 : x = Int64.ofInt (sb (be no t D) (be no t D)) := by rw [ex, o_mul, sb_mul, hT]
    have e2 : y = Int64.ofInt (sb (be no t D) (ab co no t F)) := by
      rw [ey, o_neg, o_mul, sb_mul, hT]; congr 1; unfold ab; grind
    rw [e1, e2, lg_le0 (sb_bd B1), lg_le0 (sb_bd B2), ← hT]
    refine ⟨fun q => h0 (fun z => ?_) _ _ _, fun q => ⟨fun q2 => h0 (fun z => ?_) _ _ _, fun q2 => h1 (by omega) (by omega)⟩⟩
    · have := z.1; omega
    · have := z.2; omega
  rw [lg_ge0 B1]
  refine ⟨fun q => J 1 ?_, fun q => ?_⟩
  · unfold sb; rw [if_neg (by omega)]
  · rw [o_m1]; exact J (-1) (by unfold sb; rw [if_pos (by omega)])
theorem s_alongEdge {co : Nat → Int32} {t c : Nat} {x y z : Int} {post : Int64 → Prop} (ht : t < 128) (hc : c < 3) (hb : ∀ j, bd 255 (co j).toInt)
    (h : post (Int64.ofInt (x * ((co (9 * t + 3 * c)).toInt - (co (9 * t)).toInt) + y * ((co (9 * t + 3 * c + 1)).toInt - (co (9 * t + 1)).toInt) + z * ((co (9 * t + 3 * c + 2)).toInt - (co (9 * t + 2)).toInt)))) : F_X5_alongEdge (nI t) (nI c) (Int64.ofInt x) (Int64.ofInt y) (Int64.ofInt z) co post := by
  intro a ea b eb_
  have ea' : a = nI (9 * t) := by rw [ea, n_9, pk_mul]
  have eb' : b = nI (9 * t + 3 * c) := by rw [eb_, ea', n_3, pk_mul, nI_add]
  subst ea'; subst eb'
  refine ⟨vin (9 * t + 3 * c) (by omega) (by omega) rfl, vin (9 * t) (by omega) (by omega) rfl, vin (9 * t + 3 * c + 1) (by omega) (by omega) (nI_1 _), vin (9 * t + 1) (by omega) (by omega) (nI_1 _), vin (9 * t + 3 * c + 2) (by omega) (by omega) (nI_add _ 2), vin (9 * t + 2) (by omega) (by omega) (nI_add _ 2), ?_⟩
  rw [nI_1, nI_1, n_2, nI_add, nI_add, nI_clamp (by omega), nI_clamp (by omega), nI_clamp (by omega), nI_clamp (by omega), nI_clamp (by omega), nI_clamp (by omega), o_dif (hb _) (hb _), o_dif (hb _) (hb _), o_dif (hb _) (hb _), o_mul, o_mul, o_mul, o_add, o_add]
  exact h
theorem s_inside {co no : Nat → Int32} {t : Nat} {F D : Nat → Int} {T : Int} {fr al : Nat → Int64} {wa wb wc : Int64} {post : Int32 → Int64 → Int64 → Int64 → Prop} (ht : t < 128) (hF : asI fr F 3) (hD : asI al D 3) (hb : ∀ j, bd 255 (co j).toInt) (N : NC co no t) (hB : ∀ c, c < 3 → bd bM (T * wt co t F D c))
    (h1 : 0 ≤ T * wt co t F D 0 → 0 ≤ T * wt co t F D 1 → 0 ≤ T * wt co t F D 2 → post 1 (Int64.ofInt (T * wt co t F D 0)) (Int64.ofInt (T * wt co t F D 1)) (Int64.ofInt (T * wt co t F D 2)))
    (h0 : ¬ (0 ≤ T * wt co t F D 0 ∧ 0 ≤ T * wt co t F D 1 ∧ 0 ≤ T * wt co t F D 2) → ∀ a b c, post 0 a b c) : F_X7_isInside (nI t) (Int64.ofInt T) (Int64.ofInt (T * be no t D)) wa wb wc fr al co post := by
  have v0 : vp_in 0 3 := vin 0 (by omega) (by omega) rfl
  have v1 : vp_in 1 3 := vin 1 (by omega) (by omega) rfl
  have v2 : vp_in 2 3 := vin 2 (by omega) (by omega) rfl
  refine ⟨v0, s_at (c := 0) (k := 0) ht (by omega) (by omega) (fun x3 e3 => ⟨v1, s_at (c := 0) (k := 1) ht (by omega) (by omega) (fun x6 e6 => ⟨v2, s_at (c := 0) (k := 2) ht (by omega) (by omega) (fun x9 e9 => ⟨v1, v2, fun x12 e12 => ⟨v2, v0, fun x15 e15 => ⟨v0, v1, fun x18 e18 => ?_⟩⟩⟩)⟩)⟩)⟩
  rw [cl_0, hF 0 (by omega), o_i2l, o_sub] at e3
  rw [cl_1, hF 1 (by omega), o_i2l, o_sub] at e6
  rw [cl_2, hF 2 (by omega), o_i2l, o_sub] at e9
  rw [cl_1, cl_2, hD 1 (by omega), hD 2 (by omega), e9, e6, o_mul, o_mul, o_sub, o_mul] at e12
  rw [cl_0, cl_2, hD 0 (by omega), hD 2 (by omega), e9, e3, o_mul, o_mul, o_sub, o_mul] at e15
  rw [cl_0, cl_1, hD 0 (by omega), hD 1 (by omega), e6, e3, o_mul, o_mul, o_sub, o_mul] at e18
  rw [e12, e15, e18]
  refine s_alongEdge (c := 2) ht (by omega) hb (s_alongEdge (c := 1) ht (by omega) hb (fun y ey z ez => ?_))
  have k1 : ∀ a b c : Int, a = T * wt co t F D 0 → b = T * wt co t F D 1 → c = T * wt co t F D 2 → ((lg_cmp (Int64.ofInt a) 0 < 0 → post 0 (Int64.ofInt a) (Int64.ofInt b) (Int64.ofInt c)) ∧ (¬ lg_cmp (Int64.ofInt a) 0 < 0 → ((lg_cmp (Int64.ofInt b) 0 < 0 → post 0 (Int64.ofInt a) (Int64.ofInt b) (Int64.ofInt c)) ∧ (¬ lg_cmp (Int64.ofInt b) 0 < 0 → ((lg_cmp (Int64.ofInt c) 0 < 0 → post 0 (Int64.ofInt a) (Int64.ofInt b) (Int64.ofInt c)) ∧ (¬ lg_cmp (Int64.ofInt c) 0 < 0 → post 1 (Int64.ofInt a) (Int64.ofInt b) (Int64.ofInt c))))))) := by
    intro a b c ha hb hc
    subst ha; subst hb; subst hc
    rw [lg_lt0 (hB 0 (by omega)), lg_lt0 (hB 1 (by omega)), lg_lt0 (hB 2 (by omega))]
    exact ⟨fun q => h0 (fun z => by have := z.1; omega) _ _ _, fun q => ⟨fun q2 => h0 (fun z => by have := z.2.1; omega) _ _ _, fun q2 => ⟨fun q3 => h0 (fun z => by have := z.2.2; omega) _ _ _, fun q3 => h1 (by omega) (by omega) (by omega)⟩⟩⟩
  have w1 : T * (D 1 * (F 2 - (co (9 * t + 3 * 0 + 2)).toInt) - D 2 * (F 1 - (co (9 * t + 3 * 0 + 1)).toInt)) * ((co (9 * t + 3 * 2)).toInt - (co (9 * t)).toInt) + T * (D 2 * (F 0 - (co (9 * t + 3 * 0 + 0)).toInt) - D 0 * (F 2 - (co (9 * t + 3 * 0 + 2)).toInt)) * ((co (9 * t + 3 * 2 + 1)).toInt - (co (9 * t + 1)).toInt) + T * (D 0 * (F 1 - (co (9 * t + 3 * 0 + 1)).toInt) - D 1 * (F 0 - (co (9 * t + 3 * 0 + 0)).toInt)) * ((co (9 * t + 3 * 2 + 2)).toInt - (co (9 * t + 2)).toInt) = T * wt co t F D 1 := by
    rw [wt_1]
    show T * (D 1 * (F 2 - (co (9 * t + 2)).toInt) - D 2 * (F 1 - (co (9 * t + 1)).toInt)) * ((co (9 * t + 6)).toInt - (co (9 * t)).toInt) + T * (D 2 * (F 0 - (co (9 * t)).toInt) - D 0 * (F 2 - (co (9 * t + 2)).toInt)) * ((co (9 * t + 7)).toInt - (co (9 * t + 1)).toInt) + T * (D 0 * (F 1 - (co (9 * t + 1)).toInt) - D 1 * (F 0 - (co (9 * t)).toInt)) * ((co (9 * t + 8)).toInt - (co (9 * t + 2)).toInt) = _
    grind
  have w2 : -(T * (D 1 * (F 2 - (co (9 * t + 3 * 0 + 2)).toInt) - D 2 * (F 1 - (co (9 * t + 3 * 0 + 1)).toInt)) * ((co (9 * t + 3 * 1)).toInt - (co (9 * t)).toInt) + T * (D 2 * (F 0 - (co (9 * t + 3 * 0 + 0)).toInt) - D 0 * (F 2 - (co (9 * t + 3 * 0 + 2)).toInt)) * ((co (9 * t + 3 * 1 + 1)).toInt - (co (9 * t + 1)).toInt) + T * (D 0 * (F 1 - (co (9 * t + 3 * 0 + 1)).toInt) - D 1 * (F 0 - (co (9 * t + 3 * 0 + 0)).toInt)) * ((co (9 * t + 3 * 1 + 2)).toInt - (co (9 * t + 2)).toInt)) = T * wt co t F D 2 := by
    rw [wt_2]
    show -(T * (D 1 * (F 2 - (co (9 * t + 2)).toInt) - D 2 * (F 1 - (co (9 * t + 1)).toInt)) * ((co (9 * t + 3)).toInt - (co (9 * t)).toInt) + T * (D 2 * (F 0 - (co (9 * t)).toInt) - D 0 * (F 2 - (co (9 * t + 2)).toInt)) * ((co (9 * t + 4)).toInt - (co (9 * t + 1)).toInt) + T * (D 0 * (F 1 - (co (9 * t + 1)).toInt) - D 1 * (F 0 - (co (9 * t)).toInt)) * ((co (9 * t + 5)).toInt - (co (9 * t + 2)).toInt)) = _
    grind
  rw [w1] at ez
  rw [o_neg, w2] at ey
  rw [ey, o_sub, o_sub] at ez
  rw [w1, ez, ey]
  exact k1 _ _ _ (by rw [wsum (F := F) N]; grind) rfl rfl
theorem s_strikes {co no : Nat → Int32} {t : Nat} {F D : Nat → Int} {fr al : Nat → Int64} {tu fa ov wa wb wc : Int64} {post : Int32 → Int64 → Int64 → Int64 → Int64 → Int64 → Int64 → Prop} (ht : t < 128) (hF : asI fr F 3) (hD : asI al D 3) (hb : ∀ j, bd 255 (co j).toInt) (N : NC co no t) (B : RB co no t F D)
    (h1 : hitp co no t F D → ∀ tu, post 1 tu (Int64.ofInt (sb (be no t D) (ab co no t F))) (Int64.ofInt (sb (be no t D) (be no t D))) (Int64.ofInt (sb (be no t D) (wt co t F D 0))) (Int64.ofInt (sb (be no t D) (wt co t F D 1))) (Int64.ofInt (sb (be no t D) (wt co t F D 2))))
    (h0 : ¬ hitp co no t F D → ∀ a b c d e f, post 0 a b c d e f) : F_X7_strikes (nI t) tu fa ov wa wb wc fr al co no post := by
  refine s_comes ht hF hD B (fun a1 a2 => ⟨fun q => absurd q (by decide), fun _ => ?_⟩) (fun z a b c => ⟨fun _ => h0 (fun y => z ⟨y.1, y.2.1⟩) _ _ _ _ _ _, fun q => absurd rfl q⟩)
  have hB : ∀ c, c < 3 → bd bM (sb (be no t D) 1 * wt co t F D c) := fun c hc => by rw [← sb_mul]; exact sb_bd (B.2.2 c hc)
  rw [sb_mul _ (be no t D)]
  refine s_inside ht hF hD hb N hB (fun b0 b1 b2 => ⟨fun q => absurd q (by decide), fun _ => ?_⟩) (fun z a b c => ⟨fun _ => h0 (fun y => z ?_) _ _ _ _ _ _, fun q => absurd rfl q⟩)
  · rw [← sb_mul] at b0 b1 b2
    rw [← sb_mul, ← sb_mul, ← sb_mul, ← sb_mul]
    exact h1 ⟨a1, a2, b0, b1, b2⟩ _
  · rw [← sb_mul, ← sb_mul, ← sb_mul]; exact y.2.2
