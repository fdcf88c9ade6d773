/-! PURE PART: what a ray hits first -/
def fa (co no : Nat → Int32) (F D : Nat → Int) (t : Nat) : Int := sb (be no t D) (ab co no t F)
def ov (no : Nat → Int32) (D : Nat → Int) (t : Nat) : Int := sb (be no t D) (be no t D)
def ww (co no : Nat → Int32) (F D : Nat → Int) (t c : Nat) : Int := sb (be no t D) (wt co t F D c)
noncomputable def fst (co no : Nat → Int32) (F D : Nat → Int) : Nat → Option Nat
  | 0 => none
  | n + 1 => @ite _ (hitp co no n F D ∧ ∀ f, fst co no F D n = some f → fa co no F D n * ov no D f < fa co no F D f * ov no D n) (Classical.propDecidable _) (some n) (fst co no F D n)
theorem fst_p {co no : Nat → Int32} {F D : Nat → Int} {n : Nat} (h : hitp co no n F D) (h2 : ∀ f, fst co no F D n = some f → fa co no F D n * ov no D f < fa co no F D f * ov no D n) : fst co no F D (n + 1) = some n := if_pos ⟨h, h2⟩
theorem fst_n {co no : Nat → Int32} {F D : Nat → Int} {n : Nat} (h : ¬ (hitp co no n F D ∧ ∀ f, fst co no F D n = some f → fa co no F D n * ov no D f < fa co no F D f * ov no D n)) : fst co no F D (n + 1) = fst co no F D n := if_neg h
theorem fst_hit {co no : Nat → Int32} {F D : Nat → Int} : ∀ {n f : Nat}, fst co no F D n = some f → f < n ∧ hitp co no f F D
  | 0, f, h => by cases h
  | n + 1, f, h => by
    by_cases c : hitp co no n F D ∧ ∀ f, fst co no F D n = some f → fa co no F D n * ov no D f < fa co no F D f * ov no D n
    · rw [fst_p c.1 c.2] at h
      injection h with h; subst h; exact ⟨by omega, c.1⟩
    · rw [fst_n c] at h
      have := fst_hit h
      exact ⟨by omega, this.2⟩
/-- within the camera's bounds -/
def CB (co no : Nat → Int32) (t : Nat) (F D : Nat → Int) : Prop := bd 800000000 (be no t D) ∧ bd 400000000 (ab co no t F) ∧ ∀ c, c < 3 → bd 1600000000 (wt co t F D c)
theorem CB.rb {co no : Nat → Int32} {t : Nat} {F D : Nat → Int} (h : CB co no t F D) : RB co no t F D := ⟨bd_le (by decide) h.1, bd_le (by decide) h.2.1, fun c hc => bd_le (by decide) (h.2.2 c hc)⟩
/-- what a ray sees: triangles, their normals, its bounds -/
def SC (nt : Nat) (co no : Nat → Int32) (F D : Nat → Int) : Prop := nt ≤ 128 ∧ (∀ j, bd 255 (co j).toInt) ∧ ∀ t, t < nt → NC co no t ∧ CB co no t F D
def tm (co no : Nat → Int32) (F D : Nat → Int) (f k : Nat) : Int := if k = 0 then fa co no F D f else ov no D f
def pl (co no : Nat → Int32) (F D : Nat → Int) (f k : Nat) : Int := if k < 3 then F k * ov no D f + D k * fa co no F D f else ov no D f
def wg (co no : Nat → Int32) (F D : Nat → Int) (f k : Nat) : Int := if k < 3 then ww co no F D f k else ov no D f
/-- the class holds a hit -/
def ClS (co no : Nat → Int32) (F D : Nat → Int) (o : Option Nat) (wh : Int32) (ti pc we : Nat → Int64) : Prop :=
  (o = none ∧ wh = -2) ∨ ∃ f, o = some f ∧ wh = nI f ∧ asI ti (tm co no F D f) 2 ∧ asI pc (pl co no F D f) 4 ∧ asI we (wg co no F D f) 4
/-- the reference holds a hit -/
def MS (co no : Nat → Int32) (F D : Nat → Int) (o : Option Nat) (fi : Int32) (fA fB : Int64) (fW : Nat → Int64) : Prop :=
  (o = none ∧ fi = -2) ∨ ∃ f, o = some f ∧ fi = nI f ∧ fA = Int64.ofInt (fa co no F D f) ∧ fB = Int64.ofInt (ov no D f) ∧ asI fW (ww co no F D f) 3
theorem nI_nn {f : Nat} (h : f < 128) : ¬ nI f < 0 := by rw [i32_lt, nI_toInt (by omega)]; show ¬ (f : Int) < 0; omega
theorem m2_neg : (-2 : Int32) < 0 := by decide
theorem lg_ge {a b : Int} (ha : r63 a) (hb : r63 b) : 0 ≤ lg_cmp (Int64.ofInt a) (Int64.ofInt b) ↔ b ≤ a := by rw [lg_cmp_ge, o_le hb ha]
theorem cmp_bd {co no : Nat → Int32} {F D : Nat → Int} {a b : Nat} (ha : CB co no a F D) (hb : CB co no b F D) : r63 (fa co no F D a * ov no D b) := bd_r63 (by decide) (bd_mul (sb_bd (b := be no a D) ha.2.1) (sb_bd (b := be no b D) hb.1))
theorem s_later {co no : Nat → Int32} {F D : Nat → Int} {n : Nat} {o : Option Nat} {wh : Int32} {ti pc we : Nat → Int64} {post : Int32 → Prop} (hn : CB co no n F D) (ho : ∀ f, o = some f → f < 128 ∧ CB co no f F D) (S : ClS co no F D o wh ti pc we)
    (h1 : (∀ f, o = some f → fa co no F D n * ov no D f < fa co no F D f * ov no D n) → post 1) (h0 : ¬ (∀ f, o = some f → fa co no F D n * ov no D f < fa co no F D f * ov no D n) → post 0) : F_X3_isLaterThan wh ti (Int64.ofInt (fa co no F D n)) (Int64.ofInt (ov no D n)) post := by
  rcases S with ⟨rfl, rfl⟩ | ⟨f, rfl, rfl, h2, -, -⟩
  · exact ⟨fun _ => ⟨fun _ => h1 (fun f h => by cases h), fun q => absurd rfl q⟩, fun q => absurd m2_neg q⟩
  · obtain ⟨hf, hc⟩ := ho f rfl
    refine ⟨fun q => absurd q (nI_nn hf), fun _ => ⟨fun q => absurd q (by decide), fun _ => ⟨vin 1 (by omega) (by omega) rfl, vin 0 (by omega) (by omega) rfl, ?_⟩⟩⟩
    have t0 : ti 0 = Int64.ofInt (fa co no F D f) := h2 0 (by omega)
    have t1 : ti 1 = Int64.ofInt (ov no D f) := h2 1 (by omega)
    rw [cl_0, cl_1, t0, t1, o_mul, o_mul, lg_ge (cmp_bd hn hc) (cmp_bd hc hn)]
    exact ⟨fun q => h0 (fun z => by have := z f rfl; omega), fun q => h1 (fun f' e => by injection e with e; subst e; omega)⟩
theorem st_take {post : Int32 → (Nat → Int64) → (Nat → Int64) → (Nat → Int64) → Prop} {fr al ti pc we : Nat → Int64} {wa wb wc : Int64} {wh : Int32} {F D : Nat → Int} {a b : Int} {n k : Nat} (hk : k < 3) (hF : asI fr F 3) (hD : asI al D 3)
    (h : L_X3_take_27 post (Int64.ofInt a) (Int64.ofInt b) wa wb wc fr al n (nI (k + 1)) wh ti (vp_updL pc k (Int64.ofInt (F k * b + D k * a))) we) : L_X3_take_27 post (Int64.ofInt a) (Int64.ofInt b) wa wb wc fr al (n + 1) (nI k) wh ti pc we := by
  refine ⟨fun q => ?_, fun _ => ⟨vin k (by omega) (by omega) rfl, vin k (by omega) (by omega) rfl, vin k (by omega) (by omega) rfl, fun g eg x ex => ?_⟩⟩
  · rw [n_3, nI_leI (by omega) (by omega)] at q; omega
  rw [nI_clamp (by omega), hF k hk, hD k hk, o_mul, o_mul, o_add] at eg
  rw [eg, ex, nI_1]; exact h
theorem s_take {co no : Nat → Int32} {F D : Nat → Int} {t : Nat} {fr al ti pc we : Nat → Int64} {wh : Int32} {post : Int32 → (Nat → Int64) → (Nat → Int64) → (Nat → Int64) → Prop} (hF : asI fr F 3) (hD : asI al D 3)
    (h : ∀ ti' pc' we', ClS co no F D (some t) (nI t) ti' pc' we' → post (nI t) ti' pc' we') :
    F_X3_take (nI t) wh ti pc we (Int64.ofInt (fa co no F D t)) (Int64.ofInt (ov no D t)) (Int64.ofInt (ww co no F D t 0)) (Int64.ofInt (ww co no F D t 1)) (Int64.ofInt (ww co no F D t 2)) fr al post := by
  refine ⟨vin 0 (by omega) (by omega) rfl, fun g eg => ⟨vin 1 (by omega) (by omega) rfl, fun g2 eg2 => ⟨4, st_take (k := 0) (by omega) hF hD (st_take (k := 1) (by omega) hF hD (st_take (k := 2) (by omega) hF hD ⟨fun _ => ?_, fun q => absurd (by decide) q⟩))⟩⟩⟩
  refine ⟨vin 3 (by omega) (by omega) rfl, fun g3 eg3 => ⟨vin 0 (by omega) (by omega) rfl, fun g4 eg4 => ⟨vin 1 (by omega) (by omega) rfl, fun g5 eg5 => ⟨vin 2 (by omega) (by omega) rfl, fun g6 eg6 => ⟨vin 3 (by omega) (by omega) rfl, fun g7 eg7 => ?_⟩⟩⟩⟩⟩
  rw [cl_0] at eg eg4
  rw [cl_1] at eg2 eg5
  rw [cl_2] at eg6
  rw [cl_3] at eg3 eg7
  refine h _ _ _ (Or.inr ⟨t, rfl, rfl, ?_, ?_, ?_⟩)
  · rw [eg2, eg]; exact asI_s (F := tm co no F D t) (asI_s (F := tm co no F D t) (asI_0 _ _))
  · rw [eg3]; exact asI_s (F := pl co no F D t) (asI_s (F := pl co no F D t) (asI_s (F := pl co no F D t) (asI_s (F := pl co no F D t) (asI_0 _ _))))
  · rw [eg7, eg6, eg5, eg4]; exact asI_s (F := wg co no F D t) (asI_s (F := wg co no F D t) (asI_s (F := wg co no F D t) (asI_s (F := wg co no F D t) (asI_0 _ _))))
section
variable {post : Int64 → Int64 → Int64 → Int64 → Int64 → Int64 → (Nat → Int64) → (Nat → Int64) → Int32 → (Nat → Int64) → (Nat → Int64) → (Nat → Int64) → Prop} {co no eye ax : Nat → Int32} {w h : Int32} {nt : Nat} {F D : Nat → Int} {fr al : Nat → Int64}
theorem s_look20 (S : SC nt co no F D) (hF : asI fr F 3) (hD : asI al D 3) (fin : ∀ a b c d e f wh ti pc we, ClS co no F D (fst co no F D nt) wh ti pc we → post a b c d e f fr al wh ti pc we) :
    ∀ (m k : Nat) (a b c d e f : Int64) (wh : Int32) (ti pc we : Nat → Int64), k + m = nt → ClS co no F D (fst co no F D k) wh ti pc we → L_X11_look_20 post (nI nt) co no w h eye ax (m + 1) (nI k) a b c d e f fr al wh ti pc we
  | 0, k, a, b, c, d, e, f, wh, ti, pc, we, hk, C => by
    have hn := S.1
    have : k = nt := by omega
    subst this
    exact ⟨fun _ => fin _ _ _ _ _ _ _ _ _ _ C, fun q => absurd (by rw [nI_leI (by omega) (by omega)]; omega) q⟩
  | m + 1, k, a, b, c, d, e, f, wh, ti, pc, we, hk, C => by
    have hn := S.1
    obtain ⟨N, B⟩ := S.2.2 k (by omega)
    refine ⟨fun q => ?_, fun _ => s_strikes (by omega) hF hD S.2.1 N B.rb (fun hit tu => ⟨fun q => absurd q (by decide), fun _ => ?_⟩) (fun nh a b c d e f => ⟨fun _ x ex => ?_, fun q => absurd rfl q⟩)⟩
    · rw [nI_leI (by omega) (by omega)] at q; omega
    · refine s_later B (fun f hf => ⟨by have := (fst_hit hf).1; omega, (S.2.2 f (by have := (fst_hit hf).1; omega)).2⟩) C (fun hl => ⟨fun q => absurd q (by decide), fun _ => ?_⟩) (fun hl => ⟨fun _ x ex => ?_, fun q => absurd rfl q⟩)
      · refine s_take (co := co) (no := no) hF hD (fun ti' pc' we' C' x ex => ?_)
        rw [ex, nI_1]
        exact s_look20 S hF hD fin m (k + 1) _ _ _ _ _ _ _ _ _ _ (by omega) (by rw [fst_p hit hl]; exact C')
      · rw [ex, nI_1]
        exact s_look20 S hF hD fin m (k + 1) _ _ _ _ _ _ _ _ _ _ (by omega) (by rw [fst_n (fun z => hl z.2)]; exact C)
    · rw [ex, nI_1]
      exact s_look20 S hF hD fin m (k + 1) _ _ _ _ _ _ _ _ _ _ (by omega) (by rw [fst_n (fun z => nh z.1)]; exact C)
theorem s_look {x y : Int32} {a b c d e f : Int64} {wh : Int32} {ti pc we fr al : Nat → Int64} (hp : pix x y w h) (hw : w.toInt ≤ 32) (hh : h.toInt ≤ 32) (S : SC nt co no (fun j => (eye j).toInt) (camD ax w.toInt h.toInt x.toInt y.toInt))
    (fin : ∀ a b c d e f fr al wh ti pc we, ClS co no (fun j => (eye j).toInt) (camD ax w.toInt h.toInt x.toInt y.toInt) (fst co no (fun j => (eye j).toInt) (camD ax w.toInt h.toInt x.toInt y.toInt) nt) wh ti pc we → post a b c d e f fr al wh ti pc we) :
    F_X11_look x y (nI nt) co no w h eye ax a b c d e f fr al wh ti pc we post :=
  s_aim hp hw hh (fun fr' al' hF hD => ⟨nt + 1, s_look20 S hF hD (fun a b c d e f wh ti pc we C => fin _ _ _ _ _ _ _ _ _ _ _ _ C) nt 0 _ _ _ _ _ _ _ _ _ _ (by omega) (Or.inl ⟨rfl, rfl⟩)⟩)
end
section
variable {post : Int64 → Int64 → Int32 → Int64 → Int64 → (Nat → Int64) → (Nat → Int64) → (Nat → Int64) → (Nat → Int64) → (Nat → Int64) → (Nat → Int64) → Prop} {co no eye : Nat → Int32} {mno ma d : Nat → Int64} {w h : Int32} {nt : Nat} {D : Nat → Int}
theorem st_121 {k14 : Int32 → Int64 → Int64 → Int32 → Int64 → Int64 → (Nat → Int64) → (Nat → Int64) → (Nat → Int64) → (Nat → Int64) → (Nat → Int64) → (Nat → Int64) → Prop} {tr fi : Int32} {av fA fB : Int64} {we fr al se fW : Nat → Int64} {F : Nat → Int} {n k t : Nat} (hk : k < 3) (B : bd bM (be no t D)) (hw : asI we (wt co t F D) 3)
    (hh : L_X12_findFirst_121 k14 tr w h co mno eye ma n (nI t) (nI (k + 1)) av (Int64.ofInt (be no t D)) fi fA fB d we fr al se (vp_updL fW k (Int64.ofInt (ww co no F D t k)))) :
    L_X12_findFirst_121 k14 tr w h co mno eye ma (n + 1) (nI t) (nI k) av (Int64.ofInt (be no t D)) fi fA fB d we fr al se fW := by
  have vk : vp_in (nI k) 3 := vin k (by omega) (by omega) rfl
  refine ⟨fun q => ?_, fun _ => ?_⟩
  · rw [n_3, nI_leI (by omega) (by omega)] at q; omega
  rw [lg_ge0 B]
  unfold ww sb at hh
  refine ⟨fun q => ⟨vk, vk, fun g eg x ex => ?_⟩, fun q => ⟨vk, vk, fun g eg x ex => ?_⟩⟩
  · rw [if_neg (by omega)] at hh
    rw [nI_clamp (by omega), hw k hk] at eg
    rw [ex, nI_1, eg]; exact hh
  · rw [if_pos (by omega)] at hh
    rw [nI_clamp (by omega), hw k hk, o_neg] at eg
    rw [ex, nI_1, eg]; exact hh
theorem s_ff14 (S : SC nt co no (fun j => (eye j).toInt) D) (hm : ∀ j, mno j = (no j).toInt64) (hd : asI d D 3) (fin : ∀ a b fi fA fB we fr al se fW, MS co no (fun j => (eye j).toInt) D (fst co no (fun j => (eye j).toInt) D nt) fi fA fB fW → post a b fi fA fB d we fr al se fW) :
    ∀ (m k : Nat) (a b : Int64) (fi : Int32) (fA fB : Int64) (we fr al se fW : Nat → Int64), k + m = nt → MS co no (fun j => (eye j).toInt) D (fst co no (fun j => (eye j).toInt) D k) fi fA fB fW → L_X12_findFirst_14 post (nI nt) w h co mno eye ma (m + 1) (nI k) a b fi fA fB d we fr al se fW
  | 0, k, a, b, fi, fA, fB, we, fr, al, se, fW, hk, M => by
    have hn := S.1
    have : k = nt := by omega
    subst this
    exact ⟨fun _ => fin _ _ _ _ _ _ _ _ _ _ M, fun q => absurd (by rw [nI_leI (by omega) (by omega)]; omega) q⟩
  | m + 1, k, a, b, fi, fA, fB, we, fr, al, se, fW, hk, M => by
    have hn := S.1
    obtain ⟨N, B⟩ := S.2.2 k (by omega)
    refine ⟨fun q => ?_, fun _ => s_looks (by omega) hm hd B.rb (fun hit we' fr' al' se' hw' => ⟨fun q => absurd q (by decide), fun _ => ?_⟩) (fun nh a b we' fr' al' se' => ⟨fun _ x ex => ?_, fun q => absurd rfl q⟩)⟩
    · rw [nI_leI (by omega) (by omega)] at q; omega
    · -- the test and the taking
      have K : ∀ l4 l6 : Int64, l4 = Int64.ofInt (fa co no (fun j => (eye j).toInt) D k) → l6 = Int64.ofInt (ov no D k) → J_X12_findFirst_74 (L_X12_findFirst_14 post (nI nt) w h co mno eye ma (m + 1)) (nI nt) w h co mno eye ma (nI k) l4 l6 (Int64.ofInt (ab co no k (fun j => (eye j).toInt))) (Int64.ofInt (be no k D)) fi fA fB d we' fr' al' se' fW := by
        intro l4 l6 e4 e6
        subst e4; subst e6
        have take : (∀ f, fst co no (fun j => (eye j).toInt) D k = some f → fa co no (fun j => (eye j).toInt) D k * ov no D f < fa co no (fun j => (eye j).toInt) D f * ov no D k) → J_X12_findFirst_101 (L_X12_findFirst_14 post (nI nt) w h co mno eye ma (m + 1)) (nI nt) w h co mno eye ma (nI k) (Int64.ofInt (fa co no (fun j => (eye j).toInt) D k)) (Int64.ofInt (ov no D k)) (Int64.ofInt (ab co no k (fun j => (eye j).toInt))) (Int64.ofInt (be no k D)) fi fA fB d we' fr' al' se' fW := fun hl =>
          ⟨4, st_121 (k := 0) (by omega) B.rb.1 hw' (st_121 (k := 1) (by omega) B.rb.1 hw' (st_121 (k := 2) (by omega) B.rb.1 hw' ⟨fun _ x ex => by
            rw [ex, nI_1]
            refine s_ff14 S hm hd fin m (k + 1) _ _ _ _ _ _ _ _ _ _ (by omega) ?_
            rw [fst_p hit hl]
            exact Or.inr ⟨k, rfl, rfl, rfl, rfl, asI_s (F := ww co no (fun j => (eye j).toInt) D k) (asI_s (F := ww co no (fun j => (eye j).toInt) D k) (asI_s (F := ww co no (fun j => (eye j).toInt) D k) (asI_0 _ _)))⟩, fun q => absurd (by decide) q⟩))⟩
        have M0 := M
        rcases M with ⟨e, rfl⟩ | ⟨f, e, rfl, rfl, rfl, -⟩
        · exact ⟨fun _ => take (fun f hf => by rw [e] at hf; cases hf), fun q => absurd m2_neg q⟩
        · have hf := fst_hit e
          have Bf := (S.2.2 f (by omega)).2
          refine ⟨fun q => absurd q (nI_nn (by omega)), fun _ => ?_⟩
          rw [o_mul, o_mul, lg_ge (cmp_bd B Bf) (cmp_bd Bf B)]
          refine ⟨fun q x ex => ?_, fun q => take (fun f' e' => by rw [e] at e'; injection e' with e'; subst e'; omega)⟩
          rw [ex, nI_1]
          refine s_ff14 S hm hd fin m (k + 1) _ _ _ _ _ _ _ _ _ _ (by omega) ?_
          rw [fst_n (fun z => by have := z.2 f e; omega)]; exact M0
      have lb := lg_ge0 B.rb.1
      refine ⟨fun q => ⟨fun _ => K _ _ ?_ ?_, fun q2 => absurd q q2⟩, fun q => ⟨fun q2 => absurd q2 q, fun _ => K _ _ ?_ ?_⟩⟩
      all_goals rw [lb] at q
      · unfold fa sb; rw [if_neg (by omega)]
      · unfold ov sb; rw [if_neg (by omega)]
      · unfold fa sb; rw [if_pos (by omega), o_neg]
      · unfold ov sb; rw [if_pos (by omega), o_neg]
    · rw [ex, nI_1]
      exact s_ff14 S hm hd fin m (k + 1) _ _ _ _ _ _ _ _ _ _ (by omega) (by rw [fst_n (fun z => nh z.1)]; exact M)
theorem s_findFirst {x y : Int32} {ax : Nat → Int32} {a b : Int64} {fi : Int32} {fA fB : Int64} {d we fr al se fW : Nat → Int64} (A : AX ax ma) (S : SC nt co no (fun j => (eye j).toInt) (camD ax w.toInt h.toInt x.toInt y.toInt)) (hm : ∀ j, mno j = (no j).toInt64)
    (fin : ∀ a b fi fA fB d we fr al se fW, asI d (camD ax w.toInt h.toInt x.toInt y.toInt) 3 → MS co no (fun j => (eye j).toInt) (camD ax w.toInt h.toInt x.toInt y.toInt) (fst co no (fun j => (eye j).toInt) (camD ax w.toInt h.toInt x.toInt y.toInt) nt) fi fA fB fW → post a b fi fA fB d we fr al se fW) :
    F_X12_findFirst x y (nI nt) w h a b fi fA fB co mno eye ma d we fr al se fW post :=
  s_rayOf A (fun d' hd => ⟨nt + 1, s_ff14 S hm hd (fun a b fi fA fB we fr al se fW M => fin _ _ _ _ _ _ _ _ _ _ _ hd M) nt 0 _ _ _ _ _ _ _ _ _ _ (by omega) (Or.inl ⟨rfl, rfl⟩)⟩)
end
-- the bounds
theorem crs_bd2 {a1 a2 b1 b2 c1 c2 : Int} (h1 : bd 255 a1) (h2 : bd 255 a2) (h3 : bd 255 b1) (h4 : bd 255 b2) (h5 : bd 255 c1) (h6 : bd 255 c2) : bd 260100 ((b1 - a1) * (c2 - a2) - (b2 - a2) * (c1 - a1)) := by
  have e : (b1 - a1) * (c2 - a2) - (b2 - a2) * (c1 - a1) = a1 * (b2 - c2) + b1 * (c2 - a2) + c1 * (a2 - b2) := by grind
  have k1 := bd_mul h1 (bd_nat (b2 - c2))
  have k2 := bd_mul h3 (bd_nat (c2 - a2))
  have k3 := bd_mul h5 (bd_nat (a2 - b2))
  have k4 := bd_add (bd_add k1 k2) k3
  rw [e]
  refine bd_le ?_ k4
  obtain ⟨_, _⟩ := h2
  obtain ⟨_, _⟩ := h4
  obtain ⟨_, _⟩ := h6
  omega
theorem NC_bd {co no : Nat → Int32} {t : Nat} (N : NC co no t) (hb : ∀ j, bd 255 (co j).toInt) : ∀ k, k < 3 → bd 260100 (no (3 * t + k)).toInt := fun k hk => by
  rw [N k hk]; unfold crs
  split
  · exact crs_bd2 (hb _) (hb _) (hb _) (hb _) (hb _) (hb _)
  · split
    · exact crs_bd2 (hb _) (hb _) (hb _) (hb _) (hb _) (hb _)
    · exact crs_bd2 (hb _) (hb _) (hb _) (hb _) (hb _) (hb _)
theorem be_bd {no : Nat → Int32} {t : Nat} {D : Nat → Int} {X : Int} (hn : ∀ k, k < 3 → bd 260100 (no (3 * t + k)).toInt) (hD : ∀ k, k < 3 → bd X (D k)) : bd (X * 260100 + X * 260100 + X * 260100) (be no t D) :=
  bd_add (bd_add (bd_mul (hD 0 (by omega)) (hn 0 (by omega))) (bd_mul (hD 1 (by omega)) (hn 1 (by omega)))) (bd_mul (hD 2 (by omega)) (hn 2 (by omega)))
theorem ab_bd {co no : Nat → Int32} {t : Nat} {F : Nat → Int} (hb : ∀ j, bd 255 (co j).toInt) (hn : ∀ k, k < 3 → bd 260100 (no (3 * t + k)).toInt) (hF : ∀ k, k < 3 → bd 255 (F k)) : bd 397953000 (ab co no t F) :=
  bd_neg (bd_add (bd_add (bd_mul (bd_sub (hF 0 (by omega)) (hb (9 * t))) (hn 0 (by omega))) (bd_mul (bd_sub (hF 1 (by omega)) (hb (9 * t + 1))) (hn 1 (by omega)))) (bd_mul (bd_sub (hF 2 (by omega)) (hb (9 * t + 2))) (hn 2 (by omega))))
theorem wt_bd {co : Nat → Int32} {t : Nat} {F D : Nat → Int} {X : Int} (hb : ∀ j, bd 255 (co j).toInt) (hF : ∀ k, k < 3 → bd 255 (F k)) (hD : ∀ k, k < 3 → bd X (D k)) (c : Nat) (hc : c < 3) : bd (X * 520200 + X * 520200 + X * 520200) (wt co t F D c) := by
  have s : ∀ j, bd 510 (sv co t F j) := fun j => bd_sub (hb _) (hF _ (by omega))
  have m : ∀ a b c d : Nat, bd 520200 (sv co t F a * sv co t F b - sv co t F c * sv co t F d) := fun a b c d => bd_sub (bd_mul (s a) (s b)) (bd_mul (s c) (s d))
  exact bd_add (bd_add (bd_mul (hD 0 (by omega)) (m _ _ _ _)) (bd_mul (hD 1 (by omega)) (m _ _ _ _))) (bd_mul (hD 2 (by omega)) (m _ _ _ _))
theorem cam_SC {nt : Nat} {xn mn xw xh mw mh x y : Int32} {xc xno xt mc mt xe xa me : Nat → Int32} {mno ma : Nat → Int64} (I : IM nt xn xc xno xt mn mc mno mt) (K : IC xe xa xw xh me ma mw mh) (hp : pix x y xw xh) : SC nt xc xno (fun j => (xe j).toInt) (camD xa xw.toInt xh.toInt x.toInt y.toInt) := by
  obtain ⟨hnt, rfl, rfl, rfl, rfl, hcb, hmn, hcr⟩ := I
  obtain ⟨rfl, heb, hax, rfl, rfl, hw, hh, hf⟩ := K
  refine ⟨hnt, hcb, fun t ht => ?_⟩
  have N : NC mc xno t := fun k hk => hcr t k ht hk
  have hn := NC_bd N hcb
  have hD : ∀ k, k < 3 → bd 1023 (camD xa mw.toInt mh.toInt x.toInt y.toInt k) := fun k hk => camD_bd hf hk ⟨hp.1, hp.2.1⟩ hp.2.2
  exact ⟨N, bd_le (by decide) (be_bd hn hD), bd_le (by decide) (ab_bd hcb hn (fun k _ => heb k)), fun c hc => bd_le (by decide) (wt_bd hcb (fun k _ => heb k) hD c hc)⟩
