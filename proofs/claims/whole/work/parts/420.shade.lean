/-! PURE PART: sides of a light, the ray from a light, what stands between -/
theorem gN_dvd {R : Nat → Int} : ∀ (N j : Nat), j < N → gN R N ∣ (R j).natAbs
  | 0, j, h => absurd h (by omega)
  | N + 1, j, h => by
    show Nat.gcd (gN R N) (R N).natAbs ∣ _
    by_cases e : j = N
    · subst e; exact Nat.gcd_dvd_right _ _
    · exact Nat.dvd_trans (Nat.gcd_dvd_left _ _) (gN_dvd N j (by omega))
theorem red_mul {R : Nat → Int} {N j : Nat} (h : j < N) : (gN R N : Int) * red R N j = R j := Int.mul_tdiv_cancel' (Int.ofNat_dvd_left.mpr (gN_dvd N j h))
/-- the sign of a side, of eye and light -/
def tow (co no eye lt : Nat → Int32) (f i : Nat) : Prop := sgn (sid co no f (eye 0).toInt (eye 1).toInt (eye 2).toInt) ≠ 0 ∧ sgn (sid co no f (eye 0).toInt (eye 1).toInt (eye 2).toInt) = sgn (sid co no f (lt (3 * i)).toInt (lt (3 * i + 1)).toInt (lt (3 * i + 2)).toInt)
theorem s_eyeSide {co no eye : Nat → Int32} {t : Nat} {post : Int64 → Prop} (ht : t < 128) (h : post (Int64.ofInt (sid co no t (eye 0).toInt (eye 1).toInt (eye 2).toInt))) : F_X11_eyeSide (nI t) co no eye post := by
  refine ⟨vin 0 (by omega) (by omega) rfl, vin 1 (by omega) (by omega) rfl, vin 2 (by omega) (by omega) rfl, ?_⟩
  rw [cl_0, cl_1, cl_2, o_i2l, o_i2l, o_i2l]
  exact s_side ht h
theorem s_lampAt {lt : Nat → Int32} {i k : Nat} {post : Int32 → Prop} (hi : i < 4) (hk : k < 3) (h : post (lt (3 * i + k))) : F_X4_at (nI i) (nI k) lt post := by
  refine ⟨vin (3 * i + k) (by omega) (by omega) (n3k i k), ?_⟩
  rw [n3k, nI_clamp (by omega)]; exact h
theorem s_lampSide {co no lt : Nat → Int32} {t i : Nat} {post : Int64 → Prop} (ht : t < 128) (hi : i < 4) (h : post (Int64.ofInt (sid co no t (lt (3 * i)).toInt (lt (3 * i + 1)).toInt (lt (3 * i + 2)).toInt))) : F_X11_lampSide (nI t) (nI i) co no lt post := by
  refine s_lampAt (k := 0) hi (by omega) (s_lampAt (k := 1) hi (by omega) (s_lampAt (k := 2) hi (by omega) ?_))
  rw [o_i2l, o_i2l, o_i2l]
  exact s_side ht h
theorem s_onEyeSide {co no eye lt : Nat → Int32} {t i : Nat} {post : Int32 → Prop} (ht : t < 128) (hi : i < 4) (hc : ∀ j, bd 255 (co j).toInt) (hn : ∀ k, k < 3 → bd 520200 (no (3 * t + k)).toInt) (he : ∀ j, bd 255 (eye j).toInt) (hl : ∀ j, bd 255 (lt j).toInt) (h1 : tow co no eye lt t i → post 1) (h0 : ¬ tow co no eye lt t i → post 0) : F_X11_isOnEyeSide (nI i) co no eye lt (nI t) post := by
  refine s_eyeSide ht (s_sign (bd_r63 (by omega) (sid_bd hc hn (he 0) (he 1) (he 2))) ⟨fun q => h0 (fun z => z.1 q), fun q => s_lampSide ht hi (s_sign (bd_r63 (by omega) (sid_bd hc hn (hl _) (hl _) (hl _))) ⟨fun q2 => h0 (fun z => q2 z.2), fun q2 => h1 ⟨q, q2⟩⟩)⟩)
theorem s_isTowards {co no eye lt : Nat → Int32} {mno : Nat → Int64} {t i : Nat} {post : Int32 → Prop} (ht : t < 128) (hi : i < 4) (hm : ∀ j, mno j = (no j).toInt64) (hc : ∀ j, bd 255 (co j).toInt) (hn : ∀ k, k < 3 → bd 520200 (no (3 * t + k)).toInt) (he : ∀ j, bd 255 (eye j).toInt) (hl : ∀ j, bd 255 (lt j).toInt) (h1 : tow co no eye lt t i → post 1) (h0 : ¬ tow co no eye lt t i → post 0) : F_X12_isTowards (nI i) (nI t) co mno eye lt post := by
  have e : (3 : Int32) * nI i = nI (3 * i) := pk_mul 3 i
  refine s_sideOf (o := 0) ht (by omega) (by omega) hm hc he hn ⟨fun q => h0 (fun z => z.1 q), fun q => ?_⟩
  rw [e]
  exact s_sideOf (o := 3 * i) ht (by omega) (by omega) hm hc hl hn ⟨fun q2 => h0 (fun z => q2 z.2), fun q2 => h1 ⟨q, q2⟩⟩
/-- the first of a run for which something holds -/
noncomputable def blk (P : Nat → Prop) : Nat → Nat → Int32
  | 0, _ => -2
  | m + 1, k => @ite _ (P k) (Classical.propDecidable _) (nI k) (blk P m (k + 1))
theorem blk_p {P : Nat → Prop} {m k : Nat} (h : P k) : blk P (m + 1) k = nI k := if_pos h
theorem blk_n {P : Nat → Prop} {m k : Nat} (h : ¬ P k) : blk P (m + 1) k = blk P m (k + 1) := if_neg h
theorem blk_congr {P R : Nat → Prop} : ∀ (m k : Nat), (∀ j, k ≤ j → j < k + m → (P j ↔ R j)) → blk P m k = blk R m k
  | 0, _, _ => rfl
  | m + 1, k, h => by
    by_cases c : P k
    · rw [blk_p c, blk_p ((h k (by omega) (by omega)).mp c)]
    · rw [blk_n c, blk_n (fun z => c ((h k (by omega) (by omega)).mpr z)), blk_congr m (k + 1) (fun j h1 h2 => h j (by omega) (by omega))]
theorem blk_val {P : Nat → Prop} : ∀ (m k : Nat), blk P m k = -2 ∨ ∃ j, j < k + m ∧ blk P m k = nI j
  | 0, _ => Or.inl rfl
  | m + 1, k => by
    by_cases c : P k
    · exact Or.inr ⟨k, by omega, blk_p c⟩
    · rw [blk_n c]
      rcases blk_val (P := P) m (k + 1) with h | ⟨j, hj, h⟩
      · exact Or.inl h
      · exact Or.inr ⟨j, by omega, h⟩
/-- a ray's scene, wide bounds -/
def SS (nt : Nat) (co no : Nat → Int32) (F D : Nat → Int) : Prop := nt ≤ 128 ∧ (∀ j, bd 255 (co j).toInt) ∧ ∀ t, t < nt → NC co no t ∧ RB co no t F D
/-- it stands between -/
def btw (co no : Nat → Int32) (F D : Nat → Int) (f : Nat) (o : Int) (t : Nat) : Prop := t ≠ f ∧ hitp co no t F D ∧ fa co no F D t * o < ov no D t
theorem st_lampAim {post : (Nat → Int64) → (Nat → Int64) → Prop} {lt : Nat → Int32} {ti pc fr al : Nat → Int64} {p : Nat → Int} {o : Int} {n k i : Nat} (hi : i < 4) (hk : k < 3) (ho : ti 1 = Int64.ofInt o) (hp : asI pc p 4)
    (h : L_X4_aim_3 post lt ti pc n (nI i) (nI (k + 1)) (vp_updL fr k (Int64.ofInt (lt (3 * i + k)).toInt)) (vp_updL al k (Int64.ofInt (p k - (lt (3 * i + k)).toInt * o)))) : L_X4_aim_3 post lt ti pc (n + 1) (nI i) (nI k) fr al := by
  have v : vp_in (nI k) 3 := vin k (by omega) (by omega) rfl
  refine ⟨fun q => ?_, fun _ => s_lampAt hi hk (fun x ex => ⟨v, fun g eg => ⟨vin k (by omega) (by omega) rfl, ⟨vin 1 (by omega) (by omega) rfl, ⟨v, fun g2 eg2 y ey => ?_⟩⟩⟩⟩)⟩
  · rw [n_3, nI_leI (by omega) (by omega)] at q; omega
  rw [o_i2l] at ex
  rw [nI_clamp (by omega), ex] at eg
  rw [nI_clamp (by omega), cl_1, ho, hp k (by omega), ex, o_mul, o_sub] at eg2
  rw [eg, eg2, ey, nI_1]; exact h
/-- where a light is -/
def ltF (lt : Nat → Int32) (i k : Nat) : Int := (lt (3 * i + k)).toInt
def ltD (lt : Nat → Int32) (i : Nat) (p : Nat → Int) (o : Int) (k : Nat) : Int := p k - (lt (3 * i + k)).toInt * o
theorem s_lampAim {post : (Nat → Int64) → (Nat → Int64) → Prop} {lt : Nat → Int32} {ti pc fr al : Nat → Int64} {p : Nat → Int} {o : Int} {i : Nat} (hi : i < 4) (ho : ti 1 = Int64.ofInt o) (hp : asI pc p 4)
    (h : ∀ fr' al', asI fr' (ltF lt i) 3 → asI al' (ltD lt i p o) 3 → post fr' al') : F_X4_aim (nI i) lt ti pc fr al post :=
  ⟨4, st_lampAim (k := 0) hi (by omega) ho hp (st_lampAim (k := 1) hi (by omega) ho hp (st_lampAim (k := 2) hi (by omega) ho hp ⟨fun _ => h _ _ (asI_s (F := ltF lt i) (asI_s (F := ltF lt i) (asI_s (F := ltF lt i) (asI_0 _ _)))) (asI_s (F := ltD lt i p o) (asI_s (F := ltD lt i p o) (asI_s (F := ltD lt i p o) (asI_0 _ _)))), fun q => absurd (by decide) q⟩))⟩
theorem s_blk2 {post : Int32 → Int64 → Int64 → Int64 → Int64 → Int64 → Int64 → Prop} {co no : Nat → Int32} {nt f : Nat} {F D : Nat → Int} {o : Int} {fr al ti : Nat → Int64} (S : SS nt co no F D) (hf : f < 128) (hF : asI fr F 3) (hD : asI al D 3) (ho : ti 1 = Int64.ofInt o) (hb : ∀ t, t < nt → r63 (fa co no F D t * o)) :
    ∀ (m k : Nat) (a b c d e g : Int64), k + m = nt → (∀ a b c d e g, post (blk (btw co no F D f o) m k) a b c d e g) → L_X11_blocker_2 post (nI nt) co no fr al (nI f) ti (m + 1) (nI k) a b c d e g
  | 0, k, a, b, c, d, e, g, hk, fin => by
    have hn := S.1
    have : k = nt := by omega
    subst this
    exact ⟨fun _ => fin _ _ _ _ _ _, fun q => absurd (by rw [nI_leI (by omega) (by omega)]; omega) q⟩
  | m + 1, k, a, b, c, d, e, g, hk, fin => by
    have hn := S.1
    obtain ⟨N, B⟩ := S.2.2 k (by omega)
    have next : ¬ btw co no F D f o k → ∀ a b c d e g (x : Int32), x = nI k + 1 → L_X11_blocker_2 post (nI nt) co no fr al (nI f) ti (m + 1) x a b c d e g := fun z a b c d e g x ex => by
      rw [blk_n z] at fin
      rw [ex, nI_1]; exact s_blk2 S hf hF hD ho hb m (k + 1) _ _ _ _ _ _ (by omega) fin
    refine ⟨fun q => ?_, fun _ => ⟨fun q => next (fun z => z.1 ?_) _ _ _ _ _ _, fun q => ?_⟩⟩
    · rw [nI_leI (by omega) (by omega)] at q; omega
    · rw [nI_eq (by omega) (by omega)] at q; exact q
    rw [nI_eq (by omega) (by omega)] at q
    refine s_strikes (by omega) hF hD S.2.1 N B (fun hit tu => ⟨fun q => absurd q (by decide), fun _ => ⟨vin 1 (by omega) (by omega) rfl, ?_⟩⟩) (fun nh a b c d e f => ⟨fun _ => next (fun z => nh z.2.1) _ _ _ _ _ _, fun q => absurd rfl q⟩)
    rw [cl_1, ho]; dsimp only
    rw [o_mul, show Int64.ofInt (sb (be no k D) (ab co no k F) * o) = Int64.ofInt (fa co no F D k * o) from rfl, lg_ge (hb k (by omega)) (bd_r63 (by decide) (sb_bd B.1))]
    refine ⟨fun q2 => next (fun z => ?_) _ _ _ _ _ _, fun q2 => ?_⟩
    · have := z.2.2; unfold ov at this; omega
    · rw [blk_p ⟨q, hit, by unfold ov; omega⟩] at fin; exact fin _ _ _ _ _ _
theorem s_blocker {post : Int32 → Int64 → Int64 → Int64 → Int64 → Int64 → Int64 → Prop} {co no : Nat → Int32} {nt f : Nat} {F D : Nat → Int} {o : Int} {fr al ti : Nat → Int64} {a b c d e g : Int64} (S : SS nt co no F D) (hf : f < 128) (hF : asI fr F 3) (hD : asI al D 3) (ho : ti 1 = Int64.ofInt o) (hb : ∀ t, t < nt → r63 (fa co no F D t * o))
    (fin : ∀ a b c d e g, post (blk (btw co no F D f o) nt 0) a b c d e g) : F_X11_blocker (nI nt) co no a b c d e g fr al (nI f) ti post :=
  ⟨nt + 1, s_blk2 S hf hF hD ho hb nt 0 _ _ _ _ _ _ (by omega) fin⟩
section
variable {post : Int32 → Int64 → Int64 → (Nat → Int64) → (Nat → Int64) → (Nat → Int64) → (Nat → Int64) → (Nat → Int64) → Prop} {co no eye lt : Nat → Int32} {mno d pc : Nat → Int64} {nt f i : Nat} {p : Nat → Int} {fA fB : Int64}
theorem st_bt16 {k6 : Int32 → Int32 → Int64 → Int64 → (Nat → Int64) → (Nat → Int64) → (Nat → Int64) → (Nat → Int64) → (Nat → Int64) → Prop} {tr fi : Int32} {n k : Nat} {l2 : Int32} {a b : Int64} {we fr al se : Nat → Int64} (hi : i < 4) (hk : k < 3) (hp : asI pc p 4)
    (h : L_X12_between_16 k6 post tr fi fA fB co mno eye lt d n (nI i) l2 (nI (k + 1)) a b we (vp_updL fr k (Int64.ofInt (ltF lt i k))) (vp_updL al k (Int64.ofInt (ltD lt i p (p 3) k))) se pc) : L_X12_between_16 k6 post tr fi fA fB co mno eye lt d (n + 1) (nI i) l2 (nI k) a b we fr al se pc := by
  have v : vp_in (nI k) 3 := vin k (by omega) (by omega) rfl
  refine ⟨fun q => ?_, fun _ => ⟨vin (3 * i + k) (by omega) (by omega) (n3k i k), v, fun g eg => ⟨vin k (by omega) (by omega) rfl, v, vin 3 (by omega) (by omega) rfl, v, fun g2 eg2 x ex => ?_⟩⟩⟩
  · rw [n_3, nI_leI (by omega) (by omega)] at q; omega
  rw [n3k, nI_clamp (by omega), nI_clamp (by omega), o_i2l] at eg
  rw [nI_clamp (by omega), cl_3, hp k (by omega), hp 3 (by omega), show g k = Int64.ofInt (lt (3 * i + k)).toInt by rw [eg, uL_s], o_mul, o_sub] at eg2
  rw [eg, eg2, ex, nI_1]; exact h
theorem s_bt6 (S : SS nt co no (ltF lt i) (ltD lt i p (p 3))) (hm : ∀ j, mno j = (no j).toInt64) (hf : f < 128) (hi : i < 4) (hp : asI pc p 4) (hb : ∀ t, t < nt → r63 (fa co no (ltF lt i) (ltD lt i p (p 3)) t * p 3)) :
    ∀ (m k : Nat) (a b : Int64) (we fr al se : Nat → Int64), k + m = nt → (∀ a b we fr al se, post (blk (btw co no (ltF lt i) (ltD lt i p (p 3)) f (p 3)) m k) a b we fr al se pc) → L_X12_between_6 post (nI nt) (nI f) fA fB co mno eye lt d (m + 1) (nI i) (nI k) a b we fr al se pc
  | 0, k, a, b, we, fr, al, se, hk, fin => by
    have hn := S.1
    have : k = nt := by omega
    subst this
    exact ⟨fun _ => fin _ _ _ _ _ _, fun q => absurd (by rw [nI_leI (by omega) (by omega)]; omega) q⟩
  | m + 1, k, a, b, we, fr, al, se, hk, fin => by
    have hn := S.1
    obtain ⟨N, B⟩ := S.2.2 k (by omega)
    have next : ¬ btw co no (ltF lt i) (ltD lt i p (p 3)) f (p 3) k → ∀ a b we fr al se (x : Int32), x = nI k + 1 → L_X12_between_6 post (nI nt) (nI f) fA fB co mno eye lt d (m + 1) (nI i) x a b we fr al se pc := fun z a b we fr al se x ex => by
      rw [blk_n z] at fin
      rw [ex, nI_1]; exact s_bt6 S hm hf hi hp hb m (k + 1) _ _ _ _ _ _ (by omega) fin
    refine ⟨fun q => ?_, fun _ => ⟨4, st_bt16 (k := 0) hi (by omega) hp (st_bt16 (k := 1) hi (by omega) hp (st_bt16 (k := 2) hi (by omega) hp ⟨fun _ => ⟨fun q => next (fun z => z.1 ?_) _ _ _ _ _ _, fun q => ?_⟩, fun q => absurd (by decide) q⟩))⟩⟩
    · rw [nI_leI (by omega) (by omega)] at q; omega
    · rw [nI_eq (by omega) (by omega)] at q; exact q
    rw [nI_eq (by omega) (by omega)] at q
    refine s_hits (by omega) hm (F := ltF lt i) (D := ltD lt i p (p 3)) (asI_s (F := ltF lt i) (asI_s (F := ltF lt i) (asI_s (F := ltF lt i) (asI_0 _ _)))) (asI_s (F := ltD lt i p (p 3)) (asI_s (F := ltD lt i p (p 3)) (asI_s (F := ltD lt i p (p 3)) (asI_0 _ _)))) B (fun hit we' se' _ => ⟨fun q => absurd q (by decide), fun _ => ?_⟩) (fun nh a b we' se' => ⟨fun _ => next (fun z => nh z.2.1) _ _ _ _ _ _, fun q => absurd rfl q⟩)
    have K : ∀ l3 l5 : Int64, l3 = Int64.ofInt (fa co no (ltF lt i) (ltD lt i p (p 3)) k) → l5 = Int64.ofInt (ov no (ltD lt i p (p 3)) k) → ∀ a b we fr al se, J_X12_between_129 (L_X12_between_6 post (nI nt) (nI f) fA fB co mno eye lt d (m + 1)) post (nI nt) (nI f) fA fB co mno eye lt d (nI i) (nI k) l3 l5 a b we fr al se pc := by
      intro l3 l5 e3 e5 a b we fr al se
      subst e3; subst e5
      refine ⟨vin 3 (by omega) (by omega) rfl, ?_⟩
      rw [cl_3, hp 3 (by omega), o_mul, lg_ge (b := ov no (ltD lt i p (p 3)) k) (hb k (by omega)) (bd_r63 (by decide) (sb_bd B.1))]
      refine ⟨fun q2 => next (fun z => ?_) _ _ _ _ _ _, fun q2 => ?_⟩
      · have := z.2.2; omega
      · rw [blk_p ⟨q, hit, by omega⟩] at fin; exact fin _ _ _ _ _ _
    have la := lg_ge0 B.2.1
    have lb := lg_ge0 B.1
    have sg : (be no k (ltD lt i p (p 3)) < 0 ↔ ab co no k (ltF lt i) < 0) := by
      have h1 := hit.1
      have h2 := hit.2.1
      unfold sb at h1 h2
      constructor
      · intro z; rw [if_pos z] at h2; omega
      · intro z
        by_cases c : be no k (ltD lt i p (p 3)) < 0
        · exact c
        · rw [if_neg c] at h2; omega
    rw [la]
    refine ⟨fun qa => ⟨fun qb => K _ _ ?_ ?_ _ _ _ _ _ _, fun qb => absurd (lb.mpr ?_) qb⟩, fun qa => ⟨fun qb => absurd (lb.mp qb) ?_, fun qb => K _ _ ?_ ?_ _ _ _ _ _ _⟩⟩
    · unfold fa sb; rw [if_neg (by omega)]
    · unfold ov sb; rw [if_neg (by omega)]
    · omega
    · omega
    · unfold fa sb; rw [if_pos (by omega), o_neg]
    · unfold ov sb; rw [if_pos (by omega), o_neg]
end
