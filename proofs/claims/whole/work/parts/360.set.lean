/-! PURE PART: set -/
def setForm (post : Int32 → Int32 → Int32 → (Nat → Int32) → (Nat → Int32) → Prop) (a b c mam mb : Int32) (mt mv : Nat → Int32) : Prop :=
  (¬ a = 0 → ((¬ a = 1 → ((¬ a = 2 → (vp_in b 128 ∧ (∀ x8 : Int32, x8 = (mt b.toNatClampNeg) → (vp_in b 128 ∧ (∀ g10 : Nat → Int32, g10 = upd mt (b.toNatClampNeg) c → post x8 mam mb g10 mv))))) ∧ (a = 2 → post mb mam c mt mv))) ∧ (a = 1 → post mam c mb mt mv))) ∧ (a = 0 → (vp_in b 16 ∧ (∀ x12 : Int32, x12 = (mv b.toNatClampNeg) → (vp_in b 16 ∧ (∀ g14 : Nat → Int32, g14 = upd mv (b.toNatClampNeg) c → post x12 mam mb mt g14)))))
theorem set_g {post : Int32 → Int32 → Int32 → (Nat → Int32) → (Nat → Int32) → Prop} {tri a b c s mam mb : Int32} {mt mv : Nat → Int32} (hc : 0 ≤ c.toInt ∧ c.toInt ≤ 255) (hs : ¬ s = 0) (h : setForm post a b c mam mb mt mv) : J_X12_set_52 post tri a b c s mam mb mt mv :=
  ⟨fun y => absurd y hs, fun _ => s_in32 (a := 0) (b := 255) rfl rfl (fun _ => ⟨fun _ => h, fun y => absurd y (by decide)⟩) (fun z => absurd hc z)⟩
theorem set_b {post : Int32 → Int32 → Int32 → (Nat → Int32) → (Nat → Int32) → Prop} {tri a b c s mam mb : Int32} {mt mv : Nat → Int32} (hc : s = 0 ∨ ¬ (0 ≤ c.toInt ∧ c.toInt ≤ 255)) (h : post (-1) mam mb mt mv) : J_X12_set_52 post tri a b c s mam mb mt mv :=
  ⟨fun _ => h, fun y => s_in32 (a := 0) (b := 255) rfl rfl (fun z => absurd z (hc.resolve_left y)) (fun _ => ⟨fun y => absurd rfl y, fun _ => h⟩)⟩
theorem op_set {a b c xb mb xam mam xn mn : Int32} {nt : Nat} {xc xno xt mc mt xp xs xv mp ms mv : Nat → Int32} {mno : Nat → Int64} (I : IM nt xn xc xno xt mn mc mno mt) (K : IL xp xs xv xam mp ms mv mam) (hb : mb = xb)
    {Q : Int32 → Int32 → (Nat → Int32) → Int32 → (Nat → Int32) → Int32 → Int32 → Int32 → (Nat → Int32) → (Nat → Int32) → Prop}
    (k : ∀ (r xb' mb' xam' mam' : Int32) (xt' mt' xv' mv' : Nat → Int32), IM nt xn xc xno xt' mn mc mno mt' → IL xp xs xv' xam' mp ms mv' mam' → mb' = xb' → Q r xb' xt' xam' xv' r mam' mb' mt' mv') :
    F_X11_set a b c xb xn xt xam xv (fun r v1 v2 v3 v4 => F_X12_set a b c mn mam mb mt mv (fun r' w1 w2 w3 w4 => Q r v1 v2 v3 v4 r' w1 w2 w3 w4)) := by
  have I0 := I
  have K0 := K
  have hb0 := hb
  subst hb
  obtain ⟨hnt, rfl, rfl, rfl, rfl, hcb, hmn, hcr⟩ := I
  obtain ⟨rfl, rfl, rfl, rfl, hp⟩ := K
  have same := k (-1) _ _ _ _ _ _ _ _ I0 K0 hb0
  have e0 : (0 : Int32).toInt = 0 := rfl
  have e16 : (16 : Int32).toInt = 16 := rfl
  -- the reference's four ways to its test
  have way : ∀ post, (a = 0 → (0 ≤ b.toInt ∧ b.toInt ≤ 15) → J_X12_set_52 post (nI nt) a b c 1 mam mb mt mv) → (a = 0 → ¬ (0 ≤ b.toInt ∧ b.toInt ≤ 15) → J_X12_set_52 post (nI nt) a b c 0 mam mb mt mv) → (a = 3 → ∀ t, t < nt → b = nI t → J_X12_set_52 post (nI nt) a b c 1 mam mb mt mv) → (a = 3 → ¬ (0 ≤ b.toInt ∧ b.toInt ≤ (nt : Int) - 1) → J_X12_set_52 post (nI nt) a b c 0 mam mb mt mv)
      → (a = 1 ∨ a = 2 → J_X12_set_52 post (nI nt) a b c 1 mam mb mt mv) → (¬ a = 0 → ¬ a = 1 → ¬ a = 2 → ¬ a = 3 → J_X12_set_52 post (nI nt) a b c 0 mam mb mt mv) → F_X12_set a b c (nI nt) mam mb mt mv post := fun post h1 h2 h3 h4 h5 h6 =>
    ⟨fun a0 => ⟨fun a3 => ⟨fun a1 => h5 (Or.inl a1), fun a1 => ⟨fun a2 => h6 a0 a1 a2 a3, fun a2 => h5 (Or.inr a2)⟩⟩, fun a3 => s_inT hnt (h3 a3) (h4 a3)⟩, fun a0 => s_in32 (a := 0) (b := 15) rfl rfl (h1 a0) (h2 a0)⟩
  refine s_isByte (fun hc => ⟨fun _ => ⟨fun q => ?_, fun q => ?_, fun q => ?_, fun q => ?_, fun q => ?_⟩, fun y => absurd y (by decide)⟩) (fun hc => ⟨fun y => absurd rfl y, fun _ => ?_⟩)
  · -- 0
    obtain rfl : a = 0 := Int32.toInt_inj.mp q
    have out : ¬ (0 ≤ b.toInt ∧ b.toInt ≤ 15) → F_X12_set 0 b c (nI nt) mam mb mt mv (fun r' w1 w2 w3 w4 => Q (-1) mb mt mam mv r' w1 w2 w3 w4) := fun z =>
      way _ (fun _ y => absurd y z) (fun _ _ => set_b (Or.inl rfl) same) (fun y => absurd y (by decide)) (fun y => absurd y (by decide)) (fun y => absurd y (by decide)) (fun y => absurd rfl y)
    refine ⟨fun y => out (fun z => ?_), fun y0 => ⟨fun y => out (fun z => ?_), fun y1 => ?_⟩⟩
    · rw [i32_lt, e0] at y; omega
    · rw [i32_le, e16] at y; omega
    rw [i32_lt, e0] at y0
    rw [i32_le, e16] at y1
    have hb2 : 0 ≤ b.toInt ∧ b.toInt ≤ 15 := ⟨by omega, by omega⟩
    obtain ⟨i, hi, rfl⟩ := nI_get (x := b) (N := 16) hb2.1 (by omega) (by omega)
    have vi : vp_in (nI i) 16 := vin i hi (by omega) rfl
    refine ⟨vi, fun x2 ex2 => ⟨vi, fun g4 eg4 => way _ (fun _ _ => set_g hc (by decide) ⟨fun y => absurd rfl y, fun _ => ⟨vi, fun x3 ex3 => ⟨vi, fun g5 eg5 => ?_⟩⟩⟩) (fun _ z => absurd hb2 z) (fun y => absurd y (by decide)) (fun y => absurd y (by decide)) (fun y => absurd y (by decide)) (fun y => absurd rfl y)⟩⟩
    have e1 : x3 = x2 := by rw [ex3, ex2]
    have e2 : g5 = g4 := by rw [eg5, eg4]
    subst e1; subst e2
    exact k _ _ _ _ _ _ _ _ _ I0 ⟨rfl, rfl, rfl, rfl, hp⟩ rfl
  · -- 1
    obtain rfl : a = 1 := Int32.toInt_inj.mp q
    exact way _ (fun y => absurd y (by decide)) (fun y => absurd y (by decide)) (fun y => absurd y (by decide)) (fun y => absurd y (by decide)) (fun _ => set_g hc (by decide) ⟨fun _ => ⟨fun y => absurd rfl y, fun _ => k _ _ _ _ _ _ _ _ _ I0 ⟨rfl, rfl, rfl, rfl, hp⟩ rfl⟩, fun y => absurd y (by decide)⟩) (fun _ y => absurd rfl y)
  · -- 2
    obtain rfl : a = 2 := Int32.toInt_inj.mp q
    exact way _ (fun y => absurd y (by decide)) (fun y => absurd y (by decide)) (fun y => absurd y (by decide)) (fun y => absurd y (by decide)) (fun _ => set_g hc (by decide) ⟨fun _ => ⟨fun _ => ⟨fun y => absurd rfl y, fun _ => k _ _ _ _ _ _ _ _ _ I0 K0 rfl⟩, fun y => absurd y (by decide)⟩, fun y => absurd y (by decide)⟩) (fun _ _ y => absurd rfl y)
  · -- 3
    obtain rfl : a = 3 := Int32.toInt_inj.mp q
    refine s_has hnt (fun t ht et => ⟨fun y => absurd y (by decide), fun _ => ?_⟩) (fun z => ⟨fun _ => ?_, fun y => absurd rfl y⟩)
    · subst et
      have vi : vp_in (nI t) 128 := vin t (by omega) (by omega) rfl
      refine ⟨vi, fun x2 ex2 => ⟨vi, fun g4 eg4 => way _ (fun y => absurd y (by decide)) (fun y => absurd y (by decide)) (fun _ _ _ _ => set_g hc (by decide) ⟨fun _ => ⟨fun _ => ⟨fun _ => ⟨vi, fun x3 ex3 => ⟨vi, fun g5 eg5 => ?_⟩⟩, fun y => absurd y (by decide)⟩, fun y => absurd y (by decide)⟩, fun y => absurd y (by decide)⟩) (fun _ z => absurd z (nI_out ht hnt)) (fun y => absurd y (by decide)) (fun _ _ _ y => absurd rfl y)⟩⟩
      have e1 : x3 = x2 := by rw [ex3, ex2]
      have e2 : g5 = g4 := by rw [eg5, eg4]
      subst e1; subst e2
      exact k _ _ _ _ _ _ _ _ _ ⟨hnt, rfl, rfl, rfl, rfl, hcb, hmn, hcr⟩ K0 rfl
    · exact way _ (fun y => absurd y (by decide)) (fun y => absurd y (by decide)) (fun _ t ht et => absurd z (by rw [et]; exact nI_out ht hnt)) (fun _ _ => set_b (Or.inl rfl) same) (fun y => absurd y (by decide)) (fun _ _ _ y => absurd rfl y)
  · -- others
    have n : ∀ v : Int, 0 ≤ v → v ≤ 3 → ¬ a.toInt = v := fun v h1 h2 h3 => by omega
    exact way _ (fun y => absurd (by rw [y]; rfl) (n 0 (by omega) (by omega))) (fun y => absurd (by rw [y]; rfl) (n 0 (by omega) (by omega))) (fun y => absurd (by rw [y]; rfl) (n 3 (by omega) (by omega))) (fun y => absurd (by rw [y]; rfl) (n 3 (by omega) (by omega))) (fun y => y.elim (fun y => absurd (by rw [y]; rfl) (n 1 (by omega) (by omega))) (fun y => absurd (by rw [y]; rfl) (n 2 (by omega) (by omega)))) (fun _ _ _ _ => set_b (Or.inl rfl) same)
  · exact way _ (fun _ _ => set_b (Or.inr hc) same) (fun _ _ => set_b (Or.inr hc) same) (fun _ _ _ _ => set_b (Or.inr hc) same) (fun _ _ => set_b (Or.inr hc) same) (fun _ => set_b (Or.inr hc) same) (fun _ _ _ _ => set_b (Or.inr hc) same)
