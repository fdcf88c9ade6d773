/-! PURE PART: shared -/
def smp (co : Nat → Int32) (i j a b : Nat) : Prop := co (9 * i + 3 * a + 0) = co (9 * j + 3 * b + 0) ∧ co (9 * i + 3 * a + 1) = co (9 * j + 3 * b + 1) ∧ co (9 * i + 3 * a + 2) = co (9 * j + 3 * b + 2)
theorem s_isSamePlace {co : Nat → Int32} {i j a b : Nat} {post : Int32 → Prop} (hi : i < 128) (hj : j < 128) (ha : a < 3) (hb : b < 3) (h1 : smp co i j a b → post 1) (h0 : ¬ smp co i j a b → post 0) : F_X5_isSamePlace (nI i) (nI a) (nI j) (nI b) co post := by
  refine s_at (k := 0) hi ha (by omega) (s_at (k := 0) hj hb (by omega) ⟨fun q => h0 (fun z => q z.1), fun q0 => ?_⟩)
  refine s_at (k := 1) hi ha (by omega) (s_at (k := 1) hj hb (by omega) ⟨fun q => h0 (fun z => q z.2.1), fun q1 => ?_⟩)
  exact s_at (k := 2) hi ha (by omega) (s_at (k := 2) hj hb (by omega) ⟨fun q => h0 (fun z => q z.2.2), fun q2 => h1 ⟨q0, q1, q2⟩⟩)
/-- how many of three corners lie where corner a lies, beside n -/
def isRun (co : Nat → Int32) (i j a : Nat) (n : Int32) (R : Int32 → Prop) : Prop :=
  (smp co i j a 0 → (smp co i j a 1 → (smp co i j a 2 → R (n + 1 + 1 + 1)) ∧ (¬ smp co i j a 2 → R (n + 1 + 1))) ∧ (¬ smp co i j a 1 → (smp co i j a 2 → R (n + 1 + 1)) ∧ (¬ smp co i j a 2 → R (n + 1)))) ∧
  (¬ smp co i j a 0 → (smp co i j a 1 → (smp co i j a 2 → R (n + 1 + 1)) ∧ (¬ smp co i j a 2 → R (n + 1))) ∧ (¬ smp co i j a 1 → (smp co i j a 2 → R (n + 1)) ∧ (¬ smp co i j a 2 → R n)))
theorem st_cc {k5 : Int32 → Int32 → Int32 → Int32 → Prop} {co : Nat → Int32} {i j a b n : Nat} {v : Int32} (hi : i < 128) (hj : j < 128) (ha : a < 3) (hb : b < 3) (h1 : smp co i j a b → L_X5_commonCorners_14 k5 co n (nI i) (nI j) (v + 1) (nI a) (nI (b + 1))) (h0 : ¬ smp co i j a b → L_X5_commonCorners_14 k5 co n (nI i) (nI j) v (nI a) (nI (b + 1))) :
    L_X5_commonCorners_14 k5 co (n + 1) (nI i) (nI j) v (nI a) (nI b) := by
  refine ⟨fun q => ?_, fun _ => s_isSamePlace hi hj ha hb (fun z => ⟨fun q => absurd q (by decide), fun _ x ex y ey => by rw [ex, ey, nI_1]; exact h1 z⟩) (fun z => ⟨fun _ y ey => by rw [ey, nI_1]; exact h0 z, fun q => absurd rfl q⟩)⟩
  rw [n_3, nI_leI (by omega) (by omega)] at q; omega
theorem s_cc14 {k5 : Int32 → Int32 → Int32 → Int32 → Prop} {co : Nat → Int32} {i j a : Nat} {v : Int32} (hi : i < 128) (hj : j < 128) (ha : a < 3) (h : isRun co i j a v (fun r => k5 (nI i) (nI j) r (nI (a + 1)))) : L_X5_commonCorners_14 k5 co 4 (nI i) (nI j) v (nI a) 0 := by
  have fin : ∀ r, k5 (nI i) (nI j) r (nI (a + 1)) → L_X5_commonCorners_14 k5 co 1 (nI i) (nI j) r (nI a) (nI 3) := fun r hr => ⟨fun _ x ex => by rw [ex, nI_1]; exact hr, fun q => absurd (by decide) q⟩
  refine st_cc (b := 0) hi hj ha (by omega) (fun z0 => ?_) (fun z0 => ?_)
  · refine st_cc (b := 1) hi hj ha (by omega) (fun z1 => ?_) (fun z1 => ?_)
    · exact st_cc (b := 2) hi hj ha (by omega) (fun z2 => fin _ (((h.1 z0).1 z1).1 z2)) (fun z2 => fin _ (((h.1 z0).1 z1).2 z2))
    · exact st_cc (b := 2) hi hj ha (by omega) (fun z2 => fin _ (((h.1 z0).2 z1).1 z2)) (fun z2 => fin _ (((h.1 z0).2 z1).2 z2))
  · refine st_cc (b := 1) hi hj ha (by omega) (fun z1 => ?_) (fun z1 => ?_)
    · exact st_cc (b := 2) hi hj ha (by omega) (fun z2 => fin _ (((h.2 z0).1 z1).1 z2)) (fun z2 => fin _ (((h.2 z0).1 z1).2 z2))
    · exact st_cc (b := 2) hi hj ha (by omega) (fun z2 => fin _ (((h.2 z0).2 z1).1 z2)) (fun z2 => fin _ (((h.2 z0).2 z1).2 z2))
theorem st_sh65 {k53 : Int32 → Int32 → Int32 → Int32 → Int32 → Prop} {tri : Int32} {co : Nat → Int32} {i j a b n k : Nat} {v s : Int32} (hi : i < 128) (hj : j < 128) (ha : a < 3) (hb : b < 3) (hk : k < 3) (hs : s = 0 ∨ s = 1)
    (h1 : s = 1 → co (9 * i + 3 * a + k) = co (9 * j + 3 * b + k) → L_X12_shared_65 k53 tri co n (nI i) (nI j) v (nI a) (nI b) 1 (nI (k + 1))) (h0 : ¬ (s = 1 ∧ co (9 * i + 3 * a + k) = co (9 * j + 3 * b + k)) → L_X12_shared_65 k53 tri co n (nI i) (nI j) v (nI a) (nI b) 0 (nI (k + 1))) :
    L_X12_shared_65 k53 tri co (n + 1) (nI i) (nI j) v (nI a) (nI b) s (nI k) := by
  have e : ∀ t c : Nat, ((9 : Int32) * nI t + 3 * nI c) + nI k = nI (9 * t + 3 * c + k) := fun t c => by rw [n_3, n_9, pk_mul, pk_mul, nI_add, nI_add]
  refine ⟨fun q => ?_, fun _ => ?_⟩
  · rw [n_3, nI_leI (by omega) (by omega)] at q; omega
  rcases hs with rfl | rfl
  · exact ⟨fun _ x ex => by rw [ex, nI_1]; exact h0 (fun z => absurd z.1 (by decide)), fun q => absurd rfl q⟩
  · refine ⟨fun q => absurd q (by decide), fun _ => ⟨vin _ (by omega) (by omega) (e i a), vin _ (by omega) (by omega) (e j b), ?_⟩⟩
    rw [e, e, nI_clamp (by omega), nI_clamp (by omega)]
    exact ⟨fun q x ex => by rw [ex, nI_1]; exact h0 (fun z => q z.2), fun q x ex => by rw [ex, nI_1]; exact h1 rfl q⟩
theorem s_sh65 {k53 : Int32 → Int32 → Int32 → Int32 → Int32 → Prop} {tri : Int32} {co : Nat → Int32} {i j a b : Nat} {v : Int32} (hi : i < 128) (hj : j < 128) (ha : a < 3) (hb : b < 3)
    (h1 : smp co i j a b → k53 (nI i) (nI j) (v + 1) (nI a) (nI (b + 1))) (h0 : ¬ smp co i j a b → k53 (nI i) (nI j) v (nI a) (nI (b + 1))) : L_X12_shared_65 k53 tri co 4 (nI i) (nI j) v (nI a) (nI b) 1 0 := by
  have f1 : smp co i j a b → L_X12_shared_65 k53 tri co 1 (nI i) (nI j) v (nI a) (nI b) 1 (nI 3) := fun z => ⟨fun _ => ⟨fun q => absurd q (by decide), fun _ x ex y ey => by rw [ex, ey, nI_1]; exact h1 z⟩, fun q => absurd (by decide) q⟩
  have f0 : ¬ smp co i j a b → L_X12_shared_65 k53 tri co 1 (nI i) (nI j) v (nI a) (nI b) 0 (nI 3) := fun z => ⟨fun _ => ⟨fun _ x ex y ey => by rw [ex, ey, nI_1, Int32.add_zero]; exact h0 z, fun q => absurd rfl q⟩, fun q => absurd (by decide) q⟩
  have g0 : ¬ smp co i j a b → L_X12_shared_65 k53 tri co 2 (nI i) (nI j) v (nI a) (nI b) 0 (nI 2) := fun z => st_sh65 (k := 2) hi hj ha hb (by omega) (Or.inl rfl) (fun q => absurd q (by decide)) (fun _ => f0 z)
  have g1 : ¬ smp co i j a b → L_X12_shared_65 k53 tri co 3 (nI i) (nI j) v (nI a) (nI b) 0 (nI 1) := fun z => st_sh65 (k := 1) hi hj ha hb (by omega) (Or.inl rfl) (fun q => absurd q (by decide)) (fun _ => g0 z)
  refine st_sh65 (k := 0) hi hj ha hb (by omega) (Or.inr rfl) (fun _ q0 => ?_) (fun q => g1 (fun z => q ⟨rfl, z.1⟩))
  refine st_sh65 (k := 1) hi hj ha hb (by omega) (Or.inr rfl) (fun _ q1 => ?_) (fun q => g0 (fun z => q ⟨rfl, z.2.1⟩))
  exact st_sh65 (k := 2) hi hj ha hb (by omega) (Or.inr rfl) (fun _ q2 => f1 ⟨q0, q1, q2⟩) (fun q => f0 (fun z => q ⟨rfl, z.2.2⟩))
theorem s_sh53 {k44 : Int32 → Int32 → Int32 → Int32 → Prop} {tri : Int32} {co : Nat → Int32} {i j a : Nat} {v : Int32} (hi : i < 128) (hj : j < 128) (ha : a < 3) (h : isRun co i j a v (fun r => k44 (nI i) (nI j) r (nI (a + 1)))) : L_X12_shared_53 k44 tri co 4 (nI i) (nI j) v (nI a) 0 := by
  have fin : ∀ r, k44 (nI i) (nI j) r (nI (a + 1)) → L_X12_shared_53 k44 tri co 1 (nI i) (nI j) r (nI a) (nI 3) := fun r hr => ⟨fun _ x ex => by rw [ex, nI_1]; exact hr, fun q => absurd (by decide) q⟩
  have st : ∀ (n b : Nat) (v : Int32), b < 3 → (smp co i j a b → L_X12_shared_53 k44 tri co n (nI i) (nI j) (v + 1) (nI a) (nI (b + 1))) → (¬ smp co i j a b → L_X12_shared_53 k44 tri co n (nI i) (nI j) v (nI a) (nI (b + 1))) → L_X12_shared_53 k44 tri co (n + 1) (nI i) (nI j) v (nI a) (nI b) := fun n b v hb h1 h0 =>
    ⟨fun q => absurd q (by rw [n_3, nI_leI (by omega) (by omega)]; omega), fun _ => ⟨4, s_sh65 hi hj ha hb h1 h0⟩⟩
  refine st 3 0 v (by omega) (fun z0 => ?_) (fun z0 => ?_)
  · refine st 2 1 _ (by omega) (fun z1 => ?_) (fun z1 => ?_)
    · exact st 1 2 _ (by omega) (fun z2 => fin _ (((h.1 z0).1 z1).1 z2)) (fun z2 => fin _ (((h.1 z0).1 z1).2 z2))
    · exact st 1 2 _ (by omega) (fun z2 => fin _ (((h.1 z0).2 z1).1 z2)) (fun z2 => fin _ (((h.1 z0).2 z1).2 z2))
  · refine st 2 1 _ (by omega) (fun z1 => ?_) (fun z1 => ?_)
    · exact st 1 2 _ (by omega) (fun z2 => fin _ (((h.2 z0).1 z1).1 z2)) (fun z2 => fin _ (((h.2 z0).1 z1).2 z2))
    · exact st 1 2 _ (by omega) (fun z2 => fin _ (((h.2 z0).2 z1).1 z2)) (fun z2 => fin _ (((h.2 z0).2 z1).2 z2))
