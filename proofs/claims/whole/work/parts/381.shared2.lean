/-! PURE PART: shared, end; count, crossing -/
/-- the three runs, one behind another -/
def isRun3 (co : Nat → Int32) (i j : Nat) (R : Int32 → Prop) : Prop := isRun co i j 0 0 (fun v => isRun co i j 1 v (fun v2 => isRun co i j 2 v2 R))
theorem isRun_ex {co : Nat → Int32} {i j a : Nat} {n : Int32} : ∃ r, ∀ R : Int32 → Prop, R r → isRun co i j a n R := by
  by_cases z0 : smp co i j a 0 <;> by_cases z1 : smp co i j a 1 <;> by_cases z2 : smp co i j a 2
  all_goals
    apply Exists.intro
    intro R h
    refine ⟨fun y0 => ⟨fun y1 => ⟨fun y2 => ?_, fun y2 => ?_⟩, fun y1 => ⟨fun y2 => ?_, fun y2 => ?_⟩⟩, fun y0 => ⟨fun y1 => ⟨fun y2 => ?_, fun y2 => ?_⟩, fun y1 => ⟨fun y2 => ?_, fun y2 => ?_⟩⟩⟩
    all_goals first | exact absurd y0 z0 | exact absurd z0 y0 | exact absurd y1 z1 | exact absurd z1 y1 | exact absurd y2 z2 | exact absurd z2 y2 | exact h
theorem s_cc {co : Nat → Int32} {i j : Nat} (hi : i < 128) (hj : j < 128) : ∃ r, (∀ post : Int32 → Prop, post r → F_X5_commonCorners (nI i) (nI j) co post) ∧ ∀ (tri : Int32) (post : Int32 → Prop), post r → ∃ n0, L_X12_shared_44 post tri co n0 (nI i) (nI j) 0 0 := by
  obtain ⟨r0, h0⟩ := isRun_ex (co := co) (i := i) (j := j) (a := 0) (n := 0)
  obtain ⟨r1, h1⟩ := isRun_ex (co := co) (i := i) (j := j) (a := 1) (n := r0)
  obtain ⟨r2, h2⟩ := isRun_ex (co := co) (i := i) (j := j) (a := 2) (n := r1)
  refine ⟨r2, fun post hp => ⟨4, ?_⟩, fun tri post hp => ⟨4, ?_⟩⟩
  · have st : ∀ (n a : Nat) (v w : Int32), a < 3 → (∀ R : Int32 → Prop, R w → isRun co i j a v R) → L_X5_commonCorners_5 post co n (nI i) (nI j) w (nI (a + 1)) → L_X5_commonCorners_5 post co (n + 1) (nI i) (nI j) v (nI a) := fun n a v w ha hr h =>
      ⟨fun q => absurd q (by rw [n_3, nI_leI (by omega) (by omega)]; omega), fun _ => ⟨4, s_cc14 hi hj ha (hr _ h)⟩⟩
    exact st 3 0 0 r0 (by omega) h0 (st 2 1 r0 r1 (by omega) h1 (st 1 2 r1 r2 (by omega) h2 ⟨fun _ => hp, fun q => absurd (by decide) q⟩))
  · have st : ∀ (n a : Nat) (v w : Int32), a < 3 → (∀ R : Int32 → Prop, R w → isRun co i j a v R) → L_X12_shared_44 post tri co n (nI i) (nI j) w (nI (a + 1)) → L_X12_shared_44 post tri co (n + 1) (nI i) (nI j) v (nI a) := fun n a v w ha hr h =>
      ⟨fun q => absurd q (by rw [n_3, nI_leI (by omega) (by omega)]; omega), fun _ => ⟨4, s_sh53 hi hj ha (hr _ h)⟩⟩
    exact st 3 0 0 r0 (by omega) h0 (st 2 1 r0 r1 (by omega) h1 (st 1 2 r1 r2 (by omega) h2 ⟨fun _ => hp, fun q => absurd (by decide) q⟩))
theorem op_shared {a b xn mn : Int32} {nt : Nat} {xc xno xt mc mt : Nat → Int32} {mno : Nat → Int64} (I : IM nt xn xc xno xt mn mc mno mt) {Q : Int32 → Int32 → Prop} (k : ∀ r, Q r r) :
    F_X11_shared a b xn xc (fun r => F_X12_shared a b mn mc (fun r' => Q r r')) := by
  obtain ⟨hnt, rfl, rfl, rfl, rfl, hcb, hmn, hcr⟩ := I
  refine s_has hnt (fun t ht et => ⟨fun y => absurd y (by decide), fun _ => ?_⟩) (fun z => ⟨fun _ => ?_, fun y => absurd rfl y⟩)
  rotate_left
  · exact s_inT hnt (fun t ht et => absurd z (by rw [et]; exact nI_out ht hnt)) (fun _ => ⟨fun _ => k _, fun y => absurd rfl y⟩)
  have m1 : ∀ {post : Int32 → Prop}, post 1 → F_X12_in a.toInt64 0 ((nI nt - 1).toInt64) post := fun h => s_inT hnt (fun _ _ _ => h) (fun z => absurd z (by rw [et]; exact nI_out ht hnt))
  refine s_has hnt (fun u hu eu => ⟨fun y => absurd y (by decide), fun _ => ?_⟩) (fun z => ⟨fun _ => ?_, fun y => absurd rfl y⟩)
  rotate_left
  · exact m1 ⟨fun y => absurd y (by decide), fun _ => s_inT hnt (fun t ht et => absurd z (by rw [et]; exact nI_out ht hnt)) (fun _ => ⟨fun _ => k _, fun y => absurd rfl y⟩)⟩
  have m2 : ∀ {post : Int32 → Prop}, post 1 → F_X12_in b.toInt64 0 ((nI nt - 1).toInt64) post := fun h => s_inT hnt (fun _ _ _ => h) (fun z => absurd z (by rw [eu]; exact nI_out hu hnt))
  obtain ⟨r, c1, c2⟩ := s_cc (co := mc) (i := t) (j := u) (by omega) (by omega)
  refine ⟨fun ne => ?_, fun eq => m1 ⟨fun y => absurd y (by decide), fun _ => m2 ⟨fun y => absurd y (by decide), fun _ => ⟨fun c => absurd eq c, fun _ => k _⟩⟩⟩⟩
  have e : F_X5_commonCorners a b mc (fun r6 => F_X12_shared a b (nI nt) mc (fun r' => Q r6 r')) := by
    rw [et, eu]
    refine c1 _ ?_
    rw [← et, ← eu]
    refine m1 ⟨fun y => absurd y (by decide), fun _ => m2 ⟨fun y => absurd y (by decide), fun _ => ⟨fun _ => ?_, fun c => absurd c ne⟩⟩⟩
    rw [et, eu]; exact c2 _ _ (k r)
  exact e
/-- the crossings: both sides hold the same -/
def IX (xm : Int32) (xt : Nat → Int32) (xf xo : Nat → Int64) (mm : Int32) (mt : Nat → Int32) (ma mb : Nat → Int64) : Prop := ∃ n : Nat, n ≤ 128 ∧ xm = nI n ∧ mm = nI n ∧ mt = xt ∧ ma = xf ∧ mb = xo
theorem s_cHas {p : Int32} {nt : Nat} {post : Int32 → Prop} (hn : nt ≤ 128) (h1 : ∀ t, t < nt → p = nI t → post 1) (h0 : ¬ (0 ≤ p.toInt ∧ p.toInt ≤ (nt : Int) - 1) → post 0) : F_X2_has p (nI nt) post := s_has (p := p) hn h1 h0
theorem op_crossing {a xm mm : Int32} {xt mt : Nat → Int32} {xf xo ma mb : Nat → Int64} (I : IX xm xt xf xo mm mt ma mb) {Q : Int32 → Int32 → Prop} (k : ∀ r, Q r r) :
    F_X11_crossing a xm xt (fun r => F_X12_crossing a mm mt (fun r' => Q r r')) := by
  obtain ⟨n, hn, rfl, rfl, rfl, rfl, rfl⟩ := I
  refine s_cHas hn (fun t ht et => ⟨fun y => absurd y (by decide), fun _ => ?_⟩) (fun z => ⟨fun _ => ?_, fun y => absurd rfl y⟩)
  · refine ⟨vin t (by omega) (by omega) et, ?_⟩
    exact s_inT hn (fun _ _ _ => ⟨fun y => absurd y (by decide), fun _ => ⟨vin t (by omega) (by omega) et, k _⟩⟩) (fun z => absurd z (by rw [et]; exact nI_out ht hn))
  · exact s_inT hn (fun t ht et => absurd z (by rw [et]; exact nI_out ht hn)) (fun _ => ⟨fun _ => k _, fun y => absurd rfl y⟩)
