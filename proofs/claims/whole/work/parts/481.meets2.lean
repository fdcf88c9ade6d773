/-! PURE PART: op_meets -/
section
variable {mv : Prop} {xa : Nat → Int32} {rv : Nat → Int32}
/-- the nodes that are met, of the first ones -/
def mP (mv : Prop) (xa rv : Nat → Int32) : Nat → Nat → Prop
  | 0, _ => False
  | i + 1, j => if j = i then mv ∧ (xa i < 0 ∨ mP mv xa rv i (ot xa i)) ∧ rv i = 1 else mP mv xa rv i j
def mQ (mv : Prop) (xa rv : Nat → Int32) (j : Nat) : Prop := mP mv xa rv (j + 1) j
theorem mP_q : ∀ (i j : Nat), j < i → (mP mv xa rv i j ↔ mQ mv xa rv j)
  | 0, j, h => absurd h (by omega)
  | i + 1, j, h => by
    by_cases e : j = i
    · subst e; exact Iff.rfl
    · show (if j = i then _ else mP mv xa rv i j) ↔ _
      rw [if_neg e]; exact mP_q i j (by omega)
theorem mQ_e (j : Nat) : mQ mv xa rv j ↔ (mv ∧ (xa j < 0 ∨ mP mv xa rv j (ot xa j)) ∧ rv j = 1) := by
  show (if j = j then _ else _) ↔ _
  rw [if_pos rfl]
/-- every node's parent comes before it -/
def parOK (xa : Nat → Int32) (nn : Nat) : Prop := ∀ j, j < nn → xa j = -2 ∨ ∃ g, g < j ∧ xa j = nI g
noncomputable def cn1 (mv : Prop) (xa rv : Nat → Int32) : Nat → Int32
  | 0 => 0
  | i + 1 => cn1 mv xa rv i + fl (mQ mv xa rv i)
noncomputable def cn2 (mv : Prop) (xa rv xl xm : Nat → Int32) : Nat → Int32
  | 0 => 0
  | i + 1 => @ite _ (mQ mv xa rv i ∧ ¬ 0 ≤ xl i) (Classical.propDecidable _) (cn2 mv xa rv xl xm i + xm i) (cn2 mv xa rv xl xm i)
theorem cn2_p {xl xm : Nat → Int32} {i : Nat} (h : mQ mv xa rv i ∧ ¬ 0 ≤ xl i) : cn2 mv xa rv xl xm (i + 1) = cn2 mv xa rv xl xm i + xm i := if_pos h
theorem cn2_n {xl xm : Nat → Int32} {i : Nat} (h : ¬ (mQ mv xa rv i ∧ ¬ 0 ≤ xl i)) : cn2 mv xa rv xl xm (i + 1) = cn2 mv xa rv xl xm i := if_neg h
theorem nar_fl {P : Prop} : vp_nar .boolean (fl P) = fl P := by
  by_cases c : P
  · rw [fl_1 c]; exact nar1
  · rw [fl_0 c]; exact nar0
-- the class
theorem s_fw41 {post : (Nat → Int32) → Prop} {b : Nat → Int32} {fr al : Nat → Int64} {nn : Nat} (hnn : nn ≤ 255) (hp : parOK xa nn) (hr : ∀ j, j < nn → (rv j = 0 ∨ rv j = 1) ∧ ∀ post : Int32 → Prop, post (rv j) → F_X9_reachesBox (nI j) b fr al post) (k : ∀ M, (∀ j, j < nn → M j = fl (mQ mv xa rv j)) → post M) :
    ∀ (w i : Nat) (M : Nat → Int32), i + w = nn → (∀ j, j < i → M j = fl (mQ mv xa rv j)) → L_X9_follow_41 post (nI nn) xa b fr al (w + 1) (fl mv) (nI i) M
  | 0, i, M, hi, h => by
    have : i = nn := by omega
    subst this
    exact ⟨fun _ => k M h, fun q => absurd (by rw [nI_leI (by omega) (by omega)]; omega) q⟩
  | w + 1, i, M, hi, h => by
    have vi : vp_in (nI i) 255 := vin i (by omega) (by omega) rfl
    have ci : (nI i).toNatClampNeg = i := nI_clamp (by omega)
    obtain ⟨r01, hrp⟩ := hr i (by omega)
    have J99 : ∀ s : Int32, s = fl (mQ mv xa rv i) → J_X9_follow_99 (L_X9_follow_41 post (nI nn) xa b fr al (w + 1)) (nI nn) xa b fr al (fl mv) (nI i) (nI i) s M := by
      intro s es
      refine ⟨vi, fun g eg x ex => ?_⟩
      rw [ci, es, nar_fl] at eg
      rw [ex, nI_1]
      refine s_fw41 hnn hp hr k w (i + 1) g (by omega) (fun j hj => ?_)
      rw [eg]; unfold upd
      by_cases e : j = i
      · rw [if_pos e, e]
      · rw [if_neg e]; exact h j (by omega)
    have J73 : ∀ s : Int32, s = fl (mv ∧ (xa i < 0 ∨ mP mv xa rv i (ot xa i))) → J_X9_follow_73 (L_X9_follow_41 post (nI nn) xa b fr al (w + 1)) (nI nn) xa b fr al (fl mv) (nI i) s M := by
      intro s es
      refine ⟨fun q => J99 0 (fl_0 (fun z => ?_)).symm, fun q => hrp _ ⟨fun q2 => J99 0 (fl_0 (fun z => ?_)).symm, fun q2 => J99 1 (fl_1 ?_).symm⟩⟩
      · rw [es, fl_z] at q; rw [mQ_e] at z; exact q ⟨z.1, z.2.1⟩
      · rw [mQ_e] at z; rw [z.2.2] at q2; exact absurd q2 (by decide)
      · rw [es, fl_z] at q
        have q := Classical.byContradiction q
        rw [mQ_e]
        exact ⟨q.1, q.2, r01.resolve_left q2⟩
    refine ⟨fun q => ?_, fun _ => ⟨vi, ?_⟩⟩
    · rw [nI_leI (by omega) (by omega)] at q; omega
    rw [ci]
    rcases hp i (by omega) with e | ⟨g, hg, e⟩
    · rw [e]
      refine ⟨fun q => absurd q (by decide), fun _ => J73 _ (fl_congr ⟨fun z => ⟨z, Or.inl (by rw [e]; decide)⟩, fun z => z.1⟩)⟩
    · rw [e]
      have cg : (nI g).toNatClampNeg = g := nI_clamp (by omega)
      refine ⟨fun _ => ⟨vi, vin g (by omega) (by omega) rfl, J73 _ ?_⟩, fun q => absurd (nI_nn2 (by omega)).2 q⟩
      rw [cg, h g hg]
      refine fl_congr ?_
      have eg : ot xa i = g := by unfold ot; rw [e, cg]
      rw [eg, mP_q i g hg]
      exact ⟨fun z => ⟨((mQ_e g).mp z).1, Or.inr z⟩, fun z => z.2.resolve_left (by rw [e]; exact (nI_nn2 (by omega)).1)⟩
theorem s_mn4 {post : Int32 → Prop} {M : Nat → Int32} {nn : Nat} (hnn : nn ≤ 255) (h : ∀ j, j < nn → M j = fl (mQ mv xa rv j)) (k : post (cn1 mv xa rv nn)) : ∀ (w i : Nat), i + w = nn → L_X9_metNodes_4 post (nI nn) M (w + 1) (cn1 mv xa rv i) (nI i)
  | 0, i, hi => by
    have : i = nn := by omega
    subst this
    exact ⟨fun _ => k, fun q => absurd (by rw [nI_leI (by omega) (by omega)]; omega) q⟩
  | w + 1, i, hi => by
    have ih := s_mn4 hnn h k w (i + 1) (by omega)
    change L_X9_metNodes_4 post (nI nn) M (w + 1) (cn1 mv xa rv i + fl (mQ mv xa rv i)) (nI (i + 1)) at ih
    refine ⟨fun q => ?_, fun _ => ⟨vin i (by omega) (by omega) rfl, ?_⟩⟩
    · rw [nI_leI (by omega) (by omega)] at q; omega
    rw [nI_clamp (by omega), h i (by omega), fl_z]
    refine ⟨fun q x ex => ?_, fun q x ex y ey => ?_⟩
    · rw [fl_0 q, Int32.add_zero] at ih; rw [ex, nI_1]; exact ih
    · rw [fl_1 (Classical.byContradiction q)] at ih; rw [ex, ey, nI_1]; exact ih
theorem s_mt4 {post : Int32 → Prop} {M xl xm : Nat → Int32} {nn : Nat} (hnn : nn ≤ 255) (h : ∀ j, j < nn → M j = fl (mQ mv xa rv j)) (k : post (cn2 mv xa rv xl xm nn)) : ∀ (w i : Nat), i + w = nn → L_X9_metTriangles_4 post (nI nn) xm xl M (w + 1) (cn2 mv xa rv xl xm i) (nI i)
  | 0, i, hi => by
    have : i = nn := by omega
    subst this
    exact ⟨fun _ => k, fun q => absurd (by rw [nI_leI (by omega) (by omega)]; omega) q⟩
  | w + 1, i, hi => by
    have ih := s_mt4 hnn h k w (i + 1) (by omega)
    have vi : vp_in (nI i) 255 := vin i (by omega) (by omega) rfl
    refine ⟨fun q => ?_, fun _ => ⟨vi, ?_⟩⟩
    · rw [nI_leI (by omega) (by omega)] at q; omega
    rw [nI_clamp (by omega), h i (by omega), fl_z]
    refine ⟨fun q x ex => ?_, fun q => ⟨vi, fun q2 x ex => ?_, fun q2 => ⟨vi, fun x ex y ey => ?_⟩⟩⟩
    · rw [cn2_n (fun z => q z.1)] at ih; rw [ex, nI_1]; exact ih
    · rw [cn2_n (fun z => z.2 q2)] at ih; rw [ex, nI_1]; exact ih
    · rw [cn2_p ⟨Classical.byContradiction q, q2⟩] at ih; rw [ex, ey, nI_1]; exact ih
-- the reference
theorem s_ms83 {post : Int32 → (Nat → Int64) → (Nat → Int32) → Prop} {b eye xl xm : Nat → Int32} {d ma : Nat → Int64} {mw mh wh : Int32} {nn : Nat} (hnn : nn ≤ 255) (hp : parOK xa nn) (hr : ∀ j, j < nn → (rv j = 0 ∨ rv j = 1) ∧ ∀ post : Int32 → Prop, post (rv j) → F_X12_meetsBox (nI j) eye b d post)
    (k : ∀ M, (¬ wh = 0 → post (cn2 mv xa rv xl xm nn) d M) ∧ (wh = 0 → post (cn1 mv xa rv nn) d M)) :
    ∀ (w i : Nat) (M : Nat → Int32), i + w = nn → (∀ j, j < i → M j = fl (mQ mv xa rv j)) → L_X12_meets_83 post mw mh (nI nn) eye ma xm xl xa b (w + 1) wh (fl mv) (cn1 mv xa rv i) (cn2 mv xa rv xl xm i) (nI i) d M
  | 0, i, M, hi, h => by
    have : i = nn := by omega
    subst this
    exact ⟨fun _ => k M, fun q => absurd (by rw [nI_leI (by omega) (by omega)]; omega) q⟩
  | w + 1, i, M, hi, h => by
    have vi : vp_in (nI i) 255 := vin i (by omega) (by omega) rfl
    have ci : (nI i).toNatClampNeg = i := nI_clamp (by omega)
    obtain ⟨r01, hrp⟩ := hr i (by omega)
    have J142 : ∀ s : Int32, s = fl (mQ mv xa rv i) → J_X12_meets_142 (L_X12_meets_83 post mw mh (nI nn) eye ma xm xl xa b (w + 1)) mw mh (nI nn) eye ma xm xl xa b wh (fl mv) (cn1 mv xa rv i) (cn2 mv xa rv xl xm i) (nI i) (nI i) s d M := by
      intro s es
      refine ⟨vi, fun g eg => ⟨vi, ?_⟩⟩
      rw [ci, es, nar_fl] at eg
      have gi : g i = fl (mQ mv xa rv i) := by rw [eg, pk_us]
      have ih := s_ms83 (ma := ma) (mw := mw) (mh := mh) hnn hp hr k w (i + 1) g (by omega) (fun j hj => by
        rw [eg]; unfold upd
        by_cases e : j = i
        · rw [if_pos e, e]
        · rw [if_neg e]; exact h j (by omega))
      change L_X12_meets_83 post mw mh (nI nn) eye ma xm xl xa b (w + 1) wh (fl mv) (cn1 mv xa rv i + fl (mQ mv xa rv i)) _ _ d g at ih
      have J160 : ∀ s : Int32, s = fl (mQ mv xa rv i) → J_X12_meets_160 (L_X12_meets_83 post mw mh (nI nn) eye ma xm xl xa b (w + 1)) mw mh (nI nn) eye ma xm xl xa b wh (fl mv) (cn2 mv xa rv xl xm i) (nI i) (cn1 mv xa rv i) s d g := by
        intro s es x ex
        rw [es] at ex
        refine ⟨vi, ?_⟩
        rw [ci, gi, fl_z]
        refine ⟨fun q y ey z ez => ?_, fun q => ⟨vi, fun q2 y ey z ez => ?_, fun q2 => ⟨vi, fun y ey z ez => ?_⟩⟩⟩
        · rw [cn2_n (fun z => q z.1)] at ih; rw [ex, ey, ez, nI_1, Int32.add_zero]; exact ih
        · rw [cn2_n (fun z => z.2 q2)] at ih; rw [ex, ey, ez, nI_1, Int32.add_zero]; exact ih
        · rw [cn2_p ⟨Classical.byContradiction q, q2⟩] at ih; rw [ex, ey, ez, nI_1]; exact ih
      rw [ci, gi, fl_z]
      exact ⟨fun q => J160 0 (fl_0 q).symm, fun q => J160 1 (fl_1 (Classical.byContradiction q)).symm⟩
    refine ⟨fun q => ?_, fun _ => ⟨fun q => J142 0 (fl_0 (fun z => ?_)).symm, fun q => ⟨vi, ?_⟩⟩⟩
    · rw [nI_leI (by omega) (by omega)] at q; omega
    · rw [fl_z] at q; rw [mQ_e] at z; exact q z.1
    rw [fl_z] at q
    have q := Classical.byContradiction q
    rw [ci]
    have J128 : (xa i < 0 ∨ mP mv xa rv i (ot xa i)) → J_X12_meets_128 (J_X12_meets_141 (J_X12_meets_142 (L_X12_meets_83 post mw mh (nI nn) eye ma xm xl xa b (w + 1)) mw mh (nI nn) eye ma xm xl xa b) mw mh (nI nn) eye ma xm xl xa b) (J_X12_meets_142 (L_X12_meets_83 post mw mh (nI nn) eye ma xm xl xa b (w + 1)) mw mh (nI nn) eye ma xm xl xa b) mw mh (nI nn) eye ma xm xl xa b wh (fl mv) (cn1 mv xa rv i) (cn2 mv xa rv xl xm i) (nI i) (nI i) d M := fun c =>
      hrp _ ⟨fun q2 => J142 0 (fl_0 (fun z => by rw [mQ_e] at z; rw [z.2.2] at q2; exact absurd q2 (by decide))).symm, fun q2 => J142 1 (fl_1 ((mQ_e i).mpr ⟨q, c, r01.resolve_left q2⟩)).symm⟩
    rcases hp i (by omega) with e | ⟨g, hg, e⟩
    · exact ⟨fun _ => J128 (Or.inl (by rw [e]; decide)), fun c => absurd (by rw [e]; decide) c⟩
    · have cg : (nI g).toNatClampNeg = g := nI_clamp (by omega)
      have eg : ot xa i = g := by unfold ot; rw [e, cg]
      rw [e, cg, h g hg, fl_z]
      refine ⟨fun c => absurd c (nI_nn2 (by omega)).1, fun _ => ⟨vi, vin g (by omega) (by omega) rfl, fun c => J142 0 (fl_0 (fun z => ?_)).symm, fun c => J128 (Or.inr (by rw [eg, mP_q i g hg]; exact Classical.byContradiction c))⟩⟩
      rw [mQ_e, eg, mP_q i g hg] at z
      exact c (z.2.1.resolve_left (by rw [e]; exact (nI_nn2 (by omega)).1))
end
theorem op_meets {a b c xw xh mw mh tn td_ un : Int32} {nt nn : Nat} {xe xa_ me xo xf xm xl xu xa xb mf mm ml mhh ma md mb mo xmet mmet : Nat → Int32} {ma_ sf sa d : Nat → Int64}
    (K : IC xe xa_ xw xh me ma_ mw mh) (T : IT nt nn tn td_ xo xf xm xl xu xa xb un mf mm ml mhh ma md mb mo)
    {Q : Int32 → (Nat → Int32) → (Nat → Int64) → (Nat → Int64) → Int32 → (Nat → Int64) → (Nat → Int32) → Prop} (k : ∀ r v1 v2 v3 w1 w2, Q r v1 v2 v3 r w1 w2) :
    F_X11_meets a b c xw xh xe xa_ tn xm xl xa xb xmet sf sa (fun r v1 v2 v3 => F_X12_meets a b c mw mh un me ma_ mm ml ma mb d mmet (fun r' w1 w2 => Q r v1 v2 v3 r' w1 w2)) := by
  obtain ⟨rfl, heb, hax, rfl, rfl, hw, hh, hf⟩ := K
  obtain ⟨hnn, rfl, rfl, rfl, rfl, rfl, rfl, rfl, rfl, rfl, hd, hN, hbb⟩ := T
  have e0 : (0 : Int32).toInt = 0 := rfl
  have e1 : (1 : Int32).toInt = 1 := rfl
  refine s_hasPixel (fun hp => ⟨fun q => absurd q (by decide), fun _ => ?_⟩) (fun np => ⟨fun _ => s_isPixel hw.1 hh.1 (fun hp => absurd hp np) (fun _ => ⟨fun _ => k _ _ _ _ _ _, fun q => absurd rfl q⟩), fun q => absurd rfl q⟩)
  have px : ∀ {P : Int32 → Prop}, P 1 → F_X12_isPixel a b mw mh P := fun h => s_isPixel hw.1 hh.1 (fun _ => h) (fun np => absurd hp np)
  have bad : ¬ (0 ≤ c.toInt ∧ c.toInt ≤ 1) → ∀ v1 v2 v3, F_X12_meets a b c mw mh (nI nn) me ma_ mm ml ma mb d mmet (fun r' w1 w2 => Q (-1) v1 v2 v3 r' w1 w2) := fun z v1 v2 v3 =>
    px ⟨fun q => absurd q (by decide), fun _ => s_in32 (a := 0) (b := 1) rfl rfl (fun y => absurd y z) (fun _ => ⟨fun _ => k _ _ _ _ _ _, fun q => absurd rfl q⟩)⟩
  refine ⟨fun q => bad ?_ _ _ _, fun q => ⟨fun q2 => bad ?_ _ _ _, fun q2 => ?_⟩⟩
  · rw [i32_lt, e0] at q; omega
  · rw [i32_lt, e1] at q2; omega
  rw [i32_lt, e0] at q
  rw [i32_lt, e1] at q2
  have pin : ∀ {P : Int32 → Prop}, P 1 → F_X12_in c.toInt64 0 1 P := fun h => s_in32 (a := 0) (b := 1) rfl rfl (fun _ => h) (fun y => absurd ⟨by omega, by omega⟩ y)
  have z : nI nn ≤ 0 ↔ nn = 0 := by rw [n_0, nI_leI (by omega) (by omega)]; omega
  have z2 : nI nn = 0 ↔ nn = 0 := by rw [n_0, nI_eq (by omega) (by omega)]
  refine ⟨fun q3 => ⟨fun c => absurd rfl c, fun _ => px ⟨fun q => absurd q (by decide), fun _ => pin ⟨fun q => absurd q (by decide), fun _ => ⟨fun c => absurd (z2.mpr (z.mp q3)) c, fun _ => k _ _ _ _ _ _⟩⟩⟩⟩, fun q3 => ⟨fun _ => ?_, fun c => absurd c (by decide)⟩⟩
  rw [z] at q3
  obtain ⟨h1, ho, hm0, hnod⟩ := hN (by omega)
  have par : parOK ma nn := fun j hj => by
    rcases (hnod j hj).2 with ⟨_, e⟩ | ⟨g, _, hg, e⟩
    · exact Or.inl e
    · exact Or.inr ⟨g, hg, e⟩
  have hB : ∀ k, k < 3 → bd 1023 (camD xa_ mw.toInt mh.toInt a.toInt b.toInt k) := fun k hk => camD_bd hf hk ⟨hp.1, hp.2.1⟩ hp.2.2
  refine s_aim hp hw.2 hh.2 (fun fr al hF hD => ?_)
  have ex : ∀ j, ∃ r, (j < nn → bothR me mb fr al (camD xa_ mw.toInt mh.toInt a.toInt b.toInt) 4 j 0 0 1 1 0 r) := fun j => by
    by_cases c : j < nn
    · obtain ⟨r, h⟩ := rb_both hF hD hB heb hbb (n := j) (by omega) 3 0 0 1 1 0 (by omega) (fun _ => ⟨rfl, rfl, rfl⟩)
      exact ⟨r, fun _ => h⟩
    · exact ⟨0, fun h => absurd h c⟩
  obtain ⟨rv, hrv⟩ := Classical.axiomOfChoice ex
  obtain ⟨D, eD⟩ : ∃ D : Nat → Int, D = camD xa_ mw.toInt mh.toInt a.toInt b.toInt := ⟨_, rfl⟩
  rw [← eD] at hD hB hrv
  -- does it move
  have mvC : ∀ {post : (Nat → Int32) → Prop}, J_X9_follow_38 post (nI nn) ma mb fr al (fl (¬ (D 0 = 0 ∧ D 1 = 0 ∧ D 2 = 0))) xmet → F_X9_follow (nI nn) ma mb xmet fr al post := fun h => by
    refine ⟨vin 0 (by omega) (by omega) rfl, ?_⟩
    rw [cl_0, hD 0 (by omega), lg_eq0 (bd_le (by decide) (hB 0 (by omega)))]
    refine ⟨fun c => ?_, fun c0 => ⟨vin 1 (by omega) (by omega) rfl, ?_⟩⟩
    · rw [fl_1 (fun z => c z.1)] at h; exact h
    rw [cl_1, hD 1 (by omega), lg_eq0 (bd_le (by decide) (hB 1 (by omega)))]
    refine ⟨fun c => ?_, fun c1 => ⟨vin 2 (by omega) (by omega) rfl, ?_⟩⟩
    · rw [fl_1 (fun z => c z.2.1)] at h; exact h
    rw [cl_2, hD 2 (by omega), lg_eq0 (bd_le (by decide) (hB 2 (by omega)))]
    refine ⟨fun c2 => ?_, fun c => ?_⟩
    · rw [fl_0 (fun z => z ⟨c0, c1, c2⟩)] at h; exact h
    · rw [fl_1 (fun z => c z.2.2)] at h; exact h
  refine mvC ⟨nn + 1, s_fw41 (mv := ¬ (D 0 = 0 ∧ D 1 = 0 ∧ D 2 = 0)) (rv := rv) hnn par (fun j hj => ⟨(hrv j hj).1, fun post h => ⟨4, (hrv j hj).2.1 post h⟩⟩) (fun M hM => ?_) nn 0 xmet (by omega) (fun j h => absurd h (by omega))⟩
  have ref : ∀ v1 v2 v3, F_X12_meets a b c mw mh (nI nn) me ma_ mm ml ma mb d mmet (fun r' w1 w2 => (¬ c = 0 → Q (cn2 (¬ (D 0 = 0 ∧ D 1 = 0 ∧ D 2 = 0)) ma rv ml mm nn) v1 v2 v3 r' w1 w2) ∧ (c = 0 → Q (cn1 (¬ (D 0 = 0 ∧ D 1 = 0 ∧ D 2 = 0)) ma rv nn) v1 v2 v3 r' w1 w2)) := fun v1 v2 v3 => by
    refine px ⟨fun q => absurd q (by decide), fun _ => pin ⟨fun q => absurd q (by decide), fun _ => ⟨fun _ => s_rayOf hax (fun d' hd' => ⟨vin 0 (by omega) (by omega) rfl, ?_⟩), fun c => absurd (z2.mp c) q3⟩⟩⟩
    rw [← eD] at hd'
    have J72 : ∀ s : Int32, s = fl (¬ (D 0 = 0 ∧ D 1 = 0 ∧ D 2 = 0)) → J_X12_meets_72 (fun r' w1 w2 => (¬ c = 0 → Q (cn2 (¬ (D 0 = 0 ∧ D 1 = 0 ∧ D 2 = 0)) ma rv ml mm nn) v1 v2 v3 r' w1 w2) ∧ (c = 0 → Q (cn1 (¬ (D 0 = 0 ∧ D 1 = 0 ∧ D 2 = 0)) ma rv nn) v1 v2 v3 r' w1 w2)) mw mh (nI nn) me ma_ mm ml ma mb c s d' mmet := by
      intro s es
      subst es
      exact ⟨nn + 1, s_ms83 (mv := ¬ (D 0 = 0 ∧ D 1 = 0 ∧ D 2 = 0)) (rv := rv) hnn par (fun j hj => ⟨(hrv j hj).1, fun post h => ⟨4, (hrv j hj).2.2 d' hd' post h⟩⟩) (fun M => ⟨fun c => ⟨fun _ => k _ _ _ _ _ _, fun d => absurd d c⟩, fun c => ⟨fun d => absurd c d, fun _ => k _ _ _ _ _ _⟩⟩) nn 0 mmet (by omega) (fun j h => absurd h (by omega))⟩
    rw [cl_0, hd' 0 (by omega), lg_eq0 (bd_le (by decide) (hB 0 (by omega)))]
    refine ⟨fun c => J72 1 (fl_1 (fun z => c z.1)).symm, fun c0 => ⟨vin 1 (by omega) (by omega) rfl, ?_⟩⟩
    rw [cl_1, hd' 1 (by omega), lg_eq0 (bd_le (by decide) (hB 1 (by omega)))]
    refine ⟨fun c => J72 1 (fl_1 (fun z => c z.2.1)).symm, fun c1 => ⟨vin 2 (by omega) (by omega) rfl, ?_⟩⟩
    rw [cl_2, hd' 2 (by omega), lg_eq0 (bd_le (by decide) (hB 2 (by omega)))]
    exact ⟨fun c2 => J72 0 (fl_0 (fun z => z ⟨c0, c1, c2⟩)).symm, fun c => J72 1 (fl_1 (fun z => c z.2.2)).symm⟩
  -- weaken the reference's end
  by_cases hc : c = 0
  · refine ⟨fun q => absurd hc q, fun _ => ⟨nn + 1, s_mn4 hnn hM ?_ nn 0 (by omega)⟩⟩
    have r := ref M fr al
    have e : (fun (r' : Int32) (w1 : Nat → Int64) (w2 : Nat → Int32) => (¬ c = 0 → Q (cn2 (¬ (D 0 = 0 ∧ D 1 = 0 ∧ D 2 = 0)) ma rv ml mm nn) M fr al r' w1 w2) ∧ (c = 0 → Q (cn1 (¬ (D 0 = 0 ∧ D 1 = 0 ∧ D 2 = 0)) ma rv nn) M fr al r' w1 w2)) = (fun r' w1 w2 => Q (cn1 (¬ (D 0 = 0 ∧ D 1 = 0 ∧ D 2 = 0)) ma rv nn) M fr al r' w1 w2) := by
      funext r' w1 w2; exact propext ⟨fun h => h.2 hc, fun h => ⟨fun q => absurd hc q, fun _ => h⟩⟩
    rw [e] at r; exact r
  · refine ⟨fun _ => ⟨nn + 1, s_mt4 hnn hM ?_ nn 0 (by omega)⟩, fun q => absurd q hc⟩
    have r := ref M fr al
    have e : (fun (r' : Int32) (w1 : Nat → Int64) (w2 : Nat → Int32) => (¬ c = 0 → Q (cn2 (¬ (D 0 = 0 ∧ D 1 = 0 ∧ D 2 = 0)) ma rv ml mm nn) M fr al r' w1 w2) ∧ (c = 0 → Q (cn1 (¬ (D 0 = 0 ∧ D 1 = 0 ∧ D 2 = 0)) ma rv nn) M fr al r' w1 w2)) = (fun r' w1 w2 => Q (cn2 (¬ (D 0 = 0 ∧ D 1 = 0 ∧ D 2 = 0)) ma rv ml mm nn) M fr al r' w1 w2) := by
      funext r' w1 w2; exact propext ⟨fun h => h.1 hc, fun h => ⟨fun _ => h, fun q => absurd q hc⟩⟩
    rw [e] at r; exact r
