/-! PURE PART: refit, node, order, count -/
theorem nod_get {nt n j : Nat} {p : Int32} {f m a : Nat → Int32} (h : nodOK nt n j p f m a) (hnt : nt ≤ 128) : f j = nI (ot f j) ∧ m j = nI (ot m j) ∧ 1 ≤ ot m j ∧ ot f j + ot m j ≤ nt := by
  obtain ⟨⟨s, l, e1, e2, h1, h2⟩, -⟩ := h
  unfold ot
  rw [e1, e2, nI_clamp (by omega), nI_clamp (by omega)]; exact ⟨rfl, rfl, h1, h2⟩
/-- boxes fitted, how many changed -/
noncomputable def rfS (co o f m b : Nat → Int32) : Nat → Int32 × (Nat → Int32)
  | 0 => (0, b)
  | i + 1 => ((rfS co o f m b i).1 + fl (chg (rfS co o f m b i).2 i (bx co o (ot f i) (ot m i))), pb (rfS co o f m b i).2 i (bx co o (ot f i) (ot m i)))
section
variable {co o f m b : Nat → Int32} {nt nn : Nat}
theorem rfS_b (hb : ∀ j, bd 255 (co j).toInt) (h : ∀ j, bd 1000 (b j).toInt) : ∀ i j, bd 1000 ((rfS co o f m b i).2 j).toInt
  | 0 => h
  | i + 1 => pb_b (rfS_b hb h i) (fun k => bx_b hb)
theorem s_fbs4 {post : Int32 → (Nat → Int32) → Prop} (hnt : nt ≤ 128) (hnn : nn ≤ 255) (hb : ∀ j, bd 255 (co j).toInt) (ho : OKo nt o) (hN : ∀ j, j < nn → f j = nI (ot f j) ∧ m j = nI (ot m j) ∧ 1 ≤ ot m j ∧ ot f j + ot m j ≤ nt) (k : post (rfS co o f m b nn).1 (rfS co o f m b nn).2) :
    ∀ (w i : Nat), i + w = nn → L_X9_fitBoxes_4 post (nI nn) o f m co (w + 1) (rfS co o f m b i).1 (nI i) (rfS co o f m b i).2
  | 0, i, hi => by
    have : i = nn := by omega
    subst this
    exact ⟨fun _ => k, fun q => absurd (by rw [nI_leI (by omega) (by omega)]; omega) q⟩
  | w + 1, i, hi => by
    obtain ⟨e1, e2, h1, h2⟩ := hN i (by omega)
    have ih := s_fbs4 hnt hnn hb ho hN k w (i + 1) (by omega)
    refine ⟨fun q => ?_, fun _ => s_fitBox hnt hb ho (by omega) e1 e2 h1 h2 ⟨fun q x ex => ?_, fun q x ex y ey => ?_⟩⟩
    · rw [nI_leI (by omega) (by omega)] at q; omega
    · rw [ex, nI_1]
      change L_X9_fitBoxes_4 post (nI nn) o f m co (w + 1) ((rfS co o f m b i).1 + fl (chg (rfS co o f m b i).2 i (bx co o (ot f i) (ot m i)))) (nI (i + 1)) (pb (rfS co o f m b i).2 i (bx co o (ot f i) (ot m i))) at ih
      rw [q, Int32.add_zero] at ih; exact ih
    · rw [ex, ey, nI_1]
      change L_X9_fitBoxes_4 post (nI nn) o f m co (w + 1) ((rfS co o f m b i).1 + fl (chg (rfS co o f m b i).2 i (bx co o (ot f i) (ot m i)))) (nI (i + 1)) (pb (rfS co o f m b i).2 i (bx co o (ot f i) (ot m i))) at ih
      rw [fl_z] at q
      rw [fl_1 (Classical.byContradiction q)] at ih; exact ih
theorem s_rf31 {k13 : Int32 → Int32 → (Nat → Int32) → (Nat → Int32) → Prop} {n : Nat} {l1 nv : Int32} {oth : Nat → Int32} {g : Nat → Int32} (hn : n < 255) (hoth : ∀ k, k < 6 → oth k = g k) (k : k13 (l1 + fl (chg b n g)) (nI (n + 1)) (pb b n g) oth) :
    ∀ (w i : Nat) (b' : Nat → Int32), i + w = 6 → (∀ j, b' j = if 6 * n ≤ j ∧ j < 6 * n + i then g (j - 6 * n) else b j) → L_X12_refit_31 k13 nv co f m o (w + 1) l1 (nI n) (fl (∀ k, k < i → b (6 * n + k) = g k)) (nI i) b' oth
  | 0, i, b', hi, hb' => by
    have : i = 6 := by omega
    subst this
    have eb : b' = pb b n g := funext hb'
    subst eb
    refine ⟨fun _ => ⟨fun q x ex y ey => ?_, fun q x ex y ey => ?_⟩, fun q => absurd (by decide) q⟩
    · rw [fl_z] at q
      rw [fl_1 (show chg b n g from q)] at k
      rw [ex, ey, nI_1]; exact k
    · rw [fl_z] at q
      rw [fl_0 (show ¬ chg b n g from fun z => q z)] at k
      rw [ex, ey, nI_1]; exact k
  | w + 1, i, b', hi, hb' => by
    have ei : (6 : Int32) * nI n + nI i = nI (6 * n + i) := by rw [n_6, pk_mul, nI_add]
    have vi : vp_in (nI i) 6 := vin i (by omega) (by omega) rfl
    have vb : vp_in ((6 : Int32) * nI n + nI i) 1530 := vin (6 * n + i) (by omega) (by omega) ei
    have bi : b' (6 * n + i) = b (6 * n + i) := by rw [hb', if_neg (by omega)]
    have J : ∀ r : Int32, r = fl (∀ k, k < i + 1 → b (6 * n + k) = g k) → J_X12_refit_69 (L_X12_refit_31 k13 nv co f m o (w + 1)) nv co f m o l1 (nI n) (nI i) r b' oth := by
      intro r er
      refine ⟨vi, vb, fun h eh x ex => ?_⟩
      rw [ei, nI_clamp (by omega), nI_clamp (by omega), hoth i (by omega)] at eh
      rw [ex, nI_1, er]
      refine s_rf31 hn hoth k w (i + 1) h (by omega) (fun j => ?_)
      rw [eh]; unfold upd
      by_cases c : j = 6 * n + i
      · rw [if_pos c, if_pos (by omega)]; subst c; rw [Nat.add_sub_cancel_left]
      · rw [if_neg c, hb' j]
        by_cases c2 : 6 * n ≤ j ∧ j < 6 * n + i
        · rw [if_pos c2, if_pos (by omega)]
        · rw [if_neg c2, if_neg (by omega)]
    refine ⟨fun q => ?_, fun _ => ⟨fun q => J 0 ?_, fun q => ⟨vb, vi, ?_⟩⟩⟩
    · rw [n_6, nI_leI (by omega) (by omega)] at q; omega
    · rw [fl_z] at q
      exact (fl_0 (fun z => q (fun k hk => z k (by omega)))).symm
    · rw [fl_z] at q
      have q := Classical.byContradiction q
      rw [ei, nI_clamp (by omega), nI_clamp (by omega), hoth i (by omega), bi]
      refine ⟨fun q2 => J 0 (fl_0 (fun z => q2 (z i (by omega)))).symm, fun q2 => J 1 (fl_1 (fun k hk => ?_)).symm⟩
      by_cases e : k = i
      · subst e; exact q2
      · exact q k (by omega)
theorem s_rf13 {post : Int32 → (Nat → Int32) → (Nat → Int32) → Prop} (hnt : nt ≤ 128) (hnn : nn ≤ 255) (ho : OKo nt o) (hN : ∀ j, j < nn → f j = nI (ot f j) ∧ m j = nI (ot m j) ∧ 1 ≤ ot m j ∧ ot f j + ot m j ≤ nt) (k : ∀ oth, post (rfS co o f m b nn).1 (rfS co o f m b nn).2 oth) :
    ∀ (w i : Nat) (oth : Nat → Int32), i + w = nn → L_X12_refit_13 post (nI nn) co f m o (w + 1) (rfS co o f m b i).1 (nI i) (rfS co o f m b i).2 oth
  | 0, i, oth, hi => by
    have : i = nn := by omega
    subst this
    exact ⟨fun _ => k _, fun q => absurd (by rw [nI_leI (by omega) (by omega)]; omega) q⟩
  | w + 1, i, oth, hi => by
    obtain ⟨e1, e2, h1, h2⟩ := hN i (by omega)
    refine ⟨fun q => ?_, fun _ => s_boxOf hnt ho (by omega) e1 e2 h2 (fun oth' h' => ⟨7, ?_⟩)⟩
    · rw [nI_leI (by omega) (by omega)] at q; omega
    have g := s_rf31 (co := co) (f := f) (m := m) (o := o) (b := (rfS co o f m b i).2) (n := i) (l1 := (rfS co o f m b i).1) (nv := nI nn) (k13 := L_X12_refit_13 post (nI nn) co f m o (w + 1)) (by omega) h' (s_rf13 hnt hnn ho hN k w (i + 1) _ (by omega)) 6 0 (rfS co o f m b i).2 (by omega) (fun j => by rw [if_neg (by omega)])
    rw [fl_1 (fun k hk => absurd hk (by omega))] at g
    exact g
end
theorem op_refit {xn mn tn td_ un : Int32} {nt nn : Nat} {xc xno xt mc mt xo xf xm xl xu xa xb mf mm ml mh ma md mb mo oth : Nat → Int32} {mno : Nat → Int64} (I : IM nt xn xc xno xt mn mc mno mt) (T : IT nt nn tn td_ xo xf xm xl xu xa xb un mf mm ml mh ma md mb mo)
    {Q : Int32 → (Nat → Int32) → Int32 → (Nat → Int32) → (Nat → Int32) → Prop}
    (k : ∀ (r : Int32) (xb mb oth : Nat → Int32), IT nt nn tn td_ xo xf xm xl xu xa xb un mf mm ml mh ma md mb mo → Q r xb r mb oth) :
    F_X11_refit xc tn xo xf xm xb (fun r v1 => F_X12_refit un mc mf mm mb mo oth (fun r' w1 w2 => Q r v1 r' w1 w2)) := by
  have T0 := T
  obtain ⟨hnt, rfl, rfl, rfl, rfl, hcb, hmn, hcr⟩ := I
  obtain ⟨hnn, rfl, rfl, rfl, rfl, rfl, rfl, rfl, rfl, rfl, hd, hN, hbb⟩ := T
  have z : nI nn ≤ 0 ↔ nn = 0 := by rw [n_0, nI_leI (by omega) (by omega)]; omega
  have z2 : nI nn = 0 ↔ nn = 0 := by rw [n_0, nI_eq (by omega) (by omega)]
  unfold F_X11_refit F_X9_stands F_X12_refit
  rw [z, z2]
  refine ⟨fun q => ⟨fun _ => ⟨fun c => absurd q c, fun _ => k _ _ _ _ T0⟩, fun c => absurd rfl c⟩, fun q => ⟨fun c => absurd c (by decide), fun _ => ⟨nn + 1, ?_⟩⟩⟩
  obtain ⟨h1, ho, hm0, hnod⟩ := hN (by omega)
  have hN2 : ∀ j, j < nn → mf j = nI (ot mf j) ∧ mm j = nI (ot mm j) ∧ 1 ≤ ot mm j ∧ ot mf j + ot mm j ≤ nt := fun j hj => nod_get (hnod j hj) hnt
  refine s_fbs4 (b := mb) hnt hnn hcb ho hN2 ?_ nn 0 (by omega)
  refine ⟨fun _ => ⟨nn + 1, s_rf13 (b := mb) hnt hnn ho hN2 (fun oth => ?_) nn 0 oth (by omega)⟩, fun c => absurd c q⟩
  exact k _ _ _ _ ⟨hnn, rfl, rfl, rfl, rfl, rfl, rfl, rfl, rfl, rfl, hd, hN, rfS_b hcb hbb nn⟩
theorem s_hasNode {p : Int32} {nn : Nat} {post : Int32 → Prop} (hn : nn ≤ 255) (h1 : ∀ t, t < nn → p = nI t → post 1) (h0 : ¬ (0 ≤ p.toInt ∧ p.toInt ≤ (nn : Int) - 1) → post 0) : F_X9_hasNode p (nI nn) post := by
  have e0 : (0 : Int32).toInt = 0 := rfl
  have en : (nI nn).toInt = (nn : Int) := nI_toInt (by omega)
  refine ⟨fun q => h0 (fun z => ?_), fun q => ⟨fun q2 => h0 (fun z => ?_), fun q2 => ?_⟩⟩
  · rw [i32_lt, e0] at q; omega
  · rw [i32_le, en] at q2; omega
  · rw [i32_lt, e0] at q
    rw [i32_le, en] at q2
    obtain ⟨t, ht, e⟩ := nI_get (x := p) (N := nn) (by omega) (by omega) (by omega)
    exact h1 t ht e
theorem s_inN {p : Int32} {nn : Nat} {post : Int32 → Prop} (hn : nn ≤ 255) (h1 : ∀ t, t < nn → p = nI t → post 1) (h0 : ¬ (0 ≤ p.toInt ∧ p.toInt ≤ (nn : Int) - 1) → post 0) : F_X12_in p.toInt64 0 ((nI nn - 1).toInt64) post :=
  s_in32 (a := 0) (b := (nn : Int) - 1) rfl (nI_m1 (by omega)) (fun z => by
    obtain ⟨t, ht, e⟩ := nI_get (x := p) (N := nn) (by omega) (by omega) (by omega)
    exact h1 t ht e) h0
theorem op_node {a b tn td_ un : Int32} {nt nn : Nat} {xo xf xm xl xu xa xb mf mm ml mh ma md mb mo : Nat → Int32} (T : IT nt nn tn td_ xo xf xm xl xu xa xb un mf mm ml mh ma md mb mo) {Q : Int32 → Int32 → Prop} (k : ∀ r, Q r r) :
    F_X11_node a b tn xf xm xl xu xa xb (fun r => F_X12_node a b un mf mm ml mh ma mb (fun r' => Q r r')) := by
  obtain ⟨hnn, rfl, rfl, rfl, rfl, rfl, rfl, rfl, rfl, rfl, -, -, -⟩ := T
  refine s_hasNode hnn (fun t ht et => ⟨fun q => absurd q (by decide), fun _ => ?_⟩) (fun z => ⟨fun _ => ?_, fun q => absurd rfl q⟩)
  rotate_left
  · exact s_inN hnn (fun t ht et => absurd (by rw [et, nI_toInt (by omega)]; omega) z) (fun _ => ⟨fun _ => k _, fun q => absurd rfl q⟩)
  subst et
  have vt : vp_in (nI t) 255 := vin t (by omega) (by omega) rfl
  have out : ¬ (0 ≤ b.toInt ∧ b.toInt ≤ 10) → F_X12_node (nI t) b (nI nn) mf mm ml mh ma mb (fun r' => Q (-1) r') := fun z =>
    s_inN hnn (fun _ _ _ => ⟨fun q => absurd q (by decide), fun _ => s_in32 (a := 0) (b := 10) rfl rfl (fun y => absurd y z) (fun _ => ⟨fun q => absurd rfl q, fun _ => k _⟩)⟩) (fun y => absurd (by rw [nI_toInt (by omega)]; omega) y)
  have inn : ∀ {P : Int32 → Prop}, (0 ≤ b.toInt ∧ b.toInt ≤ 10) → ((b.toInt = 0 → (vp_in (nI t) 255 ∧ P (mf (nI t).toNatClampNeg))) ∧ (b.toInt = 1 → (vp_in (nI t) 255 ∧ P (mm (nI t).toNatClampNeg))) ∧ (b.toInt = 2 → (vp_in (nI t) 255 ∧ P (ml (nI t).toNatClampNeg))) ∧ (b.toInt = 3 → (vp_in (nI t) 255 ∧ P (mh (nI t).toNatClampNeg))) ∧ (b.toInt = 4 → (vp_in (nI t) 255 ∧ P (ma (nI t).toNatClampNeg))) ∧ (b.toInt < 0 ∨ 4 < b.toInt → (vp_in (((6 * nI t) + b) - 5) 1530 ∧ P (mb (((6 * nI t) + b) - 5).toNatClampNeg)))) → F_X12_node (nI t) b (nI nn) mf mm ml mh ma mb P := fun z h =>
    s_inN hnn (fun _ _ _ => ⟨fun q => absurd q (by decide), fun _ => s_in32 (a := 0) (b := 10) rfl rfl (fun _ => ⟨fun _ => h, fun q => absurd q (by decide)⟩) (fun y => absurd z y)⟩) (fun y => absurd (by rw [nI_toInt (by omega)]; omega) y)
  have e5 : (5 : Int32).toInt = 5 := rfl
  have e10 : (10 : Int32).toInt = 10 := rfl
  refine ⟨fun q => ⟨vt, inn (by omega) ⟨fun _ => ⟨vt, k _⟩, fun c => by omega, fun c => by omega, fun c => by omega, fun c => by omega, fun c => by omega⟩⟩,
    fun q => ⟨vt, inn (by omega) ⟨fun c => by omega, fun _ => ⟨vt, k _⟩, fun c => by omega, fun c => by omega, fun c => by omega, fun c => by omega⟩⟩,
    fun q => ⟨vt, inn (by omega) ⟨fun c => by omega, fun c => by omega, fun _ => ⟨vt, k _⟩, fun c => by omega, fun c => by omega, fun c => by omega⟩⟩,
    fun q => ⟨vt, inn (by omega) ⟨fun c => by omega, fun c => by omega, fun c => by omega, fun _ => ⟨vt, k _⟩, fun c => by omega, fun c => by omega⟩⟩,
    fun q => ⟨vt, inn (by omega) ⟨fun c => by omega, fun c => by omega, fun c => by omega, fun c => by omega, fun _ => ⟨vt, k _⟩, fun c => by omega⟩⟩, fun q => ⟨fun q2 => out ?_, fun q2 => ⟨fun q3 => out ?_, fun q3 => ?_⟩⟩⟩
  · rw [i32_lt, e5] at q2; omega
  · rw [i32_lt, e10] at q3; omega
  · rw [i32_lt, e5] at q2; rw [i32_lt, e10] at q3
    obtain ⟨j, hj, rfl⟩ := nI_get (x := b) (N := 11) (by omega) (by omega) (by omega)
    rw [nI_toInt (by omega)] at q q2 q3
    have ei : ((6 : Int32) * nI t + nI j) - 5 = nI (6 * t + (j - 5)) := by
      rw [n_6, pk_mul, nI_add, show 6 * t + j = 5 + (6 * t + (j - 5)) by omega]; exact nI_sub1 5 _
    have vb : vp_in (((6 : Int32) * nI t + nI j) - 5) 1530 := vin _ (by omega) (by omega) ei
    refine ⟨vb, inn (by rw [nI_toInt (by omega)]; omega) ?_⟩
    rw [nI_toInt (by omega)]
    exact ⟨fun c => by omega, fun c => by omega, fun c => by omega, fun c => by omega, fun c => by omega, fun _ => ⟨vb, k _⟩⟩
theorem op_order {a xn mn tn td_ un : Int32} {nt nn : Nat} {xc xno xt mc mt xo xf xm xl xu xa xb mf mm ml mh ma md mb mo : Nat → Int32} {mno : Nat → Int64} (I : IM nt xn xc xno xt mn mc mno mt) (T : IT nt nn tn td_ xo xf xm xl xu xa xb un mf mm ml mh ma md mb mo) {Q : Int32 → Int32 → Prop} (k : ∀ r, Q r r) :
    F_X11_order a tn xo xm (fun r => F_X12_order a mn un mo (fun r' => Q r r')) := by
  obtain ⟨hnt, rfl, rfl, rfl, rfl, hcb, hmn, hcr⟩ := I
  obtain ⟨hnn, rfl, rfl, rfl, rfl, rfl, rfl, rfl, rfl, rfl, -, hN, -⟩ := T
  have z : nI nn ≤ 0 ↔ nn = 0 := by rw [n_0, nI_leI (by omega) (by omega)]; omega
  unfold F_X11_order F_X9_hasPlace F_X9_stands F_X12_order
  rw [z]
  refine ⟨fun q => ⟨fun _ => ⟨fun _ => ⟨fun _ => k _, fun c => absurd q c⟩, fun c => absurd rfl c⟩, fun c => absurd rfl c⟩, fun q => ⟨fun c => absurd c (by decide), fun _ => ?_⟩⟩
  obtain ⟨h1, ho, hm0, hnod⟩ := hN (by omega)
  rw [cl_0, hm0]
  have e0 : (0 : Int32).toInt = 0 := rfl
  have bad : ¬ (0 ≤ a.toInt ∧ a.toInt ≤ (nt : Int) - 1) → (nn = 0 → Q (-1) (-1)) ∧ (¬ nn = 0 → F_X12_in a.toInt64 0 ((nI nt - 1).toInt64) (fun r2 => ((r2 = 0 → Q (-1) (-1)) ∧ (¬ r2 = 0 → (vp_in a 128 ∧ Q (-1) (mo a.toNatClampNeg)))))) := fun y =>
    ⟨fun _ => k _, fun _ => s_inT hnt (fun t ht et => absurd y (by rw [et]; exact nI_out ht hnt)) (fun _ => ⟨fun _ => k _, fun c => absurd rfl c⟩)⟩
  refine ⟨fun q2 => ⟨fun _ => bad ?_, fun c => absurd rfl c⟩, fun q2 => ⟨vin 0 (by omega) (by omega) rfl, fun q3 => ⟨fun _ => bad ?_, fun c => absurd rfl c⟩, fun q3 => ⟨fun c => absurd c (by decide), fun _ => ?_⟩⟩⟩
  · rw [i32_lt, e0] at q2; omega
  · rw [i32_le, nI_toInt (by omega)] at q3; omega
  · rw [i32_lt, e0] at q2
    rw [i32_le, nI_toInt (by omega)] at q3
    obtain ⟨t, ht, et⟩ := nI_get (x := a) (N := nt) (by omega) (by omega) (by omega)
    have va : vp_in a 128 := vin t (by omega) (by omega) et
    exact ⟨va, fun c => absurd c q, fun _ => s_inT hnt (fun _ _ _ => ⟨fun c => absurd c (by decide), fun _ => ⟨va, k _⟩⟩) (fun y => absurd y (by rw [et]; exact nI_out ht hnt))⟩
-- count
def brn (s : Nat → Int32) : Nat → Int32
  | 0 => 0
  | i + 1 => if s i ≤ 0 then brn s i else brn s i + 1
theorem s_burn {post : Int32 → Prop} {s : Nat → Int32} (h : post (brn s 4)) : F_X4_burning s post := by
  have st : ∀ n i, i < 4 → L_X4_burning_4 post s n (brn s (i + 1)) (nI (i + 1)) → L_X4_burning_4 post s (n + 1) (brn s i) (nI i) := fun n i hi h => by
    refine ⟨fun q => ?_, fun _ => ⟨vin i (by omega) (by omega) rfl, ?_⟩⟩
    · rw [n_4, nI_leI (by omega) (by omega)] at q; omega
    rw [nI_clamp (by omega)]
    unfold brn at h
    refine ⟨fun q x ex => ?_, fun q x ex y ey => ?_⟩
    · rw [if_pos q] at h; rw [ex, nI_1]; exact h
    · rw [if_neg q] at h; rw [ex, ey, nI_1]; exact h
  exact ⟨5, st 4 0 (by omega) (st 3 1 (by omega) (st 2 2 (by omega) (st 1 3 (by omega) ⟨fun _ => h, fun q => absurd (by decide) q⟩)))⟩
theorem s_cnt107 {post : Int32 → Prop} {c1 c2 c3 c4 c5 : Int32} {s md : Nat → Int32} {nn : Nat} (hnn : nn ≤ 255) : ∀ (w i : Nat) (v : Int32), i + w = nn → post (fmx md w i v) → L_X12_count_107 post c1 c2 c3 c4 (nI nn) c5 s md (w + 1) v (nI i)
  | 0, i, v, hi, h => by
    have : i = nn := by omega
    subst this
    exact ⟨fun _ => h, fun q => absurd (by rw [nI_leI (by omega) (by omega)]; omega) q⟩
  | w + 1, i, v, hi, h => by
    have vi : vp_in (nI i) 255 := vin i (by omega) (by omega) rfl
    refine ⟨fun q => ?_, fun _ => ⟨vi, ?_⟩⟩
    · rw [nI_leI (by omega) (by omega)] at q; omega
    rw [nI_clamp (by omega)]
    unfold fmx at h
    refine ⟨fun q x ex => ?_, fun q => ⟨vi, fun x ex y ey => ?_⟩⟩
    · rw [if_pos q] at h; rw [ex, nI_1]; exact s_cnt107 hnn w (i + 1) v (by omega) h
    · rw [if_neg q] at h; rw [ex, ey, nI_1]; exact s_cnt107 hnn w (i + 1) _ (by omega) h
theorem op_count {a xm mm xn mn xw xh mw mh xcm mcm tn td_ un xam mam : Int32} {nt nn : Nat} {xpc mpc xc xno xt mc mt xe xa_ me xp xs xv mp ms mv xT mT xo xf xmm xl xu xa xb mf mmm ml mhh ma md mb mo : Nat → Int32} {mno ma_ : Nat → Int64} {xA xB mA mB : Nat → Int64}
    (J : IP xm xpc mm mpc) (I : IM nt xn xc xno xt mn mc mno mt) (K : IC xe xa_ xw xh me ma_ mw mh) (L : IL xp xs xv xam mp ms mv mam) (T : IT nt nn tn td_ xo xf xmm xl xu xa xb un mf mmm ml mhh ma md mb mo) (X : IX xcm xT xA xB mcm mT mA mB) {Q : Int32 → Int32 → Prop} (k : ∀ r, Q r r) :
    F_X11_count a xm xn xw xh xs tn td_ xcm (fun r => F_X12_count a mm mn mw mh un mcm ms md (fun r' => Q r r')) := by
  obtain ⟨np, hnp, rfl, rfl, rfl, hbd⟩ := J
  obtain ⟨hnt, rfl, rfl, rfl, rfl, hcb, hmn, hcr⟩ := I
  obtain ⟨rfl, heb, hax, rfl, rfl, hw, hh, hf⟩ := K
  obtain ⟨rfl, rfl, rfl, rfl, hlb⟩ := L
  obtain ⟨hnn, rfl, rfl, rfl, rfl, rfl, rfl, rfl, rfl, rfl, hd, hN, hbb⟩ := T
  obtain ⟨n, hn, rfl, rfl, rfl, rfl, rfl⟩ := X
  have st75 : ∀ {P : Int32 → Prop} {cx : Int32} n i, i < 4 → L_X12_count_75 P (nI np) (nI nt) mw mh (nI nn) cx ms md n (brn ms (i + 1)) (nI (i + 1)) → L_X12_count_75 P (nI np) (nI nt) mw mh (nI nn) cx ms md (n + 1) (brn ms i) (nI i) := fun n i hi h => by
    refine ⟨fun q => ?_, fun _ => ⟨vin i (by omega) (by omega) rfl, ?_⟩⟩
    · rw [n_4, nI_leI (by omega) (by omega)] at q; omega
    rw [nI_clamp (by omega)]
    unfold brn at h
    refine ⟨fun q x ex y ey => ?_, fun q x ex y ey => ?_⟩
    · rw [if_pos q] at h; rw [ex, ey, nI_1, Int32.add_zero]; exact h
    · rw [if_neg q] at h; rw [ex, ey, nI_1]; exact h
  refine ⟨fun q => ⟨fun _ => k _, fun c => by omega, fun c => by omega, fun c => by omega, fun c => by omega, fun c => by omega, fun c => by omega, fun c => by omega, fun c => by omega⟩,
    fun q => ⟨fun c => by omega, fun _ => k _, fun c => by omega, fun c => by omega, fun c => by omega, fun c => by omega, fun c => by omega, fun c => by omega, fun c => by omega⟩,
    fun q => ⟨fun c => by omega, fun c => by omega, fun _ => k _, fun c => by omega, fun c => by omega, fun c => by omega, fun c => by omega, fun c => by omega, fun c => by omega⟩,
    fun q => ⟨fun c => by omega, fun c => by omega, fun c => by omega, fun _ => k _, fun c => by omega, fun c => by omega, fun c => by omega, fun c => by omega, fun c => by omega⟩,
    fun q => ⟨fun c => by omega, fun c => by omega, fun c => by omega, fun c => by omega, fun _ => k _, fun c => by omega, fun c => by omega, fun c => by omega, fun c => by omega⟩,
    fun q => s_burn ⟨fun c => by omega, fun c => by omega, fun c => by omega, fun c => by omega, fun c => by omega, fun _ => ⟨5, st75 4 0 (by omega) (st75 3 1 (by omega) (st75 2 2 (by omega) (st75 1 3 (by omega) ⟨fun _ => k _, fun q => absurd (by decide) q⟩)))⟩, fun c => by omega, fun c => by omega, fun c => by omega⟩,
    fun q => ⟨fun c => by omega, fun c => by omega, fun c => by omega, fun c => by omega, fun c => by omega, fun c => by omega, fun _ => ⟨nn + 1, s_cnt107 hnn nn 0 0 (by omega) ?_⟩, fun c => by omega, fun c => by omega⟩,
    fun q => ⟨fun c => by omega, fun c => by omega, fun c => by omega, fun c => by omega, fun c => by omega, fun c => by omega, fun c => by omega, fun _ => k _, fun c => by omega⟩,
    fun q => ⟨fun c => by omega, fun c => by omega, fun c => by omega, fun c => by omega, fun c => by omega, fun c => by omega, fun c => by omega, fun c => by omega, fun _ => k _⟩⟩
  rw [hd]; exact k _
