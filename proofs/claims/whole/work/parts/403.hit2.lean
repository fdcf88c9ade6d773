/-! PURE PART: op_hit -/
theorem asI_mono {f : Nat → Int64} {F : Nat → Int} {n m : Nat} (h : asI f F n) (e : m ≤ n) : asI f F m := fun j hj => h j (by omega)
theorem hit_tail {post : Int32 → Int64 → Int64 → Int32 → Int64 → Int64 → Int32 → (Nat → Int64) → (Nat → Int64) → (Nat → Int64) → (Nat → Int64) → (Nat → Int64) → (Nat → Int64) → (Nat → Int64) → (Nat → Int64) → Prop} {tr w h : Int32} {co no eye : Nat → Int32} {mno ma : Nat → Int64} {D : Nat → Int} {f : Nat}
    {a b : Int64} {at_ : Int32} {d we fr al se fW pc ha : Nat → Int64} (hf : f < 128) (B : CB co no f (fun j => (eye j).toInt) D) (hit : hitp co no f (fun j => (eye j).toInt) D) (hF : ∀ k, k < 3 → bd 255 (eye k).toInt) (hD : ∀ k, k < 3 → bd 1023 (D k)) (hd : asI d D 3) (hw : asI fW (ww co no (fun j => (eye j).toInt) D f) 3)
    (k : ∀ ha' pc', asI ha' (hd11 co no (fun j => (eye j).toInt) D f) 11 → post (nI f) a b (nI f) (Int64.ofInt (fa co no (fun j => (eye j).toInt) D f)) (Int64.ofInt (ov no D f)) 1 d we fr al se fW ha' pc') :
    J_X12_hit_30 post tr w h co mno eye ma 1 a b (nI f) (Int64.ofInt (fa co no (fun j => (eye j).toInt) D f)) (Int64.ofInt (ov no D f)) at_ d we fr al se fW ha pc := by
  have pos := ov_pos hit
  generalize eF : (fun j => (eye j).toInt) = F at *
  have b0 : bd bM (fa co no F D f) := tm_bd B 0
  have b1 : bd bM (ov no D f) := tm_bd B 1
  have gt := gN_lt (R := tm co no F D f) (N := 2) (fun j _ => tm_bd B j) 2 (by omega)
  have gt0 : gN (tm co no F D f) 2 ≠ 0 := gN_ne (R := tm co no F D f) (n := 1) pos
  have gw := gN_lt (R := wg co no F D f) (N := 4) (fun j _ => wg_bd B j) 4 (by omega)
  have gw0 : gN (wg co no F D f) 4 ≠ 0 := gN_ne (R := wg co no F D f) (n := 3) pos
  refine ⟨bz_1, fun _ => ⟨vin 0 (by omega) (by omega) rfl, fun g0 e0 => s_common b0 b1 ?_⟩, fun q => absurd ?_ q⟩
  rotate_left
  · rw [i32_le, nI_toInt (by omega)]; show (0 : Int) ≤ f; omega
  rw [show Nat.gcd (fa co no F D f).natAbs (ov no D f).natAbs = gN (tm co no F D f) 2 from gN_2 (tm co no F D f)]
  refine ⟨o_ne0 gt gt0, vin 1 (by omega) (by omega) rfl, fun g1 e1 => ⟨o_ne0 gt gt0, vin 2 (by omega) (by omega) rfl, fun g2 e2 => ?_⟩⟩
  rw [cl_0, o_i2l, nI_toInt (by omega)] at e0
  rw [cl_1, o_div (bd_r63 (by decide) b0) (nat_r63 gt)] at e1
  rw [cl_2, o_div (bd_r63 (by decide) b1) (nat_r63 gt)] at e2
  have h0 : asI g0 (hd11 co no F D f) 1 := by rw [e0]; exact asI_s (F := hd11 co no F D f) (asI_0 _ _)
  have h1 : asI g1 (hd11 co no F D f) 2 := by rw [e1]; exact asI_s (F := hd11 co no F D f) h0
  have h2 : asI g2 (hd11 co no F D f) 3 := by rw [e2]; exact asI_s (F := hd11 co no F D f) h1
  refine s_findPlace (R := pl co no F D f) hd (fun k hk => by unfold pl; rw [if_pos hk, ← eF]) (by unfold pl; rw [if_neg (by omega)]) (fun j _ => bd_le (by decide) (pl_bd B (by rw [← eF]; exact hF) hD j)) pos (fun pc' hp => ⟨5, ?_⟩)
  refine st_hit97 (k := 0) (by omega) hp (st_hit97 (k := 1) (by omega) hp (st_hit97 (k := 2) (by omega) hp (st_hit97 (k := 3) (by omega) hp ⟨fun _ => ⟨4, ?_⟩, fun q => absurd (by decide) q⟩)))
  have h7 := asI_s (F := hd11 co no F D f) (asI_s (F := hd11 co no F D f) (asI_s (F := hd11 co no F D f) (asI_s (F := hd11 co no F D f) h2)))
  change asI (vp_updL (vp_updL (vp_updL (vp_updL g2 (3 + 0) _) (3 + 1) _) (3 + 2) _) (3 + 3) _) _ 7 at h7
  generalize vp_updL (vp_updL (vp_updL (vp_updL g2 (3 + 0) _) (3 + 1) _) (3 + 2) _) (3 + 3) _ = g7 at h7 ⊢
  have eB : ov no D f = ((wg co no F D f 3).natAbs : Int) := by
    show ov no D f = ((ov no D f).natAbs : Int); omega
  have n0 : (wg co no F D f 3).natAbs ≤ 9000000000000000000 := by
    show (ov no D f).natAbs ≤ _
    obtain ⟨u1, u2⟩ := b1; unfold bM at u1 u2; omega
  have p0 : 0 < (wg co no F D f 3).natAbs := by show 0 < (ov no D f).natAbs; omega
  have q1 := Nat.gcd_le_left (wg co no F D f 0).natAbs p0
  have p1 : 0 < Nat.gcd (wg co no F D f 3).natAbs (wg co no F D f 0).natAbs := Nat.gcd_pos_of_pos_left _ p0
  have q2 := Nat.gcd_le_left (wg co no F D f 1).natAbs p1
  have go : L_X12_hit_134 post tr w h co mno eye ma 4 (Int64.ofInt ((wg co no F D f 3).natAbs : Int)) (nI 0) a b (nI f) (Int64.ofInt (fa co no F D f)) (Int64.ofInt (ov no D f)) 1 d we fr al se fW g7 pc' := by
    refine st_hit134 (co := co) (no := no) (F := F) (D := D) (f := f) (k := 0) (by omega) hw (wg_bd B 0) (by omega) (st_hit134 (co := co) (no := no) (F := F) (D := D) (f := f) (k := 1) (by omega) hw (wg_bd B 1) (by omega) (st_hit134 (co := co) (no := no) (F := F) (D := D) (f := f) (k := 2) (by omega) hw (wg_bd B 2) (by omega) ⟨fun _ => ⟨4, ?_⟩, fun q => absurd (by decide) q⟩))
    rw [gN_4]
    refine st_hit163 (k := 0) (by omega) hw (wg_bd B 0) gw gw0 (st_hit163 (k := 1) (by omega) hw (wg_bd B 1) gw gw0 (st_hit163 (k := 2) (by omega) hw (wg_bd B 2) gw gw0 ⟨fun _ => ⟨o_ne0 gw gw0, vin 10 (by omega) (by omega) rfl, fun g31 e31 => k _ _ ?_⟩, fun q => absurd (by decide) q⟩))
    rw [show (10 : Int32).toNatClampNeg = 10 from rfl, o_div (bd_r63 (by decide) b1) (nat_r63 gw)] at e31
    rw [e31]
    exact asI_s (F := hd11 co no F D f) (asI_s (F := hd11 co no F D f) (asI_s (F := hd11 co no F D f) (asI_s (F := hd11 co no F D f) h7)))
  rw [← eB] at go
  exact go
theorem op_hit {x y xn mn xw xh mw mh wh at_ : Int32} {nt : Nat} {xc xno xt mc mt xe xa me : Nat → Int32} {mno ma : Nat → Int64} {ti pc we ha : Nat → Int64} {s1 s2 s3 s4 s5 s6 : Int64} {sf sa : Nat → Int64} {m1 m2 : Int64} {m3 : Int32} {m4 m5 : Int64} {n1 n2 n3 n4 n5 n6 n8 : Nat → Int64}
    (I : IM nt xn xc xno xt mn mc mno mt) (K : IC xe xa xw xh me ma mw mh) (H : IH wh ti pc we at_ ha)
    {Q : Int32 → Int32 → (Nat → Int64) → (Nat → Int64) → (Nat → Int64) → Int64 → Int64 → Int64 → Int64 → Int64 → Int64 → (Nat → Int64) → (Nat → Int64) → Int32 → Int64 → Int64 → Int32 → Int64 → Int64 → Int32 → (Nat → Int64) → (Nat → Int64) → (Nat → Int64) → (Nat → Int64) → (Nat → Int64) → (Nat → Int64) → (Nat → Int64) → (Nat → Int64) → Prop}
    (k : ∀ r wh' ti' pc' we' a b c d e f fr al A B fi fA fB at' d' we2 fr2 al2 se2 fW2 ha' pl2, IH wh' ti' pc' we' at' ha' → Q r wh' ti' pc' we' a b c d e f fr al r A B fi fA fB at' d' we2 fr2 al2 se2 fW2 ha' pl2) :
    F_X11_hit x y xn xc xno xw xh xe xa wh ti pc we s1 s2 s3 s4 s5 s6 sf sa (fun r v1 v2 v3 v4 v5 v6 v7 v8 v9 v10 v11 v12 => F_X12_hit x y mn mw mh m1 m2 m3 m4 m5 at_ mc mno me ma n1 n2 n3 n4 n5 n6 ha n8 (fun r' u1 u2 u3 u4 u5 u6 u7 u8 u9 u10 u11 u12 u13 u14 => Q r v1 v2 v3 v4 v5 v6 v7 v8 v9 v10 v11 v12 r' u1 u2 u3 u4 u5 u6 u7 u8 u9 u10 u11 u12 u13 u14)) := by
  have SCx : pix x y xw xh → _ := fun hp => cam_SC I K hp
  obtain ⟨hnt, rfl, rfl, rfl, rfl, hcb, hmn, hcr⟩ := I
  obtain ⟨rfl, heb, hax, rfl, rfl, hw, hh, hf⟩ := K
  refine s_hasPixel (fun hp => ⟨fun _ => ?_, fun q => absurd q (by decide)⟩) (fun np => ⟨fun q => absurd rfl q, fun _ => s_isPixel hw.1 hh.1 (fun hp => absurd hp np) (fun _ => ⟨fun q => absurd rfl q, fun _ => k _ _ _ _ _ _ _ _ _ _ _ _ _ _ _ _ _ _ _ _ _ _ _ _ _ _ _ H⟩)⟩)
  have S := SCx hp
  have hD : ∀ k, k < 3 → bd 1023 (camD xa mw.toInt mh.toInt x.toInt y.toInt k) := fun k hk => camD_bd hf hk ⟨hp.1, hp.2.1⟩ hp.2.2
  refine s_look hp hw.2 hh.2 S (fun a b c d e f fr al wh' ti' pc' we' C => ?_)
  refine s_isPixel hw.1 hh.1 (fun _ => ⟨fun _ => ?_, fun q => absurd q (by decide)⟩) (fun np => absurd hp np)
  refine s_findFirst hax S hmn (fun A B fi fA fB d2 we2 fr2 al2 se2 fW2 hd M => ?_)
  rcases M with ⟨e0, rfl⟩ | ⟨g, e0, rfl, rfl, rfl, hW⟩
  · rcases C with ⟨_, rfl⟩ | ⟨g, e1, _⟩
    · refine ⟨fun _ => ⟨bz_0, fun q => absurd q (by decide), fun _ => k _ _ _ _ _ _ _ _ _ _ _ _ _ _ _ _ _ _ _ _ _ _ _ _ _ _ _ (Or.inl ⟨rfl, rfl⟩)⟩, fun q => absurd m2_neg q⟩
    · rw [e0] at e1; cases e1
  · obtain ⟨hg, hit⟩ := fst_hit e0
    have B := (S.2.2 g hg).2
    rcases C with ⟨e1, _⟩ | ⟨g', e1, rfl, c1, c2, c3⟩
    · rw [e0] at e1; cases e1
    · rw [e0] at e1; injection e1 with e1; subst e1
      refine ⟨fun q => absurd q (nI_nn (by omega)), fun _ => hit_tail (by omega) B hit (fun k _ => heb k) hD hd hW (fun ha' pc2 hh11 => k _ _ _ _ _ _ _ _ _ _ _ _ _ _ _ _ _ _ _ _ _ _ _ _ _ _ _ (Or.inr ⟨g, by omega, rfl, rfl, ?_, fun k hk post hp => ?_, fun k hk post hp => ?_, fun k hk post hp => ?_⟩))⟩
      · rw [hh11 0 (by omega), o_i2l, nI_toInt (by omega)]; rfl
      · refine s_least (by omega) hk c1 (fun j _ => tm_bd B j) (gN_ne (R := tm mc xno (fun j => (me j).toInt) (camD xa mw.toInt mh.toInt x.toInt y.toInt) g) (n := 1) (ov_pos hit)) ?_
        rw [hh11 (1 + k) (by omega)] at hp
        unfold hd11 red at hp
        rw [if_neg (by omega), if_pos (by omega), Nat.add_sub_cancel_left] at hp
        exact hp
      · refine s_least (by omega) hk c2 (fun j _ => bd_le (by decide) (pl_bd B (fun k _ => heb k) hD j)) (gN_ne (R := pl mc xno (fun j => (me j).toInt) (camD xa mw.toInt mh.toInt x.toInt y.toInt) g) (n := 3) (ov_pos hit)) ?_
        rw [hh11 (3 + k) (by omega)] at hp
        unfold hd11 red at hp
        rw [if_neg (by omega), if_neg (by omega), if_pos (by omega), Nat.add_sub_cancel_left] at hp
        exact hp
      · refine s_least (by omega) hk c3 (fun j _ => wg_bd B j) (gN_ne (R := wg mc xno (fun j => (me j).toInt) (camD xa mw.toInt mh.toInt x.toInt y.toInt) g) (n := 3) (ov_pos hit)) ?_
        rw [hh11 (7 + k) (by omega)] at hp
        unfold hd11 red at hp
        rw [if_neg (by omega), if_neg (by omega), if_neg (by omega), Nat.add_sub_cancel_left] at hp
        exact hp
