/-! PURE PART: colours (heads written by a program) -/
def shr (xs xv : Nat → Int32) (i : Nat) (r : Int32) : Int32 := if xs i ≤ 0 then 0 else if r < 0 then 0 else xs i * xv r.toNatClampNeg / 255
theorem st_colour {post : Int32 → Int32 → (Nat → Int64) → (Nat → Int64) → (Nat → Int64) → Int64 → Int64 → Int64 → Int64 → Int64 → Int64 → (Nat → Int64) → (Nat → Int64) → Int64 → Int64 → Int64 → Int64 → Int64 → Int64 → (Nat → Int64) → (Nat → Int64) → (Nat → Int64) → (Nat → Int64) → (Nat → Int64) → (Nat → Int64) → (Nat → Int64) → (Nat → Int64) → Prop} {xb xw xh xam : Int32} {xt xa xs xv : Nat → Int32} {nt f i n : Nat} {co no eye lt : Nat → Int32} {l3 r : Int32} {vt vp vw : Nat → Int64} {D : Nat → Int} {v5 : Int64} {v6 : Int64} {v7 : Int64} {v8 : Int64} {v9 : Int64} {v10 : Int64} {v11 : Nat → Int64} {v12 : Nat → Int64} {v13 : Int64} {v14 : Int64} {v15 : Int64} {v16 : Int64} {v17 : Int64} {v18 : Int64} {v19 : Nat → Int64} {v20 : Nat → Int64} {v21 : Nat → Int64} {v22 : Nat → Int64} {v23 : Nat → Int64} {v24 : Nat → Int64} {v25 : Nat → Int64} {v26 : Nat → Int64} (hi : i < 4) (hr : r = -2 ∨ ∃ j, j ≤ 15 ∧ r = nI j)
    (cl : ∀ (ti pc fr al : Nat → Int64) (a b c d e g : Int64) (r1 r2 r3 r4 r5 r6 : Nat → Int64) (post : Int32 → Int64 → Int64 → Int64 → Int64 → Int64 → Int64 → (Nat → Int64) → (Nat → Int64) → (Nat → Int64) → (Nat → Int64) → (Nat → Int64) → (Nat → Int64) → (Nat → Int64) → (Nat → Int64) → Prop), ti 1 = Int64.ofInt (ov no D f) → asI pc (pl co no (fun j => (eye j).toInt) D f) 4 →
      (∀ a b c d e g fr' al' r1 r2 r3 r4 r5 r6, post r a b c d e g fr' al' r1 r2 r3 r4 r5 r6) → F_X11_levelOf (nI i) (nI nt) co no eye lt a b c d e g fr al r1 r2 r3 r4 r5 r6 (nI f) ti pc post)
    (c1 : vt 1 = Int64.ofInt (ov no D f)) (c2 : asI vp (pl co no (fun j => (eye j).toInt) D f) 4)
    (k : ∀ (v5 : Int64) (v6 : Int64) (v7 : Int64) (v8 : Int64) (v9 : Int64) (v10 : Int64) (v11 : Nat → Int64) (v12 : Nat → Int64) (v13 : Int64) (v14 : Int64) (v15 : Int64) (v16 : Int64) (v17 : Int64) (v18 : Int64) (v19 : Nat → Int64) (v20 : Nat → Int64) (v21 : Nat → Int64) (v22 : Nat → Int64) (v23 : Nat → Int64) (v24 : Nat → Int64) (v25 : Nat → Int64) (v26 : Nat → Int64), L_X11_colour_36 post xb (nI nt) co no xt xw xh eye xa xam lt xs xv n (l3 + shr xs xv i r) (nI (i + 1)) (nI f) vt vp vw v5 v6 v7 v8 v9 v10 v11 v12 v13 v14 v15 v16 v17 v18 v19 v20 v21 v22 v23 v24 v25 v26) :
    L_X11_colour_36 post xb (nI nt) co no xt xw xh eye xa xam lt xs xv (n + 1) l3 (nI i) (nI f) vt vp vw v5 v6 v7 v8 v9 v10 v11 v12 v13 v14 v15 v16 v17 v18 v19 v20 v21 v22 v23 v24 v25 v26 := by
  unfold shr at k
  refine ⟨fun q => ?_, fun _ => ⟨vin i (by omega) (by omega) rfl, ?_⟩⟩
  · rw [n_4, nI_leI (by omega) (by omega)] at q; omega
  rw [nI_clamp (by omega)]
  refine ⟨fun q x ex => ?_, fun q => cl _ _ _ _ _ _ _ _ _ _ _ _ _ _ _ _ _ c1 c2 (fun a b c d e g fr' al' r1 r2 r3 r4 r5 r6 => ?_)⟩
  · rw [if_pos q, Int32.add_zero] at k
    rw [ex, nI_1]; exact k _ _ _ _ _ _ _ _ _ _ _ _ _ _ _ _ _ _ _ _ _ _
  rw [if_neg q] at k
  rcases hr with rfl | ⟨j, hj, rfl⟩
  · rw [if_pos m2_neg] at k
    exact ⟨fun _ x ex y ey => by rw [ex, ey, nI_1]; exact k _ _ _ _ _ _ _ _ _ _ _ _ _ _ _ _ _ _ _ _ _ _, fun q => absurd m2_neg q⟩
  · rw [if_neg (nI_nn (by omega))] at k
    refine ⟨fun q => absurd q (nI_nn (by omega)), fun _ => ⟨fun q => ?_, fun _ => ⟨vin i (by omega) (by omega) rfl, vin j (by omega) (by omega) rfl, fun x ex y ey => ?_⟩⟩⟩
    · rw [show (16 : Int32) = nI 16 from rfl, nI_leI (by omega) (by omega)] at q; omega
    · rw [nI_clamp (show i < 2 ^ 31 by omega)] at ex
      rw [ex, ey, nI_1]; exact k _ _ _ _ _ _ _ _ _ _ _ _ _ _ _ _ _ _ _ _ _ _
theorem st_pixelOf {post : Int32 → Int64 → Int64 → Int32 → Int64 → Int64 → (Nat → Int64) → (Nat → Int64) → (Nat → Int64) → (Nat → Int64) → (Nat → Int64) → (Nat → Int64) → (Nat → Int64) → (Nat → Int64) → (Nat → Int64) → (Nat → Int64) → (Nat → Int64) → Prop} {mb mw mh mam : Int32} {mt xs xv : Nat → Int32} {mno ma d fW : Nat → Int64} {nt f i n : Nat} {co no eye lt : Nat → Int32} {D : Nat → Int} {l3 r : Int32} {u1 : Int64} {u2 : Int64} {u7 : Nat → Int64} {u8 : Nat → Int64} {u9 : Nat → Int64} {u10 : Nat → Int64} {u12 : Nat → Int64} {u13 : Nat → Int64} {u14 : Nat → Int64} {u15 : Nat → Int64} {u16 : Nat → Int64} (hi : i < 4) (hr : r = -2 ∨ ∃ j, j ≤ 15 ∧ r = nI j) (hd : asI d D 3)
    (ml : ∀ (d we fr al se pc one two pr sq : Nat → Int64) (a b : Int64) (post : Int32 → Int64 → Int64 → (Nat → Int64) → (Nat → Int64) → (Nat → Int64) → (Nat → Int64) → (Nat → Int64) → (Nat → Int64) → (Nat → Int64) → (Nat → Int64) → (Nat → Int64) → Prop), asI d D 3 → (∀ a b we fr al se pc' one two pr sq, post r a b we fr al se pc' one two pr sq) →
      F_X12_litBy (nI i) (nI nt) a b (nI f) (Int64.ofInt (fa co no (fun j => (eye j).toInt) D f)) (Int64.ofInt (ov no D f)) co mno eye lt d we fr al se pc one two pr sq post)
    (k : ∀ (u1 : Int64) (u2 : Int64) (u7 : Nat → Int64) (u8 : Nat → Int64) (u9 : Nat → Int64) (u10 : Nat → Int64) (u12 : Nat → Int64) (u13 : Nat → Int64) (u14 : Nat → Int64) (u15 : Nat → Int64) (u16 : Nat → Int64), L_X12_pixelOf_26 post (nI nt) mw mh mam mb co mno mt eye ma lt xs xv n (l3 + shr xs xv i r) (nI (i + 1)) u1 u2 (nI f) (Int64.ofInt (fa co no (fun j => (eye j).toInt) D f)) (Int64.ofInt (ov no D f)) d u7 u8 u9 u10 fW u12 u13 u14 u15 u16) :
    L_X12_pixelOf_26 post (nI nt) mw mh mam mb co mno mt eye ma lt xs xv (n + 1) l3 (nI i) u1 u2 (nI f) (Int64.ofInt (fa co no (fun j => (eye j).toInt) D f)) (Int64.ofInt (ov no D f)) d u7 u8 u9 u10 fW u12 u13 u14 u15 u16 := by
  unfold shr at k
  refine ⟨fun q => ?_, fun _ => ⟨vin i (by omega) (by omega) rfl, ?_⟩⟩
  · rw [n_4, nI_leI (by omega) (by omega)] at q; omega
  rw [nI_clamp (by omega)]
  refine ⟨fun q => ⟨fun _ x ex y ey => ?_, fun z => absurd m2_neg z⟩, fun q => ml _ _ _ _ _ _ _ _ _ _ _ _ _ hd (fun a b we fr al se pc' one two pr sq => ?_)⟩
  · rw [if_pos q] at k
    rw [ex, ey, nI_1]; exact k _ _ _ _ _ _ _ _ _ _ _
  rw [if_neg q] at k
  rcases hr with rfl | ⟨j, hj, rfl⟩
  · rw [if_pos m2_neg] at k
    exact ⟨fun _ x ex y ey => by rw [ex, ey, nI_1]; exact k _ _ _ _ _ _ _ _ _ _ _, fun q => absurd m2_neg q⟩
  · rw [if_neg (nI_nn (by omega))] at k
    refine ⟨fun q => absurd q (nI_nn (by omega)), fun _ => ⟨vin i (by omega) (by omega) rfl, vin j (by omega) (by omega) rfl, fun x ex y ey => ?_⟩⟩
    rw [nI_clamp (show i < 2 ^ 31 by omega)] at ex
    rw [ex, ey, nI_1]; exact k _ _ _ _ _ _ _ _ _ _ _
theorem min255 (v : Int32) {post : Int32 → Prop} (h : post (jminI 255 v)) : (v ≤ 255 → post v) ∧ (¬ v ≤ 255 → post 255) := by
  unfold jminI at h
  refine ⟨fun q => ?_, fun q => ?_⟩
  · by_cases c : v < 255
    · rw [if_pos c] at h; exact h
    · rw [if_neg c] at h
      have : v = 255 := by
        rw [i32_le] at q
        rw [i32_lt] at c
        rw [← Int32.toInt_inj]; omega
      rw [this]; exact h
  · rw [if_neg (fun c => q (Int32.le_of_lt c))] at h; exact h
theorem colour_both {nt : Nat} {xn mn xw xh mw mh xam mam xb x y : Int32} {xc xno xt mc mt xe xa me xp xs xv mp ms mv : Nat → Int32} {mno ma : Nat → Int64} (I : IM nt xn xc xno xt mn mc mno mt) (K : IC xe xa xw xh me ma mw mh) (L : IL xp xs xv xam mp ms mv mam) (hp : pix x y xw xh) : ∃ r : Int32,
    (∀ (s15 : Int32) (s16 : Nat → Int64) (s17 : Nat → Int64) (s18 : Nat → Int64) (s19 : Int64) (s20 : Int64) (s21 : Int64) (s22 : Int64) (s23 : Int64) (s24 : Int64) (s25 : Nat → Int64) (s26 : Nat → Int64) (s27 : Int64) (s28 : Int64) (s29 : Int64) (s30 : Int64) (s31 : Int64) (s32 : Int64) (s33 : Nat → Int64) (s34 : Nat → Int64) (s35 : Nat → Int64) (s36 : Nat → Int64) (s37 : Nat → Int64) (s38 : Nat → Int64) (s39 : Nat → Int64) (s40 : Nat → Int64) (post : Int32 → Int32 → (Nat → Int64) → (Nat → Int64) → (Nat → Int64) → Int64 → Int64 → Int64 → Int64 → Int64 → Int64 → (Nat → Int64) → (Nat → Int64) → Int64 → Int64 → Int64 → Int64 → Int64 → Int64 → (Nat → Int64) → (Nat → Int64) → (Nat → Int64) → (Nat → Int64) → (Nat → Int64) → (Nat → Int64) → (Nat → Int64) → (Nat → Int64) → Prop), (∀ (v1 : Int32) (v2 : Nat → Int64) (v3 : Nat → Int64) (v4 : Nat → Int64) (v5 : Int64) (v6 : Int64) (v7 : Int64) (v8 : Int64) (v9 : Int64) (v10 : Int64) (v11 : Nat → Int64) (v12 : Nat → Int64) (v13 : Int64) (v14 : Int64) (v15 : Int64) (v16 : Int64) (v17 : Int64) (v18 : Int64) (v19 : Nat → Int64) (v20 : Nat → Int64) (v21 : Nat → Int64) (v22 : Nat → Int64) (v23 : Nat → Int64) (v24 : Nat → Int64) (v25 : Nat → Int64) (v26 : Nat → Int64), post r v1 v2 v3 v4 v5 v6 v7 v8 v9 v10 v11 v12 v13 v14 v15 v16 v17 v18 v19 v20 v21 v22 v23 v24 v25 v26) → F_X11_colour x y xb xn xc xno xt xw xh xe xa xam xp xs xv s15 s16 s17 s18 s19 s20 s21 s22 s23 s24 s25 s26 s27 s28 s29 s30 s31 s32 s33 s34 s35 s36 s37 s38 s39 s40 post) ∧
    (∀ (m7 : Int64) (m8 : Int64) (m9 : Int32) (m10 : Int64) (m11 : Int64) (m20 : Nat → Int64) (m21 : Nat → Int64) (m22 : Nat → Int64) (m23 : Nat → Int64) (m24 : Nat → Int64) (m25 : Nat → Int64) (m26 : Nat → Int64) (m27 : Nat → Int64) (m28 : Nat → Int64) (m29 : Nat → Int64) (m30 : Nat → Int64) (post : Int32 → Int64 → Int64 → Int32 → Int64 → Int64 → (Nat → Int64) → (Nat → Int64) → (Nat → Int64) → (Nat → Int64) → (Nat → Int64) → (Nat → Int64) → (Nat → Int64) → (Nat → Int64) → (Nat → Int64) → (Nat → Int64) → (Nat → Int64) → Prop), (∀ (u1 : Int64) (u2 : Int64) (u3 : Int32) (u4 : Int64) (u5 : Int64) (u6 : Nat → Int64) (u7 : Nat → Int64) (u8 : Nat → Int64) (u9 : Nat → Int64) (u10 : Nat → Int64) (u11 : Nat → Int64) (u12 : Nat → Int64) (u13 : Nat → Int64) (u14 : Nat → Int64) (u15 : Nat → Int64) (u16 : Nat → Int64), post r u1 u2 u3 u4 u5 u6 u7 u8 u9 u10 u11 u12 u13 u14 u15 u16) → F_X12_pixelOf x y mn mw mh mam xb m7 m8 m9 m10 m11 mc mno mt me ma mp ms mv m20 m21 m22 m23 m24 m25 m26 m27 m28 m29 m30 post) := by
  have S := cam_SC I K hp
  have HCx : ∀ f, _ → _ := fun f e => cam_HC I K hp (f := f) e
  obtain ⟨hnt, rfl, rfl, rfl, rfl, hcb, hmn, hcr⟩ := I
  obtain ⟨rfl, heb, hax, rfl, rfl, hw, hh, hf⟩ := K
  obtain ⟨rfl, rfl, rfl, rfl, hlb⟩ := L
  cases ef : fst mc xno (fun j => (me j).toInt) (camD xa mw.toInt mh.toInt x.toInt y.toInt) nt with
  | none =>
    refine ⟨xb, fun s15 s16 s17 s18 s19 s20 s21 s22 s23 s24 s25 s26 s27 s28 s29 s30 s31 s32 s33 s34 s35 s36 s37 s38 s39 s40 post k => ?_, fun m7 m8 m9 m10 m11 m20 m21 m22 m23 m24 m25 m26 m27 m28 m29 m30 post k => ?_⟩
    · refine s_look hp hw.2 hh.2 S (fun a b c d e f fr al wh ti pc we C => ?_)
      rw [ef] at C
      have ew := ClS_none C
      subst ew
      exact ⟨fun _ => ⟨fun q => absurd rfl q, fun _ => k _ _ _ _ _ _ _ _ _ _ _ _ _ _ _ _ _ _ _ _ _ _ _ _ _ _⟩, fun q => absurd m2_neg q⟩
    · refine s_findFirst hax S hmn (fun A B fi fA fB d2 we2 fr2 al2 se2 fW2 hd M => ?_)
      rw [ef] at M
      have ei := MS_none M
      subst ei
      exact ⟨fun q => absurd q (by decide), fun _ => k _ _ _ _ _ _ _ _ _ _ _ _ _ _ _ _⟩
  | some g =>
    have HH := HCx g ef
    have hg := HH.2.1
    obtain ⟨r0, h0, cl0, ml0⟩ := lit_both (mno := mno) (i := 0) HH hmn hlb (by omega)
    obtain ⟨r1, h1, cl1, ml1⟩ := lit_both (mno := mno) (i := 1) HH hmn hlb (by omega)
    obtain ⟨r2, h2, cl2, ml2⟩ := lit_both (mno := mno) (i := 2) HH hmn hlb (by omega)
    obtain ⟨r3, h3, cl3, ml3⟩ := lit_both (mno := mno) (i := 3) HH hmn hlb (by omega)
    refine ⟨jminI 255 ((mt g * (mam + shr ms mv 0 r0 + shr ms mv 1 r1 + shr ms mv 2 r2 + shr ms mv 3 r3)) / 255), fun s15 s16 s17 s18 s19 s20 s21 s22 s23 s24 s25 s26 s27 s28 s29 s30 s31 s32 s33 s34 s35 s36 s37 s38 s39 s40 post k => ?_, fun m7 m8 m9 m10 m11 m20 m21 m22 m23 m24 m25 m26 m27 m28 m29 m30 post k => ?_⟩
    · refine s_look hp hw.2 hh.2 S (fun a b c d e f fr al wh ti pc we C => ?_)
      rw [ef] at C
      obtain ⟨rfl, c1, c2⟩ := ClS_some C
      refine ⟨fun q => absurd q (nI_nn (by omega)), fun _ => ⟨fun _ => ⟨5, ?_⟩, fun q => absurd q (by decide)⟩⟩
      refine st_colour (i := 0) (by omega) h0 cl0 c1 c2 (fun _ _ _ _ _ _ _ _ _ _ _ _ _ _ _ _ _ _ _ _ _ _ => st_colour (i := 1) (by omega) h1 cl1 c1 c2 (fun _ _ _ _ _ _ _ _ _ _ _ _ _ _ _ _ _ _ _ _ _ _ => st_colour (i := 2) (by omega) h2 cl2 c1 c2 (fun _ _ _ _ _ _ _ _ _ _ _ _ _ _ _ _ _ _ _ _ _ _ => st_colour (i := 3) (by omega) h3 cl3 c1 c2 (fun _ _ _ _ _ _ _ _ _ _ _ _ _ _ _ _ _ _ _ _ _ _ => ⟨fun _ => ⟨vin g (by omega) (by omega) rfl, ?_⟩, fun q => absurd (by decide) q⟩))))
      rw [nI_clamp (by omega)]; exact k _ _ _ _ _ _ _ _ _ _ _ _ _ _ _ _ _ _ _ _ _ _ _ _ _ _
    · refine s_findFirst hax S hmn (fun A B fi fA fB d2 we2 fr2 al2 se2 fW2 hd M => ?_)
      rw [ef] at M
      obtain ⟨rfl, rfl, rfl⟩ := MS_some M
      refine ⟨fun _ => ⟨5, ?_⟩, fun q => absurd (by rw [i32_le, nI_toInt (by omega)]; show (0 : Int) ≤ _; omega) q⟩
      refine st_pixelOf (no := xno) (i := 0) (by omega) h0 hd ml0 (fun _ _ _ _ _ _ _ _ _ _ _ => st_pixelOf (no := xno) (i := 1) (by omega) h1 hd ml1 (fun _ _ _ _ _ _ _ _ _ _ _ => st_pixelOf (no := xno) (i := 2) (by omega) h2 hd ml2 (fun _ _ _ _ _ _ _ _ _ _ _ => st_pixelOf (no := xno) (i := 3) (by omega) h3 hd ml3 (fun _ _ _ _ _ _ _ _ _ _ _ => ⟨fun _ => ⟨vin g (by omega) (by omega) rfl, fun v ev => ?_⟩, fun q => absurd (by decide) q⟩))))
      rw [nI_clamp (by omega)] at ev
      exact min255 v (post := fun z => post z _ _ _ _ _ _ _ _ _ _ _ _ _ _ _ _) (by rw [ev]; exact k _ _ _ _ _ _ _ _ _ _ _ _ _ _ _ _)
theorem op_pixel {q1 : Int32} {q2 : Int32} {xb : Int32} {xn : Int32} {xc : Nat → Int32} {xno : Nat → Int32} {xt : Nat → Int32} {xw : Int32} {xh : Int32} {xe : Nat → Int32} {xa : Nat → Int32} {xam : Int32} {xp : Nat → Int32} {xs : Nat → Int32} {xv : Nat → Int32} {s15 : Int32} {s16 : Nat → Int64} {s17 : Nat → Int64} {s18 : Nat → Int64} {s19 : Int64} {s20 : Int64} {s21 : Int64} {s22 : Int64} {s23 : Int64} {s24 : Int64} {s25 : Nat → Int64} {s26 : Nat → Int64} {s27 : Int64} {s28 : Int64} {s29 : Int64} {s30 : Int64} {s31 : Int64} {s32 : Int64} {s33 : Nat → Int64} {s34 : Nat → Int64} {s35 : Nat → Int64} {s36 : Nat → Int64} {s37 : Nat → Int64} {s38 : Nat → Int64} {s39 : Nat → Int64} {s40 : Nat → Int64} {mn : Int32} {mw : Int32} {mh : Int32} {mam : Int32} {mb : Int32} {m7 : Int64} {m8 : Int64} {m9 : Int32} {m10 : Int64} {m11 : Int64} {mc : Nat → Int32} {mno : Nat → Int64} {mt : Nat → Int32} {me : Nat → Int32} {ma : Nat → Int64} {mp : Nat → Int32} {ms : Nat → Int32} {mv : Nat → Int32} {m20 : Nat → Int64} {m21 : Nat → Int64} {m22 : Nat → Int64} {m23 : Nat → Int64} {m24 : Nat → Int64} {m25 : Nat → Int64} {m26 : Nat → Int64} {m27 : Nat → Int64} {m28 : Nat → Int64} {m29 : Nat → Int64} {m30 : Nat → Int64} {nt : Nat} (I : IM nt xn xc xno xt mn mc mno mt) (K : IC xe xa xw xh me ma mw mh) (L : IL xp xs xv xam mp ms mv mam) (hbk : mb = xb) {Q : Int32 → Int32 → (Nat → Int64) → (Nat → Int64) → (Nat → Int64) → Int64 → Int64 → Int64 → Int64 → Int64 → Int64 → (Nat → Int64) → (Nat → Int64) → Int64 → Int64 → Int64 → Int64 → Int64 → Int64 → (Nat → Int64) → (Nat → Int64) → (Nat → Int64) → (Nat → Int64) → (Nat → Int64) → (Nat → Int64) → (Nat → Int64) → (Nat → Int64) → Int32 → Int64 → Int64 → Int32 → Int64 → Int64 → (Nat → Int64) → (Nat → Int64) → (Nat → Int64) → (Nat → Int64) → (Nat → Int64) → (Nat → Int64) → (Nat → Int64) → (Nat → Int64) → (Nat → Int64) → (Nat → Int64) → (Nat → Int64) → Prop}
    (k : ∀ (r : Int32) (v1 : Int32) (v2 : Nat → Int64) (v3 : Nat → Int64) (v4 : Nat → Int64) (v5 : Int64) (v6 : Int64) (v7 : Int64) (v8 : Int64) (v9 : Int64) (v10 : Int64) (v11 : Nat → Int64) (v12 : Nat → Int64) (v13 : Int64) (v14 : Int64) (v15 : Int64) (v16 : Int64) (v17 : Int64) (v18 : Int64) (v19 : Nat → Int64) (v20 : Nat → Int64) (v21 : Nat → Int64) (v22 : Nat → Int64) (v23 : Nat → Int64) (v24 : Nat → Int64) (v25 : Nat → Int64) (v26 : Nat → Int64) (u1 : Int64) (u2 : Int64) (u3 : Int32) (u4 : Int64) (u5 : Int64) (u6 : Nat → Int64) (u7 : Nat → Int64) (u8 : Nat → Int64) (u9 : Nat → Int64) (u10 : Nat → Int64) (u11 : Nat → Int64) (u12 : Nat → Int64) (u13 : Nat → Int64) (u14 : Nat → Int64) (u15 : Nat → Int64) (u16 : Nat → Int64), Q r v1 v2 v3 v4 v5 v6 v7 v8 v9 v10 v11 v12 v13 v14 v15 v16 v17 v18 v19 v20 v21 v22 v23 v24 v25 v26 r u1 u2 u3 u4 u5 u6 u7 u8 u9 u10 u11 u12 u13 u14 u15 u16) :
    F_X11_pixel q1 q2 xb xn xc xno xt xw xh xe xa xam xp xs xv s15 s16 s17 s18 s19 s20 s21 s22 s23 s24 s25 s26 s27 s28 s29 s30 s31 s32 s33 s34 s35 s36 s37 s38 s39 s40 (fun r v1 v2 v3 v4 v5 v6 v7 v8 v9 v10 v11 v12 v13 v14 v15 v16 v17 v18 v19 v20 v21 v22 v23 v24 v25 v26 => F_X12_pixel q1 q2 mn mw mh mam mb m7 m8 m9 m10 m11 mc mno mt me ma mp ms mv m20 m21 m22 m23 m24 m25 m26 m27 m28 m29 m30 (fun r' u1 u2 u3 u4 u5 u6 u7 u8 u9 u10 u11 u12 u13 u14 u15 u16 => Q r v1 v2 v3 v4 v5 v6 v7 v8 v9 v10 v11 v12 v13 v14 v15 v16 v17 v18 v19 v20 v21 v22 v23 v24 v25 v26 r' u1 u2 u3 u4 u5 u6 u7 u8 u9 u10 u11 u12 u13 u14 u15 u16)) := by
  subst hbk
  have I0 := I
  have K0 := K
  have L0 := L
  obtain ⟨hnt, rfl, rfl, rfl, rfl, hcb, hmn, hcr⟩ := I
  obtain ⟨rfl, heb, hax, rfl, rfl, hw, hh, hf⟩ := K
  refine s_hasPixel (fun hp => ⟨fun q => absurd q (by decide), fun _ => ?_⟩) (fun np => ⟨fun _ => s_isPixel hw.1 hh.1 (fun hp => absurd hp np) (fun _ => ⟨fun _ => k _ _ _ _ _ _ _ _ _ _ _ _ _ _ _ _ _ _ _ _ _ _ _ _ _ _ _ _ _ _ _ _ _ _ _ _ _ _ _ _ _ _ _, fun q => absurd rfl q⟩), fun q => absurd rfl q⟩)
  obtain ⟨r, cl, ml⟩ := colour_both (xb := mb) I0 K0 L0 hp
  refine cl _ _ _ _ _ _ _ _ _ _ _ _ _ _ _ _ _ _ _ _ _ _ _ _ _ _ _ (fun _ _ _ _ _ _ _ _ _ _ _ _ _ _ _ _ _ _ _ _ _ _ _ _ _ _ => s_isPixel hw.1 hh.1 (fun _ => ⟨fun q => absurd q (by decide), fun _ => ml _ _ _ _ _ _ _ _ _ _ _ _ _ _ _ _ _ (fun _ _ _ _ _ _ _ _ _ _ _ _ _ _ _ _ => k _ _ _ _ _ _ _ _ _ _ _ _ _ _ _ _ _ _ _ _ _ _ _ _ _ _ _ _ _ _ _ _ _ _ _ _ _ _ _ _ _ _ _)⟩) (fun np => absurd hp np))
