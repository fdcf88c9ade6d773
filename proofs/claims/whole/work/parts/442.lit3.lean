/-! PURE PART: op_lit, op_shadow (heads written by a program) -/
theorem op_lit {q1 : Int32} {q2 : Int32} {q3 : Int32} {xn : Int32} {xc : Nat → Int32} {xno : Nat → Int32} {xw : Int32} {xh : Int32} {xe : Nat → Int32} {xa : Nat → Int32} {xp : Nat → Int32} {s11 : Int32} {s12 : Nat → Int64} {s13 : Nat → Int64} {s14 : Nat → Int64} {s15 : Int64} {s16 : Int64} {s17 : Int64} {s18 : Int64} {s19 : Int64} {s20 : Int64} {s21 : Nat → Int64} {s22 : Nat → Int64} {s23 : Int64} {s24 : Int64} {s25 : Int64} {s26 : Int64} {s27 : Int64} {s28 : Int64} {s29 : Nat → Int64} {s30 : Nat → Int64} {s31 : Nat → Int64} {s32 : Nat → Int64} {s33 : Nat → Int64} {s34 : Nat → Int64} {s35 : Nat → Int64} {s36 : Nat → Int64} {mn : Int32} {mw : Int32} {mh : Int32} {m6 : Int64} {m7 : Int64} {m8 : Int32} {m9 : Int64} {m10 : Int64} {mc : Nat → Int32} {mno : Nat → Int64} {me : Nat → Int32} {ma : Nat → Int64} {mp : Nat → Int32} {m16 : Nat → Int64} {m17 : Nat → Int64} {m18 : Nat → Int64} {m19 : Nat → Int64} {m20 : Nat → Int64} {m21 : Nat → Int64} {m22 : Nat → Int64} {m23 : Nat → Int64} {m24 : Nat → Int64} {m25 : Nat → Int64} {m26 : Nat → Int64} {nt : Nat} {xt : Nat → Int32} {mt : Nat → Int32} {xs : Nat → Int32} {xv : Nat → Int32} {ms : Nat → Int32} {mv : Nat → Int32} {xam : Int32} {mam : Int32} (I : IM nt xn xc xno xt mn mc mno mt) (K : IC xe xa xw xh me ma mw mh) (L : IL xp xs xv xam mp ms mv mam) {Q : Int32 → Int32 → (Nat → Int64) → (Nat → Int64) → (Nat → Int64) → Int64 → Int64 → Int64 → Int64 → Int64 → Int64 → (Nat → Int64) → (Nat → Int64) → Int64 → Int64 → Int64 → Int64 → Int64 → Int64 → (Nat → Int64) → (Nat → Int64) → (Nat → Int64) → (Nat → Int64) → (Nat → Int64) → (Nat → Int64) → (Nat → Int64) → (Nat → Int64) → Int32 → Int64 → Int64 → Int32 → Int64 → Int64 → (Nat → Int64) → (Nat → Int64) → (Nat → Int64) → (Nat → Int64) → (Nat → Int64) → (Nat → Int64) → (Nat → Int64) → (Nat → Int64) → (Nat → Int64) → (Nat → Int64) → (Nat → Int64) → Prop}
    (k : ∀ (r : Int32) (v1 : Int32) (v2 : Nat → Int64) (v3 : Nat → Int64) (v4 : Nat → Int64) (v5 : Int64) (v6 : Int64) (v7 : Int64) (v8 : Int64) (v9 : Int64) (v10 : Int64) (v11 : Nat → Int64) (v12 : Nat → Int64) (v13 : Int64) (v14 : Int64) (v15 : Int64) (v16 : Int64) (v17 : Int64) (v18 : Int64) (v19 : Nat → Int64) (v20 : Nat → Int64) (v21 : Nat → Int64) (v22 : Nat → Int64) (v23 : Nat → Int64) (v24 : Nat → Int64) (v25 : Nat → Int64) (v26 : Nat → Int64) (u1 : Int64) (u2 : Int64) (u3 : Int32) (u4 : Int64) (u5 : Int64) (u6 : Nat → Int64) (u7 : Nat → Int64) (u8 : Nat → Int64) (u9 : Nat → Int64) (u10 : Nat → Int64) (u11 : Nat → Int64) (u12 : Nat → Int64) (u13 : Nat → Int64) (u14 : Nat → Int64) (u15 : Nat → Int64) (u16 : Nat → Int64), Q r v1 v2 v3 v4 v5 v6 v7 v8 v9 v10 v11 v12 v13 v14 v15 v16 v17 v18 v19 v20 v21 v22 v23 v24 v25 v26 r u1 u2 u3 u4 u5 u6 u7 u8 u9 u10 u11 u12 u13 u14 u15 u16) :
    F_X11_lit q1 q2 q3 xn xc xno xw xh xe xa xp s11 s12 s13 s14 s15 s16 s17 s18 s19 s20 s21 s22 s23 s24 s25 s26 s27 s28 s29 s30 s31 s32 s33 s34 s35 s36 (fun r v1 v2 v3 v4 v5 v6 v7 v8 v9 v10 v11 v12 v13 v14 v15 v16 v17 v18 v19 v20 v21 v22 v23 v24 v25 v26 => F_X12_lit q1 q2 q3 mn mw mh m6 m7 m8 m9 m10 mc mno me ma mp m16 m17 m18 m19 m20 m21 m22 m23 m24 m25 m26 (fun r' u1 u2 u3 u4 u5 u6 u7 u8 u9 u10 u11 u12 u13 u14 u15 u16 => Q r v1 v2 v3 v4 v5 v6 v7 v8 v9 v10 v11 v12 v13 v14 v15 v16 v17 v18 v19 v20 v21 v22 v23 v24 v25 v26 r' u1 u2 u3 u4 u5 u6 u7 u8 u9 u10 u11 u12 u13 u14 u15 u16)) := by
  have SCx : pix q1 q2 xw xh → _ := fun hp => cam_SC I K hp
  have HCx : pix q1 q2 xw xh → ∀ f, _ → _ := fun hp f e => cam_HC I K hp (f := f) e
  obtain ⟨hnt, rfl, rfl, rfl, rfl, hcb, hmn, hcr⟩ := I
  obtain ⟨rfl, heb, hax, rfl, rfl, hw, hh, hf⟩ := K
  obtain ⟨rfl, rfl, rfl, rfl, hlb⟩ := L
  refine s_hasPixel (fun hp => ⟨fun q => absurd q (by decide), fun _ => ?_⟩) (fun np => ⟨fun _ => s_isPixel hw.1 hh.1 (fun hp => absurd hp np) (fun _ => ⟨fun _ => k _ _ _ _ _ _ _ _ _ _ _ _ _ _ _ _ _ _ _ _ _ _ _ _ _ _ _ _ _ _ _ _ _ _ _ _ _ _ _ _ _ _ _, fun q => absurd rfl q⟩), fun q => absurd rfl q⟩)
  have mp1 : ∀ {post : Int32 → Prop}, post 1 → F_X12_isPixel q1 q2 mw mh post := fun h => s_isPixel hw.1 hh.1 (fun _ => h) (fun np => absurd hp np)
  refine s_lampHas (fun h3 => ⟨fun _ => ?_, fun q => absurd q (by decide)⟩) (fun n3 => ⟨fun q => absurd rfl q, fun _ => mp1 ⟨fun q => absurd q (by decide), fun _ => s_in32 (a := 0) (b := 3) rfl rfl (fun h3 => absurd h3 n3) (fun _ => ⟨fun q => absurd rfl q, fun _ => k _ _ _ _ _ _ _ _ _ _ _ _ _ _ _ _ _ _ _ _ _ _ _ _ _ _ _ _ _ _ _ _ _ _ _ _ _ _ _ _ _ _ _⟩)⟩⟩)
  obtain ⟨i, hi, rfl⟩ := nI_get (N := 4) h3.1 (by omega) (by omega)
  have mp2 : ∀ {post : Int32 → Prop}, post 1 → F_X12_in (nI i).toInt64 0 3 post := fun h => s_in32 (a := 0) (b := 3) rfl rfl (fun _ => h) (fun n3 => absurd h3 n3)
  have S := SCx hp
  refine s_look hp hw.2 hh.2 S (fun a b c d e f fr al wh ti pc we C => ?_)
  cases ef : fst mc xno (fun j => (me j).toInt) (camD xa mw.toInt mh.toInt q1.toInt q2.toInt) nt with
  | none =>
    rw [ef] at C
    have ew := ClS_none C
    subst ew
    refine ⟨fun _ => ⟨fun _ => ?_, fun q => absurd rfl q⟩, fun q => absurd m2_neg q⟩
    refine mp1 ⟨fun q => absurd q (by decide), fun _ => mp2 ⟨fun _ => s_findFirst hax S hmn (fun A B fi fA fB d2 we2 fr2 al2 se2 fW2 hd M => ?_), fun q => absurd q (by decide)⟩⟩
    rw [ef] at M
    have ei := MS_none M
    subst ei
    exact ⟨fun q => absurd q (by decide), fun _ => k _ _ _ _ _ _ _ _ _ _ _ _ _ _ _ _ _ _ _ _ _ _ _ _ _ _ _ _ _ _ _ _ _ _ _ _ _ _ _ _ _ _ _⟩
  | some g =>
    rw [ef] at C
    obtain ⟨rfl, c1, c2⟩ := ClS_some C
    have HH := HCx hp g ef
    have hg := HH.2.1
    refine ⟨fun q => absurd q (nI_nn (by omega)), fun _ => ⟨fun q => absurd q (by decide), fun _ => ?_⟩⟩
    obtain ⟨r, -, cl, ml⟩ := lit_both (mno := mno) HH hmn hlb hi
    refine cl _ _ _ _ _ _ _ _ _ _ _ _ _ _ _ _ _ c1 c2 (fun a b c d e g fr al r1 r2 r3 r4 r5 r6 => ?_)
    refine mp1 ⟨fun q => absurd q (by decide), fun _ => mp2 ⟨fun _ => s_findFirst hax S hmn (fun A B fi fA fB d2 we2 fr2 al2 se2 fW2 hd M => ?_), fun q => absurd q (by decide)⟩⟩
    rw [ef] at M
    obtain ⟨rfl, rfl, rfl⟩ := MS_some M
    refine ⟨fun _ => ml _ _ _ _ _ _ _ _ _ _ _ _ _ hd (fun a b we fr al se pc one two pr sq => k _ _ _ _ _ _ _ _ _ _ _ _ _ _ _ _ _ _ _ _ _ _ _ _ _ _ _ _ _ _ _ _ _ _ _ _ _ _ _ _ _ _ _), fun q => absurd ?_ q⟩
    rw [i32_le, nI_toInt (by omega)]; show (0 : Int) ≤ _; omega

theorem op_shadow {q1 : Int32} {q2 : Int32} {q3 : Int32} {xn : Int32} {xc : Nat → Int32} {xno : Nat → Int32} {xw : Int32} {xh : Int32} {xe : Nat → Int32} {xa : Nat → Int32} {xp : Nat → Int32} {s11 : Int32} {s12 : Nat → Int64} {s13 : Nat → Int64} {s14 : Nat → Int64} {s15 : Int64} {s16 : Int64} {s17 : Int64} {s18 : Int64} {s19 : Int64} {s20 : Int64} {s21 : Nat → Int64} {s22 : Nat → Int64} {s23 : Int64} {s24 : Int64} {s25 : Int64} {s26 : Int64} {s27 : Int64} {s28 : Int64} {s29 : Nat → Int64} {s30 : Nat → Int64} {mn : Int32} {mw : Int32} {mh : Int32} {m6 : Int64} {m7 : Int64} {m8 : Int32} {m9 : Int64} {m10 : Int64} {mc : Nat → Int32} {mno : Nat → Int64} {me : Nat → Int32} {ma : Nat → Int64} {mp : Nat → Int32} {m16 : Nat → Int64} {m17 : Nat → Int64} {m18 : Nat → Int64} {m19 : Nat → Int64} {m20 : Nat → Int64} {m21 : Nat → Int64} {m22 : Nat → Int64} {nt : Nat} {xt : Nat → Int32} {mt : Nat → Int32} {xs : Nat → Int32} {xv : Nat → Int32} {ms : Nat → Int32} {mv : Nat → Int32} {xam : Int32} {mam : Int32} (I : IM nt xn xc xno xt mn mc mno mt) (K : IC xe xa xw xh me ma mw mh) (L : IL xp xs xv xam mp ms mv mam) {Q : Int32 → Int32 → (Nat → Int64) → (Nat → Int64) → (Nat → Int64) → Int64 → Int64 → Int64 → Int64 → Int64 → Int64 → (Nat → Int64) → (Nat → Int64) → Int64 → Int64 → Int64 → Int64 → Int64 → Int64 → (Nat → Int64) → (Nat → Int64) → Int32 → Int64 → Int64 → Int32 → Int64 → Int64 → (Nat → Int64) → (Nat → Int64) → (Nat → Int64) → (Nat → Int64) → (Nat → Int64) → (Nat → Int64) → (Nat → Int64) → Prop}
    (k : ∀ (r : Int32) (v1 : Int32) (v2 : Nat → Int64) (v3 : Nat → Int64) (v4 : Nat → Int64) (v5 : Int64) (v6 : Int64) (v7 : Int64) (v8 : Int64) (v9 : Int64) (v10 : Int64) (v11 : Nat → Int64) (v12 : Nat → Int64) (v13 : Int64) (v14 : Int64) (v15 : Int64) (v16 : Int64) (v17 : Int64) (v18 : Int64) (v19 : Nat → Int64) (v20 : Nat → Int64) (u1 : Int64) (u2 : Int64) (u3 : Int32) (u4 : Int64) (u5 : Int64) (u6 : Nat → Int64) (u7 : Nat → Int64) (u8 : Nat → Int64) (u9 : Nat → Int64) (u10 : Nat → Int64) (u11 : Nat → Int64) (u12 : Nat → Int64), Q r v1 v2 v3 v4 v5 v6 v7 v8 v9 v10 v11 v12 v13 v14 v15 v16 v17 v18 v19 v20 r u1 u2 u3 u4 u5 u6 u7 u8 u9 u10 u11 u12) :
    F_X11_shadow q1 q2 q3 xn xc xno xw xh xe xa xp s11 s12 s13 s14 s15 s16 s17 s18 s19 s20 s21 s22 s23 s24 s25 s26 s27 s28 s29 s30 (fun r v1 v2 v3 v4 v5 v6 v7 v8 v9 v10 v11 v12 v13 v14 v15 v16 v17 v18 v19 v20 => F_X12_shadow q1 q2 q3 mn mw mh m6 m7 m8 m9 m10 mc mno me ma mp m16 m17 m18 m19 m20 m21 m22 (fun r' u1 u2 u3 u4 u5 u6 u7 u8 u9 u10 u11 u12 => Q r v1 v2 v3 v4 v5 v6 v7 v8 v9 v10 v11 v12 v13 v14 v15 v16 v17 v18 v19 v20 r' u1 u2 u3 u4 u5 u6 u7 u8 u9 u10 u11 u12)) := by
  have SCx : pix q1 q2 xw xh → _ := fun hp => cam_SC I K hp
  have HCx : pix q1 q2 xw xh → ∀ f, _ → _ := fun hp f e => cam_HC I K hp (f := f) e
  obtain ⟨hnt, rfl, rfl, rfl, rfl, hcb, hmn, hcr⟩ := I
  obtain ⟨rfl, heb, hax, rfl, rfl, hw, hh, hf⟩ := K
  obtain ⟨rfl, rfl, rfl, rfl, hlb⟩ := L
  refine s_hasPixel (fun hp => ⟨fun q => absurd q (by decide), fun _ => ?_⟩) (fun np => ⟨fun _ => s_isPixel hw.1 hh.1 (fun hp => absurd hp np) (fun _ => ⟨fun _ => k _ _ _ _ _ _ _ _ _ _ _ _ _ _ _ _ _ _ _ _ _ _ _ _ _ _ _ _ _ _ _ _ _, fun q => absurd rfl q⟩), fun q => absurd rfl q⟩)
  have mp1 : ∀ {post : Int32 → Prop}, post 1 → F_X12_isPixel q1 q2 mw mh post := fun h => s_isPixel hw.1 hh.1 (fun _ => h) (fun np => absurd hp np)
  refine s_lampHas (fun h3 => ⟨fun _ => ?_, fun q => absurd q (by decide)⟩) (fun n3 => ⟨fun q => absurd rfl q, fun _ => mp1 ⟨fun q => absurd q (by decide), fun _ => s_in32 (a := 0) (b := 3) rfl rfl (fun h3 => absurd h3 n3) (fun _ => ⟨fun q => absurd rfl q, fun _ => k _ _ _ _ _ _ _ _ _ _ _ _ _ _ _ _ _ _ _ _ _ _ _ _ _ _ _ _ _ _ _ _ _⟩)⟩⟩)
  obtain ⟨i, hi, rfl⟩ := nI_get (N := 4) h3.1 (by omega) (by omega)
  have mp2 : ∀ {post : Int32 → Prop}, post 1 → F_X12_in (nI i).toInt64 0 3 post := fun h => s_in32 (a := 0) (b := 3) rfl rfl (fun _ => h) (fun n3 => absurd h3 n3)
  have S := SCx hp
  refine s_look hp hw.2 hh.2 S (fun a b c d e f fr al wh ti pc we C => ?_)
  cases ef : fst mc xno (fun j => (me j).toInt) (camD xa mw.toInt mh.toInt q1.toInt q2.toInt) nt with
  | none =>
    rw [ef] at C
    have ew := ClS_none C
    subst ew
    refine ⟨fun _ => ⟨fun _ => ?_, fun q => absurd rfl q⟩, fun q => absurd m2_neg q⟩
    refine mp1 ⟨fun q => absurd q (by decide), fun _ => mp2 ⟨fun _ => s_findFirst hax S hmn (fun A B fi fA fB d2 we2 fr2 al2 se2 fW2 hd M => ?_), fun q => absurd q (by decide)⟩⟩
    rw [ef] at M
    have ei := MS_none M
    subst ei
    exact ⟨fun _ => k _ _ _ _ _ _ _ _ _ _ _ _ _ _ _ _ _ _ _ _ _ _ _ _ _ _ _ _ _ _ _ _ _, fun q => absurd m2_neg q⟩
  | some g =>
    rw [ef] at C
    obtain ⟨rfl, c1, c2⟩ := ClS_some C
    have HH := HCx hp g ef
    have hg := HH.2.1
    refine ⟨fun q => absurd q (nI_nn (by omega)), fun _ => ⟨fun q => absurd q (by decide), fun _ => ?_⟩⟩
    have N := (HH.1.2.2 g hg).1
    have hn := nb52 N hcb
    by_cases T : tow mc xno me mp g i
    rotate_left
    · refine s_onEyeSide (by omega) hi hcb hn heb hlb (fun z => absurd z T) (fun _ => ⟨fun q => absurd rfl q, fun _ => ?_⟩)
      refine mp1 ⟨fun q => absurd q (by decide), fun _ => mp2 ⟨fun _ => s_findFirst hax S hmn (fun A B fi fA fB d2 we2 fr2 al2 se2 fW2 hd M => ?_), fun q => absurd q (by decide)⟩⟩
      rw [ef] at M
      obtain ⟨rfl, rfl, rfl⟩ := MS_some M
      exact ⟨fun q => absurd q (nI_nn (by omega)), fun _ => s_isTowards (by omega) hi hmn hcb hn heb hlb (fun z => absurd z T) (fun _ => ⟨fun q => absurd rfl q, fun _ => k _ _ _ _ _ _ _ _ _ _ _ _ _ _ _ _ _ _ _ _ _ _ _ _ _ _ _ _ _ _ _ _ _⟩)⟩
    obtain ⟨r, -, cb, mb⟩ := blk_both (mno := mno) HH hmn hlb hi
    refine s_onEyeSide (by omega) hi hcb hn heb hlb (fun _ => ⟨fun _ => ?_, fun q => absurd q (by decide)⟩) (fun z => absurd T z)
    refine cb _ _ _ _ _ _ _ _ _ _ _ c1 c2 (fun fr' al' a b c d e g' hD => ?_)
    refine mp1 ⟨fun q => absurd q (by decide), fun _ => mp2 ⟨fun _ => s_findFirst hax S hmn (fun A B fi fA fB d2 we2 fr2 al2 se2 fW2 hd M => ?_), fun q => absurd q (by decide)⟩⟩
    rw [ef] at M
    obtain ⟨rfl, rfl, rfl⟩ := MS_some M
    exact ⟨fun q => absurd q (nI_nn (by omega)), fun _ => s_isTowards (by omega) hi hmn hcb hn heb hlb (fun _ => ⟨fun _ => mb _ _ _ _ _ _ _ _ _ hd (fun a b we fr al se pc' _ => k _ _ _ _ _ _ _ _ _ _ _ _ _ _ _ _ _ _ _ _ _ _ _ _ _ _ _ _ _ _ _ _ _), fun q => absurd q (by decide)⟩) (fun z => absurd T z)⟩

