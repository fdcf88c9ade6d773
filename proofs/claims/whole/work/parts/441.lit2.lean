/-! PURE PART: lit, shadow -/
theorem nb52 {co no : Nat → Int32} {t : Nat} (N : NC co no t) (hb : ∀ j, bd 255 (co j).toInt) : ∀ k, k < 3 → bd 520200 (no (3 * t + k)).toInt := fun k hk => bd_le (by decide) (NC_bd N hb k hk)
theorem s_normalSquare {no : Nat → Int32} {f : Nat} {post : Int64 → Prop} (hf : f < 128) (h : post (Int64.ofInt (nsq no f))) : F_X5_normalSquare (nI f) no post := by
  have at_ : ∀ (k : Nat) {P : Int32 → Prop}, k < 3 → P (no (3 * f + k)) → F_X5_normal (nI f) (nI k) no P := fun k P hk hP => by
    refine ⟨vin (3 * f + k) (by omega) (by omega) (n3k f k), ?_⟩
    rw [n3k, nI_clamp (by omega)]; exact hP
  refine at_ 0 (by omega) (at_ 1 (by omega) (at_ 2 (by omega) ?_))
  rw [o_i2l, o_i2l, o_i2l]
  exact s_alongNormal hf h
section
variable {nt f i : Nat} {co no eye lt : Nat → Int32} {D : Nat → Int} {mno : Nat → Int64}
/-- the first between light and hit, on both sides -/
theorem blk_both (H : HC nt co no eye D f) (hm : ∀ j, mno j = (no j).toInt64) (hl : ∀ j, bd 255 (lt j).toInt) (hi : i < 4) : ∃ r : Int32, (r = -2 ∨ ∃ j, j < 128 ∧ r = nI j) ∧
    (∀ (ti pc fr al : Nat → Int64) (a b c d e g : Int64) (post : (Nat → Int64) → (Nat → Int64) → Int32 → Int64 → Int64 → Int64 → Int64 → Int64 → Int64 → Prop), ti 1 = Int64.ofInt (ov no D f) → asI pc (pl co no (fun j => (eye j).toInt) D f) 4 →
      (∀ fr' al' a b c d e g, asI al' (ltD lt i (pl co no (fun j => (eye j).toInt) D f) (pl co no (fun j => (eye j).toInt) D f 3)) 3 → post fr' al' r a b c d e g) → F_X4_aim (nI i) lt ti pc fr al (fun v3 v4 => F_X11_blocker (nI nt) co no a b c d e g v3 v4 (nI f) ti (fun r5 v6 v7 v8 v9 v10 v11 => post v3 v4 r5 v6 v7 v8 v9 v10 v11))) ∧
    (∀ (d we fr al se pc : Nat → Int64) (a b : Int64) (post : Int32 → Int64 → Int64 → (Nat → Int64) → (Nat → Int64) → (Nat → Int64) → (Nat → Int64) → (Nat → Int64) → Prop), asI d D 3 → (∀ a b we fr al se pc', asI pc' (red (pl co no (fun j => (eye j).toInt) D f) 4) 4 → post r a b we fr al se pc') →
      F_X12_between (nI i) (nI nt) a b (nI f) (Int64.ofInt (fa co no (fun j => (eye j).toInt) D f)) (Int64.ofInt (ov no D f)) co mno eye lt d we fr al se pc post) := by
  have hnt := H.1.1
  have hf := H.2.1
  refine ⟨blk (btw co no (ltF lt i) (ltD lt i (pl co no (fun j => (eye j).toInt) D f) (pl co no (fun j => (eye j).toInt) D f 3)) f (pl co no (fun j => (eye j).toInt) D f 3)) nt 0, ?_, fun ti pc fr al a b c d e g post ht hp k => ?_, fun d we fr al se pc a b post hd k => ?_⟩
  · rcases blk_val (P := btw co no (ltF lt i) (ltD lt i (pl co no (fun j => (eye j).toInt) D f) (pl co no (fun j => (eye j).toInt) D f 3)) f (pl co no (fun j => (eye j).toInt) D f 3)) nt 0 with h | ⟨j, hj, h⟩
    · exact Or.inl h
    · exact Or.inr ⟨j, by omega, h⟩
  · refine s_lampAim (o := pl co no (fun j => (eye j).toInt) D f 3) hi ht hp (fun fr' al' hF hD => ?_)
    exact s_blocker (o := pl co no (fun j => (eye j).toInt) D f 3) (wide_SS H.1 hl (fun k _ => HC_D H hl k)) (by omega) hF hD ht (fun t ht => fa_r63 H.1 hl (bd_le (by decide) (HC_o H)) (HC_o H) t ht) (fun a b c d e g => k _ _ _ _ _ _ _ _ hD)
  · rw [HC_blk H] at k
    refine s_findPlace (R := pl co no (fun j => (eye j).toInt) D f) hd (fun k hk => by unfold pl; rw [if_pos hk]) rfl (fun j _ => bd_le (by decide) (HC_p H j)) (ov_pos H.2.2.1) (fun pc' hp => ⟨nt + 1, ?_⟩)
    exact s_bt6 (p := red (pl co no (fun j => (eye j).toInt) D f) 4) (wide_SS H.1 hl (fun k hk => HC_E H hl k hk)) hm (by omega) hi hp (fun t ht => fa_r63 H.1 hl (bd_le (by decide) (HC_o2 H)) (HC_o2 H) t ht) nt 0 _ _ _ _ _ _ (by omega) (fun a b we fr al se => k _ _ _ _ _ _ _ hp)
theorem lit_both (H : HC nt co no eye D f) (hm : ∀ j, mno j = (no j).toInt64) (hl : ∀ j, bd 255 (lt j).toInt) (hi : i < 4) : ∃ r : Int32, (r = -2 ∨ ∃ j, j ≤ 15 ∧ r = nI j) ∧
    (∀ (ti pc fr al : Nat → Int64) (a b c d e g : Int64) (r1 r2 r3 r4 r5 r6 : Nat → Int64) (post : Int32 → Int64 → Int64 → Int64 → Int64 → Int64 → Int64 → (Nat → Int64) → (Nat → Int64) → (Nat → Int64) → (Nat → Int64) → (Nat → Int64) → (Nat → Int64) → (Nat → Int64) → (Nat → Int64) → Prop), ti 1 = Int64.ofInt (ov no D f) → asI pc (pl co no (fun j => (eye j).toInt) D f) 4 →
      (∀ a b c d e g fr' al' r1 r2 r3 r4 r5 r6, post r a b c d e g fr' al' r1 r2 r3 r4 r5 r6) → F_X11_levelOf (nI i) (nI nt) co no eye lt a b c d e g fr al r1 r2 r3 r4 r5 r6 (nI f) ti pc post) ∧
    (∀ (d we fr al se pc one two pr sq : Nat → Int64) (a b : Int64) (post : Int32 → Int64 → Int64 → (Nat → Int64) → (Nat → Int64) → (Nat → Int64) → (Nat → Int64) → (Nat → Int64) → (Nat → Int64) → (Nat → Int64) → (Nat → Int64) → (Nat → Int64) → Prop), asI d D 3 → (∀ a b we fr al se pc' one two pr sq, post r a b we fr al se pc' one two pr sq) →
      F_X12_litBy (nI i) (nI nt) a b (nI f) (Int64.ofInt (fa co no (fun j => (eye j).toInt) D f)) (Int64.ofInt (ov no D f)) co mno eye lt d we fr al se pc one two pr sq post) := by
  have hnt := H.1.1
  have hf := H.2.1
  have N := (H.1.2.2 f hf).1
  have hn := nb52 N H.1.2.1
  by_cases T : tow co no eye lt f i
  rotate_left
  · refine ⟨-2, Or.inl rfl, fun ti pc fr al a b c d e g r1 r2 r3 r4 r5 r6 post ht hp k => ?_, fun d we fr al se pc one two pr sq a b post hd k => ?_⟩
    · exact s_onEyeSide (by omega) hi H.1.2.1 hn H.2.2.2.1 hl (fun z => absurd z T) (fun _ => ⟨fun q => absurd rfl q, fun _ => k _ _ _ _ _ _ _ _ _ _ _ _ _ _⟩)
    · exact s_isTowards (by omega) hi hm H.1.2.1 hn H.2.2.2.1 hl (fun z => absurd z T) (fun _ => ⟨fun _ => k _ _ _ _ _ _ _ _ _ _ _, fun q => absurd rfl q⟩)
  obtain ⟨rb, hrb, cb, mb⟩ := blk_both (mno := mno) H hm hl hi
  rcases hrb with rfl | ⟨j, hj, rfl⟩
  rotate_left
  · refine ⟨-2, Or.inl rfl, fun ti pc fr al a b c d e g r1 r2 r3 r4 r5 r6 post ht hp k => ?_, fun d we fr al se pc one two pr sq a b post hd k => ?_⟩
    · refine s_onEyeSide (by omega) hi H.1.2.1 hn H.2.2.2.1 hl (fun z => ⟨fun _ => ?_, fun q => absurd q (by decide)⟩) (fun z => absurd T z)
      exact cb ti pc fr al a b c d e g (fun v3 v4 r5' v6 v7 v8 v9 v10 v11 => ((r5' = (-2) → _) ∧ (¬ r5' = (-2) → _))) ht hp (fun fr' al' a b c d e g _ => ⟨fun q => absurd (show nI j < 0 by rw [q]; decide) (nI_nn hj), fun _ => k _ _ _ _ _ _ _ _ _ _ _ _ _ _⟩)
    · refine s_isTowards (by omega) hi hm H.1.2.1 hn H.2.2.2.1 hl (fun z => ⟨fun q => absurd q (by decide), fun _ => ?_⟩) (fun z => absurd T z)
      refine mb d we fr al se pc a b _ hd (fun a b we fr al se pc' _ => ⟨fun _ => k _ _ _ _ _ _ _ _ _ _ _, fun q => absurd ?_ q⟩)
      rw [i32_le, nI_toInt (by omega)]; show (0 : Int) ≤ j; omega
  have q := nsq_bd (NC_bd N H.1.2.1)
  have sb' := sid_bd (t := f) (co := co) (no := no) H.1.2.1 hn (hl (3 * i)) (hl (3 * i + 1)) (hl (3 * i + 2))
  have sb2 := ab_bd (t := f) (F := ltF lt i) H.1.2.1 (NC_bd N H.1.2.1) (fun k _ => hl _)
  have ob := HC_o H
  have op := ov_pos H.2.2.1
  refine ⟨nI (lev (15 * ((sid co no f (lt (3 * i)).toInt (lt (3 * i + 1)).toInt (lt (3 * i + 2)).toInt).natAbs * (ov no D f).natAbs) * (15 * ((sid co no f (lt (3 * i)).toInt (lt (3 * i + 1)).toInt (lt (3 * i + 2)).toInt).natAbs * (ov no D f).natAbs))) (sqs (ltD lt i (pl co no (fun j => (eye j).toInt) D f) (pl co no (fun j => (eye j).toInt) D f 3)) 3 * (nsq no f).natAbs) 15), Or.inr ⟨_, ?_, rfl⟩, fun ti pc fr al a b c d e g r1 r2 r3 r4 r5 r6 post ht hp k => ?_, fun d we fr al se pc one two pr sq a b post hd k => ?_⟩
  · have : ∀ A U k, lev A U k ≤ k := fun A U k => by
      induction k with
      | zero => exact Nat.le_refl 0
      | succ k ih => unfold lev; split <;> omega
    exact this _ _ 15
  · refine s_onEyeSide (by omega) hi H.1.2.1 hn H.2.2.2.1 hl (fun z => ⟨fun _ => ?_, fun q => absurd q (by decide)⟩) (fun z => absurd T z)
    refine cb ti pc fr al a b c d e g (fun v3 v4 r5' v6 v7 v8 v9 v10 v11 => ((r5' = (-2) → _) ∧ (¬ r5' = (-2) → _))) ht hp (fun fr' al' a b c d e g hD => ⟨fun _ => ?_, fun q => absurd rfl q⟩)
    refine s_lampSide (by omega) hi ⟨vin 1 (by omega) (by omega) rfl, fun x ex => s_normalSquare (by omega) ?_⟩
    rw [cl_1, ht, jabs_o (bd_le (by decide) sb'), o_mul] at ex
    have ex' : x = Int64.ofInt (((sid co no f (lt (3 * i)).toInt (lt (3 * i + 1)).toInt (lt (3 * i + 2)).toInt).natAbs * (ov no D f).natAbs : Nat) : Int) := by
      rw [ex]; congr 1; rw [Int.natCast_mul]; congr 1; omega
    rw [ex', show nsq no f = ((nsq no f).natAbs : Int) by omega]
    refine s_level hD (fun k _ => HC_D H hl k) (by omega) ?_ (fun r1 r2 r3 r4 r5 r6 => k _ _ _ _ _ _ _ _ _ _ _ _ _ _)
    have e1 : (sid co no f (lt (3 * i)).toInt (lt (3 * i + 1)).toInt (lt (3 * i + 2)).toInt).natAbs ≤ 397953000 := by
      obtain ⟨u1, u2⟩ := sb2
      have e : ab co no f (ltF lt i) = -sid co no f (lt (3 * i)).toInt (lt (3 * i + 1)).toInt (lt (3 * i + 2)).toInt := rfl
      rw [e] at u1 u2
      omega
    have e2 : (ov no D f).natAbs ≤ 800000000 := by
      obtain ⟨u1, u2⟩ := ob
      change -800000000 ≤ ov no D f at u1
      change ov no D f ≤ 800000000 at u2
      omega
    have e3 := Nat.mul_le_mul e1 e2
    omega
  · refine s_isTowards (by omega) hi hm H.1.2.1 hn H.2.2.2.1 hl (fun z => ⟨fun q => absurd q (by decide), fun _ => ?_⟩) (fun z => absurd T z)
    refine mb d we fr al se pc a b _ hd (fun a b we fr al se pc' hpc => ⟨fun q => absurd q (by decide), fun _ => ?_⟩)
    rw [HC_lev H] at k
    exact s_levelOfM (no := no) (p := red (pl co no (fun j => (eye j).toInt) D f) 4) (by omega) hi hm (NC_bd N H.1.2.1) hpc (fun k hk => HC_E H hl k hk) (fun o t p s => k _ _ _ _ _ _ _ _ _ _ _)
end
theorem ClS_some {co no : Nat → Int32} {F D : Nat → Int} {f : Nat} {wh : Int32} {ti pc we : Nat → Int64} (C : ClS co no F D (some f) wh ti pc we) : wh = nI f ∧ ti 1 = Int64.ofInt (ov no D f) ∧ asI pc (pl co no F D f) 4 := by
  rcases C with ⟨e, _⟩ | ⟨g, e, rfl, c1, c2, _⟩
  · cases e
  · injection e with e; subst e
    exact ⟨rfl, c1 1 (by omega), c2⟩
theorem ClS_none {co no : Nat → Int32} {F D : Nat → Int} {wh : Int32} {ti pc we : Nat → Int64} (C : ClS co no F D none wh ti pc we) : wh = -2 := by
  rcases C with ⟨_, e⟩ | ⟨g, e, _⟩
  · exact e
  · cases e
theorem MS_some {co no : Nat → Int32} {F D : Nat → Int} {f : Nat} {fi : Int32} {fA fB : Int64} {fW : Nat → Int64} (M : MS co no F D (some f) fi fA fB fW) : fi = nI f ∧ fA = Int64.ofInt (fa co no F D f) ∧ fB = Int64.ofInt (ov no D f) := by
  rcases M with ⟨e, _⟩ | ⟨g, e, h1, h2, h3, _⟩
  · cases e
  · injection e with e; subst e; exact ⟨h1, h2, h3⟩
theorem MS_none {co no : Nat → Int32} {F D : Nat → Int} {fi : Int32} {fA fB : Int64} {fW : Nat → Int64} (M : MS co no F D none fi fA fB fW) : fi = -2 := by
  rcases M with ⟨_, e⟩ | ⟨g, e, _⟩
  · exact e
  · cases e
theorem cam_HC {nt : Nat} {xn mn xw xh mw mh x y : Int32} {xc xno xt mc mt xe xa me : Nat → Int32} {mno ma : Nat → Int64} (I : IM nt xn xc xno xt mn mc mno mt) (K : IC xe xa xw xh me ma mw mh) (hp : pix x y xw xh) {f : Nat} (e : fst xc xno (fun j => (xe j).toInt) (camD xa xw.toInt xh.toInt x.toInt y.toInt) nt = some f) : HC nt xc xno xe (camD xa xw.toInt xh.toInt x.toInt y.toInt) f :=
  ⟨cam_SC I K hp, (fst_hit e).1, (fst_hit e).2, K.2.1, fun k hk => camD_bd K.2.2.2.2.2.2.2 hk ⟨hp.1, hp.2.1⟩ hp.2.2⟩
