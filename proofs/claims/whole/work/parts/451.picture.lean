/-! PURE PART: picture (heads written by a program) -/
def colC (xb : Int32) (xn : Int32) (xc : Nat → Int32) (xno : Nat → Int32) (xt : Nat → Int32) (xw : Int32) (xh : Int32) (xe : Nat → Int32) (xa : Nat → Int32) (xam : Int32) (xp : Nat → Int32) (xs : Nat → Int32) (xv : Nat → Int32) (x y r : Int32) : Prop := ∀ (s15 : Int32) (s16 : Nat → Int64) (s17 : Nat → Int64) (s18 : Nat → Int64) (s19 : Int64) (s20 : Int64) (s21 : Int64) (s22 : Int64) (s23 : Int64) (s24 : Int64) (s25 : Nat → Int64) (s26 : Nat → Int64) (s27 : Int64) (s28 : Int64) (s29 : Int64) (s30 : Int64) (s31 : Int64) (s32 : Int64) (s33 : Nat → Int64) (s34 : Nat → Int64) (s35 : Nat → Int64) (s36 : Nat → Int64) (s37 : Nat → Int64) (s38 : Nat → Int64) (s39 : Nat → Int64) (s40 : Nat → Int64) (post : Int32 → Int32 → (Nat → Int64) → (Nat → Int64) → (Nat → Int64) → Int64 → Int64 → Int64 → Int64 → Int64 → Int64 → (Nat → Int64) → (Nat → Int64) → Int64 → Int64 → Int64 → Int64 → Int64 → Int64 → (Nat → Int64) → (Nat → Int64) → (Nat → Int64) → (Nat → Int64) → (Nat → Int64) → (Nat → Int64) → (Nat → Int64) → (Nat → Int64) → Prop), (∀ (v1 : Int32) (v2 : Nat → Int64) (v3 : Nat → Int64) (v4 : Nat → Int64) (v5 : Int64) (v6 : Int64) (v7 : Int64) (v8 : Int64) (v9 : Int64) (v10 : Int64) (v11 : Nat → Int64) (v12 : Nat → Int64) (v13 : Int64) (v14 : Int64) (v15 : Int64) (v16 : Int64) (v17 : Int64) (v18 : Int64) (v19 : Nat → Int64) (v20 : Nat → Int64) (v21 : Nat → Int64) (v22 : Nat → Int64) (v23 : Nat → Int64) (v24 : Nat → Int64) (v25 : Nat → Int64) (v26 : Nat → Int64), post r v1 v2 v3 v4 v5 v6 v7 v8 v9 v10 v11 v12 v13 v14 v15 v16 v17 v18 v19 v20 v21 v22 v23 v24 v25 v26) → F_X11_colour x y xb xn xc xno xt xw xh xe xa xam xp xs xv s15 s16 s17 s18 s19 s20 s21 s22 s23 s24 s25 s26 s27 s28 s29 s30 s31 s32 s33 s34 s35 s36 s37 s38 s39 s40 post
def colM (mn : Int32) (mw : Int32) (mh : Int32) (mam : Int32) (xb : Int32) (mc : Nat → Int32) (mno : Nat → Int64) (mt : Nat → Int32) (me : Nat → Int32) (ma : Nat → Int64) (mp : Nat → Int32) (ms : Nat → Int32) (mv : Nat → Int32) (x y r : Int32) : Prop := ∀ (m7 : Int64) (m8 : Int64) (m9 : Int32) (m10 : Int64) (m11 : Int64) (m20 : Nat → Int64) (m21 : Nat → Int64) (m22 : Nat → Int64) (m23 : Nat → Int64) (m24 : Nat → Int64) (m25 : Nat → Int64) (m26 : Nat → Int64) (m27 : Nat → Int64) (m28 : Nat → Int64) (m29 : Nat → Int64) (m30 : Nat → Int64) (post : Int32 → Int64 → Int64 → Int32 → Int64 → Int64 → (Nat → Int64) → (Nat → Int64) → (Nat → Int64) → (Nat → Int64) → (Nat → Int64) → (Nat → Int64) → (Nat → Int64) → (Nat → Int64) → (Nat → Int64) → (Nat → Int64) → (Nat → Int64) → Prop), (∀ (u1 : Int64) (u2 : Int64) (u3 : Int32) (u4 : Int64) (u5 : Int64) (u6 : Nat → Int64) (u7 : Nat → Int64) (u8 : Nat → Int64) (u9 : Nat → Int64) (u10 : Nat → Int64) (u11 : Nat → Int64) (u12 : Nat → Int64) (u13 : Nat → Int64) (u14 : Nat → Int64) (u15 : Nat → Int64) (u16 : Nat → Int64), post r u1 u2 u3 u4 u5 u6 u7 u8 u9 u10 u11 u12 u13 u14 u15 u16) → F_X12_pixelOf x y mn mw mh mam xb m7 m8 m9 m10 m11 mc mno mt me ma mp ms mv m20 m21 m22 m23 m24 m25 m26 m27 m28 m29 m30 post
noncomputable def fz (P : Nat → Prop) (c : Nat → Int32) : Nat → Nat → Int32 → Int32
  | 0, _, s => s
  | m + 1, i, s => fz P c m (i + 1) (@ite _ (P i) (Classical.propDecidable _) (31 * s + c i) s)
theorem fz_p {P : Nat → Prop} {c : Nat → Int32} {m i : Nat} {s : Int32} (h : P i) : fz P c (m + 1) i s = fz P c m (i + 1) (31 * s + c i) := by
  show fz P c m (i + 1) (@ite _ (P i) (Classical.propDecidable _) (31 * s + c i) s) = _; rw [if_pos h]
theorem fz_n {P : Nat → Prop} {c : Nat → Int32} {m i : Nat} {s : Int32} (h : ¬ P i) : fz P c (m + 1) i s = fz P c m (i + 1) s := by
  show fz P c m (i + 1) (@ite _ (P i) (Classical.propDecidable _) (31 * s + c i) s) = _; rw [if_neg h]
theorem fz_out {P : Nat → Prop} {c : Nat → Int32} : ∀ (m i : Nat) (s : Int32), (∀ j, i ≤ j → j < i + m → ¬ P j) → fz P c m i s = s
  | 0, _, _, _ => rfl
  | m + 1, i, s, h => by rw [fz_n (h i (by omega) (by omega)), fz_out m (i + 1) s (fun j h1 h2 => h j (by omega) (by omega))]
theorem fz_congr {P R : Nat → Prop} {c : Nat → Int32} : ∀ (m i : Nat) (s : Int32), (∀ j, i ≤ j → j < i + m → (P j ↔ R j)) → fz P c m i s = fz R c m i s
  | 0, _, _, _ => rfl
  | m + 1, i, s, h => by
    by_cases q : P i
    · rw [fz_p q, fz_p ((h i (by omega) (by omega)).mp q), fz_congr m (i + 1) _ (fun j h1 h2 => h j (by omega) (by omega))]
    · rw [fz_n q, fz_n (fun z => q ((h i (by omega) (by omega)).mpr z)), fz_congr m (i + 1) _ (fun j h1 h2 => h j (by omega) (by omega))]
theorem fz_skip {P : Nat → Prop} {c : Nat → Int32} : ∀ (a m i : Nat) (s : Int32), (∀ j, i ≤ j → j < i + a → ¬ P j) → fz P c (a + m) i s = fz P c m (i + a) s
  | 0, m, i, s, _ => by rw [Nat.zero_add, Nat.add_zero]
  | a + 1, m, i, s, h => by
    rw [show a + 1 + m = (a + m) + 1 by omega, fz_n (h i (by omega) (by omega)), fz_skip a m (i + 1) s (fun j h1 h2 => h j (by omega) (by omega)), show i + 1 + a = i + (a + 1) by omega]
theorem fz_from {P : Nat → Prop} {c : Nat → Int32} {W i0 : Nat} {s : Int32} (h : ∀ j, j < i0 → ¬ P j) : fz P c W 0 s = fz P c (W - i0) i0 s := by
  by_cases q : i0 ≤ W
  · have := fz_skip (P := P) (c := c) i0 (W - i0) 0 s (fun j _ h2 => h j (by omega))
    rw [show i0 + (W - i0) = W by omega, Nat.zero_add] at this; exact this
  · rw [show W - i0 = 0 by omega]
    exact fz_out W 0 s (fun j _ h2 => h j (by omega))
def frw (R : Nat → Int32 → Int32) : Nat → Nat → Int32 → Int32
  | 0, _, s => s
  | m + 1, j, s => frw R m (j + 1) (R j s)
theorem frw_out {R : Nat → Int32 → Int32} : ∀ (m j : Nat) (s : Int32), (∀ i, j ≤ i → i < j + m → ∀ s, R i s = s) → frw R m j s = s
  | 0, _, _, _ => rfl
  | m + 1, j, s, h => by
    show frw R m (j + 1) (R j s) = s
    rw [h j (by omega) (by omega), frw_out m (j + 1) s (fun i h1 h2 => h i (by omega) (by omega))]
theorem frw_skip {R : Nat → Int32 → Int32} : ∀ (a m j : Nat) (s : Int32), (∀ i, j ≤ i → i < j + a → ∀ s, R i s = s) → frw R (a + m) j s = frw R m (j + a) s
  | 0, m, j, s, _ => by rw [Nat.zero_add, Nat.add_zero]
  | a + 1, m, j, s, h => by
    rw [show a + 1 + m = (a + m) + 1 by omega]
    show frw R (a + m) (j + 1) (R j s) = _
    rw [h j (by omega) (by omega), frw_skip a m (j + 1) s (fun i h1 h2 => h i (by omega) (by omega)), show j + 1 + a = j + (a + 1) by omega]
theorem frw_from {R : Nat → Int32 → Int32} {H j0 : Nat} {s : Int32} (h : ∀ i, i < j0 → ∀ s, R i s = s) : frw R H 0 s = frw R (H - j0) j0 s := by
  by_cases q : j0 ≤ H
  · have := frw_skip (R := R) j0 (H - j0) 0 s (fun i _ h2 => h i (by omega))
    rw [show j0 + (H - j0) = H by omega, Nat.zero_add] at this; exact this
  · rw [show H - j0 = 0 by omega]
    exact frw_out H 0 s (fun i _ h2 => h i (by omega))
/-- a column or row of the part that is asked for -/
def inP (x w : Int32) (i : Nat) : Prop := x.toInt ≤ (i : Int) ∧ (i : Int) < x.toInt + w.toInt
theorem max0 (x : Int32) : ∃ i0 : Nat, i0 < 2 ^ 31 ∧ jmaxI x 0 = nI i0 ∧ x.toInt ≤ i0 ∧ (i0 = 0 ∨ (i0 : Int) = x.toInt) := by
  have l := x.toInt_lt
  unfold jmaxI
  by_cases c : x < 0
  · rw [if_pos c]
    rw [i32_lt] at c
    exact ⟨0, by omega, rfl, by change x.toInt < 0 at c; omega, Or.inl rfl⟩
  · rw [if_neg c]
    rw [i32_lt] at c
    change ¬ x.toInt < 0 at c
    exact ⟨x.toInt.toNat, by omega, by rw [← Int32.toInt_inj, nI_toInt (by omega)]; omega, by omega, Or.inr (by omega)⟩
theorem min_o {a b : Int} (ha : r63 a) (hb : r63 b) : jminL (Int64.ofInt a) (Int64.ofInt b) = Int64.ofInt (min a b) := by
  unfold jminL
  by_cases c : b < a
  · rw [if_pos ((o_lt hb ha).mpr c)]; congr 1; omega
  · rw [if_neg (fun z => c ((o_lt hb ha).mp z))]; congr 1; omega
theorem i32_r (x : Int32) : -2147483648 ≤ x.toInt ∧ x.toInt < 2147483648 := ⟨x.le_toInt, x.toInt_lt⟩

theorem s_pic63 {k47 : Int32 → Int64 → Int64 → Int32 → Int32 → Int32 → (Nat → Int64) → (Nat → Int64) → (Nat → Int64) → Int64 → Int64 → Int64 → Int64 → Int64 → Int64 → (Nat → Int64) → (Nat → Int64) → Int64 → Int64 → Int64 → Int64 → Int64 → Int64 → (Nat → Int64) → (Nat → Int64) → (Nat → Int64) → (Nat → Int64) → (Nat → Int64) → (Nat → Int64) → (Nat → Int64) → (Nat → Int64) → Prop} {xb : Int32} {xn : Int32} {xc : Nat → Int32} {xno : Nat → Int32} {xt : Nat → Int32} {xw : Int32} {xh : Int32} {xe : Nat → Int32} {xa : Nat → Int32} {xam : Int32} {xp : Nat → Int32} {xs : Nat → Int32} {xv : Nat → Int32} {l1 q3 : Int32} {l7 : Int64} {W j : Nat} {cv : Nat → Int32} (hW : W ≤ 32) (col : ∀ i, i < W → colC xb xn xc xno xt xw xh xe xa xam xp xs xv (nI i) (nI j) (cv i)) : ∀ (m i : Nat) (s : Int32) (v1 : Int32) (v2 : Nat → Int64) (v3 : Nat → Int64) (v4 : Nat → Int64) (v5 : Int64) (v6 : Int64) (v7 : Int64) (v8 : Int64) (v9 : Int64) (v10 : Int64) (v11 : Nat → Int64) (v12 : Nat → Int64) (v13 : Int64) (v14 : Int64) (v15 : Int64) (v16 : Int64) (v17 : Int64) (v18 : Int64) (v19 : Nat → Int64) (v20 : Nat → Int64) (v21 : Nat → Int64) (v22 : Nat → Int64) (v23 : Nat → Int64) (v24 : Nat → Int64) (v25 : Nat → Int64) (v26 : Nat → Int64), W - i = m → i < 2 ^ 31 → l1.toInt ≤ i → (∀ (v1 : Int32) (v2 : Nat → Int64) (v3 : Nat → Int64) (v4 : Nat → Int64) (v5 : Int64) (v6 : Int64) (v7 : Int64) (v8 : Int64) (v9 : Int64) (v10 : Int64) (v11 : Nat → Int64) (v12 : Nat → Int64) (v13 : Int64) (v14 : Int64) (v15 : Int64) (v16 : Int64) (v17 : Int64) (v18 : Int64) (v19 : Nat → Int64) (v20 : Nat → Int64) (v21 : Nat → Int64) (v22 : Nat → Int64) (v23 : Nat → Int64) (v24 : Nat → Int64) (v25 : Nat → Int64) (v26 : Nat → Int64), k47 l1 (Int64.ofInt (min (W : Int) (l1.toInt + q3.toInt))) l7 (fz (inP l1 q3) cv m i s) (nI (j + 1)) v1 v2 v3 v4 v5 v6 v7 v8 v9 v10 v11 v12 v13 v14 v15 v16 v17 v18 v19 v20 v21 v22 v23 v24 v25 v26) →
    L_X11_picture_63 k47 xb xn xc xno xt xw xh xe xa xam xp xs xv (m + 1) l1 (Int64.ofInt (min (W : Int) (l1.toInt + q3.toInt))) l7 s (nI j) (nI i) v1 v2 v3 v4 v5 v6 v7 v8 v9 v10 v11 v12 v13 v14 v15 v16 v17 v18 v19 v20 v21 v22 v23 v24 v25 v26
  | 0, i, s, v1, v2, v3, v4, v5, v6, v7, v8, v9, v10, v11, v12, v13, v14, v15, v16, v17, v18, v19, v20, v21, v22, v23, v24, v25, v26, hm, hi, h1, k => by
    have r1 := i32_r l1
    have r3 := i32_r q3
    refine ⟨fun _ x ex => by rw [ex, nI_1]; exact k _ _ _ _ _ _ _ _ _ _ _ _ _ _ _ _ _ _ _ _ _ _ _ _ _ _, fun q => absurd ?_ q⟩
    rw [o_i2l, nI_toInt hi, lg_ge ⟨by omega, by omega⟩ ⟨by omega, by omega⟩]; omega
  | m + 1, i, s, v1, v2, v3, v4, v5, v6, v7, v8, v9, v10, v11, v12, v13, v14, v15, v16, v17, v18, v19, v20, v21, v22, v23, v24, v25, v26, hm, hi, h1, k => by
    have r1 := i32_r l1
    have r3 := i32_r q3
    refine ⟨fun q x ex => ?_, fun q => col i (by omega) _ _ _ _ _ _ _ _ _ _ _ _ _ _ _ _ _ _ _ _ _ _ _ _ _ _ _ (fun _ _ _ _ _ _ _ _ _ _ _ _ _ _ _ _ _ _ _ _ _ _ _ _ _ _ x ex y ey => ?_)⟩
    · rw [o_i2l, nI_toInt hi, lg_ge ⟨by omega, by omega⟩ ⟨by omega, by omega⟩] at q
      rw [fz_out (m + 1) i s (fun j h1 h2 z => by have := z.2; omega)] at k
      rw [ex, nI_1]; exact k _ _ _ _ _ _ _ _ _ _ _ _ _ _ _ _ _ _ _ _ _ _ _ _ _ _
    · rw [o_i2l, nI_toInt hi, lg_ge ⟨by omega, by omega⟩ ⟨by omega, by omega⟩] at q
      rw [fz_p ⟨by omega, by omega⟩] at k
      rw [ex, ey, nI_1]
      exact s_pic63 hW col m (i + 1) _ _ _ _ _ _ _ _ _ _ _ _ _ _ _ _ _ _ _ _ _ _ _ _ _ _ _ (by omega) (by omega) (by omega) k
theorem s_pic47 {post : Int32 → Int32 → (Nat → Int64) → (Nat → Int64) → (Nat → Int64) → Int64 → Int64 → Int64 → Int64 → Int64 → Int64 → (Nat → Int64) → (Nat → Int64) → Int64 → Int64 → Int64 → Int64 → Int64 → Int64 → (Nat → Int64) → (Nat → Int64) → (Nat → Int64) → (Nat → Int64) → (Nat → Int64) → (Nat → Int64) → (Nat → Int64) → (Nat → Int64) → Prop} {xb : Int32} {xn : Int32} {xc : Nat → Int32} {xno : Nat → Int32} {xt : Nat → Int32} {xw : Int32} {xh : Int32} {xe : Nat → Int32} {xa : Nat → Int32} {xam : Int32} {xp : Nat → Int32} {xs : Nat → Int32} {xv : Nat → Int32} {l1 q2 q3 q4 : Int32} {W H : Nat} {cv : Nat → Nat → Int32} (hW : W ≤ 32) (hH : H ≤ 32) (col : ∀ i j, i < W → j < H → colC xb xn xc xno xt xw xh xe xa xam xp xs xv (nI i) (nI j) (cv j i)) : ∀ (m j : Nat) (s : Int32) (v1 : Int32) (v2 : Nat → Int64) (v3 : Nat → Int64) (v4 : Nat → Int64) (v5 : Int64) (v6 : Int64) (v7 : Int64) (v8 : Int64) (v9 : Int64) (v10 : Int64) (v11 : Nat → Int64) (v12 : Nat → Int64) (v13 : Int64) (v14 : Int64) (v15 : Int64) (v16 : Int64) (v17 : Int64) (v18 : Int64) (v19 : Nat → Int64) (v20 : Nat → Int64) (v21 : Nat → Int64) (v22 : Nat → Int64) (v23 : Nat → Int64) (v24 : Nat → Int64) (v25 : Nat → Int64) (v26 : Nat → Int64), H - j = m → j < 2 ^ 31 → q2.toInt ≤ j → (∀ (v1 : Int32) (v2 : Nat → Int64) (v3 : Nat → Int64) (v4 : Nat → Int64) (v5 : Int64) (v6 : Int64) (v7 : Int64) (v8 : Int64) (v9 : Int64) (v10 : Int64) (v11 : Nat → Int64) (v12 : Nat → Int64) (v13 : Int64) (v14 : Int64) (v15 : Int64) (v16 : Int64) (v17 : Int64) (v18 : Int64) (v19 : Nat → Int64) (v20 : Nat → Int64) (v21 : Nat → Int64) (v22 : Nat → Int64) (v23 : Nat → Int64) (v24 : Nat → Int64) (v25 : Nat → Int64) (v26 : Nat → Int64), post (frw (fun j s => fz (fun i => inP l1 q3 i ∧ inP q2 q4 j) (cv j) W 0 s) m j s) v1 v2 v3 v4 v5 v6 v7 v8 v9 v10 v11 v12 v13 v14 v15 v16 v17 v18 v19 v20 v21 v22 v23 v24 v25 v26) →
    L_X11_picture_47 post xb xn xc xno xt xw xh xe xa xam xp xs xv (m + 1) l1 (Int64.ofInt (min (W : Int) (l1.toInt + q3.toInt))) (Int64.ofInt (min (H : Int) (q2.toInt + q4.toInt))) s (nI j) v1 v2 v3 v4 v5 v6 v7 v8 v9 v10 v11 v12 v13 v14 v15 v16 v17 v18 v19 v20 v21 v22 v23 v24 v25 v26
  | 0, j, s, v1, v2, v3, v4, v5, v6, v7, v8, v9, v10, v11, v12, v13, v14, v15, v16, v17, v18, v19, v20, v21, v22, v23, v24, v25, v26, hm, hj, h1, k => by
    have r1 := i32_r q2
    have r3 := i32_r q4
    refine ⟨fun _ => k _ _ _ _ _ _ _ _ _ _ _ _ _ _ _ _ _ _ _ _ _ _ _ _ _ _, fun q => absurd ?_ q⟩
    rw [o_i2l, nI_toInt hj, lg_ge ⟨by omega, by omega⟩ ⟨by omega, by omega⟩]; omega
  | m + 1, j, s, v1, v2, v3, v4, v5, v6, v7, v8, v9, v10, v11, v12, v13, v14, v15, v16, v17, v18, v19, v20, v21, v22, v23, v24, v25, v26, hm, hj, h1, k => by
    have r1 := i32_r q2
    have r3 := i32_r q4
    refine ⟨fun q => ?_, fun q x ex => ?_⟩
    · rw [o_i2l, nI_toInt hj, lg_ge ⟨by omega, by omega⟩ ⟨by omega, by omega⟩] at q
      rw [frw_out (m + 1) j s (fun i h1 h2 s => fz_out W 0 s (fun a _ _ z => by have := z.2.2; omega))] at k
      exact k _ _ _ _ _ _ _ _ _ _ _ _ _ _ _ _ _ _ _ _ _ _ _ _ _ _
    · rw [o_i2l, nI_toInt hj, lg_ge ⟨by omega, by omega⟩ ⟨by omega, by omega⟩] at q
      obtain ⟨i0, hi0, e0, hx0, hx1⟩ := max0 l1
      rw [ex, e0]
      refine ⟨W - i0 + 1, s_pic63 (cv := cv j) hW (fun i hi => col i j hi (by omega)) (W - i0) i0 s _ _ _ _ _ _ _ _ _ _ _ _ _ _ _ _ _ _ _ _ _ _ _ _ _ _ rfl hi0 hx0 (fun _ _ _ _ _ _ _ _ _ _ _ _ _ _ _ _ _ _ _ _ _ _ _ _ _ _ => ?_)⟩
      refine s_pic47 hW hH col m (j + 1) _ _ _ _ _ _ _ _ _ _ _ _ _ _ _ _ _ _ _ _ _ _ _ _ _ _ _ (by omega) (by omega) (by omega) ?_
      have e : fz (fun i => inP l1 q3 i ∧ inP q2 q4 j) (cv j) W 0 s = fz (inP l1 q3) (cv j) (W - i0) i0 s := by
        rw [fz_congr (R := inP l1 q3) W 0 s (fun i _ _ => ⟨fun z => z.1, fun z => ⟨z, by omega, by omega⟩⟩)]
        exact fz_from (fun a ha z => by have := z.1; omega)
      rw [← e]
      exact k
theorem s_pic18 {k6 : Int32 → Int32 → Int32 → Int32 → Int32 → Int32 → Int64 → Int64 → Int32 → Int64 → Int64 → (Nat → Int64) → (Nat → Int64) → (Nat → Int64) → (Nat → Int64) → (Nat → Int64) → (Nat → Int64) → (Nat → Int64) → (Nat → Int64) → (Nat → Int64) → (Nat → Int64) → (Nat → Int64) → Prop} {mn : Int32} {mam : Int32} {xb : Int32} {mc : Nat → Int32} {mno : Nat → Int64} {mt : Nat → Int32} {me : Nat → Int32} {ma : Nat → Int64} {mp : Nat → Int32} {ms : Nat → Int32} {mv : Nat → Int32} {l1 l2 l3 l4 : Int32} {W H j : Nat} {cv : Nat → Int32} (hW : W ≤ 32) (hj : j < 32) (col : ∀ i, i < W → colM mn (nI W) (nI H) mam xb mc mno mt me ma mp ms mv (nI i) (nI j) (cv i)) : ∀ (m i : Nat) (s : Int32) (u1 : Int64) (u2 : Int64) (u3 : Int32) (u4 : Int64) (u5 : Int64) (u6 : Nat → Int64) (u7 : Nat → Int64) (u8 : Nat → Int64) (u9 : Nat → Int64) (u10 : Nat → Int64) (u11 : Nat → Int64) (u12 : Nat → Int64) (u13 : Nat → Int64) (u14 : Nat → Int64) (u15 : Nat → Int64) (u16 : Nat → Int64), i + m = W → (∀ (u1 : Int64) (u2 : Int64) (u3 : Int32) (u4 : Int64) (u5 : Int64) (u6 : Nat → Int64) (u7 : Nat → Int64) (u8 : Nat → Int64) (u9 : Nat → Int64) (u10 : Nat → Int64) (u11 : Nat → Int64) (u12 : Nat → Int64) (u13 : Nat → Int64) (u14 : Nat → Int64) (u15 : Nat → Int64) (u16 : Nat → Int64), k6 l1 l2 l3 l4 (fz (fun i => inP l1 l3 i ∧ inP l2 l4 j) cv m i s) (nI (j + 1)) u1 u2 u3 u4 u5 u6 u7 u8 u9 u10 u11 u12 u13 u14 u15 u16) →
    L_X12_picture_18 k6 mn (nI W) (nI H) mam xb mc mno mt me ma mp ms mv (m + 1) l1 l2 l3 l4 s (nI j) (nI i) u1 u2 u3 u4 u5 u6 u7 u8 u9 u10 u11 u12 u13 u14 u15 u16
  | 0, i, s, u1, u2, u3, u4, u5, u6, u7, u8, u9, u10, u11, u12, u13, u14, u15, u16, hm, k => by
    have : i = W := by omega
    subst this
    exact ⟨fun _ x ex => by rw [ex, nI_1]; exact k _ _ _ _ _ _ _ _ _ _ _ _ _ _ _ _, fun q => absurd (by rw [nI_leI (by omega) (by omega)]; omega) q⟩
  | m + 1, i, s, u1, u2, u3, u4, u5, u6, u7, u8, u9, u10, u11, u12, u13, u14, u15, u16, hm, k => by
    have r1 := i32_r l1
    have r2 := i32_r l2
    have r3 := i32_r l3
    have r4 := i32_r l4
    have nx : ¬ (inP l1 l3 i ∧ inP l2 l4 j) → ∀ x : Int32, x = nI i + 1 → L_X12_picture_18 k6 mn (nI W) (nI H) mam xb mc mno mt me ma mp ms mv (m + 1) l1 l2 l3 l4 s (nI j) x u1 u2 u3 u4 u5 u6 u7 u8 u9 u10 u11 u12 u13 u14 u15 u16 := fun z x ex => by
      rw [fz_n z] at k
      rw [ex, nI_1]; exact s_pic18 hW hj col m (i + 1) s _ _ _ _ _ _ _ _ _ _ _ _ _ _ _ _ (by omega) k
    have t1 : nI i < l1 ↔ (i : Int) < l1.toInt := by rw [i32_lt, nI_toInt (by omega)]
    have t2 : nI j < l2 ↔ (j : Int) < l2.toInt := by rw [i32_lt, nI_toInt (by omega)]
    have t3 : 0 ≤ lg_cmp (nI i).toInt64 (l1.toInt64 + l3.toInt64) ↔ l1.toInt + l3.toInt ≤ i := by rw [o_i2l, o_i2l, o_i2l, o_add, nI_toInt (by omega), lg_ge ⟨by omega, by omega⟩ ⟨by omega, by omega⟩]
    have t4 : 0 ≤ lg_cmp (nI j).toInt64 (l2.toInt64 + l4.toInt64) ↔ l2.toInt + l4.toInt ≤ j := by rw [o_i2l, o_i2l, o_i2l, o_add, nI_toInt (by omega), lg_ge ⟨by omega, by omega⟩ ⟨by omega, by omega⟩]
    refine ⟨fun q => ?_, fun _ => ⟨fun q => nx (fun z => ?_), fun q => ⟨fun q2 => nx (fun z => ?_), fun q2 => ⟨fun q3 => nx (fun z => ?_), fun q3 => ⟨fun q4 => nx (fun z => ?_), fun q4 => col i (by omega) _ _ _ _ _ _ _ _ _ _ _ _ _ _ _ _ _ (fun _ _ _ _ _ _ _ _ _ _ _ _ _ _ _ _ x ex y ey => ?_)⟩⟩⟩⟩⟩
    · rw [nI_leI (by omega) (by omega)] at q; omega
    · rw [t1] at q; have := z.1.1; omega
    · rw [t3] at q2; have := z.1.2; omega
    · rw [t2] at q3; have := z.2.1; omega
    · rw [t4] at q4; have := z.2.2; omega
    · rw [t1] at q; rw [t3] at q2; rw [t2] at q3; rw [t4] at q4
      rw [fz_p ⟨⟨by omega, by omega⟩, by omega, by omega⟩] at k
      rw [ex, ey, nI_1]
      exact s_pic18 hW hj col m (i + 1) _ _ _ _ _ _ _ _ _ _ _ _ _ _ _ _ _ (by omega) k
theorem s_pic6 {post : Int32 → Int64 → Int64 → Int32 → Int64 → Int64 → (Nat → Int64) → (Nat → Int64) → (Nat → Int64) → (Nat → Int64) → (Nat → Int64) → (Nat → Int64) → (Nat → Int64) → (Nat → Int64) → (Nat → Int64) → (Nat → Int64) → (Nat → Int64) → Prop} {mn : Int32} {mam : Int32} {xb : Int32} {mc : Nat → Int32} {mno : Nat → Int64} {mt : Nat → Int32} {me : Nat → Int32} {ma : Nat → Int64} {mp : Nat → Int32} {ms : Nat → Int32} {mv : Nat → Int32} {l1 l2 l3 l4 : Int32} {W H : Nat} {cv : Nat → Nat → Int32} (hW : W ≤ 32) (hH : H ≤ 32) (col : ∀ i j, i < W → j < H → colM mn (nI W) (nI H) mam xb mc mno mt me ma mp ms mv (nI i) (nI j) (cv j i)) : ∀ (m j : Nat) (s : Int32) (u1 : Int64) (u2 : Int64) (u3 : Int32) (u4 : Int64) (u5 : Int64) (u6 : Nat → Int64) (u7 : Nat → Int64) (u8 : Nat → Int64) (u9 : Nat → Int64) (u10 : Nat → Int64) (u11 : Nat → Int64) (u12 : Nat → Int64) (u13 : Nat → Int64) (u14 : Nat → Int64) (u15 : Nat → Int64) (u16 : Nat → Int64), j + m = H → (∀ (u1 : Int64) (u2 : Int64) (u3 : Int32) (u4 : Int64) (u5 : Int64) (u6 : Nat → Int64) (u7 : Nat → Int64) (u8 : Nat → Int64) (u9 : Nat → Int64) (u10 : Nat → Int64) (u11 : Nat → Int64) (u12 : Nat → Int64) (u13 : Nat → Int64) (u14 : Nat → Int64) (u15 : Nat → Int64) (u16 : Nat → Int64), post (frw (fun j s => fz (fun i => inP l1 l3 i ∧ inP l2 l4 j) (cv j) W 0 s) m j s) u1 u2 u3 u4 u5 u6 u7 u8 u9 u10 u11 u12 u13 u14 u15 u16) →
    L_X12_picture_6 post mn (nI W) (nI H) mam xb mc mno mt me ma mp ms mv (m + 1) l1 l2 l3 l4 s (nI j) u1 u2 u3 u4 u5 u6 u7 u8 u9 u10 u11 u12 u13 u14 u15 u16
  | 0, j, s, u1, u2, u3, u4, u5, u6, u7, u8, u9, u10, u11, u12, u13, u14, u15, u16, hm, k => by
    have : j = H := by omega
    subst this
    exact ⟨fun _ => k _ _ _ _ _ _ _ _ _ _ _ _ _ _ _ _, fun q => absurd (by rw [nI_leI (by omega) (by omega)]; omega) q⟩
  | m + 1, j, s, u1, u2, u3, u4, u5, u6, u7, u8, u9, u10, u11, u12, u13, u14, u15, u16, hm, k => by
    refine ⟨fun q => ?_, fun _ => ⟨W + 1, s_pic18 (cv := cv j) hW (by omega) (fun i hi => col i j hi (by omega)) W 0 s _ _ _ _ _ _ _ _ _ _ _ _ _ _ _ _ (by omega) (fun _ _ _ _ _ _ _ _ _ _ _ _ _ _ _ _ => s_pic6 hW hH col m (j + 1) _ _ _ _ _ _ _ _ _ _ _ _ _ _ _ _ _ (by omega) k)⟩⟩
    rw [nI_leI (by omega) (by omega)] at q; omega
theorem op_picture {q1 : Int32} {q2 : Int32} {q3 : Int32} {q4 : Int32} {xb : Int32} {xn : Int32} {xc : Nat → Int32} {xno : Nat → Int32} {xt : Nat → Int32} {xw : Int32} {xh : Int32} {xe : Nat → Int32} {xa : Nat → Int32} {xam : Int32} {xp : Nat → Int32} {xs : Nat → Int32} {xv : Nat → Int32} {s17 : Int32} {s18 : Nat → Int64} {s19 : Nat → Int64} {s20 : Nat → Int64} {s21 : Int64} {s22 : Int64} {s23 : Int64} {s24 : Int64} {s25 : Int64} {s26 : Int64} {s27 : Nat → Int64} {s28 : Nat → Int64} {s29 : Int64} {s30 : Int64} {s31 : Int64} {s32 : Int64} {s33 : Int64} {s34 : Int64} {s35 : Nat → Int64} {s36 : Nat → Int64} {s37 : Nat → Int64} {s38 : Nat → Int64} {s39 : Nat → Int64} {s40 : Nat → Int64} {s41 : Nat → Int64} {s42 : Nat → Int64} {mn : Int32} {mw : Int32} {mh : Int32} {mam : Int32} {mb : Int32} {m9 : Int64} {m10 : Int64} {m11 : Int32} {m12 : Int64} {m13 : Int64} {mc : Nat → Int32} {mno : Nat → Int64} {mt : Nat → Int32} {me : Nat → Int32} {ma : Nat → Int64} {mp : Nat → Int32} {ms : Nat → Int32} {mv : Nat → Int32} {m22 : Nat → Int64} {m23 : Nat → Int64} {m24 : Nat → Int64} {m25 : Nat → Int64} {m26 : Nat → Int64} {m27 : Nat → Int64} {m28 : Nat → Int64} {m29 : Nat → Int64} {m30 : Nat → Int64} {m31 : Nat → Int64} {m32 : Nat → Int64} {nt : Nat} (I : IM nt xn xc xno xt mn mc mno mt) (K : IC xe xa xw xh me ma mw mh) (L : IL xp xs xv xam mp ms mv mam) (hbk : mb = xb) {Q : Int32 → Int32 → (Nat → Int64) → (Nat → Int64) → (Nat → Int64) → Int64 → Int64 → Int64 → Int64 → Int64 → Int64 → (Nat → Int64) → (Nat → Int64) → Int64 → Int64 → Int64 → Int64 → Int64 → Int64 → (Nat → Int64) → (Nat → Int64) → (Nat → Int64) → (Nat → Int64) → (Nat → Int64) → (Nat → Int64) → (Nat → Int64) → (Nat → Int64) → Int32 → Int64 → Int64 → Int32 → Int64 → Int64 → (Nat → Int64) → (Nat → Int64) → (Nat → Int64) → (Nat → Int64) → (Nat → Int64) → (Nat → Int64) → (Nat → Int64) → (Nat → Int64) → (Nat → Int64) → (Nat → Int64) → (Nat → Int64) → Prop}
    (k : ∀ (r : Int32) (v1 : Int32) (v2 : Nat → Int64) (v3 : Nat → Int64) (v4 : Nat → Int64) (v5 : Int64) (v6 : Int64) (v7 : Int64) (v8 : Int64) (v9 : Int64) (v10 : Int64) (v11 : Nat → Int64) (v12 : Nat → Int64) (v13 : Int64) (v14 : Int64) (v15 : Int64) (v16 : Int64) (v17 : Int64) (v18 : Int64) (v19 : Nat → Int64) (v20 : Nat → Int64) (v21 : Nat → Int64) (v22 : Nat → Int64) (v23 : Nat → Int64) (v24 : Nat → Int64) (v25 : Nat → Int64) (v26 : Nat → Int64) (u1 : Int64) (u2 : Int64) (u3 : Int32) (u4 : Int64) (u5 : Int64) (u6 : Nat → Int64) (u7 : Nat → Int64) (u8 : Nat → Int64) (u9 : Nat → Int64) (u10 : Nat → Int64) (u11 : Nat → Int64) (u12 : Nat → Int64) (u13 : Nat → Int64) (u14 : Nat → Int64) (u15 : Nat → Int64) (u16 : Nat → Int64), Q r v1 v2 v3 v4 v5 v6 v7 v8 v9 v10 v11 v12 v13 v14 v15 v16 v17 v18 v19 v20 v21 v22 v23 v24 v25 v26 r u1 u2 u3 u4 u5 u6 u7 u8 u9 u10 u11 u12 u13 u14 u15 u16) :
    F_X11_picture q1 q2 q3 q4 xb xn xc xno xt xw xh xe xa xam xp xs xv s17 s18 s19 s20 s21 s22 s23 s24 s25 s26 s27 s28 s29 s30 s31 s32 s33 s34 s35 s36 s37 s38 s39 s40 s41 s42 (fun r v1 v2 v3 v4 v5 v6 v7 v8 v9 v10 v11 v12 v13 v14 v15 v16 v17 v18 v19 v20 v21 v22 v23 v24 v25 v26 => F_X12_picture q1 q2 q3 q4 mn mw mh mam mb m9 m10 m11 m12 m13 mc mno mt me ma mp ms mv m22 m23 m24 m25 m26 m27 m28 m29 m30 m31 m32 (fun r' u1 u2 u3 u4 u5 u6 u7 u8 u9 u10 u11 u12 u13 u14 u15 u16 => Q r v1 v2 v3 v4 v5 v6 v7 v8 v9 v10 v11 v12 v13 v14 v15 v16 v17 v18 v19 v20 v21 v22 v23 v24 v25 v26 r' u1 u2 u3 u4 u5 u6 u7 u8 u9 u10 u11 u12 u13 u14 u15 u16)) := by
  subst hbk
  have I0 := I
  have K0 := K
  have L0 := L
  obtain ⟨hnt, rfl, rfl, rfl, rfl, hcb, hmn, hcr⟩ := I
  obtain ⟨rfl, heb, hax, rfl, rfl, hw, hh, hf⟩ := K
  obtain ⟨rfl, rfl, rfl, rfl, hlb⟩ := L
  obtain ⟨W, hW, rfl⟩ := nI_get (x := mw) (N := 33) (by omega) (by omega) (by omega)
  obtain ⟨H, hH, rfl⟩ := nI_get (x := mh) (N := 33) (by omega) (by omega) (by omega)
  have px : ∀ i j, i < W → j < H → pix (nI i) (nI j) (nI W) (nI H) := fun i j hi hj => by
    unfold pix; rw [nI_toInt (by omega), nI_toInt (by omega), nI_toInt (by omega), nI_toInt (by omega)]; omega
  have ex : ∀ i j, ∃ r, (i < W → j < H → colC mb (nI nt) mc xno mt (nI W) (nI H) me xa mam mp ms mv (nI i) (nI j) r ∧ colM (nI nt) (nI W) (nI H) mam mb mc mno mt me ma mp ms mv (nI i) (nI j) r) := fun i j => by
    by_cases c : i < W ∧ j < H
    · obtain ⟨r, h1, h2⟩ := colour_both (xb := mb) I0 K0 L0 (px i j c.1 c.2)
      exact ⟨r, fun _ _ => ⟨h1, h2⟩⟩
    · exact ⟨0, fun a b => absurd ⟨a, b⟩ c⟩
  obtain ⟨cv, hcv⟩ := Classical.axiomOfChoice (fun i => Classical.axiomOfChoice (ex i))
  intro x1 e1 x2 e2 x3 e3
  obtain ⟨j0, hj0, ej0, hy0, hy1⟩ := max0 q2
  have r1 := i32_r q1
  have r2 := i32_r q2
  have r3 := i32_r q3
  have r4 := i32_r q4
  rw [o_i2l, o_i2l, o_i2l, o_add, nI_toInt (by omega), min_o ⟨by omega, by omega⟩ ⟨by omega, by omega⟩] at e1 e2
  rw [e1, e2, e3, ej0]
  refine ⟨H - j0 + 1, s_pic47 (cv := fun j i => cv i j) (q3 := q3) (q4 := q4) (q2 := q2) (by omega) (by omega) (fun i j hi hj => (hcv i j hi hj).1) (H - j0) j0 1 _ _ _ _ _ _ _ _ _ _ _ _ _ _ _ _ _ _ _ _ _ _ _ _ _ _ rfl hj0 hy0 (fun _ _ _ _ _ _ _ _ _ _ _ _ _ _ _ _ _ _ _ _ _ _ _ _ _ _ => ?_)⟩
  refine ⟨H + 1, s_pic6 (cv := fun j i => cv i j) (by omega) (by omega) (fun i j hi hj => (hcv i j hi hj).2) H 0 1 _ _ _ _ _ _ _ _ _ _ _ _ _ _ _ _ (by omega) (fun _ _ _ _ _ _ _ _ _ _ _ _ _ _ _ _ => ?_)⟩
  rw [frw_from (j0 := j0) (fun i hi s => fz_out W 0 s (fun a _ _ z => by have := z.2.1; omega))]
  exact k _ _ _ _ _ _ _ _ _ _ _ _ _ _ _ _ _ _ _ _ _ _ _ _ _ _ _ _ _ _ _ _ _ _ _ _ _ _ _ _ _ _ _
