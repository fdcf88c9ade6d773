/-! PURE PART: seen (heads written by a program) -/
noncomputable def pick (P : Nat → Prop) (k : Int32) : Nat → Nat → Nat → Int32
  | 0, _, c => if k = -1 then nI c else -1
  | m + 1, i, c => @ite _ (P i) (Classical.propDecidable _) (if nI c = k then nI i else pick P k m (i + 1) (c + 1)) (pick P k m (i + 1) c)
theorem pick_n {P : Nat → Prop} {k : Int32} {m i c : Nat} (h : ¬ P i) : pick P k (m + 1) i c = pick P k m (i + 1) c := if_neg h
theorem pick_p {P : Nat → Prop} {k : Int32} {m i c : Nat} (h : P i) (e : nI c = k) : pick P k (m + 1) i c = nI i := by
  show @ite _ (P i) (Classical.propDecidable _) (if nI c = k then nI i else pick P k m (i + 1) (c + 1)) (pick P k m (i + 1) c) = _; rw [if_pos h, if_pos e]
theorem pick_q {P : Nat → Prop} {k : Int32} {m i c : Nat} (h : P i) (e : ¬ nI c = k) : pick P k (m + 1) i c = pick P k m (i + 1) (c + 1) := by
  show @ite _ (P i) (Classical.propDecidable _) (if nI c = k then nI i else pick P k m (i + 1) (c + 1)) (pick P k m (i + 1) c) = _; rw [if_pos h, if_neg e]
theorem pick_congr {P R : Nat → Prop} {k : Int32} : ∀ (m i c : Nat), (∀ j, i ≤ j → j < i + m → (P j ↔ R j)) → pick P k m i c = pick R k m i c
  | 0, _, _, _ => rfl
  | m + 1, i, c, h => by
    have hh : ∀ j, i + 1 ≤ j → j < i + 1 + m → (P j ↔ R j) := fun j h1 h2 => h j (by omega) (by omega)
    by_cases q : P i
    · have q2 := (h i (by omega) (by omega)).mp q
      by_cases e : nI c = k
      · rw [pick_p q e, pick_p q2 e]
      · rw [pick_q q e, pick_q q2 e, pick_congr m (i + 1) (c + 1) hh]
    · rw [pick_n q, pick_n (fun z => q ((h i (by omega) (by omega)).mpr z)), pick_congr m (i + 1) c hh]
theorem pick_neg {P : Nat → Prop} {k : Int32} (hk : k.toInt < -1) : ∀ (m i c : Nat), c + m ≤ 128 → pick P k m i c = -1
  | 0, _, c, _ => if_neg (fun e => by rw [e] at hk; exact absurd hk (by decide))
  | m + 1, i, c, h => by
    have e : ¬ nI c = k := fun e => by rw [← e, nI_toInt (by omega)] at hk; omega
    by_cases q : P i
    · rw [pick_q q e, pick_neg hk m (i + 1) (c + 1) (by omega)]
    · rw [pick_n q, pick_neg hk m (i + 1) c (by omega)]
theorem s_pick4 {post : Int32 → Prop} {k : Int32} {M : Nat → Int32} {nt : Nat} (hn : nt ≤ 128) : ∀ (m i c : Nat), i + m = nt → post (pick (fun j => ¬ M j = 0) k m i c) → L_X11_pickMarked_4 post (nI nt) M (m + 1) k (nI c) (nI i)
  | 0, i, c, hi, h => by
    have : i = nt := by omega
    subst this
    unfold pick at h
    refine ⟨fun _ => ⟨fun q => by rw [if_neg q] at h; exact h, fun q => by rw [if_pos q] at h; exact h⟩, fun q => absurd (by rw [nI_leI (by omega) (by omega)]; omega) q⟩
  | m + 1, i, c, hi, h => by
    refine ⟨fun q => ?_, fun _ => ⟨vin i (by omega) (by omega) rfl, ?_⟩⟩
    · rw [nI_leI (by omega) (by omega)] at q; omega
    rw [nI_clamp (by omega)]
    refine ⟨fun q x ex => ?_, fun q => ⟨fun q2 x ex y ey => ?_, fun q2 => ?_⟩⟩
    · rw [pick_n (fun z => z q)] at h
      rw [ex, nI_1]; exact s_pick4 hn m (i + 1) c (by omega) h
    · rw [pick_q q q2] at h
      rw [ex, ey, nI_1, nI_1]; exact s_pick4 hn m (i + 1) (c + 1) (by omega) h
    · rw [pick_p q q2] at h; exact h
theorem s_pickMarked {post : Int32 → Prop} {k : Int32} {M : Nat → Int32} {nt : Nat} (hn : nt ≤ 128) (h : post (pick (fun j => ¬ M j = 0) k nt 0 0)) : F_X11_pickMarked k (nI nt) M post :=
  ⟨nt + 1, s_pick4 hn nt 0 0 (by omega) h⟩
def mset (o : Option Nat) (M : Nat → Int32) : Nat → Int32 := match o with
  | none => M
  | some f => upd M f 1
def smk (g : Nat → Option Nat) : Nat → Nat → (Nat → Int32) → Nat → Int32
  | 0, _, M => M
  | m + 1, i, M => smk g m (i + 1) (mset (g i) M)
def smr (G : Nat → Nat → Option Nat) (W : Nat) : Nat → Nat → (Nat → Int32) → Nat → Int32
  | 0, _, M => M
  | m + 1, j, M => smr G W m (j + 1) (smk (G j) W 0 M)
def agr (nt : Nat) (M R : Nat → Int32) : Prop := ∀ t, t < nt → M t = R t
theorem agr_set {nt : Nat} {M R : Nat → Int32} (o : Option Nat) (h : agr nt M R) : agr nt (mset o M) (mset o R) := by
  cases o with
  | none => exact h
  | some f => intro t ht; show upd M f 1 t = upd R f 1 t; unfold upd; split; rfl; exact h t ht
theorem agr_smk {nt : Nat} {g : Nat → Option Nat} : ∀ (m i : Nat) (M R : Nat → Int32), agr nt M R → agr nt (smk g m i M) (smk g m i R)
  | 0, _, _, _, h => h
  | m + 1, i, M, R, h => agr_smk m (i + 1) _ _ (agr_set (g i) h)
theorem agr_smr {nt : Nat} {G : Nat → Nat → Option Nat} {W : Nat} : ∀ (m j : Nat) (M R : Nat → Int32), agr nt M R → agr nt (smr G W m j M) (smr G W m j R)
  | 0, _, _, _, h => h
  | m + 1, j, M, R, h => agr_smr m (j + 1) _ _ (agr_smk W 0 _ _ h)
theorem nar0 : vp_nar .boolean 0 = 0 := by decide
theorem nar1 : vp_nar .boolean 1 = 1 := by decide
theorem s_unmark2 {post : (Nat → Int32) → Prop} (k : ∀ M, (∀ t, t < 128 → M t = 0) → post M) : ∀ (m i : Nat) (M : Nat → Int32), i + m = 128 → (∀ t, t < i → M t = 0) → L_X11_unmarkAll_2 post (m + 1) (nI i) M
  | 0, i, M, hi, h => by
    have : i = 128 := by omega
    subst this
    exact ⟨fun _ => k M h, fun q => absurd (by decide) q⟩
  | m + 1, i, M, hi, h => by
    refine ⟨fun q => ?_, fun _ => ⟨vin i (by omega) (by omega) rfl, fun g eg x ex => ?_⟩⟩
    · rw [n_128, nI_leI (by omega) (by omega)] at q; omega
    rw [nI_clamp (by omega), nar0] at eg
    rw [ex, nI_1]
    refine s_unmark2 k m (i + 1) g (by omega) (fun t ht => ?_)
    rw [eg]; unfold upd
    split
    · rfl
    · exact h t (by omega)
theorem s_unmark {post : (Nat → Int32) → Prop} {M : Nat → Int32} (k : ∀ M, (∀ t, t < 128 → M t = 0) → post M) : F_X11_unmarkAll M post := ⟨129, s_unmark2 k 128 0 M (by omega) (fun t h => absurd h (by omega))⟩
theorem px_ij {W H i j : Nat} (hW : W ≤ 32) (hH : H ≤ 32) (hi : i < W) (hj : j < H) : pix (nI i) (nI j) (nI W) (nI H) := by
  unfold pix; rw [nI_toInt (by omega), nI_toInt (by omega), nI_toInt (by omega), nI_toInt (by omega)]; omega

theorem s_seen26 {k13 : Int32 → Int32 → Int32 → (Nat → Int64) → (Nat → Int64) → (Nat → Int64) → Int64 → Int64 → Int64 → Int64 → Int64 → Int64 → (Nat → Int64) → (Nat → Int64) → (Nat → Int32) → Prop} {nt W H : Nat} {co no eye ax : Nat → Int32} {l1 : Int32} {j : Nat} (hW : W ≤ 32) (hH : H ≤ 32) (SC_ : ∀ i j, i < W → j < H → SC nt co no (fun j => (eye j).toInt) (camD ax (nI W).toInt (nI H).toInt (nI i).toInt (nI j).toInt)) (hj : j < H) : ∀ (m i : Nat) (v1 : Int32) (v2 : Nat → Int64) (v3 : Nat → Int64) (v4 : Nat → Int64) (v5 : Int64) (v6 : Int64) (v7 : Int64) (v8 : Int64) (v9 : Int64) (v10 : Int64) (v11 : Nat → Int64) (v12 : Nat → Int64) (M : Nat → Int32), i + m = W → (∀ (v1 : Int32) (v2 : Nat → Int64) (v3 : Nat → Int64) (v4 : Nat → Int64) (v5 : Int64) (v6 : Int64) (v7 : Int64) (v8 : Int64) (v9 : Int64) (v10 : Int64) (v11 : Nat → Int64) (v12 : Nat → Int64), k13 l1 (nI (j + 1)) v1 v2 v3 v4 v5 v6 v7 v8 v9 v10 v11 v12 (smk (fun i => fst co no (fun j => (eye j).toInt) (camD ax (nI W).toInt (nI H).toInt (nI i).toInt (nI j).toInt) nt) m i M)) → L_X11_seen_26 k13 (nI nt) co no (nI W) (nI H) eye ax (m + 1) l1 (nI j) (nI i) v1 v2 v3 v4 v5 v6 v7 v8 v9 v10 v11 v12 M
  | 0, i, v1, v2, v3, v4, v5, v6, v7, v8, v9, v10, v11, v12, M, hm, k => by
    have : i = W := by omega
    subst this
    exact ⟨fun _ x ex => by rw [ex, nI_1]; exact k _ _ _ _ _ _ _ _ _ _ _ _, fun q => absurd (by rw [nI_leI (by omega) (by omega)]; omega) q⟩
  | m + 1, i, v1, v2, v3, v4, v5, v6, v7, v8, v9, v10, v11, v12, M, hm, k => by
    have hi : i < W := by omega
    have S := SC_ i j hi hj
    have hnt := S.1
    refine ⟨fun q => ?_, fun _ => s_look (px_ij hW hH hi hj) (by rw [nI_toInt (by omega)]; omega) (by rw [nI_toInt (by omega)]; omega) S (fun a b c d e f fr al wh ti pc we C0 => ?_)⟩
    · rw [nI_leI (by omega) (by omega)] at q; omega
    have step : ∀ o, fst co no (fun j => (eye j).toInt) (camD ax (nI W).toInt (nI H).toInt (nI i).toInt (nI j).toInt) nt = o → (∀ (v1 : Int32) (v2 : Nat → Int64) (v3 : Nat → Int64) (v4 : Nat → Int64) (v5 : Int64) (v6 : Int64) (v7 : Int64) (v8 : Int64) (v9 : Int64) (v10 : Int64) (v11 : Nat → Int64) (v12 : Nat → Int64), k13 l1 (nI (j + 1)) v1 v2 v3 v4 v5 v6 v7 v8 v9 v10 v11 v12 (smk (fun i => fst co no (fun j => (eye j).toInt) (camD ax (nI W).toInt (nI H).toInt (nI i).toInt (nI j).toInt) nt) m (i + 1) (mset o M))) := fun o eo => by rw [← eo]; exact k
    cases ef : fst co no (fun j => (eye j).toInt) (camD ax (nI W).toInt (nI H).toInt (nI i).toInt (nI j).toInt) nt with
    | none =>
      rw [ef] at C0
      have ew := ClS_none C0
      subst ew
      exact ⟨fun _ => ⟨fun _ x ex => by rw [ex, nI_1]; exact s_seen26 hW hH SC_ hj m (i + 1) _ _ _ _ _ _ _ _ _ _ _ _ _ (by omega) (step none ef), fun q => absurd rfl q⟩, fun q => absurd m2_neg q⟩
    | some g =>
      rw [ef] at C0
      obtain ⟨rfl, -, -⟩ := ClS_some C0
      have hg := (fst_hit ef).1
      refine ⟨fun q => absurd q (nI_nn (by omega)), fun _ => ⟨fun q => absurd q (by decide), fun _ => ⟨vin g (by omega) (by omega) rfl, fun g2 eg x ex => ?_⟩⟩⟩
      rw [nI_clamp (by omega), nar1] at eg
      rw [ex, nI_1, eg]; exact s_seen26 hW hH SC_ hj m (i + 1) _ _ _ _ _ _ _ _ _ _ _ _ _ (by omega) (step (some g) ef)
theorem s_seen13 {post : Int32 → Int32 → (Nat → Int64) → (Nat → Int64) → (Nat → Int64) → Int64 → Int64 → Int64 → Int64 → Int64 → Int64 → (Nat → Int64) → (Nat → Int64) → (Nat → Int32) → Prop} {nt W H : Nat} {co no eye ax : Nat → Int32} {l1 : Int32} (hW : W ≤ 32) (hH : H ≤ 32) (SC_ : ∀ i j, i < W → j < H → SC nt co no (fun j => (eye j).toInt) (camD ax (nI W).toInt (nI H).toInt (nI i).toInt (nI j).toInt)) (hn : nt ≤ 128) : ∀ (m j : Nat) (v1 : Int32) (v2 : Nat → Int64) (v3 : Nat → Int64) (v4 : Nat → Int64) (v5 : Int64) (v6 : Int64) (v7 : Int64) (v8 : Int64) (v9 : Int64) (v10 : Int64) (v11 : Nat → Int64) (v12 : Nat → Int64) (M : Nat → Int32), j + m = H → (∀ (v1 : Int32) (v2 : Nat → Int64) (v3 : Nat → Int64) (v4 : Nat → Int64) (v5 : Int64) (v6 : Int64) (v7 : Int64) (v8 : Int64) (v9 : Int64) (v10 : Int64) (v11 : Nat → Int64) (v12 : Nat → Int64) M', M' = smr (fun j i => fst co no (fun j => (eye j).toInt) (camD ax (nI W).toInt (nI H).toInt (nI i).toInt (nI j).toInt) nt) W m j M → post (pick (fun j => ¬ M' j = 0) l1 nt 0 0) v1 v2 v3 v4 v5 v6 v7 v8 v9 v10 v11 v12 M') → L_X11_seen_13 post (nI nt) co no (nI W) (nI H) eye ax (m + 1) l1 (nI j) v1 v2 v3 v4 v5 v6 v7 v8 v9 v10 v11 v12 M
  | 0, j, v1, v2, v3, v4, v5, v6, v7, v8, v9, v10, v11, v12, M, hm, k => by
    have : j = H := by omega
    subst this
    exact ⟨fun _ => s_pickMarked hn (k _ _ _ _ _ _ _ _ _ _ _ _ M rfl), fun q => absurd (by rw [nI_leI (by omega) (by omega)]; omega) q⟩
  | m + 1, j, v1, v2, v3, v4, v5, v6, v7, v8, v9, v10, v11, v12, M, hm, k => by
    refine ⟨fun q => ?_, fun _ => ⟨W + 1, s_seen26 hW hH SC_ (by omega) W 0 _ _ _ _ _ _ _ _ _ _ _ _ M (by omega) (fun _ _ _ _ _ _ _ _ _ _ _ _ => s_seen13 hW hH SC_ hn m (j + 1) _ _ _ _ _ _ _ _ _ _ _ _ _ (by omega) k)⟩⟩
    rw [nI_leI (by omega) (by omega)] at q; omega
theorem s_seen35 {k25 : Int32 → Int32 → Int64 → Int64 → Int32 → Int64 → Int64 → (Nat → Int64) → (Nat → Int64) → (Nat → Int64) → (Nat → Int64) → (Nat → Int64) → (Nat → Int64) → (Nat → Int32) → Prop} {nt W H : Nat} {co no eye ax : Nat → Int32} {mno ma : Nat → Int64} {l1 : Int32} {j : Nat} (hax : AX ax ma) (hmn : ∀ j, mno j = (no j).toInt64) (hW : W ≤ 32) (hH : H ≤ 32) (SC_ : ∀ i j, i < W → j < H → SC nt co no (fun j => (eye j).toInt) (camD ax (nI W).toInt (nI H).toInt (nI i).toInt (nI j).toInt)) (hj : j < H) : ∀ (m i : Nat) (u1 : Int64) (u2 : Int64) (u3 : Int32) (u4 : Int64) (u5 : Int64) (u6 : Nat → Int64) (u7 : Nat → Int64) (u8 : Nat → Int64) (u9 : Nat → Int64) (u10 : Nat → Int64) (u11 : Nat → Int64) (M : Nat → Int32), i + m = W → (∀ (u1 : Int64) (u2 : Int64) (u3 : Int32) (u4 : Int64) (u5 : Int64) (u6 : Nat → Int64) (u7 : Nat → Int64) (u8 : Nat → Int64) (u9 : Nat → Int64) (u10 : Nat → Int64) (u11 : Nat → Int64), k25 l1 (nI (j + 1)) u1 u2 u3 u4 u5 u6 u7 u8 u9 u10 u11 (smk (fun i => fst co no (fun j => (eye j).toInt) (camD ax (nI W).toInt (nI H).toInt (nI i).toInt (nI j).toInt) nt) m i M)) → L_X12_seen_35 k25 (nI nt) (nI W) (nI H) co mno eye ma (m + 1) l1 (nI j) (nI i) u1 u2 u3 u4 u5 u6 u7 u8 u9 u10 u11 M
  | 0, i, u1, u2, u3, u4, u5, u6, u7, u8, u9, u10, u11, M, hm, k => by
    have : i = W := by omega
    subst this
    exact ⟨fun _ x ex => by rw [ex, nI_1]; exact k _ _ _ _ _ _ _ _ _ _ _, fun q => absurd (by rw [nI_leI (by omega) (by omega)]; omega) q⟩
  | m + 1, i, u1, u2, u3, u4, u5, u6, u7, u8, u9, u10, u11, M, hm, k => by
    have hi : i < W := by omega
    have S := SC_ i j hi hj
    have hnt := S.1
    refine ⟨fun q => ?_, fun _ => s_findFirst hax S hmn (fun A B fi fA fB d2 we2 fr2 al2 se2 fW2 hd M0 => ?_)⟩
    · rw [nI_leI (by omega) (by omega)] at q; omega
    have step : ∀ o, fst co no (fun j => (eye j).toInt) (camD ax (nI W).toInt (nI H).toInt (nI i).toInt (nI j).toInt) nt = o → (∀ (u1 : Int64) (u2 : Int64) (u3 : Int32) (u4 : Int64) (u5 : Int64) (u6 : Nat → Int64) (u7 : Nat → Int64) (u8 : Nat → Int64) (u9 : Nat → Int64) (u10 : Nat → Int64) (u11 : Nat → Int64), k25 l1 (nI (j + 1)) u1 u2 u3 u4 u5 u6 u7 u8 u9 u10 u11 (smk (fun i => fst co no (fun j => (eye j).toInt) (camD ax (nI W).toInt (nI H).toInt (nI i).toInt (nI j).toInt) nt) m (i + 1) (mset o M))) := fun o eo => by rw [← eo]; exact k
    cases ef : fst co no (fun j => (eye j).toInt) (camD ax (nI W).toInt (nI H).toInt (nI i).toInt (nI j).toInt) nt with
    | none =>
      rw [ef] at M0
      have ew := MS_none M0
      subst ew
      exact ⟨fun _ x ex => by rw [ex, nI_1]; exact s_seen35 hax hmn hW hH SC_ hj m (i + 1) _ _ _ _ _ _ _ _ _ _ _ _ (by omega) (step none ef), fun q => absurd m2_neg q⟩
    | some g =>
      rw [ef] at M0
      obtain ⟨rfl, -, -⟩ := MS_some M0
      have hg := (fst_hit ef).1
      refine ⟨fun q => absurd q (nI_nn (by omega)), fun _ => ⟨vin g (by omega) (by omega) rfl, fun g2 eg x ex => ?_⟩⟩
      rw [nI_clamp (by omega), nar1] at eg
      rw [ex, nI_1, eg]; exact s_seen35 hax hmn hW hH SC_ hj m (i + 1) _ _ _ _ _ _ _ _ _ _ _ _ (by omega) (step (some g) ef)
theorem s_seen82 {post : Int32 → Int64 → Int64 → Int32 → Int64 → Int64 → (Nat → Int64) → (Nat → Int64) → (Nat → Int64) → (Nat → Int64) → (Nat → Int64) → (Nat → Int64) → (Nat → Int32) → Prop} {nt : Nat} {mw mh k : Int32} {co eye : Nat → Int32} {mno ma : Nat → Int64} {u1 : Int64} {u2 : Int64} {u3 : Int32} {u4 : Int64} {u5 : Int64} {u6 : Nat → Int64} {u7 : Nat → Int64} {u8 : Nat → Int64} {u9 : Nat → Int64} {u10 : Nat → Int64} {u11 : Nat → Int64} {M : Nat → Int32} (hn : nt ≤ 128) : ∀ (m i c : Nat), i + m = nt → post (pick (fun j => ¬ M j = 0) k m i c) u1 u2 u3 u4 u5 u6 u7 u8 u9 u10 u11 M → L_X12_seen_82 post (nI nt) mw mh co mno eye ma (m + 1) k (nI c) (nI i) u1 u2 u3 u4 u5 u6 u7 u8 u9 u10 u11 M
  | 0, i, c, hi, h => by
    have : i = nt := by omega
    subst this
    unfold pick at h
    refine ⟨fun _ => ⟨fun q => by rw [if_neg q] at h; exact h, fun q => by rw [if_pos q] at h; exact h⟩, fun q => absurd (by rw [nI_leI (by omega) (by omega)]; omega) q⟩
  | m + 1, i, c, hi, h => by
    refine ⟨fun q => ?_, fun _ => ⟨vin i (by omega) (by omega) rfl, ?_⟩⟩
    · rw [nI_leI (by omega) (by omega)] at q; omega
    rw [nI_clamp (by omega)]
    refine ⟨fun q x ex => ?_, fun q => ⟨fun q2 x ex y ey => ?_, fun q2 => ?_⟩⟩
    · rw [pick_n (fun z => z q)] at h
      rw [ex, nI_1]; exact s_seen82 hn m (i + 1) c (by omega) h
    · rw [pick_q q q2] at h
      rw [ex, ey, nI_1, nI_1]; exact s_seen82 hn m (i + 1) (c + 1) (by omega) h
    · rw [pick_p q q2] at h; exact h
theorem s_seen25 {post : Int32 → Int64 → Int64 → Int32 → Int64 → Int64 → (Nat → Int64) → (Nat → Int64) → (Nat → Int64) → (Nat → Int64) → (Nat → Int64) → (Nat → Int64) → (Nat → Int32) → Prop} {nt W H : Nat} {co no eye ax : Nat → Int32} {mno ma : Nat → Int64} {l1 : Int32} (hax : AX ax ma) (hmn : ∀ j, mno j = (no j).toInt64) (hW : W ≤ 32) (hH : H ≤ 32) (SC_ : ∀ i j, i < W → j < H → SC nt co no (fun j => (eye j).toInt) (camD ax (nI W).toInt (nI H).toInt (nI i).toInt (nI j).toInt)) (hn : nt ≤ 128) : ∀ (m j : Nat) (u1 : Int64) (u2 : Int64) (u3 : Int32) (u4 : Int64) (u5 : Int64) (u6 : Nat → Int64) (u7 : Nat → Int64) (u8 : Nat → Int64) (u9 : Nat → Int64) (u10 : Nat → Int64) (u11 : Nat → Int64) (M : Nat → Int32), j + m = H → (∀ (u1 : Int64) (u2 : Int64) (u3 : Int32) (u4 : Int64) (u5 : Int64) (u6 : Nat → Int64) (u7 : Nat → Int64) (u8 : Nat → Int64) (u9 : Nat → Int64) (u10 : Nat → Int64) (u11 : Nat → Int64) M', M' = smr (fun j i => fst co no (fun j => (eye j).toInt) (camD ax (nI W).toInt (nI H).toInt (nI i).toInt (nI j).toInt) nt) W m j M → post (pick (fun j => ¬ M' j = 0) l1 nt 0 0) u1 u2 u3 u4 u5 u6 u7 u8 u9 u10 u11 M') → L_X12_seen_25 post (nI nt) (nI W) (nI H) co mno eye ma (m + 1) l1 (nI j) u1 u2 u3 u4 u5 u6 u7 u8 u9 u10 u11 M
  | 0, j, u1, u2, u3, u4, u5, u6, u7, u8, u9, u10, u11, M, hm, k => by
    have : j = H := by omega
    subst this
    exact ⟨fun _ => ⟨nt + 1, s_seen82 hn nt 0 0 (by omega) (k _ _ _ _ _ _ _ _ _ _ _ M rfl)⟩, fun q => absurd (by rw [nI_leI (by omega) (by omega)]; omega) q⟩
  | m + 1, j, u1, u2, u3, u4, u5, u6, u7, u8, u9, u10, u11, M, hm, k => by
    refine ⟨fun q => ?_, fun _ => ⟨W + 1, s_seen35 hax hmn hW hH SC_ (by omega) W 0 _ _ _ _ _ _ _ _ _ _ _ M (by omega) (fun _ _ _ _ _ _ _ _ _ _ _ => s_seen25 hax hmn hW hH SC_ hn m (j + 1) _ _ _ _ _ _ _ _ _ _ _ _ (by omega) k)⟩⟩
    rw [nI_leI (by omega) (by omega)] at q; omega
theorem s_seen2 {post : Int32 → Int64 → Int64 → Int32 → Int64 → Int64 → (Nat → Int64) → (Nat → Int64) → (Nat → Int64) → (Nat → Int64) → (Nat → Int64) → (Nat → Int64) → (Nat → Int32) → Prop} {nt : Nat} {mw mh l1 : Int32} {co eye : Nat → Int32} {mno ma : Nat → Int64} {u1 : Int64} {u2 : Int64} {u3 : Int32} {u4 : Int64} {u5 : Int64} {u6 : Nat → Int64} {u7 : Nat → Int64} {u8 : Nat → Int64} {u9 : Nat → Int64} {u10 : Nat → Int64} {u11 : Nat → Int64} (hn : nt ≤ 128) (k : ∀ M, (∀ t, t < nt → M t = 0) → ∃ n0, L_X12_seen_25 post (nI nt) mw mh co mno eye ma n0 l1 0 u1 u2 u3 u4 u5 u6 u7 u8 u9 u10 u11 M) : ∀ (m i : Nat) (M : Nat → Int32), i + m = nt → (∀ t, t < i → M t = 0) → L_X12_seen_2 post (nI nt) mw mh co mno eye ma (m + 1) l1 (nI i) u1 u2 u3 u4 u5 u6 u7 u8 u9 u10 u11 M
  | 0, i, M, hi, h => by
    have : i = nt := by omega
    subst this
    exact ⟨fun _ => k M h, fun q => absurd (by rw [nI_leI (by omega) (by omega)]; omega) q⟩
  | m + 1, i, M, hi, h => by
    refine ⟨fun q => ?_, fun _ => ⟨vin i (by omega) (by omega) rfl, fun g eg x ex => ?_⟩⟩
    · rw [nI_leI (by omega) (by omega)] at q; omega
    rw [nI_clamp (by omega), nar0] at eg
    rw [ex, nI_1]
    refine s_seen2 hn k m (i + 1) g (by omega) (fun t ht => ?_)
    rw [eg]; unfold upd
    split
    · rfl
    · exact h t (by omega)
theorem op_seen {q1 : Int32} {xn : Int32} {xc : Nat → Int32} {xno : Nat → Int32} {xw : Int32} {xh : Int32} {xe : Nat → Int32} {xa : Nat → Int32} {s8 : Int32} {s9 : Nat → Int64} {s10 : Nat → Int64} {s11 : Nat → Int64} {s12 : Int64} {s13 : Int64} {s14 : Int64} {s15 : Int64} {s16 : Int64} {s17 : Int64} {s18 : Nat → Int64} {s19 : Nat → Int64} {s20 : Nat → Int32} {mn : Int32} {mw : Int32} {mh : Int32} {m4 : Int64} {m5 : Int64} {m6 : Int32} {m7 : Int64} {m8 : Int64} {mc : Nat → Int32} {mno : Nat → Int64} {me : Nat → Int32} {ma : Nat → Int64} {m13 : Nat → Int64} {m14 : Nat → Int64} {m15 : Nat → Int64} {m16 : Nat → Int64} {m17 : Nat → Int64} {m18 : Nat → Int64} {m19 : Nat → Int32} {nt : Nat} {xt : Nat → Int32} {mt : Nat → Int32} (I : IM nt xn xc xno xt mn mc mno mt) (K : IC xe xa xw xh me ma mw mh) {Q : Int32 → Int32 → (Nat → Int64) → (Nat → Int64) → (Nat → Int64) → Int64 → Int64 → Int64 → Int64 → Int64 → Int64 → (Nat → Int64) → (Nat → Int64) → (Nat → Int32) → Int32 → Int64 → Int64 → Int32 → Int64 → Int64 → (Nat → Int64) → (Nat → Int64) → (Nat → Int64) → (Nat → Int64) → (Nat → Int64) → (Nat → Int64) → (Nat → Int32) → Prop}
    (k : ∀ (r : Int32) (v1 : Int32) (v2 : Nat → Int64) (v3 : Nat → Int64) (v4 : Nat → Int64) (v5 : Int64) (v6 : Int64) (v7 : Int64) (v8 : Int64) (v9 : Int64) (v10 : Int64) (v11 : Nat → Int64) (v12 : Nat → Int64) (v13 : Nat → Int32) (u1 : Int64) (u2 : Int64) (u3 : Int32) (u4 : Int64) (u5 : Int64) (u6 : Nat → Int64) (u7 : Nat → Int64) (u8 : Nat → Int64) (u9 : Nat → Int64) (u10 : Nat → Int64) (u11 : Nat → Int64) (u12 : Nat → Int32), Q r v1 v2 v3 v4 v5 v6 v7 v8 v9 v10 v11 v12 v13 r u1 u2 u3 u4 u5 u6 u7 u8 u9 u10 u11 u12) :
    F_X11_seen q1 xn xc xno xw xh xe xa s8 s9 s10 s11 s12 s13 s14 s15 s16 s17 s18 s19 s20 (fun r v1 v2 v3 v4 v5 v6 v7 v8 v9 v10 v11 v12 v13 => F_X12_seen q1 mn mw mh m4 m5 m6 m7 m8 mc mno me ma m13 m14 m15 m16 m17 m18 m19 (fun r' u1 u2 u3 u4 u5 u6 u7 u8 u9 u10 u11 u12 => Q r v1 v2 v3 v4 v5 v6 v7 v8 v9 v10 v11 v12 v13 r' u1 u2 u3 u4 u5 u6 u7 u8 u9 u10 u11 u12)) := by
  have SC0 : ∀ x y, pix x y xw xh → _ := fun x y hp => cam_SC I K hp
  obtain ⟨hnt, rfl, rfl, rfl, rfl, hcb, hmn, hcr⟩ := I
  obtain ⟨rfl, heb, hax, rfl, rfl, hw, hh, hf⟩ := K
  obtain ⟨W, hW, rfl⟩ := nI_get (x := mw) (N := 33) (by omega) (by omega) (by omega)
  obtain ⟨H, hH, rfl⟩ := nI_get (x := mh) (N := 33) (by omega) (by omega) (by omega)
  have SC_ : ∀ i j, i < W → j < H → SC nt mc xno (fun j => (me j).toInt) (camD xa (nI W).toInt (nI H).toInt (nI i).toInt (nI j).toInt) := fun i j hi hj => SC0 _ _ (px_ij (by omega) (by omega) hi hj)
  have ref : ∀ {post : Int32 → Int64 → Int64 → Int32 → Int64 → Int64 → (Nat → Int64) → (Nat → Int64) → (Nat → Int64) → (Nat → Int64) → (Nat → Int64) → (Nat → Int64) → (Nat → Int32) → Prop} (u1 : Int64) (u2 : Int64) (u3 : Int32) (u4 : Int64) (u5 : Int64) (u6 : Nat → Int64) (u7 : Nat → Int64) (u8 : Nat → Int64) (u9 : Nat → Int64) (u10 : Nat → Int64) (u11 : Nat → Int64) (M : Nat → Int32), (∀ (u1x : Int64) (u2x : Int64) (u3x : Int32) (u4x : Int64) (u5x : Int64) (u6x : Nat → Int64) (u7x : Nat → Int64) (u8x : Nat → Int64) (u9x : Nat → Int64) (u10x : Nat → Int64) (u11x : Nat → Int64) M' r, agr nt M' (smr (fun j i => fst mc xno (fun j => (me j).toInt) (camD xa (nI W).toInt (nI H).toInt (nI i).toInt (nI j).toInt) nt) W H 0 (fun _ => 0)) → r = pick (fun j => ¬ M' j = 0) q1 nt 0 0 → post r u1x u2x u3x u4x u5x u6x u7x u8x u9x u10x u11x M') → F_X12_seen q1 (nI nt) (nI W) (nI H) u1 u2 u3 u4 u5 mc mno me ma u6 u7 u8 u9 u10 u11 M post := fun u1 u2 u3 u4 u5 u6 u7 u8 u9 u10 u11 M k => by
    refine ⟨nt + 1, s_seen2 hnt (fun M1 h1 => ⟨H + 1, s_seen25 hax hmn (by omega) (by omega) SC_ hnt H 0 _ _ _ _ _ _ _ _ _ _ _ M1 (by omega) (fun u1y u2y u3y u4y u5y u6y u7y u8y u9y u10y u11y M' eM => ?_)⟩) nt 0 M (by omega) (fun t h => absurd h (by omega))⟩
    exact k _ _ _ _ _ _ _ _ _ _ _ M' _ (by rw [eM]; exact agr_smr H 0 _ _ h1) rfl
  have e1 : (-1 : Int32).toInt = -1 := rfl
  refine ⟨fun q => s_unmark (fun M h0 => ⟨H + 1, s_seen13 (by omega) (by omega) SC_ hnt H 0 _ _ _ _ _ _ _ _ _ _ _ _ M (by omega) (fun _ _ _ _ _ _ _ _ _ _ _ _ M' eM => ?_)⟩), fun q => ?_⟩
  · refine ref _ _ _ _ _ _ _ _ _ _ _ _ (fun _ _ _ _ _ _ _ _ _ _ _ M2 r a2 er => ?_)
    have e : pick (fun j => ¬ M' j = 0) q1 nt 0 0 = r := by
      rw [er]
      refine pick_congr nt 0 0 (fun j _ hj => ?_)
      have a1 : agr nt M' (smr (fun j i => fst mc xno (fun j => (me j).toInt) (camD xa (nI W).toInt (nI H).toInt (nI i).toInt (nI j).toInt) nt) W H 0 (fun _ => 0)) := by rw [eM]; exact agr_smr H 0 _ _ (fun t ht => h0 t (by omega))
      rw [a1 j (by omega), a2 j (by omega)]
    rw [e]
    exact k _ _ _ _ _ _ _ _ _ _ _ _ _ _ _ _ _ _ _ _ _ _ _ _ _ _
  · refine ref _ _ _ _ _ _ _ _ _ _ _ _ (fun _ _ _ _ _ _ _ _ _ _ _ M2 r a2 er => ?_)
    have e : r = -1 := by
      rw [i32_le, e1] at q
      rw [er]; exact pick_neg (by omega) nt 0 0 (by omega)
    rw [e]
    exact k _ _ _ _ _ _ _ _ _ _ _ _ _ _ _ _ _ _ _ _ _ _ _ _ _ _
