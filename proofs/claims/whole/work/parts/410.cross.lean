/-! PURE PART: cross -/
theorem nI_p1 (h : Nat) : nI (h + 1) - 1 = nI h := by
  have := nI_sub1 1 h
  rw [Nat.add_comm] at this; exact this
theorem nI_p1' (h : Nat) : nI (h + 1) + (-1) = nI h := by rw [← Int32.sub_eq_add_neg]; exact nI_p1 h
def xins (t : Int32) (a b : Int64) : Nat → (Nat → Int32) × (Nat → Int64) × (Nat → Int64) → (Nat → Int32) × (Nat → Int64) × (Nat → Int64)
  | 0, s => (upd s.1 0 t, vp_updL s.2.1 0 a, vp_updL s.2.2 0 b)
  | h + 1, s => if a * s.2.2 h < s.2.1 h * b then xins t a b h (upd s.1 (h + 1) (s.1 h), vp_updL s.2.1 (h + 1) (s.2.1 h), vp_updL s.2.2 (h + 1) (s.2.2 h)) else (upd s.1 (h + 1) t, vp_updL s.2.1 (h + 1) a, vp_updL s.2.2 (h + 1) b)
theorem cl_nn (h : Nat) : ¬ (nI (h + 1) ≤ 0) ∨ 2 ^ 31 ≤ h + 1 := by
  by_cases c : h + 1 < 2 ^ 31
  · left; rw [i32_le, nI_toInt c]; show ¬ ((h + 1 : Nat) : Int) ≤ 0; omega
  · right; omega
theorem s_ins17 {post : Int32 → (Nat → Int32) → (Nat → Int64) → (Nat → Int64) → Prop} {t : Int32} {a b : Int64} {n : Nat} (hn : n < 128) : ∀ (h : Nat) (T : Nat → Int32) (A B : Nat → Int64), h ≤ n →
    post (nI (n + 1)) (xins t a b h (T, A, B)).1 (xins t a b h (T, A, B)).2.1 (xins t a b h (T, A, B)).2.2 → L_X2_insert_17 post (h + 1) t a b (nI h) (nI n) T A B
  | 0, T, A, B, hh, k => by
    have v : vp_in (nI 0) 128 := vin 0 (by omega) (by omega) rfl
    refine ⟨fun _ => ⟨v, fun g eg => ⟨v, fun g2 eg2 => ⟨v, fun g3 eg3 x ex => ?_⟩⟩⟩, fun q => absurd (by decide) q⟩
    rw [nI_clamp (by omega)] at eg eg2 eg3
    rw [ex, nI_1, eg, eg2, eg3]; exact k
  | h + 1, T, A, B, hh, k => by
    have v : vp_in (nI (h + 1)) 128 := vin (h + 1) (by omega) (by omega) rfl
    have v' : vp_in (nI (h + 1) - 1) 128 := vin h (by omega) (by omega) (nI_p1 h)
    have tst : lg_cmp (A (nI (h + 1) - 1).toNatClampNeg * b) (a * B (nI (h + 1) - 1).toNatClampNeg) ≤ 0 ↔ ¬ a * B h < A h * b := by
      rw [nI_p1, nI_clamp (by omega), lg_cmp_le, Int64.lt_iff_toInt_lt, Int64.le_iff_toInt_le]; omega
    unfold xins at k
    dsimp only at k
    have J : ¬ a * B h < A h * b → J_X2_insert_103 post t a b (nI (h + 1)) (nI n) T A B := fun c => by
      rw [if_neg c] at k
      refine ⟨v, fun g eg => ⟨v, fun g2 eg2 => ⟨v, fun g3 eg3 x ex => ?_⟩⟩⟩
      rw [nI_clamp (by omega)] at eg eg2 eg3
      rw [ex, nI_1, eg, eg2, eg3]; exact k
    refine ⟨fun q => absurd q (by rw [i32_le, nI_toInt (by omega)]; show ¬ ((h + 1 : Nat) : Int) ≤ 0; omega), fun _ => ⟨v', v', fun q => J (tst.mp q), fun q => ⟨v', v, fun g eg => ⟨v', v, fun g2 eg2 => ⟨v', v, fun g3 eg3 x ex => ?_⟩⟩⟩⟩⟩
    have c : a * B h < A h * b := Classical.byContradiction (fun z => q (tst.mpr z))
    rw [if_pos c] at k
    rw [nI_p1, nI_clamp (by omega), nI_clamp (by omega)] at eg eg2 eg3
    rw [ex, nI_p1', eg, eg2, eg3]
    exact s_ins17 hn h _ _ _ (by omega) k
theorem s_insert {post : Int32 → (Nat → Int32) → (Nat → Int64) → (Nat → Int64) → Prop} {t : Int32} {a b : Int64} {n : Nat} (hn : n < 128) {T : Nat → Int32} {A B : Nat → Int64}
    (k : post (nI (n + 1)) (xins t a b n (T, A, B)).1 (xins t a b n (T, A, B)).2.1 (xins t a b n (T, A, B)).2.2) : F_X2_insert t a b (nI n) T A B post :=
  ⟨fun _ => ⟨n + 1, s_ins17 hn n T A B (by omega) k⟩, fun q => absurd (by rw [n_128, i32_lt, nI_toInt (by omega), nI_toInt (by omega)]; omega) q⟩
noncomputable def xst (co no : Nat → Int32) (F D : Nat → Int) (s0 : (Nat → Int32) × (Nat → Int64) × (Nat → Int64)) : Nat → Nat × (Nat → Int32) × (Nat → Int64) × (Nat → Int64)
  | 0 => (0, s0)
  | k + 1 => @ite _ (hitp co no k F D) (Classical.propDecidable _) ((xst co no F D s0 k).1 + 1, xins (nI k) (Int64.ofInt (fa co no F D k)) (Int64.ofInt (ov no D k)) (xst co no F D s0 k).1 (xst co no F D s0 k).2) (xst co no F D s0 k)
theorem xst_p {co no : Nat → Int32} {F D : Nat → Int} {s0 : (Nat → Int32) × (Nat → Int64) × (Nat → Int64)} {k : Nat} (h : hitp co no k F D) : xst co no F D s0 (k + 1) = ((xst co no F D s0 k).1 + 1, xins (nI k) (Int64.ofInt (fa co no F D k)) (Int64.ofInt (ov no D k)) (xst co no F D s0 k).1 (xst co no F D s0 k).2) := if_pos h
theorem xst_n {co no : Nat → Int32} {F D : Nat → Int} {s0 : (Nat → Int32) × (Nat → Int64) × (Nat → Int64)} {k : Nat} (h : ¬ hitp co no k F D) : xst co no F D s0 (k + 1) = xst co no F D s0 k := if_neg h
theorem xst_le {co no : Nat → Int32} {F D : Nat → Int} {s0 : (Nat → Int32) × (Nat → Int64) × (Nat → Int64)} : ∀ k, (xst co no F D s0 k).1 ≤ k
  | 0 => Nat.le_refl 0
  | k + 1 => by
    have := xst_le (co := co) (no := no) (F := F) (D := D) (s0 := s0) k
    by_cases h : hitp co no k F D
    · rw [xst_p h]; show (xst co no F D s0 k).1 + 1 ≤ k + 1; omega
    · rw [xst_n h]; omega
section
variable {co no eye : Nat → Int32} {w h : Int32} {nt : Nat} {F D : Nat → Int} {s0 : (Nat → Int32) × (Nat → Int64) × (Nat → Int64)}
theorem s_cr36 {post : Int32 → Int32 → (Nat → Int32) → (Nat → Int64) → (Nat → Int64) → Int64 → Int64 → Int64 → Int64 → Int64 → Int64 → (Nat → Int64) → (Nat → Int64) → Prop} {ax : Nat → Int32} {fr al : Nat → Int64} (S : SC nt co no F D) (hF : asI fr F 3) (hD : asI al D 3)
    (fin : ∀ a b c d e f, post (nI (xst co no F D s0 nt).1) (nI (xst co no F D s0 nt).1) (xst co no F D s0 nt).2.1 (xst co no F D s0 nt).2.2.1 (xst co no F D s0 nt).2.2.2 a b c d e f fr al) :
    ∀ (m k : Nat) (a b c d e f : Int64), k + m = nt → L_X11_cross_36 post (nI nt) co no w h eye ax (m + 1) (nI k) (nI (xst co no F D s0 k).1) (xst co no F D s0 k).2.1 (xst co no F D s0 k).2.2.1 (xst co no F D s0 k).2.2.2 a b c d e f fr al
  | 0, k, a, b, c, d, e, f, hk => by
    have hn := S.1
    have : k = nt := by omega
    subst this
    exact ⟨fun _ => fin _ _ _ _ _ _, fun q => absurd (by rw [nI_leI (by omega) (by omega)]; omega) q⟩
  | m + 1, k, a, b, c, d, e, f, hk => by
    have hn := S.1
    obtain ⟨N, B⟩ := S.2.2 k (by omega)
    have le := xst_le (co := co) (no := no) (F := F) (D := D) (s0 := s0) k
    refine ⟨fun q => ?_, fun _ => s_strikes (by omega) hF hD S.2.1 N B.rb (fun hit tu => ⟨fun q => absurd q (by decide), fun _ => s_insert (by omega) (fun x ex => ?_)⟩) (fun nh a b c d e f => ⟨fun _ x ex => ?_, fun q => absurd rfl q⟩)⟩
    · rw [nI_leI (by omega) (by omega)] at q; omega
    · have := s_cr36 (ax := ax) S hF hD fin m (k + 1) tu (Int64.ofInt (sb (be no k D) (ab co no k F))) (Int64.ofInt (sb (be no k D) (be no k D))) (Int64.ofInt (sb (be no k D) (wt co k F D 0))) (Int64.ofInt (sb (be no k D) (wt co k F D 1))) (Int64.ofInt (sb (be no k D) (wt co k F D 2))) (by omega)
      rw [xst_p hit] at this
      rw [ex, nI_1]; exact this
    · have := s_cr36 (ax := ax) S hF hD fin m (k + 1) a b c d e f (by omega)
      rw [xst_n nh] at this
      rw [ex, nI_1]; exact this
section
variable {mno ma d : Nat → Int64}
theorem s_cr92 {k24 : Int32 → Int64 → Int64 → Int32 → (Nat → Int64) → (Nat → Int64) → (Nat → Int64) → (Nat → Int64) → (Nat → Int64) → (Nat → Int32) → (Nat → Int64) → (Nat → Int64) → Prop} {tr : Int32} {a b : Int64} {n t : Nat} {av bv : Int64} {we fr al se : Nat → Int64} (hn : n < 128) : ∀ (hl : Nat) (T : Nat → Int32) (A B : Nat → Int64), hl ≤ n →
    k24 (nI (t + 1)) av bv (nI (n + 1)) d we fr al se (xins (nI t) a b hl (T, A, B)).1 (xins (nI t) a b hl (T, A, B)).2.1 (xins (nI t) a b hl (T, A, B)).2.2 → L_X12_cross_92 k24 tr w h co mno eye ma (hl + 1) (nI t) a b (nI hl) av bv (nI n) d we fr al se T A B
  | 0, T, A, B, hh, k => by
    have v : vp_in (nI 0) 128 := vin 0 (by omega) (by omega) rfl
    refine ⟨fun _ => ⟨v, fun g eg => ⟨v, fun g2 eg2 => ⟨v, fun g3 eg3 x ex y ey => ?_⟩⟩⟩, fun q => absurd (by decide) q⟩
    rw [nI_clamp (by omega)] at eg eg2 eg3
    rw [ex, ey, nI_1, nI_1, eg, eg2, eg3]; exact k
  | hl + 1, T, A, B, hh, k => by
    have v : vp_in (nI (hl + 1)) 128 := vin (hl + 1) (by omega) (by omega) rfl
    have v' : vp_in (nI (hl + 1) - 1) 128 := vin hl (by omega) (by omega) (nI_p1 hl)
    have tst : 0 ≤ lg_cmp (a * B (nI (hl + 1) - 1).toNatClampNeg) (A (nI (hl + 1) - 1).toNatClampNeg * b) ↔ ¬ a * B hl < A hl * b := by
      rw [nI_p1, nI_clamp (by omega), lg_cmp_ge, Int64.lt_iff_toInt_lt, Int64.le_iff_toInt_le]; omega
    unfold xins at k
    dsimp only at k
    have J : ¬ a * B hl < A hl * b → J_X12_cross_179 k24 tr w h co mno eye ma (nI t) a b (nI (hl + 1)) av bv (nI n) d we fr al se T A B := fun c => by
      rw [if_neg c] at k
      refine ⟨v, fun g eg => ⟨v, fun g2 eg2 => ⟨v, fun g3 eg3 x ex y ey => ?_⟩⟩⟩
      rw [nI_clamp (by omega)] at eg eg2 eg3
      rw [ex, ey, nI_1, nI_1, eg, eg2, eg3]; exact k
    refine ⟨fun q => absurd q (by rw [i32_le, nI_toInt (by omega)]; show ¬ ((hl + 1 : Nat) : Int) ≤ 0; omega), fun _ => ⟨v', v', fun q => J (tst.mp q), fun q => ⟨v', v, fun g eg => ⟨v', v, fun g2 eg2 => ⟨v', v, fun g3 eg3 x ex => ?_⟩⟩⟩⟩⟩
    have c : a * B hl < A hl * b := Classical.byContradiction (fun z => q (tst.mpr z))
    rw [if_pos c] at k
    rw [nI_p1, nI_clamp (by omega), nI_clamp (by omega)] at eg eg2 eg3
    rw [ex, nI_p1', eg, eg2, eg3]
    exact s_cr92 hn hl _ _ _ (by omega) k
theorem s_cr24 {post : Int32 → Int64 → Int64 → Int32 → (Nat → Int64) → (Nat → Int64) → (Nat → Int64) → (Nat → Int64) → (Nat → Int64) → (Nat → Int32) → (Nat → Int64) → (Nat → Int64) → Prop} (S : SC nt co no (fun j => (eye j).toInt) D) (hm : ∀ j, mno j = (no j).toInt64) (hd : asI d D 3)
    (fin : ∀ a b we fr al se, post (nI (xst co no (fun j => (eye j).toInt) D s0 nt).1) a b (nI (xst co no (fun j => (eye j).toInt) D s0 nt).1) d we fr al se (xst co no (fun j => (eye j).toInt) D s0 nt).2.1 (xst co no (fun j => (eye j).toInt) D s0 nt).2.2.1 (xst co no (fun j => (eye j).toInt) D s0 nt).2.2.2) :
    ∀ (m k : Nat) (a b : Int64) (we fr al se : Nat → Int64), k + m = nt → L_X12_cross_24 post (nI nt) w h co mno eye ma (m + 1) (nI k) a b (nI (xst co no (fun j => (eye j).toInt) D s0 k).1) d we fr al se (xst co no (fun j => (eye j).toInt) D s0 k).2.1 (xst co no (fun j => (eye j).toInt) D s0 k).2.2.1 (xst co no (fun j => (eye j).toInt) D s0 k).2.2.2
  | 0, k, a, b, we, fr, al, se, hk => by
    have hn := S.1
    have : k = nt := by omega
    subst this
    exact ⟨fun _ => fin _ _ _ _ _ _, fun q => absurd (by rw [nI_leI (by omega) (by omega)]; omega) q⟩
  | m + 1, k, a, b, we, fr, al, se, hk => by
    have hn := S.1
    obtain ⟨N, B⟩ := S.2.2 k (by omega)
    have le := xst_le (co := co) (no := no) (F := fun j => (eye j).toInt) (D := D) (s0 := s0) k
    refine ⟨fun q => ?_, fun _ => s_looks (by omega) hm hd B.rb (fun hit we' fr' al' se' hw' => ⟨fun q => absurd q (by decide), fun _ => ?_⟩) (fun nh a b we' fr' al' se' => ⟨fun _ x ex => ?_, fun q => absurd rfl q⟩)⟩
    · rw [nI_leI (by omega) (by omega)] at q; omega
    · have K : ∀ l4 l6 : Int64, l4 = Int64.ofInt (fa co no (fun j => (eye j).toInt) D k) → l6 = Int64.ofInt (ov no D k) → J_X12_cross_84 (L_X12_cross_24 post (nI nt) w h co mno eye ma (m + 1)) (nI nt) w h co mno eye ma (nI k) l4 l6 (Int64.ofInt (ab co no k (fun j => (eye j).toInt))) (Int64.ofInt (be no k D)) (nI (xst co no (fun j => (eye j).toInt) D s0 k).1) d we' fr' al' se' (xst co no (fun j => (eye j).toInt) D s0 k).2.1 (xst co no (fun j => (eye j).toInt) D s0 k).2.2.1 (xst co no (fun j => (eye j).toInt) D s0 k).2.2.2 := by
        intro l4 l6 e4 e6
        subst e4; subst e6
        refine ⟨_, s_cr92 (by omega) _ _ _ _ (Nat.le_refl _) ?_⟩
        have := s_cr24 S hm hd fin m (k + 1) (Int64.ofInt (ab co no k (fun j => (eye j).toInt))) (Int64.ofInt (be no k D)) we' fr' al' se' (by omega)
        rw [xst_p hit] at this
        exact this
      have lb := lg_ge0 B.rb.1
      refine ⟨fun q => ⟨fun _ => K _ _ ?_ ?_, fun q2 => absurd q q2⟩, fun q => ⟨fun q2 => absurd q2 q, fun _ => K _ _ ?_ ?_⟩⟩
      all_goals rw [lb] at q
      · unfold fa sb; rw [if_neg (by omega)]
      · unfold ov sb; rw [if_neg (by omega)]
      · unfold fa sb; rw [if_pos (by omega), o_neg]
      · unfold ov sb; rw [if_pos (by omega), o_neg]
    · have := s_cr24 S hm hd fin m (k + 1) a b we' fr' al' se' (by omega)
      rw [xst_n nh] at this
      rw [ex, nI_1]; exact this
end
end
theorem op_cross {x y xn mn xw xh mw mh xm mm : Int32} {nt : Nat} {xc xno xt mc mt xe xa me : Nat → Int32} {mno ma : Nat → Int64} {xT mT : Nat → Int32} {xA xB mA mB : Nat → Int64} {s1 s2 s3 s4 s5 s6 : Int64} {sf sa : Nat → Int64} {m1 m2 : Int64} {n1 n2 n3 n4 n5 : Nat → Int64}
    (I : IM nt xn xc xno xt mn mc mno mt) (K : IC xe xa xw xh me ma mw mh) (X : IX xm xT xA xB mm mT mA mB)
    {Q : Int32 → Int32 → (Nat → Int32) → (Nat → Int64) → (Nat → Int64) → Int64 → Int64 → Int64 → Int64 → Int64 → Int64 → (Nat → Int64) → (Nat → Int64) → Int32 → Int64 → Int64 → Int32 → (Nat → Int64) → (Nat → Int64) → (Nat → Int64) → (Nat → Int64) → (Nat → Int64) → (Nat → Int32) → (Nat → Int64) → (Nat → Int64) → Prop}
    (k : ∀ r xm' xT' xA' xB' a b c d e f fr al A B mm' d' we2 fr2 al2 se2 mT' mA' mB', IX xm' xT' xA' xB' mm' mT' mA' mB' → Q r xm' xT' xA' xB' a b c d e f fr al r A B mm' d' we2 fr2 al2 se2 mT' mA' mB') :
    F_X11_cross x y xn xc xno xw xh xe xa xm xT xA xB s1 s2 s3 s4 s5 s6 sf sa (fun r v1 v2 v3 v4 v5 v6 v7 v8 v9 v10 v11 v12 => F_X12_cross x y mn mw mh m1 m2 mm mc mno me ma n1 n2 n3 n4 n5 mT mA mB (fun r' u1 u2 u3 u4 u5 u6 u7 u8 u9 u10 u11 => Q r v1 v2 v3 v4 v5 v6 v7 v8 v9 v10 v11 v12 r' u1 u2 u3 u4 u5 u6 u7 u8 u9 u10 u11)) := by
  have SCx : pix x y xw xh → _ := fun hp => cam_SC I K hp
  obtain ⟨hnt, rfl, rfl, rfl, rfl, hcb, hmn, hcr⟩ := I
  obtain ⟨rfl, heb, hax, rfl, rfl, hw, hh, hf⟩ := K
  refine s_hasPixel (fun hp => ⟨fun _ => ?_, fun q => absurd q (by decide)⟩) (fun np => ⟨fun q => absurd rfl q, fun _ => s_isPixel hw.1 hh.1 (fun hp => absurd hp np) (fun _ => ⟨fun q => absurd rfl q, fun _ => k _ _ _ _ _ _ _ _ _ _ _ _ _ _ _ _ _ _ _ _ _ _ _ _ X⟩)⟩)
  obtain ⟨n, hn, rfl, rfl, rfl, rfl, rfl⟩ := X
  have S := SCx hp
  refine s_aim hp hw.2 hh.2 (fun fr al hF hD => ⟨nt + 1, s_cr36 (s0 := (mT, mA, mB)) S hF hD (fun a b c d e f => ?_) nt 0 _ _ _ _ _ _ (by omega)⟩)
  refine s_isPixel hw.1 hh.1 (fun _ => ⟨fun _ => s_rayOf hax (fun d hd => ⟨nt + 1, s_cr24 (s0 := (mT, mA, mB)) S hmn hd (fun a b we fr al se => ?_) nt 0 _ _ _ _ _ _ (by omega)⟩), fun q => absurd q (by decide)⟩) (fun np => absurd hp np)
  exact k _ _ _ _ _ _ _ _ _ _ _ _ _ _ _ _ _ _ _ _ _ _ _ _ ⟨_, by have := xst_le (co := mc) (no := xno) (F := fun j => (me j).toInt) (D := camD xa mw.toInt mh.toInt x.toInt y.toInt) (s0 := (mT, mA, mB)) nt; omega, rfl, rfl, rfl, rfl, rfl⟩
