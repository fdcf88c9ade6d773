/-! PURE PART: meets -/
theorem lg_gt0 {a : Int} (h : bd bM a) : 0 < lg_cmp (Int64.ofInt a) 0 ↔ 0 < a := by rw [lg_cmp_gt, o_0, o_lt ⟨by omega, by omega⟩ (bd_r63 (by decide) h)]
section
variable {eye b : Nat → Int32} {fr al : Nat → Int64} {D : Nat → Int} {n : Nat}
/-- one answer for both -/
def bothR (eye b : Nat → Int32) (fr al : Nat → Int64) (D : Nat → Int) (N n k : Nat) (x1 x2 x3 x4 : Int64) (r : Int32) : Prop :=
  (r = 0 ∨ r = 1) ∧ (∀ post : Int32 → Prop, post r → L_X9_reachesBox_14 post b fr al N (nI n) x1 x2 x3 x4 (nI k)) ∧ (∀ d, asI d D 3 → ∀ post : Int32 → Prop, post r → L_X12_meetsBox_14 post eye b d N (nI n) x1 x2 x3 x4 (nI k))
theorem rb_both (hF : asI fr (fun j => (eye j).toInt) 3) (hD : asI al D 3) (hB : ∀ k, k < 3 → bd 1023 (D k)) (he : ∀ j, bd 255 (eye j).toInt) (hb : ∀ j, bd 1000 (b j).toInt) (hn : n < 255) :
    ∀ (w k : Nat) (x1 x2 x3 x4 : Int64), k + w = 3 → (x4 = 0 → x1 = 0 ∧ x2 = 1 ∧ x3 = 1) → ∃ r, bothR eye b fr al D (w + 1) n k x1 x2 x3 x4 r
  | 0, k, x1, x2, x3, x4, hk, h4 => by
    have : k = 3 := by omega
    subst this
    by_cases c : 0 < lg_cmp (x1 * x4) (x3 * x2)
    · have n4 : ¬ lg_cmp x4 0 = 0 := fun z => by
        rw [lg_cmp_eq] at z
        obtain ⟨a1, a2, a3⟩ := h4 z
        rw [z, a1, a2, a3] at c
        exact absurd c (by decide)
      exact ⟨0, Or.inl rfl, fun post h => ⟨fun _ => ⟨fun _ => h, fun q => absurd c q⟩, fun q => absurd (by decide) q⟩, fun d hd post h => ⟨fun _ => ⟨fun q => absurd q n4, fun _ => ⟨fun _ => h, fun q => absurd c q⟩⟩, fun q => absurd (by decide) q⟩⟩
    · exact ⟨1, Or.inr rfl, fun post h => ⟨fun _ => ⟨fun q => absurd q c, fun _ => h⟩, fun q => absurd (by decide) q⟩, fun d hd post h => ⟨fun _ => ⟨fun _ => h, fun _ => ⟨fun q => absurd q c, fun _ => h⟩⟩, fun q => absurd (by decide) q⟩⟩
  | w + 1, k, x1, x2, x3, x4, hk, h4 => by
    have i0 : (6 : Int32) * nI n + nI k = nI (6 * n + k) := by rw [n_6, pk_mul, nI_add]
    have i3 : ((6 : Int32) * nI n + 3) + nI k = nI (6 * n + 3 + k) := by rw [n_6, n_3, pk_mul, nI_add, nI_add]
    have v0 : vp_in ((6 : Int32) * nI n + nI k) 1530 := vin _ (by omega) (by omega) i0
    have v3 : vp_in (((6 : Int32) * nI n + 3) + nI k) 1530 := vin _ (by omega) (by omega) i3
    have vk : vp_in (nI k) 3 := vin k (by omega) (by omega) rfl
    have ck : (nI k).toNatClampNeg = k := nI_clamp (by omega)
    have Dk := hB k (by omega)
    have Db : bd bM (D k) := bd_le (by decide) Dk
    have b0 := hb (6 * n + k)
    have b3 := hb (6 * n + 3 + k)
    have ek := he k
    -- low and high
    have xl : ∀ j, (b j).toInt64 - fr k = Int64.ofInt ((b j).toInt - (eye k).toInt) := fun j => by rw [hF k (by omega), o_i2l, o_sub]
    have ml : ∀ j, (b j - eye k).toInt64 = Int64.ofInt ((b j).toInt - (eye k).toInt) := fun j => by
      have hj := hb j
      have e : b j - eye k = Int32.ofInt ((b j).toInt - (eye k).toInt) := by rw [← q_sub, Int32.ofInt_toInt, Int32.ofInt_toInt]
      unfold bd at hj ek
      rw [e, q_l ⟨by omega, by omega⟩]
    have lb : bd bM ((b (6 * n + k)).toInt - (eye k).toInt) := bd_le (by decide) (bd_sub b0 ek)
    have hb' : bd bM ((b (6 * n + 3 + k)).toInt - (eye k).toInt) := bd_le (by decide) (bd_sub b3 ek)
    have no3 : ¬ 3 ≤ nI k := by rw [n_3, nI_leI (by omega) (by omega)]; omega
    by_cases z : D k = 0
    · -- the ray does not move along this axis
      have fin : ∀ r, (r = 0 ∨ r = 1) → ((0 < (b (6 * n + k)).toInt - (eye k).toInt ∨ (b (6 * n + 3 + k)).toInt - (eye k).toInt < 0) → r = 0) → (¬ (0 < (b (6 * n + k)).toInt - (eye k).toInt ∨ (b (6 * n + 3 + k)).toInt - (eye k).toInt < 0) → bothR eye b fr al D (w + 1) n (k + 1) x1 x2 x3 x4 r) → bothR eye b fr al D (w + 1 + 1) n k x1 x2 x3 x4 r := fun r hr h0 h1 => by
        refine ⟨hr, fun post hp => ⟨fun q => absurd q no3, fun _ => ⟨v0, vk, fun a ea => ⟨v3, vk, fun c ec => ⟨vk, fun s es => ?_⟩⟩⟩⟩, fun d hd post hp => ⟨fun q => absurd q no3, fun _ => ⟨v0, vk, fun a ea => ⟨v3, vk, fun c ec => ⟨vk, ?_⟩⟩⟩⟩⟩
        · rw [i0, nI_clamp (by omega), ck, xl] at ea
          rw [i3, nI_clamp (by omega), ck, xl] at ec
          rw [ck, hD k (by omega)] at es
          rw [ea, ec, es, lg_eq0 Db, lg_gt0 lb, lg_ge0 hb']
          refine ⟨fun q => absurd z q, fun _ => ⟨fun q => by have := h0 (Or.inl q); subst this; exact hp, fun q => ⟨fun q2 x ex => ?_, fun q2 => by have := h0 (Or.inr (by omega)); subst this; exact hp⟩⟩⟩
          rw [ex, nI_1]; exact (h1 (by omega)).2.1 post hp
        · rw [i0, nI_clamp (by omega), ck, ml] at ea
          rw [i3, nI_clamp (by omega), ck, ml] at ec
          rw [ck, hd k (by omega), ea, ec, lg_eq0 Db, lg_gt0 lb, lg_ge0 hb']
          refine ⟨fun q => absurd z q, fun _ => ⟨fun q => by have := h0 (Or.inl q); subst this; exact hp, fun q => ⟨fun q2 x ex => ?_, fun q2 => by have := h0 (Or.inr (by omega)); subst this; exact hp⟩⟩⟩
          rw [ex, nI_1]; exact (h1 (by omega)).2.2 d hd post hp
      by_cases o : 0 < (b (6 * n + k)).toInt - (eye k).toInt ∨ (b (6 * n + 3 + k)).toInt - (eye k).toInt < 0
      · exact ⟨0, fin 0 (Or.inl rfl) (fun _ => rfl) (fun c => absurd o c)⟩
      · obtain ⟨r, hr⟩ := rb_both hF hD hB he hb hn w (k + 1) x1 x2 x3 x4 (by omega) h4
        exact ⟨r, fin r hr.1 (fun c => absurd c o) (fun _ => hr)⟩
    · -- it does: the same numbers on both sides
      obtain ⟨en, een⟩ : ∃ en : Int64, en = if D k < 0 then Int64.ofInt (-((b (6 * n + 3 + k)).toInt - (eye k).toInt)) else Int64.ofInt ((b (6 * n + k)).toInt - (eye k).toInt) := ⟨_, rfl⟩
      obtain ⟨lv, elv⟩ : ∃ lv : Int64, lv = if D k < 0 then Int64.ofInt (-((b (6 * n + k)).toInt - (eye k).toInt)) else Int64.ofInt ((b (6 * n + 3 + k)).toInt - (eye k).toInt) := ⟨_, rfl⟩
      obtain ⟨un, eun⟩ : ∃ un : Int64, un = Int64.ofInt (((D k).natAbs : Nat) : Int) := ⟨_, rfl⟩
      have Dn : 0 < (D k).natAbs ∧ (D k).natAbs ≤ 1023 := by unfold bd at Dk; omega
      have unb : bd bM (((D k).natAbs : Nat) : Int) := ⟨by unfold bM; omega, by unfold bM; omega⟩
      have un0 : ¬ un = 0 := by rw [eun]; exact o_ne0 (by omega) (by omega)
      -- the four numbers afterwards
      obtain ⟨y1, y2, ey⟩ : ∃ y1 y2 : Int64, (lg_cmp (en * x2) (x1 * un) ≤ 0 → y1 = x1 ∧ y2 = x2) ∧ (¬ lg_cmp (en * x2) (x1 * un) ≤ 0 → y1 = en ∧ y2 = un) := by
        by_cases c : lg_cmp (en * x2) (x1 * un) ≤ 0
        · exact ⟨x1, x2, fun _ => ⟨rfl, rfl⟩, fun q => absurd c q⟩
        · exact ⟨en, un, fun q => absurd q c, fun _ => ⟨rfl, rfl⟩⟩
      obtain ⟨y3, y4, ez⟩ : ∃ y3 y4 : Int64, (0 ≤ lg_cmp (lv * x4) (x3 * un) → y3 = x3 ∧ y4 = x4) ∧ (¬ 0 ≤ lg_cmp (lv * x4) (x3 * un) → y3 = lv ∧ y4 = un) := by
        by_cases c : 0 ≤ lg_cmp (lv * x4) (x3 * un)
        · exact ⟨x3, x4, fun _ => ⟨rfl, rfl⟩, fun q => absurd c q⟩
        · exact ⟨lv, un, fun q => absurd q c, fun _ => ⟨rfl, rfl⟩⟩
      -- if nothing was left as yet, it is now
      have first : x4 = 0 → ¬ 0 ≤ lg_cmp (lv * x4) (x3 * un) := fun e => by
        obtain ⟨a1, a2, a3⟩ := h4 e
        rw [e, a3, Int64.mul_zero, Int64.one_mul, eun, o_0, lg_ge ⟨by omega, by omega⟩ ⟨by omega, by omega⟩]; omega
      have h4' : y4 = 0 → y1 = 0 ∧ y2 = 1 ∧ y3 = 1 := fun e => by
        by_cases c : 0 ≤ lg_cmp (lv * x4) (x3 * un)
        · have := (ez.1 c).2
          rw [e] at this
          exact absurd c (first this.symm)
        · have := (ez.2 c).2
          rw [e] at this
          exact absurd this.symm un0
      obtain ⟨r, hr, cl, mr⟩ := rb_both hF hD hB he hb hn w (k + 1) y1 y2 y3 y4 (by omega) h4'
      refine ⟨r, hr, fun post hp => ⟨fun q => absurd q no3, fun _ => ⟨v0, vk, fun a ea => ⟨v3, vk, fun c ec => ⟨vk, fun s es => ?_⟩⟩⟩⟩, fun d hd post hp => ⟨fun q => absurd q no3, fun _ => ⟨v0, vk, fun a ea => ⟨v3, vk, fun c ec => ⟨vk, ?_⟩⟩⟩⟩⟩
      · rw [i0, nI_clamp (by omega), ck, xl] at ea
        rw [i3, nI_clamp (by omega), ck, xl] at ec
        rw [ck, hD k (by omega)] at es
        have ld : lg_cmp s 0 ≤ 0 ↔ D k ≤ 0 := by rw [es]; exact lg_le0 Db
        have J161 : ∀ u1 u2 : Int64, u1 = y1 → u2 = y2 → J_X9_reachesBox_161 (L_X9_reachesBox_14 post b fr al (w + 1)) b fr al (nI n) u1 u2 x3 x4 (nI k) lv un := by
          intro u1 u2 e1 e2
          subst e1; subst e2
          refine ⟨fun q x ex => ?_, fun q x ex => ?_⟩
          · rw [ex, nI_1, ← (ez.1 q).1, ← (ez.1 q).2]; exact cl post hp
          · have g := cl post hp
            rw [(ez.2 q).1, (ez.2 q).2] at g
            rw [ex, nI_1]; exact g
        have J132 : ∀ u v : Int64, u = en → v = lv → J_X9_reachesBox_132 (L_X9_reachesBox_14 post b fr al (w + 1)) b fr al (nI n) x1 x2 x3 x4 (nI k) s u v := by
          intro u v e1 e2 x ex
          subst e1; subst e2
          have : x = un := by rw [ex, es, jabs_o Db, eun]
          subst this
          exact ⟨fun q => J161 _ _ (ey.1 q).1.symm (ey.1 q).2.symm, fun q => J161 _ _ (ey.2 q).1.symm (ey.2 q).2.symm⟩
        refine ⟨fun _ => ⟨fun q => ⟨fun q2 => J132 _ _ ?_ ?_, fun q2 => absurd q q2⟩, fun q => ⟨fun q2 => absurd q2 q, fun q2 => J132 _ _ ?_ ?_⟩⟩, fun q => absurd ?_ z⟩
        · rw [ld] at q; rw [een, if_pos (by omega), ec, o_neg]
        · rw [ld] at q; rw [elv, if_pos (by omega), ea, o_neg]
        · rw [ld] at q; rw [een, if_neg (by omega), ea]
        · rw [ld] at q; rw [elv, if_neg (by omega), ec]
        · rw [es, lg_eq0 Db] at q; exact q
      · rw [i0, nI_clamp (by omega), ck, ml] at ea
        rw [i3, nI_clamp (by omega), ck, ml] at ec
        have dk : d (nI k).toNatClampNeg = Int64.ofInt (D k) := by rw [ck, hd k (by omega)]
        have ld : 0 ≤ lg_cmp (d (nI k).toNatClampNeg) 0 ↔ 0 ≤ D k := by rw [dk]; exact lg_ge0 Db
        have J192 : ∀ u1 u2 : Int64, u1 = y1 → u2 = y2 → J_X12_meetsBox_192 (L_X12_meetsBox_14 post eye b d (w + 1)) eye b d (nI n) u1 u2 x3 x4 (nI k) un lv := by
          intro u1 u2 e1 e2
          subst e1; subst e2
          have take : ¬ 0 ≤ lg_cmp (lv * x4) (x3 * un) → J_X12_meetsBox_213 (L_X12_meetsBox_14 post eye b d (w + 1)) eye b d (nI n) u1 u2 (nI k) un lv := fun q x ex => by
            have g := mr d hd post hp
            rw [(ez.2 q).1, (ez.2 q).2] at g
            rw [ex, nI_1]; exact g
          refine ⟨fun q => take (first (by rw [lg_cmp_eq] at q; exact q)), fun _ => ⟨fun q x ex => ?_, take⟩⟩
          rw [ex, nI_1, ← (ez.1 q).1, ← (ez.1 q).2]; exact mr d hd post hp
        have J170 : ∀ u v x : Int64, x = un → u = en → v = lv → J_X12_meetsBox_170 (L_X12_meetsBox_14 post eye b d (w + 1)) eye b d (nI n) x1 x2 x3 x4 (nI k) x u v := by
          intro u v x e0 e1 e2
          subst e0; subst e1; subst e2
          exact ⟨fun q => J192 _ _ (ey.1 q).1.symm (ey.1 q).2.symm, fun q => J192 _ _ (ey.2 q).1.symm (ey.2 q).2.symm⟩
        have J126 : ∀ x : Int64, x = un → J_X12_meetsBox_126 (L_X12_meetsBox_14 post eye b d (w + 1)) eye b d (nI n) x1 x2 x3 x4 (nI k) a c x := by
          intro x e0
          refine ⟨vk, fun q => ⟨vk, fun q2 => J170 _ _ _ e0 ?_ ?_, fun q2 => absurd q q2⟩, fun q => ⟨vk, fun q2 => absurd q2 q, fun q2 => J170 _ _ _ e0 ?_ ?_⟩⟩
          · rw [ld] at q; rw [een, if_neg (by omega), ea]
          · rw [ld] at q; rw [elv, if_neg (by omega), ec]
          · rw [ld] at q; rw [een, if_pos (by omega), ec, o_neg]
          · rw [ld] at q; rw [elv, if_pos (by omega), ea, o_neg]
        refine ⟨fun _ => ⟨vk, fun q => ⟨vk, J126 _ ?_⟩, fun q => ⟨vk, J126 _ ?_⟩⟩, fun q => absurd ?_ z⟩
        · rw [ld] at q; rw [dk, eun]; congr 1; omega
        · rw [ld] at q; rw [dk, eun, o_neg]; congr 1; omega
        · rw [dk, lg_eq0 Db] at q; exact q
end
