/-! PURE PART: triangle -/
theorem cpy_bd {s f : Nat → Int32} {o n : Nat} {B : Int} (hs : ∀ j, bd B (s j).toInt) (hf : ∀ j, bd B (f j).toInt) : ∀ j, bd B (va_cpy s f 0 o n j).toInt := fun j => by
  unfold va_cpy; split
  · exact hs _
  · exact hf _
theorem IM_set {nt t : Nat} {xc xno c : Nat → Int32} {mno : Nat → Int64} (n' : Nat) (hn : ∀ u, u < n' → u = t ∨ u < nt) (hc : ∀ j, bd 255 (c j).toInt) (hm : ∀ j, mno j = (xno j).toInt64) (hx : ∀ u k, u < nt → k < 3 → (xno (3 * u + k)).toInt = crs xc (9 * u) k) :
    (∀ j, nrmL c mno t j = (nrm c xno t j).toInt64) ∧ (∀ u k, u < n' → k < 3 → (nrm c xno t (3 * u + k)).toInt = crs (va_cpy c xc 0 (9 * t) 9) (9 * u) k) := by
  have cb : ∀ k, bd 520200 (crs c 0 k) := fun k => crs_bd (fun j _ => hc _) k
  refine ⟨fun j => ?_, fun u k hu hk => ?_⟩
  · unfold nrmL nrm
    split
    · rw [q_l (bd_r31 (by omega) (cb _))]
    · exact hm j
  · by_cases e : u = t
    · subst e
      unfold nrm
      rw [if_pos ⟨by omega, by omega⟩, show 3 * u + k - 3 * u = k by omega, q_toInt (bd_r31 (by omega) (cb k))]
      refine crs_congr (fun j hj => ?_) k
      rw [pk_cpy_in (by omega) (by omega)]
      congr 1; omega
    · have hu2 : u < nt := (hn u hu).resolve_left e
      unfold nrm
      rw [if_neg (by omega), hx u k hu2 hk]
      refine crs_congr (fun j hj => ?_) k
      rw [pk_cpy_out (by omega)]
theorem op_triangle {a xm mm xn mn xnodes xdeep mnodes : Int32} {nt : Nat} {xpc mpc xc xno xt xtr xtn mc mt : Nat → Int32} {mno mcr : Nat → Int64} (J : IP xm xpc mm mpc) (I : IM nt xn xc xno xt mn mc mno mt)
    {Q : Int32 → Int32 → Int32 → (Nat → Int32) → (Nat → Int32) → (Nat → Int32) → (Nat → Int32) → (Nat → Int32) → Int32 → Int32 → Int32 → Int32 → Int32 → Int32 → (Nat → Int32) → (Nat → Int64) → (Nat → Int32) → (Nat → Int64) → Prop}
    (k1 : ∀ (r xm' mm' : Int32) (xtr' xtn' : Nat → Int32) (mcr' : Nat → Int64), IP xm' xpc mm' mpc → Q r xm' xn xc xno xt xtr' xtn' xnodes xdeep r mm' mn mnodes mc mno mt mcr')
    (k2 : ∀ (r xm' mm' xn' mn' : Int32) (xc' xno' xt' mc' mt' xtr' xtn' : Nat → Int32) (mno' mcr' : Nat → Int64), IP xm' xpc mm' mpc → IM (nt + 1) xn' xc' xno' xt' mn' mc' mno' mt' → Q r xm' xn' xc' xno' xt' xtr' xtn' 0 0 r mm' mn' 0 mc' mno' mt' mcr') :
    F_X11_triangle a xm xpc xn xc xno xt xtr xtn xnodes xdeep (fun r v1 v2 v3 v4 v5 v6 v7 v8 v9 => F_X12_triangle a mm mn mnodes mpc mc mno mt mcr (fun r' w1 w2 w3 w4 w5 w6 w7 => Q r v1 v2 v3 v4 v5 v6 v7 v8 v9 r' w1 w2 w3 w4 w5 w6 w7)) := by
  have J0 := J
  obtain ⟨np, hnp, rfl, rfl, rfl, hbd⟩ := J
  obtain ⟨hnt, rfl, rfl, rfl, rfl, hcb, hmn, hcr⟩ := I
  have J1 : IP 0 mpc 0 mpc := ⟨0, by omega, rfl, rfl, rfl, hbd⟩
  refine ⟨fun q3 => ?_, fun q3 => ⟨fun c => absurd c q3, fun _ => k1 _ _ _ _ _ _ J0⟩⟩
  have hnp3 : nI np = 3 := q3
  refine s_isByte (fun hb => ⟨fun q => absurd q (by decide), fun _ => ?_⟩) (fun hb => ⟨fun _ => ⟨fun _ => ?_, fun q => absurd (by decide) q⟩, fun q => absurd rfl q⟩)
  rotate_left
  · refine ⟨fun _ => ⟨fun _ => k1 _ _ _ _ _ _ J1, fun _ => ?_⟩, fun c => absurd hnp3 c⟩
    exact s_in32 (a := 0) (b := 255) rfl rfl (fun c => absurd c hb) (fun _ => ⟨fun q => absurd rfl q, fun _ => k1 _ _ _ _ _ _ J1⟩)
  by_cases hfull : nt = 128
  · subst hfull
    refine ⟨fun q => absurd q (by decide), fun _ => ⟨fun _ => ?_, fun q => absurd (by decide) q⟩⟩
    exact ⟨fun _ => ⟨fun _ => k1 _ _ _ _ _ _ J1, fun c => absurd rfl c⟩, fun c => absurd hnp3 c⟩
  have ht : nt < 128 := by omega
  have n128 : ¬ nI nt = 128 := by rw [n_128, nI_eq (by omega) (by omega)]; omega
  refine s_append ht hbd (fun z tr' tn' => ⟨fun _ => ?_, fun q => absurd (by decide) q⟩) (fun z tr' tn' => ⟨fun q => absurd q (nI_pos (by omega)), fun _ => ?_⟩)
  · refine ⟨fun _ => ⟨fun c => absurd c n128, fun _ => s_in32 (a := 0) (b := 255) rfl rfl (fun _ => ⟨fun _ => ?_, fun q => absurd q (by decide)⟩) (fun c => absurd hb c)⟩, fun c => absurd hnp3 c⟩
    exact s_crossOf (fun j _ => hbd j) (fun _ g => ⟨fun q => absurd rfl q, fun _ => k1 _ _ _ _ _ _ J1⟩) (fun c => absurd z c)
  · refine ⟨fun _ => ⟨fun c => absurd c n128, fun _ => s_in32 (a := 0) (b := 255) rfl rfl (fun _ => ⟨fun _ => ?_, fun q => absurd q (by decide)⟩) (fun c => absurd hb c)⟩, fun c => absurd hnp3 c⟩
    refine s_crossOf (fun j _ => hbd j) (fun c => absurd c z) (fun _ g hg => ⟨fun _ => ⟨10, s_tri56 ht hg ?_⟩, fun q => absurd q (by decide)⟩)
    obtain ⟨h1, h2⟩ := IM_set (t := nt) (nt + 1) (fun u hu => by omega) hbd hmn hcr
    exact k2 _ _ _ _ _ _ _ _ _ _ _ _ _ _ J1 ⟨by omega, rfl, rfl, rfl, rfl, cpy_bd hbd hcb, h1, h2⟩
/-! move -/
def mvd (pc xc : Nat → Int32) (t c : Nat) : Nat → Int32 := fun j => if j / 3 = c then pc (j % 3) else xc (9 * t + j)
theorem mvd_bd {pc xc : Nat → Int32} {t c : Nat} (hp : ∀ j, bd 255 (pc j).toInt) (hx : ∀ j, bd 255 (xc j).toInt) : ∀ j, bd 255 (mvd pc xc t c j).toInt := fun j => by
  unfold mvd; split
  · exact hp _
  · exact hx _
theorem s_bend {post : Int32 → (Nat → Int32) → (Nat → Int32) → (Nat → Int32) → (Nat → Int32) → Prop} {co no tr tn pc : Nat → Int32} {t c : Nat} (ht : t < 128) (hc : c < 3) (hp : ∀ j, bd 255 (pc j).toInt) (hx : ∀ j, bd 255 (co j).toInt)
    (hflat : (∀ k, k < 3 → crs (mvd pc co t c) 0 k = 0) → ∀ tr' tn', post 0 co no tr' tn')
    (hmade : ¬ (∀ k, k < 3 → crs (mvd pc co t c) 0 k = 0) → ∀ tr' tn', post 1 (va_cpy (mvd pc co t c) co 0 (9 * t) 9) (nrm (mvd pc co t c) no t) tr' tn') : F_X5_bend (nI t) (nI c) co no tr tn pc post := by
  have e9 : (9 : Int32) * nI t = nI (9 * t) := pk_mul 9 t
  have c9 : ((9 : Int32) * nI t).toNatClampNeg = 9 * t := by rw [e9]; exact nI_clamp (by omega)
  have p9 : ¬ (9 : Int32) * nI t < 0 := by rw [e9]; exact nI_pos (by omega)
  refine ⟨⟨p9, by decide, by decide, by rw [c9, cl_9]; omega, by decide⟩, fun g2 eg2 => ?_⟩
  rw [c9, cl_0, cl_9] at eg2
  refine s_tryCorner (b := 0) hc (by omega) ?_
  obtain ⟨tr', etr⟩ : ∃ f, f = put3 g2 (3 * c) (fun k => pc (3 * 0 + k)) := ⟨_, rfl⟩
  rw [← etr]
  have hm : ∀ j, j < 9 → tr' j = mvd pc co t c j := by
    intro j hj
    rw [etr, put3_at]
    unfold mvd
    by_cases q : j / 3 = c
    · rw [if_pos q, if_pos ⟨by omega, by omega⟩]; congr 1; omega
    · rw [if_neg q, if_neg (by omega), eg2, pk_cpy_in (by omega) (by omega)]; congr 1
  have hcr : ∀ k, crs tr' 0 k = crs (mvd pc co t c) 0 k := fun k => crs_congr (fun j hj => by rw [Nat.zero_add]; exact hm j hj) k
  refine s_trialIsFlat (fun j hj => by rw [hm j hj]; exact mvd_bd hp hx j) (fun z g => ⟨fun q => absurd q (by decide), fun _ => hflat (fun k hk => by rw [← hcr]; exact z k hk) _ _⟩) (fun z g hg => ⟨fun _ => ?_, fun q => absurd rfl q⟩)
  exact s_storeTrial ht hm (fun k hk => by rw [hg k hk, hcr]) (hmade (fun y => z (fun k hk => by rw [hcr]; exact y k hk)) _ _)
theorem s_move45 {post : Int32 → Int32 → (Nat → Int32) → (Nat → Int64) → (Nat → Int64) → (Nat → Int32) → Prop} {co mo pc : Nat → Int32} {no cr : Nat → Int64} {t c : Nat} {tri pts : Int32} (ht : t < 128) (hc : c < 3) (hp : ∀ j, bd 255 (pc j).toInt) (hx : ∀ j, bd 255 (co j).toInt)
    (hflat : (∀ k, k < 3 → crs (mvd pc co t c) 0 k = 0) → ∀ cr' mo', post (-2) pts co no cr' mo')
    (hmade : ¬ (∀ k, k < 3 → crs (mvd pc co t c) 0 k = 0) → ∀ cr' mo', post 0 pts (va_cpy (mvd pc co t c) co 0 (9 * t) 9) (nrmL (mvd pc co t c) no t) cr' mo') : L_X12_move_45 post tri pc 10 (nI t) (nI c) 0 pts co no cr mo := by
  obtain ⟨mv, emv⟩ : ∃ f, f = mvd pc co t c := ⟨_, rfl⟩
  rw [← emv] at hflat hmade
  have st : ∀ (n k : Nat), k < 9 → L_X12_move_45 post tri pc n (nI t) (nI c) (nI (k + 1)) pts co no cr (va_cpy mv mo 0 0 (k + 1)) → L_X12_move_45 post tri pc (n + 1) (nI t) (nI c) (nI k) pts co no cr (va_cpy mv mo 0 0 k) := by
    intro n k hk h
    have hd : nI k / 3 = nI (k / 3) := pk_div (d := 3) (by omega) (by omega) (by omega)
    have hr : nI k - nI k / 3 * 3 = nI (k % 3) := pk_rem (d := 3) (by omega) (by omega) (by omega)
    have fin : ∀ v : Int32, v = mv k → J_X12_move_85 (L_X12_move_45 post tri pc n) tri pc (nI t) (nI c) (nI k) (nI k) v pts co no cr (va_cpy mv mo 0 0 k) := by
      intro v hv
      refine ⟨vin k (by omega) (by omega) rfl, fun g eg x ex => ?_⟩
      have e1 := cpy_s mv mo 0 k
      rw [Nat.zero_add] at e1
      rw [nI_clamp (by omega), hv, e1] at eg
      rw [eg, ex, nI_1]; exact h
    refine ⟨fun q => ?_, fun _ => ⟨fun q => ⟨vin (9 * t + k) (by omega) (by omega) (n9k t k), fin _ ?_⟩, fun q => ⟨vin (k % 3) (by omega) (by omega) hr, fin _ ?_⟩⟩⟩
    · rw [n_9, nI_leI (by omega) (by omega)] at q; omega
    · rw [hd, nI_eq (by omega) (by omega)] at q
      rw [n9k, nI_clamp (by omega), emv]; unfold mvd; rw [if_neg q]
    · rw [hd, nI_eq (by omega) (by omega)] at q
      rw [hr, nI_clamp (by omega), emv]; unfold mvd; rw [if_pos q]
  have st9 : ∀ (n k : Nat) (cr' : Nat → Int64) (mo' : Nat → Int32), k < 9 → (∀ j, j < 9 → mo' j = mv j) → L_X12_move_109 post tri pc n (nI t) (nI (k + 1)) pts (va_cpy mv co 0 (9 * t) (k + 1)) no cr' mo' → L_X12_move_109 post tri pc (n + 1) (nI t) (nI k) pts (va_cpy mv co 0 (9 * t) k) no cr' mo' := by
    intro n k cr' mo' hk hmo h
    refine ⟨fun q => ?_, fun _ => ⟨vin k (by omega) (by omega) rfl, vin (9 * t + k) (by omega) (by omega) (n9k t k), fun g eg x ex => ?_⟩⟩
    · rw [n_9, nI_leI (by omega) (by omega)] at q; omega
    · rw [n9k, nI_clamp (by omega), nI_clamp (by omega), hmo k hk, cpy_s] at eg
      rw [eg, ex, nI_1]; exact h
  have st3 : ∀ (n k : Nat) (co' mo' : Nat → Int32) (cr' : Nat → Int64), k < 3 → L_X12_move_140 post tri pc n (nI t) (nI (k + 1)) pts co' (va_cpy cr' no 0 (3 * t) (k + 1)) cr' mo' → L_X12_move_140 post tri pc (n + 1) (nI t) (nI k) pts co' (va_cpy cr' no 0 (3 * t) k) cr' mo' := by
    intro n k co' mo' cr' hk h
    refine ⟨fun q => ?_, fun _ => ⟨vin k (by omega) (by omega) rfl, vin (3 * t + k) (by omega) (by omega) (n3k t k), fun g eg x ex => ?_⟩⟩
    · rw [n_3, nI_leI (by omega) (by omega)] at q; omega
    · rw [n3k, nI_clamp (by omega), nI_clamp (by omega), cpy_sL] at eg
      rw [eg, ex, nI_1]; exact h
  have h0 := cpy_0 mv mo 0
  rw [← h0]
  refine st 9 0 (by omega) (st 8 1 (by omega) (st 7 2 (by omega) (st 6 3 (by omega) (st 5 4 (by omega) (st 4 5 (by omega) (st 3 6 (by omega) (st 2 7 (by omega) (st 1 8 (by omega) ⟨fun _ => ?_, fun q => absurd (by decide) q⟩))))))))
  obtain ⟨mo', emo⟩ : ∃ f, f = va_cpy mv mo 0 0 (8 + 1) := ⟨_, rfl⟩
  rw [← emo]
  have hmo : ∀ j, j < 9 → mo' j = mv j := fun j hj => by rw [emo, pk_cpy_in (by omega) (by omega)]; congr 1; omega
  have hcr : ∀ k, crs mo' 0 k = crs mv 0 k := fun k => crs_congr (fun j hj => by rw [Nat.zero_add]; exact hmo j hj) k
  refine s_crossOf (fun j hj => by rw [hmo j hj, emv]; exact mvd_bd hp hx j) (fun z g => ⟨fun q => absurd rfl q, fun _ => hflat (fun k hk => by rw [← hcr]; exact z k hk) _ _⟩) (fun z g hg => ⟨fun _ => ⟨10, ?_⟩, fun q => absurd q (by decide)⟩)
  have h1 := cpy_0 mv co (9 * t)
  have fin9 : L_X12_move_109 post tri pc 10 (nI t) (nI 0) pts (va_cpy mv co 0 (9 * t) 0) no g mo' := by
    refine st9 9 0 g mo' (by omega) hmo (st9 8 1 g mo' (by omega) hmo (st9 7 2 g mo' (by omega) hmo (st9 6 3 g mo' (by omega) hmo (st9 5 4 g mo' (by omega) hmo (st9 4 5 g mo' (by omega) hmo (st9 3 6 g mo' (by omega) hmo (st9 2 7 g mo' (by omega) hmo (st9 1 8 g mo' (by omega) hmo ⟨fun _ => ⟨4, ?_⟩, fun q => absurd (by decide) q⟩))))))))
    have h2 := cpy_0 g no (3 * t)
    rw [← h2]
    refine st3 3 0 _ _ _ (by omega) (st3 2 1 _ _ _ (by omega) (st3 1 2 _ _ _ (by omega) ⟨fun _ => ?_, fun q => absurd (by decide) q⟩))
    rw [nrmL_cpy (c := mv) (fun k hk => by rw [hg k hk, hcr])]
    exact hmade (fun y => z (fun k hk => by rw [hcr]; exact y k hk)) _ _
  rw [h1] at fin9
  exact fin9
theorem nI_m1 {n : Nat} (h : n < 2 ^ 31) : ((nI n - 1).toInt64).toInt = (n : Int) - 1 := by
  rw [q_self (nI n), nI_toInt h, show (1 : Int32) = Int32.ofInt 1 from rfl, q_sub, q_l ⟨by omega, by omega⟩, o_toInt ⟨by omega, by omega⟩]
theorem s_has {p : Int32} {nt : Nat} {post : Int32 → Prop} (hn : nt ≤ 128) (h1 : ∀ t, t < nt → p = nI t → post 1) (h0 : ¬ (0 ≤ p.toInt ∧ p.toInt ≤ (nt : Int) - 1) → post 0) : F_X5_has p (nI nt) post := by
  have e0 : (0 : Int32).toInt = 0 := rfl
  have en : (nI nt).toInt = (nt : Int) := nI_toInt (by omega)
  refine ⟨fun q => h0 (fun z => ?_), fun q => ⟨fun q2 => h0 (fun z => ?_), fun q2 => ?_⟩⟩
  · rw [i32_lt, e0] at q; omega
  · rw [i32_le, en] at q2; omega
  · rw [i32_lt, e0] at q
    rw [i32_le, en] at q2
    obtain ⟨t, ht, e⟩ := nI_get (x := p) (N := nt) (by omega) (by omega) (by omega)
    exact h1 t ht e
theorem s_inT {p : Int32} {nt : Nat} {post : Int32 → Prop} (hn : nt ≤ 128) (h1 : ∀ t, t < nt → p = nI t → post 1) (h0 : ¬ (0 ≤ p.toInt ∧ p.toInt ≤ (nt : Int) - 1) → post 0) : F_X12_in p.toInt64 0 ((nI nt - 1).toInt64) post :=
  s_in32 (a := 0) (b := (nt : Int) - 1) rfl (nI_m1 (by omega)) (fun z => by
    obtain ⟨t, ht, e⟩ := nI_get (x := p) (N := nt) (by omega) (by omega) (by omega)
    exact h1 t ht e) h0
theorem nI_out {t nt : Nat} (ht : t < nt) (hn : nt ≤ 128) : ¬ ¬ (0 ≤ (nI t).toInt ∧ (nI t).toInt ≤ (nt : Int) - 1) := fun h => h (by rw [nI_toInt (by omega)]; omega)
theorem op_move {a b xm mm xn mn : Int32} {nt : Nat} {xpc mpc xc xno xt xtr xtn mc mt mmo : Nat → Int32} {mno mcr : Nat → Int64} (J : IP xm xpc mm mpc) (I : IM nt xn xc xno xt mn mc mno mt)
    {Q : Int32 → Int32 → (Nat → Int32) → (Nat → Int32) → (Nat → Int32) → (Nat → Int32) → Int32 → Int32 → (Nat → Int32) → (Nat → Int64) → (Nat → Int64) → (Nat → Int32) → Prop}
    (k : ∀ (r xm' mm' : Int32) (xc' xno' xtr' xtn' mc' mmo' : Nat → Int32) (mno' mcr' : Nat → Int64), IP xm' xpc mm' mpc → IM nt xn xc' xno' xt mn mc' mno' mt → Q r xm' xc' xno' xtr' xtn' r mm' mc' mno' mcr' mmo') :
    F_X11_move a b xm xpc xn xc xno xtr xtn (fun r v1 v2 v3 v4 v5 => F_X12_move a b mm mn mpc mc mno mcr mmo (fun r' w1 w2 w3 w4 w5 => Q r v1 v2 v3 v4 v5 r' w1 w2 w3 w4 w5)) := by
  have J0 := J
  have I0 := I
  obtain ⟨np, hnp, rfl, rfl, rfl, hbd⟩ := J
  obtain ⟨hnt, rfl, rfl, rfl, rfl, hcb, hmn, hcr⟩ := I
  have J1 : IP 0 mpc 0 mpc := ⟨0, by omega, rfl, rfl, rfl, hbd⟩
  have same := fun xtr' xtn' mcr' mmo' => k (-1) _ _ _ _ xtr' xtn' _ mmo' _ mcr' J0 I0
  have e0 : (0 : Int32).toInt = 0 := rfl
  have e2 : (2 : Int32).toInt = 2 := rfl
  refine s_has hnt (fun t ht et => ⟨fun q => absurd q (by decide), fun _ => ?_⟩) (fun z => ⟨fun _ => ?_, fun q => absurd rfl q⟩)
  rotate_left
  · exact s_inT hnt (fun t ht et => absurd z (by rw [et]; exact nI_out ht hnt)) (fun _ => ⟨fun _ => same _ _ _ _, fun q => absurd rfl q⟩)
  subst et
  have bad : ¬ (0 ≤ b.toInt ∧ b.toInt ≤ 2) → F_X12_move (nI t) b (nI np) (nI nt) mpc mc mno mcr mmo (fun r' w1 w2 w3 w4 w5 => Q (-1) (nI np) mc xno xtr xtn r' w1 w2 w3 w4 w5) := fun z =>
    s_inT hnt (fun _ _ _ => ⟨fun q => absurd q (by decide), fun _ => s_in32 (a := 0) (b := 2) rfl rfl (fun c => absurd c z) (fun _ => ⟨fun _ => same _ _ _ _, fun q => absurd rfl q⟩)⟩) (fun c => absurd c (nI_out ht hnt))
  refine ⟨fun q => bad (fun z => ?_), fun q0 => ⟨fun q => bad (fun z => ?_), fun q2 => ⟨fun q1 => ?_, fun q1 => ?_⟩⟩⟩
  · rw [i32_lt, e0] at q; omega
  · rw [i32_lt, e2] at q; omega
  · rw [i32_lt, e0] at q0
    rw [i32_lt, e2] at q2
    have hb2 : 0 ≤ b.toInt ∧ b.toInt ≤ 2 := ⟨by omega, by omega⟩
    obtain ⟨c, hc, rfl⟩ := nI_get (x := b) (N := 3) hb2.1 (by omega) (by omega)
    have model : ∀ post : Int32 → Int32 → (Nat → Int32) → (Nat → Int64) → (Nat → Int64) → (Nat → Int32) → Prop, L_X12_move_45 post (nI nt) mpc 10 (nI t) (nI c) 0 0 mc mno mcr mmo → F_X12_move (nI t) (nI c) (nI np) (nI nt) mpc mc mno mcr mmo post := fun post h =>
      s_inT hnt (fun _ _ _ => ⟨fun q => absurd q (by decide), fun _ => s_in32 (a := 0) (b := 2) rfl rfl (fun _ => ⟨fun q => absurd q (by decide), fun _ => ⟨fun _ => ⟨10, h⟩, fun c => absurd q1 c⟩⟩) (fun c => absurd hb2 c)⟩) (fun c => absurd c (nI_out ht hnt))
    refine s_bend (by omega) hc hbd hcb (fun z tr' tn' => ⟨fun _ => model _ ?_, fun q => absurd rfl q⟩) (fun z tr' tn' => ⟨fun q => absurd q (by decide), fun _ => model _ ?_⟩)
    · exact s_move45 (by omega) hc hbd hcb (fun _ cr' mo' => k _ _ _ _ _ _ _ _ _ _ _ J1 I0) (fun c => absurd z c)
    · refine s_move45 (by omega) hc hbd hcb (fun c => absurd c z) (fun _ cr' mo' => ?_)
      obtain ⟨h1, h2⟩ := IM_set (t := t) nt (fun u hu => Or.inr hu) (mvd_bd (t := t) (c := c) hbd hcb) hmn hcr
      exact k _ _ _ _ _ _ _ _ _ _ _ J1 ⟨hnt, rfl, rfl, rfl, rfl, cpy_bd (mvd_bd hbd hcb) hcb, h1, h2⟩
  · rw [i32_lt, e0] at q0
    rw [i32_lt, e2] at q2
    exact s_inT hnt (fun _ _ _ => ⟨fun q => absurd q (by decide), fun _ => s_in32 (a := 0) (b := 2) rfl rfl (fun _ => ⟨fun q => absurd q (by decide), fun _ => ⟨fun c => absurd c q1, fun _ => same _ _ _ _⟩⟩) (fun c => absurd ⟨by omega, by omega⟩ c)⟩) (fun c => absurd c (nI_out ht hnt))
