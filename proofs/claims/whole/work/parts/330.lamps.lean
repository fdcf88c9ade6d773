/-! PURE PART: eye, lights, set -/
def put3 (f : Nat → Int32) (o : Nat) (g : Nat → Int32) : Nat → Int32 := upd (upd (upd f o (g 0)) (o + 1) (g 1)) (o + 2) (g 2)
theorem put3_bd {f g : Nat → Int32} {o : Nat} {B : Int} (hf : ∀ j, bd B (f j).toInt) (hg : ∀ j, bd B (g j).toInt) : ∀ j, bd B (put3 f o g j).toInt := upd_bd (upd_bd (upd_bd hf (hg 0)) (hg 1)) (hg 2)
theorem vin {x : Int32} {N : Nat} (k : Nat) (h : k < N) (hN : N < 2 ^ 31) (e : x = nI k) : vp_in x N := e ▸ vp_in_nI h hN
theorem n3k (a k : Nat) : (3 : Int32) * nI a + nI k = nI (3 * a + k) := by rw [n_3, pk_mul, nI_add]
theorem n9k (a k : Nat) : (9 : Int32) * nI a + nI k = nI (9 * a + k) := by rw [n_9, pk_mul, nI_add]
theorem st_stand {post : (Nat → Int32) → Prop} {c e : Nat → Int32} {n k : Nat} (hk : k < 3) (h : L_X1_stand_2 post c n (nI (k + 1)) (upd e k (c k))) : L_X1_stand_2 post c (n + 1) (nI k) e := by
  have e0 : (3 : Int32) * 0 + nI k = nI k := by rw [n_0, n3k]; congr 1; omega
  refine ⟨fun q => ?_, fun _ => ⟨vin k (by omega) (by omega) e0, vin k (by omega) (by omega) rfl, fun g eg x ex => ?_⟩⟩
  · rw [n_3, nI_leI (by omega) (by omega)] at q; omega
  · rw [e0, nI_clamp (by omega)] at eg
    rw [eg, ex, nI_1]; exact h
theorem s_stand {post : (Nat → Int32) → Prop} {c e : Nat → Int32} (h : post (put3 e 0 c)) : F_X1_stand e c post :=
  ⟨4, st_stand (k := 0) (by omega) (st_stand (k := 1) (by omega) (st_stand (k := 2) (by omega) ⟨fun _ => h, fun q => absurd (by decide) q⟩))⟩
theorem st_eyeM {post : Int32 → Int32 → (Nat → Int32) → Prop} {c e : Nat → Int32} {n k : Nat} {m : Int32} (hk : k < 3) (h : L_X12_eye_17 post c n (nI (k + 1)) m (upd e k (c k))) : L_X12_eye_17 post c (n + 1) (nI k) m e := by
  refine ⟨fun q => ?_, fun _ => ⟨vin k (by omega) (by omega) rfl, vin k (by omega) (by omega) rfl, fun g eg x ex => ?_⟩⟩
  · rw [n_3, nI_leI (by omega) (by omega)] at q; omega
  · rw [nI_clamp (by omega)] at eg
    rw [eg, ex, nI_1]; exact h
theorem op_eye {xw xh mw mh xm mm : Int32} {xe xa me xc mc : Nat → Int32} {ma : Nat → Int64} (I : IC xe xa xw xh me ma mw mh) (J : IP xm xc mm mc) {Q : Int32 → Int32 → (Nat → Int32) → Int32 → Int32 → (Nat → Int32) → Prop}
    (k : ∀ (r xm' mm' : Int32) (xe' me' : Nat → Int32), IC xe' xa xw xh me' ma mw mh → IP xm' xc mm' mc → Q r xm' xe' r mm' me') :
    F_X11_eye xm xc xe (fun r v1 v2 => F_X12_eye mm mc me (fun r' v3 v4 => Q r v1 v2 r' v3 v4)) := by
  have I0 := I
  have J0 := J
  obtain ⟨rfl, hb, hax, rfl, rfl, hw, hh, hf⟩ := I
  obtain ⟨np, hnp, rfl, rfl, rfl, hbd⟩ := J
  refine ⟨fun q => s_stand ⟨fun _ => ⟨4, ?_⟩, fun c => absurd q c⟩, fun q => ⟨fun c => absurd c q, fun _ => k _ _ _ _ _ I0 J0⟩⟩
  refine st_eyeM (k := 0) (by omega) (st_eyeM (k := 1) (by omega) (st_eyeM (k := 2) (by omega) ⟨fun _ => ?_, fun q => absurd (by decide) q⟩))
  exact k 0 0 0 (put3 me 0 mc) (put3 me 0 mc) ⟨rfl, put3_bd hb hbd, hax, rfl, rfl, hw, hh, hf⟩ ⟨0, by omega, rfl, rfl, rfl, hbd⟩
/-- lights, table, the light from everywhere -/
def IL (xp xs xv : Nat → Int32) (xam : Int32) (mp ms mv : Nat → Int32) (mam : Int32) : Prop := mp = xp ∧ ms = xs ∧ mv = xv ∧ mam = xam ∧ ∀ j, bd 255 (xp j).toInt
theorem st_hang {post : (Nat → Int32) → (Nat → Int32) → Prop} {c p s : Nat → Int32} {n k a : Nat} {v : Int32} (hk : k < 3) (ha : a < 4) (h : L_X4_hang_3 post c n (nI a) v (nI (k + 1)) (upd p (3 * a + k) (c k)) s) : L_X4_hang_3 post c (n + 1) (nI a) v (nI k) p s := by
  have e0 : (3 : Int32) * 0 + nI k = nI k := by rw [n_0, n3k]; congr 1; omega
  refine ⟨fun q => ?_, fun _ => ⟨vin k (by omega) (by omega) e0, vin (3 * a + k) (by omega) (by omega) (n3k a k), fun g eg x ex => ?_⟩⟩
  · rw [n_3, nI_leI (by omega) (by omega)] at q; omega
  · rw [e0, n3k, nI_clamp (by omega), nI_clamp (by omega)] at eg
    rw [eg, ex, nI_1]; exact h
theorem st_lightM {post : Int32 → Int32 → (Nat → Int32) → (Nat → Int32) → Prop} {c p s : Nat → Int32} {n k a : Nat} {v m : Int32} (hk : k < 3) (ha : a < 4) (h : L_X12_light_41 post c n (nI a) v (nI (k + 1)) m (upd p (3 * a + k) (c k)) s) : L_X12_light_41 post c (n + 1) (nI a) v (nI k) m p s := by
  refine ⟨fun q => ?_, fun _ => ⟨vin k (by omega) (by omega) rfl, vin (3 * a + k) (by omega) (by omega) (n3k a k), fun g eg x ex => ?_⟩⟩
  · rw [n_3, nI_leI (by omega) (by omega)] at q; omega
  · rw [n3k, nI_clamp (by omega), nI_clamp (by omega)] at eg
    rw [eg, ex, nI_1]; exact h
theorem nI_get {x : Int32} {N : Nat} (h0 : 0 ≤ x.toInt) (h1 : x.toInt < N) (hN : N < 2 ^ 31) : ∃ a : Nat, a < N ∧ x = nI a := by
  refine ⟨x.toInt.toNat, by omega, ?_⟩
  rw [← Int32.toInt_inj, nI_toInt (by omega)]; omega
theorem s_lampHas {p0 : Int32} {post : Int32 → Prop} (h1 : 0 ≤ p0.toInt ∧ p0.toInt ≤ 3 → post 1) (h0 : ¬ (0 ≤ p0.toInt ∧ p0.toInt ≤ 3) → post 0) : F_X4_has p0 post := by
  have e0 : (0 : Int32).toInt = 0 := rfl
  have e4 : (4 : Int32).toInt = 4 := rfl
  refine ⟨fun q => h0 (fun z => ?_), fun q => ⟨fun q2 => h0 (fun z => ?_), fun q2 => h1 ⟨?_, ?_⟩⟩⟩
  · rw [i32_lt, e0] at q; omega
  · rw [i32_le, e4] at q2; omega
  · rw [i32_lt, e0] at q; omega
  · rw [i32_le, e4] at q2; omega
theorem op_light {a b xm mm : Int32} {xc mc xp xs xv mp ms mv : Nat → Int32} {xam mam : Int32} (I : IL xp xs xv xam mp ms mv mam) (J : IP xm xc mm mc) {Q : Int32 → Int32 → (Nat → Int32) → (Nat → Int32) → Int32 → Int32 → (Nat → Int32) → (Nat → Int32) → Prop}
    (k : ∀ (r xm' mm' : Int32) (xp' xs' mp' ms' : Nat → Int32), IL xp' xs' xv xam mp' ms' mv mam → IP xm' xc mm' mc → Q r xm' xp' xs' r mm' mp' ms') :
    F_X11_light a b xm xc xp xs (fun r v1 v2 v3 => F_X12_light a b mm mc mp ms (fun r' v4 v5 v6 => Q r v1 v2 v3 r' v4 v5 v6)) := by
  have I0 := I
  have J0 := J
  obtain ⟨rfl, rfl, rfl, rfl, hp⟩ := I
  obtain ⟨np, hnp, rfl, rfl, rfl, hbd⟩ := J
  have same := k (-1) _ _ _ _ _ _ I0 J0
  refine s_lampHas (fun ha => ⟨fun q => absurd q (by decide), fun _ => s_isByte (fun hb => ⟨fun q => absurd q (by decide), fun _ => ⟨fun q => ?_, fun q => ?_⟩⟩) (fun hb => ⟨fun _ => ?_, fun q => absurd rfl q⟩)⟩) (fun ha => ⟨fun _ => ?_, fun q => absurd rfl q⟩)
  rotate_left
  · exact s_in32 (a := 0) (b := 3) rfl rfl (fun _ => ⟨fun q => absurd q (by decide), fun _ => s_in32 (a := 0) (b := 255) rfl rfl (fun _ => ⟨fun q => absurd q (by decide), fun _ => ⟨fun c => absurd c q, fun _ => same⟩⟩) (fun c => absurd hb c)⟩) (fun c => absurd ha c)
  · exact s_in32 (a := 0) (b := 3) rfl rfl (fun _ => ⟨fun q => absurd q (by decide), fun _ => s_in32 (a := 0) (b := 255) rfl rfl (fun c => absurd c hb) (fun _ => ⟨fun _ => same, fun q => absurd rfl q⟩)⟩) (fun c => absurd ha c)
  · exact s_in32 (a := 0) (b := 3) rfl rfl (fun c => absurd c ha) (fun _ => ⟨fun _ => same, fun q => absurd rfl q⟩)
  obtain ⟨i, hi, rfl⟩ := nI_get (N := 4) ha.1 (by omega) (by omega)
  refine ⟨4, st_hang (k := 0) (by omega) hi (st_hang (k := 1) (by omega) hi (st_hang (k := 2) (by omega) hi ⟨fun _ => ⟨vin i hi (by omega) rfl, fun g eg => ?_⟩, fun q => absurd (by decide) q⟩))⟩
  show F_X12_light (nI i) b (nI np) mc mp ms (fun r' v4 v5 v6 => Q 0 0 (put3 mp (3 * i) mc) g r' v4 v5 v6)
  refine s_in32 (a := 0) (b := 3) rfl rfl (fun _ => ⟨fun q => absurd q (by decide), fun _ => s_in32 (a := 0) (b := 255) rfl rfl (fun _ => ⟨fun q => absurd q (by decide), fun _ => ⟨fun _ => ⟨4, ?_⟩, fun c => absurd q c⟩⟩) (fun c => absurd hb c)⟩) (fun c => absurd ha c)
  refine st_lightM (k := 0) (by omega) hi (st_lightM (k := 1) (by omega) hi (st_lightM (k := 2) (by omega) hi ⟨fun _ => ⟨vin i hi (by omega) rfl, fun g2 eg2 => ?_⟩, fun q => absurd (by decide) q⟩))
  have e : g2 = g := by rw [eg2, eg]
  subst e
  exact k 0 0 0 (put3 mp (3 * i) mc) g2 (put3 mp (3 * i) mc) g2 ⟨rfl, rfl, rfl, rfl, put3_bd hp hbd⟩ ⟨0, by omega, rfl, rfl, rfl, hbd⟩
