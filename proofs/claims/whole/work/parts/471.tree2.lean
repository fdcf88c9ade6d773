/-! PURE PART: the tree: the reference's boxes, middles, sorting -/
section
variable {co o f m : Nat → Int32} {nt n s l : Nat}
theorem min_keep {x v : Int32} {P : Int32 → Prop} (h : P (jminI x v)) : (x ≤ v → P x) ∧ (¬ x ≤ v → P v) := by
  unfold jminI at h
  refine ⟨fun q => ?_, fun q => ?_⟩
  · rw [if_neg (fun c => by rw [i32_lt] at c; rw [i32_le] at q; omega)] at h; exact h
  · rw [if_pos (by rw [i32_lt]; rw [i32_le] at q; omega)] at h; exact h
theorem max_keep {x v : Int32} {P : Int32 → Prop} (h : P (jmaxI x v)) : (v ≤ x → P x) ∧ (¬ v ≤ x → P v) := by
  unfold jmaxI at h
  refine ⟨fun q => ?_, fun q => ?_⟩
  · rw [if_neg (fun c => by rw [i32_lt] at c; rw [i32_le] at q; omega)] at h; exact h
  · rw [if_pos (by rw [i32_lt]; rw [i32_le] at q; omega)] at h; exact h
theorem st_bo45 {k24 : Int32 → Int32 → Int32 → Int32 → Int32 → (Nat → Int32) → Prop} {N i c a : Nat} {x y : Int32} {oth : Nat → Int32} (hnt : nt ≤ 128) (ho : OKo nt o) (hi : i < nt) (hc : c < 3) (ha : a < 3)
    (h : L_X12_boxOf_45 k24 co f m o N (nI n) (nI a) (jminI x (co (9 * ot o i + 3 * c + a))) (jmaxI y (co (9 * ot o i + 3 * c + a))) (nI i) (nI (c + 1)) oth) : L_X12_boxOf_45 k24 co f m o (N + 1) (nI n) (nI a) x y (nI i) (nI c) oth := by
  obtain ⟨eo, lo⟩ := ot_e ho hnt hi
  have e : ((9 : Int32) * o (nI i).toNatClampNeg + 3 * nI c) + nI a = nI (9 * ot o i + 3 * c + a) := by rw [nI_clamp (by omega), eo, n_3, n_9, pk_mul, pk_mul, nI_add, nI_add]
  refine ⟨fun q => ?_, fun _ => ⟨vin i (by omega) (by omega) rfl, vin _ (by omega) (by omega) e, fun v ev => ?_⟩⟩
  · rw [n_3, nI_leI (by omega) (by omega)] at q; omega
  rw [e, nI_clamp (by omega)] at ev
  subst ev
  refine min_keep (P := fun s0 => J_X12_boxOf_87 (L_X12_boxOf_45 k24 co f m o N) co f m o (nI n) (nI a) y (nI i) (nI c) (co (9 * ot o i + 3 * c + a)) s0 oth) ?_
  exact max_keep (P := fun s1 => ∀ x18 : Int32, x18 = nI c + 1 → L_X12_boxOf_45 k24 co f m o N (nI n) (nI a) (jminI x (co (9 * ot o i + 3 * c + a))) s1 (nI i) x18 oth) (fun u eu => by rw [eu, nI_1]; exact h)
theorem min3 (x a b c : Int32) : jminI (jminI (jminI x a) b) c = jminI x (jminI a (jminI b c)) := by
  rw [← Int32.toInt_inj]; simp only [jmin_t]; omega
theorem max3 (x a b c : Int32) : jmaxI (jmaxI (jmaxI x a) b) c = jmaxI x (jmaxI a (jmaxI b c)) := by
  rw [← Int32.toInt_inj]; simp only [jmax_t]; omega
theorem s_bo24 {k2 : Int32 → Int32 → (Nat → Int32) → Prop} {a : Nat} {oth : Nat → Int32} (hnt : nt ≤ 128) (ho : OKo nt o) (hn : n < 255) (hf : f n = nI s) (hm : m n = nI l) (hs : s + l ≤ nt) (ha : a < 3)
    (k : k2 (nI n) (nI (a + 1)) (upd (upd oth a (bx co o s l a)) (3 + a) (bx co o s l (3 + a)))) :
    ∀ (w i : Nat), i + w = l → L_X12_boxOf_24 k2 co f m o (w + 1) (nI n) (nI a) (blw co o a s i) (bgh co o a s i) (nI (s + i)) oth
  | 0, i, hi => by
    have : i = l := by omega
    subst this
    have e0 : bx co o s i a = blw co o a s i := by unfold bx; rw [if_pos ha]
    have e3 : bx co o s i (3 + a) = bgh co o a s i := by unfold bx; rw [if_neg (by omega), Nat.add_sub_cancel_left]
    rw [e0, e3] at k
    have vn : vp_in (nI n) 255 := vin n hn (by omega) rfl
    have i3 : (3 : Int32) + nI a = nI (3 + a) := nI_add 3 a
    refine ⟨vn, vn, fun _ => ⟨vin a (by omega) (by omega) rfl, fun g eg => ⟨vin (3 + a) (by omega) (by omega) i3, fun g2 eg2 x ex => ?_⟩⟩, fun q => absurd ?_ q⟩
    · rw [nI_clamp (by omega)] at eg
      rw [i3, nI_clamp (by omega)] at eg2
      rw [eg2, eg, ex, nI_1]; exact k
    · rw [nI_clamp (by omega), hf, hm, nI_add, nI_leI (by omega) (by omega)]; omega
  | w + 1, i, hi => by
    have vn : vp_in (nI n) 255 := vin n hn (by omega) rfl
    refine ⟨vn, vn, fun q => ?_, fun _ => ⟨4, ?_⟩⟩
    · rw [nI_clamp (by omega), hf, hm, nI_add, nI_leI (by omega) (by omega)] at q; omega
    refine st_bo45 (c := 0) hnt ho (by omega) (by omega) ha (st_bo45 (c := 1) hnt ho (by omega) (by omega) ha (st_bo45 (c := 2) hnt ho (by omega) (by omega) ha ⟨fun _ x ex => ?_, fun q => absurd (by decide) q⟩))
    rw [ex, nI_1, min3, max3]
    exact s_bo24 hnt ho hn hf hm hs ha k w (i + 1) (by omega)
theorem st_bo2 {post : (Nat → Int32) → Prop} {a N : Nat} {oth : Nat → Int32} (hnt : nt ≤ 128) (ho : OKo nt o) (hn : n < 255) (hf : f n = nI s) (hm : m n = nI l) (hs : s + l ≤ nt) (ha : a < 3)
    (k : L_X12_boxOf_2 post co f m o N (nI n) (nI (a + 1)) (upd (upd oth a (bx co o s l a)) (3 + a) (bx co o s l (3 + a)))) : L_X12_boxOf_2 post co f m o (N + 1) (nI n) (nI a) oth := by
  refine ⟨fun q => ?_, fun _ => ⟨vin n hn (by omega) rfl, fun x ex => ⟨l + 1, ?_⟩⟩⟩
  · rw [n_3, nI_leI (by omega) (by omega)] at q; omega
  rw [nI_clamp (by omega), hf] at ex
  rw [ex]
  exact s_bo24 hnt ho hn hf hm hs ha k l 0 (by omega)
theorem s_boxOf {post : (Nat → Int32) → Prop} {oth : Nat → Int32} (hnt : nt ≤ 128) (ho : OKo nt o) (hn : n < 255) (hf : f n = nI s) (hm : m n = nI l) (hs : s + l ≤ nt) (k : ∀ oth', (∀ k, k < 6 → oth' k = bx co o s l k) → post oth') : F_X12_boxOf (nI n) co f m o oth post := by
  refine ⟨4, st_bo2 (a := 0) hnt ho hn hf hm hs (by omega) (st_bo2 (a := 1) hnt ho hn hf hm hs (by omega) (st_bo2 (a := 2) hnt ho hn hf hm hs (by omega) ⟨fun _ => k _ (fun j hj => ?_), fun q => absurd (by decide) q⟩))⟩
  unfold upd
  rcases (show j = 0 ∨ j = 1 ∨ j = 2 ∨ j = 3 ∨ j = 4 ∨ j = 5 by omega) with rfl | rfl | rfl | rfl | rfl | rfl <;> rfl
-- middles
def mdl (co : Nat → Int32) (t k : Nat) : Int32 := (co (9 * t + 3 * 0 + k) + co (9 * t + 3 * 1 + k)) + co (9 * t + 3 * 2 + k)
theorem mdl_t {co : Nat → Int32} {t k : Nat} (hb : ∀ j, bd 255 (co j).toInt) : (mdl co t k).toInt = (co (9 * t + 3 * 0 + k)).toInt + (co (9 * t + 3 * 1 + k)).toInt + (co (9 * t + 3 * 2 + k)).toInt := by
  have h1 := hb (9 * t + 3 * 0 + k); have h2 := hb (9 * t + 3 * 1 + k); have h3 := hb (9 * t + 3 * 2 + k)
  have e : mdl co t k = Int32.ofInt ((co (9 * t + 3 * 0 + k)).toInt + (co (9 * t + 3 * 1 + k)).toInt + (co (9 * t + 3 * 2 + k)).toInt) := by
    rw [← q_add, ← q_add, Int32.ofInt_toInt, Int32.ofInt_toInt, Int32.ofInt_toInt]; rfl
  unfold bd at *
  rw [e, q_toInt ⟨by omega, by omega⟩]
theorem mdl_b {co : Nat → Int32} {t k : Nat} (hb : ∀ j, bd 255 (co j).toInt) : bd 765 (mdl co t k).toInt := by
  have h1 := hb (9 * t + 3 * 0 + k); have h2 := hb (9 * t + 3 * 1 + k); have h3 := hb (9 * t + 3 * 2 + k)
  rw [mdl_t hb]; unfold bd at *; omega
theorem s_midC {co : Nat → Int32} {t k : Nat} {post : Int32 → Prop} (ht : t < 128) (hk : k < 3) (h : post (mdl co t k)) : F_X5_middle (nI t) (nI k) co post :=
  s_at (c := 0) ht (by omega) hk (s_at (c := 1) ht (by omega) hk (s_at (c := 2) ht (by omega) hk h))
theorem s_midM {co : Nat → Int32} {t k : Nat} {post : Int32 → Prop} (ht : t < 128) (hk : k < 3) (h : post (mdl co t k)) : F_X12_middle (nI t) (nI k) co post := by
  have e0 : (9 : Int32) * nI t + nI k = nI (9 * t + 3 * 0 + k) := n9k t k
  have e1 : ((9 : Int32) * nI t + 3) + nI k = nI (9 * t + 3 * 1 + k) := by rw [n_9, n_3, pk_mul, nI_add, nI_add]
  have e2 : ((9 : Int32) * nI t + 6) + nI k = nI (9 * t + 3 * 2 + k) := by rw [n_9, n_6, pk_mul, nI_add, nI_add]
  refine ⟨vin _ (by omega) (by omega) e0, vin _ (by omega) (by omega) e1, vin _ (by omega) (by omega) e2, ?_⟩
  rw [e0, e1, e2, nI_clamp (by omega), nI_clamp (by omega), nI_clamp (by omega)]; exact h
/-- a triangle comes before another -/
def bfr (co : Nat → Int32) (k t u : Nat) : Prop := (mdl co t k).toInt < (mdl co u k).toInt ∨ ((mdl co t k).toInt = (mdl co u k).toInt ∧ t < u)
theorem s_before {co : Nat → Int32} {t u k : Nat} {post : Int32 → Prop} (ht : t < 128) (hu : u < 128) (hk : k < 3) (hb : ∀ j, bd 255 (co j).toInt) (h1 : bfr co k t u → post 1) (h0 : ¬ bfr co k t u → post 0) : F_X9_comesBefore (nI t) (nI u) (nI k) co post := by
  refine s_midC ht hk (s_midC hu hk (fun x ex => ?_))
  have b1 := mdl_b (t := t) (k := k) hb
  have b2 := mdl_b (t := u) (k := k) hb
  have e : x.toInt = (mdl co t k).toInt - (mdl co u k).toInt := by
    have : x = Int32.ofInt ((mdl co t k).toInt - (mdl co u k).toInt) := by rw [ex, ← q_sub, Int32.ofInt_toInt, Int32.ofInt_toInt]
    unfold bd at *
    rw [this, q_toInt ⟨by omega, by omega⟩]
  have z : x = 0 ↔ x.toInt = 0 := by rw [← Int32.toInt_inj]; rfl
  rw [i32_lt, z, e, nI_leI (by omega) (by omega)]
  change ((mdl co t k).toInt - (mdl co u k).toInt < 0 → post 1) ∧ _
  unfold bfr at h1 h0
  exact ⟨fun q => h1 (by omega), fun q => ⟨fun q2 => h0 (by change ¬ (mdl co t k).toInt - (mdl co u k).toInt < 0 at q; omega), fun q2 => ⟨fun q3 => h0 (by omega), fun q3 => h1 (by omega)⟩⟩⟩
theorem s_behind {co : Nat → Int32} {t u k : Nat} {post : Int32 → Prop} (ht : t < 128) (hu : u < 128) (hk : k < 3) (h1 : bfr co k t u → post 1) (h0 : ¬ bfr co k t u → post 0) : F_X12_isBehind (nI u) (nI t) (nI k) co post := by
  refine s_midM hu hk (s_midM ht hk ?_)
  rw [i32_lt]
  unfold bfr at h1 h0
  refine ⟨fun q => h1 (by omega), fun q => s_midM hu hk (s_midM ht hk ?_)⟩
  rw [← Int32.toInt_inj, nI_leI (by omega) (by omega)]
  exact ⟨fun q2 => h0 (by omega), fun q2 => ⟨fun q3 => h0 (by omega), fun q3 => h1 (by omega)⟩⟩
-- the widest axis
def mlo (co o : Nat → Int32) (k s : Nat) : Nat → Int32
  | 0 => 10000
  | l + 1 => jminI (mlo co o k s l) (mdl co (ot o (s + l)) k)
def mhi (co o : Nat → Int32) (k s : Nat) : Nat → Int32
  | 0 => -10000
  | l + 1 => jmaxI (mhi co o k s l) (mdl co (ot o (s + l)) k)
def spr (co o : Nat → Int32) (s l k : Nat) : Int32 := mhi co o k s l - mlo co o k s l
def wst (sp : Nat → Int32) : Nat → Nat × Int32
  | 0 => (0, -1)
  | k + 1 => if sp k ≤ (wst sp k).2 then wst sp k else (k, sp k)
theorem wst_lt (sp : Nat → Int32) : (wst sp 3).1 < 3 := by
  have : ∀ k, (wst sp k).1 < k ∨ (wst sp k).1 = 0 := fun k => by
    induction k with
    | zero => exact Or.inr rfl
    | succ k ih =>
      unfold wst
      split
      · omega
      · exact Or.inl (Nat.lt_succ_self k)
  have := this 3
  omega
theorem mlo_1 {k : Nat} (hb : ∀ j, bd 255 (co j).toInt) : mlo co o k s 1 = mdl co (ot o s) k := by
  show jminI 10000 (mdl co (ot o (s + 0)) k) = _
  have := mdl_b (t := ot o (s + 0)) (k := k) hb
  rw [← Int32.toInt_inj, jmin_t]; unfold bd at this; show min 10000 _ = _; rw [Nat.add_zero] at *; omega
theorem mhi_1 {k : Nat} (hb : ∀ j, bd 255 (co j).toInt) : mhi co o k s 1 = mdl co (ot o s) k := by
  show jmaxI (-10000) (mdl co (ot o (s + 0)) k) = _
  have := mdl_b (t := ot o (s + 0)) (k := k) hb
  rw [← Int32.toInt_inj, jmax_t]; unfold bd at this; show max (-10000) _ = _; rw [Nat.add_zero] at *; omega
theorem s_sp23 {post : Int32 → Prop} {k : Nat} (hnt : nt ≤ 128) (ho : OKo nt o) (hk : k < 3) (hs : s + l ≤ nt) (h : post (spr co o s l k)) : ∀ (w i : Nat), i + w = l → L_X9_spreadAlong_23 post o co (w + 1) (nI s) (nI l) (nI k) (mlo co o k s i) (mhi co o k s i) (nI (s + i))
  | 0, i, hi => by
    have : i = l := by omega
    subst this
    exact ⟨fun _ => h, fun q => absurd (by rw [nI_add, nI_leI (by omega) (by omega)]; omega) q⟩
  | w + 1, i, hi => by
    obtain ⟨eo, lo⟩ := ot_e ho hnt (show s + i < nt by omega)
    refine ⟨fun q => ?_, fun _ => ⟨vin (s + i) (by omega) (by omega) rfl, ?_⟩⟩
    · rw [nI_add, nI_leI (by omega) (by omega)] at q; omega
    rw [nI_clamp (by omega), eo]
    refine s_midC (by omega) hk (fun x ex y ey z ez => ?_)
    rw [ex, ey, ez, nI_1]
    exact s_sp23 hnt ho hk hs h w (i + 1) (by omega)
theorem s_spread {post : Int32 → Prop} {k : Nat} (hnt : nt ≤ 128) (hb : ∀ j, bd 255 (co j).toInt) (ho : OKo nt o) (hk : k < 3) (hl : 1 ≤ l) (hs : s + l ≤ nt) (h : post (spr co o s l k)) : F_X9_spreadAlong (nI s) (nI l) (nI k) o co post := by
  obtain ⟨eo, lo⟩ := ot_e ho hnt (show s < nt by omega)
  refine ⟨vin s (by omega) (by omega) rfl, ?_⟩
  rw [nI_clamp (by omega), eo]
  refine s_midC (by omega) hk (fun x ex => ⟨l - 1 + 1, ?_⟩)
  have := s_sp23 (co := co) hnt ho hk hs h (l - 1) 1 (by omega)
  rw [mlo_1 hb, mhi_1 hb] at this
  rw [ex, nI_1]; exact this
theorem s_widest {post : Int32 → Prop} (hnt : nt ≤ 128) (hb : ∀ j, bd 255 (co j).toInt) (ho : OKo nt o) (hl : 1 ≤ l) (hs : s + l ≤ nt) (h : post (nI (wst (spr co o s l) 3).1)) : F_X9_widestAxis (nI s) (nI l) o co post := by
  have st : ∀ N k, k < 3 → L_X9_widestAxis_9 post o co N (nI s) (nI l) (nI (wst (spr co o s l) (k + 1)).1) (wst (spr co o s l) (k + 1)).2 (nI (k + 1)) → L_X9_widestAxis_9 post o co (N + 1) (nI s) (nI l) (nI (wst (spr co o s l) k).1) (wst (spr co o s l) k).2 (nI k) := fun N k hk h => by
    refine ⟨fun q => ?_, fun _ => s_spread hnt hb ho hk hl hs ⟨fun q x ex => ?_, fun q x ex => ?_⟩⟩
    · rw [n_3, nI_leI (by omega) (by omega)] at q; omega
    · unfold wst at h; rw [if_pos q] at h; rw [ex, nI_1]; exact h
    · unfold wst at h; rw [if_neg q] at h; rw [ex, nI_1]; exact h
  exact ⟨4, st 3 0 (by omega) (st 2 1 (by omega) (st 1 2 (by omega) ⟨fun _ => h, fun q => absurd (by decide) q⟩))⟩
-- insertion
noncomputable def isr (co : Nat → Int32) (k s t : Nat) : Nat → (Nat → Int32) → Nat → Int32
  | 0, o => upd o 0 (nI t)
  | h + 1, o => @ite _ (s < h + 1 ∧ bfr co k t (ot o h)) (Classical.propDecidable _) (isr co k s t h (upd o (h + 1) (o h))) (upd o (h + 1) (nI t))
theorem isr_p {k t h : Nat} (c : s < h + 1 ∧ bfr co k t (ot o h)) : isr co k s t (h + 1) o = isr co k s t h (upd o (h + 1) (o h)) := if_pos c
theorem isr_n {k t h : Nat} (c : ¬ (s < h + 1 ∧ bfr co k t (ot o h))) : isr co k s t (h + 1) o = upd o (h + 1) (nI t) := if_neg c
theorem OKo_upd {x : Int32} {j : Nat} (ho : OKo nt o) (hx : ∃ t, t < nt ∧ x = nI t) : OKo nt (upd o j x) := fun i hi => by
  unfold upd; split
  · exact hx
  · exact ho i hi
theorem OKo_isr {k t : Nat} (ht : t < nt) : ∀ (h : Nat) (o : Nat → Int32), h < nt → OKo nt o → OKo nt (isr co k s t h o)
  | 0, o, _, ho => OKo_upd ho ⟨t, ht, rfl⟩
  | h + 1, o, hh, ho => by
    by_cases c : s < h + 1 ∧ bfr co k t (ot o h)
    · rw [isr_p c]; exact OKo_isr ht h _ (by omega) (OKo_upd ho (ho h (by omega)))
    · rw [isr_n c]; exact OKo_upd ho ⟨t, ht, rfl⟩
noncomputable def srt (co : Nat → Int32) (k s : Nat) : Nat → Nat → (Nat → Int32) → Nat → Int32
  | 0, _, o => o
  | w + 1, i, o => srt co k s w (i + 1) (isr co k s (ot o i) i o)
theorem OKo_srt {k : Nat} (hn : nt ≤ 128) : ∀ (w i : Nat) (o : Nat → Int32), i + w ≤ nt → OKo nt o → OKo nt (srt co k s w i o)
  | 0, _, _, _, ho => ho
  | w + 1, i, o, hi, ho => OKo_srt hn w (i + 1) _ (by omega) (OKo_isr (ot_e ho hn (by omega)).2 i o (by omega) ho)
theorem s_so26 {k5 : Int32 → Int32 → Int32 → Int32 → (Nat → Int32) → Prop} {k t i : Nat} {l3 : Int32} (hnt : nt ≤ 128) (hb : ∀ j, bd 255 (co j).toInt) (hk : k < 3) (ht : t < nt) (hi : i < nt) : ∀ (h : Nat) (o : Nat → Int32), h ≤ i → s ≤ h → OKo nt o → k5 (nI s) l3 (nI k) (nI (i + 1)) (isr co k s t h o) → L_X9_sortAlong_26 k5 co (h + 1) (nI s) l3 (nI k) (nI i) (nI t) (nI h) o
  | 0, o, hh, hs, ho, c => by
    refine ⟨fun _ => ⟨vin 0 (by omega) (by omega) rfl, fun g eg x ex => ?_⟩, fun q => absurd (by rw [nI_leI (by omega) (by omega)]; omega) q⟩
    rw [nI_clamp (by omega)] at eg
    rw [eg, ex, nI_1]; exact c
  | h + 1, o, hh, hs, ho, c => by
    obtain ⟨eo, lo⟩ := ot_e ho hnt (show h < nt by omega)
    have vh : vp_in (nI (h + 1)) 128 := vin (h + 1) (by omega) (by omega) rfl
    have vp : vp_in (nI (h + 1) - 1) 128 := vin h (by omega) (by omega) (nI_p1 h)
    have J : ¬ (s < h + 1 ∧ bfr co k t (ot o h)) → J_X9_sortAlong_74 k5 co (nI s) l3 (nI k) (nI i) (nI t) (nI (h + 1)) o := fun z => by
      rw [isr_n z] at c
      refine ⟨vh, fun g eg x ex => ?_⟩
      rw [nI_clamp (by omega)] at eg
      rw [eg, ex, nI_1]; exact c
    refine ⟨fun q => J (fun z => ?_), fun q => ⟨vp, ?_⟩⟩
    · rw [nI_leI (by omega) (by omega)] at q; omega
    rw [nI_leI (by omega) (by omega)] at q
    rw [nI_p1, nI_clamp (by omega), eo]
    refine s_before (by omega) (by omega) hk hb (fun z => ⟨fun q => absurd q (by decide), fun _ => ⟨vin h (by omega) (by omega) rfl, vh, fun g eg x ex => ?_⟩⟩) (fun z => ⟨fun _ => J (fun y => z y.2), fun q => absurd rfl q⟩)
    rw [isr_p ⟨by omega, z⟩] at c
    rw [nI_clamp (by omega), ← eo] at eg
    rw [eg, ex, nI_p1']
    exact s_so26 hnt hb hk ht hi h _ (by omega) (by omega) (OKo_upd ho (ho h (by omega))) c
theorem s_so5 {post : (Nat → Int32) → Prop} {k : Nat} (hnt : nt ≤ 128) (hb : ∀ j, bd 255 (co j).toInt) (hk : k < 3) (hs : s + l ≤ nt) : ∀ (w i : Nat) (o : Nat → Int32), i + w = s + l → s ≤ i → OKo nt o → post (srt co k s w i o) → L_X9_sortAlong_5 post co (w + 1) (nI s) (nI l) (nI k) (nI i) o
  | 0, i, o, hi, hsi, ho, h => ⟨fun _ => h, fun q => absurd (by rw [nI_add, nI_leI (by omega) (by omega)]; omega) q⟩
  | w + 1, i, o, hi, hsi, ho, h => by
    obtain ⟨eo, lo⟩ := ot_e ho hnt (show i < nt by omega)
    refine ⟨fun q => ?_, fun _ => ⟨vin i (by omega) (by omega) rfl, fun x ex => ⟨i + 1, ?_⟩⟩⟩
    · rw [nI_add, nI_leI (by omega) (by omega)] at q; omega
    rw [nI_clamp (by omega), eo] at ex
    rw [ex]
    refine s_so26 (t := ot o i) hnt hb hk lo (by omega) i o (by omega) hsi ho ?_
    exact s_so5 hnt hb hk hs w (i + 1) _ (by omega) (by omega) (OKo_isr lo i o (by omega) ho) h
/-- a node's triangles in their order -/
noncomputable def srtN (co o : Nat → Int32) (s l : Nat) : Nat → Int32 := srt co (wst (spr co o s l) 3).1 s (l - 1) (s + 1) o
theorem s_sortC {post : (Nat → Int32) → Prop} (hnt : nt ≤ 128) (hb : ∀ j, bd 255 (co j).toInt) (ho : OKo nt o) (hl : 1 ≤ l) (hs : s + l ≤ nt) (h : post (srtN co o s l)) : F_X9_widestAxis (nI s) (nI l) o co (fun r => F_X9_sortAlong (nI s) (nI l) r o co post) := by
  refine s_widest hnt hb ho hl hs (fun x ex => ⟨l - 1 + 1, ?_⟩)
  rw [ex, nI_1]
  exact s_so5 hnt hb (wst_lt _) hs (l - 1) (s + 1) o (by omega) (by omega) ho h
-- the reference's sorting
theorem s_mo31 {k7 : Int32 → Int32 → Int32 → Int32 → (Nat → Int32) → Prop} {k : Nat} {l2 l3 : Int32} (hnt : nt ≤ 128) (ho : OKo nt o) (hn : n < 255) (hf : f n = nI s) (hm : m n = nI l) (hk : k < 3) (hs : s + l ≤ nt)
    (h1 : spr co o s l k ≤ l3 → k7 (nI n) l2 l3 (nI (k + 1)) o) (h2 : ¬ spr co o s l k ≤ l3 → k7 (nI n) (nI k) (spr co o s l k) (nI (k + 1)) o) :
    ∀ (w i : Nat), i + w = l → L_X12_sort_31 k7 co f m (w + 1) (nI n) l2 l3 (nI k) (mlo co o k s i) (mhi co o k s i) (nI (s + i)) o
  | 0, i, hi => by
    have : i = l := by omega
    subst this
    have vn : vp_in (nI n) 255 := vin n hn (by omega) rfl
    refine ⟨vn, vn, fun _ => ⟨fun q x ex => by rw [ex, nI_1]; exact h1 q, fun q x ex y ey => by rw [ex, ey, nI_1]; exact h2 q⟩, fun q => absurd ?_ q⟩
    rw [nI_clamp (by omega), hf, hm, nI_add, nI_leI (by omega) (by omega)]; omega
  | w + 1, i, hi => by
    have vn : vp_in (nI n) 255 := vin n hn (by omega) rfl
    obtain ⟨eo, lo⟩ := ot_e ho hnt (show s + i < nt by omega)
    refine ⟨vn, vn, fun q => ?_, fun _ => ⟨vin (s + i) (by omega) (by omega) rfl, ?_⟩⟩
    · rw [nI_clamp (by omega), hf, hm, nI_add, nI_leI (by omega) (by omega)] at q; omega
    rw [nI_clamp (by omega), eo]
    refine s_midM (by omega) hk ?_
    refine min_keep (P := fun s0 => J_X12_sort_78 (L_X12_sort_31 k7 co f m (w + 1)) co f m (nI n) l2 l3 (nI k) (mhi co o k s i) (nI (s + i)) (mdl co (ot o (s + i)) k) s0 o) ?_
    exact max_keep (P := fun s1 => ∀ x : Int32, x = nI (s + i) + 1 → L_X12_sort_31 k7 co f m (w + 1) (nI n) l2 l3 (nI k) (jminI (mlo co o k s i) (mdl co (ot o (s + i)) k)) s1 x o) (fun x ex => by rw [ex, nI_1]; exact s_mo31 hnt ho hn hf hm hk hs h1 h2 w (i + 1) (by omega))
theorem s_mo167 {k136 : Int32 → Int32 → Int32 → (Nat → Int32) → Prop} {k t i : Nat} (hnt : nt ≤ 128) (hn : n < 255) (hf : f n = nI s) (hk : k < 3) (ht : t < nt) (hi : i < nt) : ∀ (h : Nat) (o : Nat → Int32), h ≤ i → s ≤ h → OKo nt o → k136 (nI n) (nI k) (nI (i + 1)) (isr co k s t h o) → L_X12_sort_167 k136 co f m (h + 1) (nI n) (nI k) (nI i) (nI t) (nI h) o
  | 0, o, hh, hs, ho, c => by
    refine ⟨vin n hn (by omega) rfl, fun _ => ⟨vin 0 (by omega) (by omega) rfl, fun g eg x ex => ?_⟩, fun q => absurd (by rw [nI_clamp (by omega), hf, nI_leI (by omega) (by omega)]; omega) q⟩
    rw [nI_clamp (by omega)] at eg
    rw [eg, ex, nI_1]; exact c
  | h + 1, o, hh, hs, ho, c => by
    obtain ⟨eo, lo⟩ := ot_e ho hnt (show h < nt by omega)
    have vh : vp_in (nI (h + 1)) 128 := vin (h + 1) (by omega) (by omega) rfl
    have vp : vp_in (nI (h + 1) - 1) 128 := vin h (by omega) (by omega) (nI_p1 h)
    have J : ¬ (s < h + 1 ∧ bfr co k t (ot o h)) → J_X12_sort_219 k136 co f m (nI n) (nI k) (nI i) (nI t) (nI (h + 1)) o := fun z => by
      rw [isr_n z] at c
      refine ⟨vh, fun g eg x ex => ?_⟩
      rw [nI_clamp (by omega)] at eg
      rw [eg, ex, nI_1]; exact c
    refine ⟨vin n hn (by omega) rfl, fun q => J (fun z => ?_), fun q => ⟨vp, ?_⟩⟩
    · rw [nI_clamp (by omega), hf, nI_leI (by omega) (by omega)] at q; omega
    rw [nI_clamp (by omega), hf, nI_leI (by omega) (by omega)] at q
    rw [nI_p1, nI_clamp (by omega), eo]
    refine s_behind (by omega) (by omega) hk (fun z => ⟨fun q => absurd q (by decide), fun _ => ⟨vin h (by omega) (by omega) rfl, vh, fun g eg x ex => ?_⟩⟩) (fun z => ⟨fun _ => J (fun y => z y.2), fun q => absurd rfl q⟩)
    rw [isr_p ⟨by omega, z⟩] at c
    rw [nI_clamp (by omega), ← eo] at eg
    rw [eg, ex, nI_p1']
    exact s_mo167 hnt hn hf hk ht hi h _ (by omega) (by omega) (OKo_upd ho (ho h (by omega))) c
theorem s_mo136 {post : (Nat → Int32) → Prop} {k : Nat} (hnt : nt ≤ 128) (hn : n < 255) (hf : f n = nI s) (hm : m n = nI l) (hk : k < 3) (hs : s + l ≤ nt) : ∀ (w i : Nat) (o : Nat → Int32), i + w = s + l → s ≤ i → OKo nt o → post (srt co k s w i o) → L_X12_sort_136 post co f m (w + 1) (nI n) (nI k) (nI i) o
  | 0, i, o, hi, hsi, ho, h => ⟨vin n hn (by omega) rfl, vin n hn (by omega) rfl, fun _ => h, fun q => absurd (by rw [nI_clamp (by omega), hf, hm, nI_add, nI_leI (by omega) (by omega)]; omega) q⟩
  | w + 1, i, o, hi, hsi, ho, h => by
    obtain ⟨eo, lo⟩ := ot_e ho hnt (show i < nt by omega)
    refine ⟨vin n hn (by omega) rfl, vin n hn (by omega) rfl, fun q => ?_, fun _ => ⟨vin i (by omega) (by omega) rfl, fun x ex => ⟨i + 1, ?_⟩⟩⟩
    · rw [nI_clamp (by omega), hf, hm, nI_add, nI_leI (by omega) (by omega)] at q; omega
    rw [nI_clamp (by omega), eo] at ex
    rw [ex]
    refine s_mo167 (t := ot o i) hnt hn hf hk lo (by omega) i o (by omega) hsi ho ?_
    exact s_mo136 hnt hn hf hm hk hs w (i + 1) _ (by omega) (by omega) (OKo_isr lo i o (by omega) ho) h
theorem s_sortM {post : (Nat → Int32) → Prop} (hnt : nt ≤ 128) (ho : OKo nt o) (hn : n < 255) (hf : f n = nI s) (hm : m n = nI l) (hl : 1 ≤ l) (hs : s + l ≤ nt) (h : post (srtN co o s l)) : F_X12_sort (nI n) co f m o post := by
  have st : ∀ N k, k < 3 → L_X12_sort_7 post co f m N (nI n) (nI (wst (spr co o s l) (k + 1)).1) (wst (spr co o s l) (k + 1)).2 (nI (k + 1)) o → L_X12_sort_7 post co f m (N + 1) (nI n) (nI (wst (spr co o s l) k).1) (wst (spr co o s l) k).2 (nI k) o := fun N k hk h => by
    refine ⟨fun q => ?_, fun _ => ⟨vin n hn (by omega) rfl, fun x ex => ⟨l + 1, ?_⟩⟩⟩
    · rw [n_3, nI_leI (by omega) (by omega)] at q; omega
    rw [nI_clamp (by omega), hf] at ex
    rw [ex]
    refine s_mo31 (co := co) hnt ho hn hf hm hk hs (fun q => ?_) (fun q => ?_) l 0 (by omega)
    · unfold wst at h; rw [if_pos q] at h; exact h
    · unfold wst at h; rw [if_neg q] at h; exact h
  refine ⟨4, st 3 0 (by omega) (st 2 1 (by omega) (st 1 2 (by omega) ⟨fun _ => ⟨vin n hn (by omega) rfl, fun x ex => ⟨l - 1 + 1, ?_⟩⟩, fun q => absurd (by decide) q⟩))⟩
  rw [nI_clamp (by omega), hf, nI_1] at ex
  rw [ex]
  exact s_mo136 hnt hn hf hm (wst_lt _) hs (l - 1) (s + 1) o (by omega) (by omega) ho h
end
