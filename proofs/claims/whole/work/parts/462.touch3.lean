/-! PURE PART: touched -/
/-- an edge -/
def edg (co : Nat → Int32) (t c k : Nat) : Int := (co (9 * t + 3 * ((c + 1) % 3) + k)).toInt - (co (9 * t + 3 * c + k)).toInt
def Ew (co : Nat → Int32) (t c k : Nat) : Nat → Int := if k = 0 then v3 0 (edg co t c 2) (-edg co t c 1) else if k = 1 then v3 (-edg co t c 2) 0 (edg co t c 0) else v3 (edg co t c 1) (-edg co t c 0) 0
def Aw (k : Nat) : Nat → Int := if k = 0 then v3 1 0 0 else if k = 1 then v3 0 1 0 else v3 0 0 1
def Nw (no : Nat → Int32) (t : Nat) : Nat → Int := v3 (no (3 * t)).toInt (no (3 * t + 1)).toInt (no (3 * t + 2)).toInt
/-- box and triangle are apart -/
def apt (co no pt : Nat → Int32) (t : Nat) : Prop := prt co pt t (Nw no t) ∨ (∃ k, k < 3 ∧ prt co pt t (Aw k)) ∨ ∃ c, c < 3 ∧ ∃ k, k < 3 ∧ prt co pt t (Ew co t c k)
theorem edg_bd {co : Nat → Int32} {t c k : Nat} (hb : ∀ j, bd 255 (co j).toInt) : bd 510 (edg co t c k) := bd_sub (hb _) (hb _)
theorem wb_v3 {a b c : Int} (h1 : bd 260100 a) (h2 : bd 260100 b) (h3 : bd 260100 c) : wb (v3 a b c) := fun j hj => by
  unfold v3; split
  · exact h1
  · split
    · exact h2
    · exact h3
theorem bd_0 : bd 260100 0 := ⟨by omega, by omega⟩
theorem bd_1 : bd 260100 1 := ⟨by omega, by omega⟩
theorem wb_E {co : Nat → Int32} {t c k : Nat} (hb : ∀ j, bd 255 (co j).toInt) : wb (Ew co t c k) := by
  have e : ∀ k, bd 260100 (edg co t c k) := fun k => bd_le (by decide) (edg_bd hb)
  unfold Ew; split
  · exact wb_v3 bd_0 (e 2) (bd_neg (e 1))
  · split
    · exact wb_v3 (bd_neg (e 2)) bd_0 (e 0)
    · exact wb_v3 (e 1) (bd_neg (e 0)) bd_0
theorem wb_A {k : Nat} : wb (Aw k) := by
  unfold Aw; split
  · exact wb_v3 bd_1 bd_0 bd_0
  · split
    · exact wb_v3 bd_0 bd_1 bd_0
    · exact wb_v3 bd_0 bd_0 bd_1
section
variable {co no pt : Nat → Int32} {t : Nat}
-- the class's
section
variable {post : Int32 → Prop} {mi re : Nat → Int64}
theorem s_75z {n : Nat} {l4 : Int32} (h : post 0) : L_X0_touches_75 post mi re co no (n + 1) (nI t) 1 l4 :=
  ⟨fun _ => ⟨fun _ => h, fun q => absurd q (by decide)⟩, fun _ => ⟨fun _ => ⟨fun _ => h, fun q => absurd q (by decide)⟩, fun q => absurd q (by decide)⟩⟩
theorem s_75 (ht : t < 128) (hm : asI mi (midI pt) 3) (hr : asI re (reaI pt) 3) (hb : ∀ j, bd 255 (co j).toInt) (hp : ∀ j, bd 255 (pt j).toInt) : ∀ (m c : Nat), c + m = 3 → ((∃ c', c ≤ c' ∧ c' < 3 ∧ ∃ k, k < 3 ∧ prt co pt t (Ew co t c' k)) → post 0) → (¬ (∃ c', c ≤ c' ∧ c' < 3 ∧ ∃ k, k < 3 ∧ prt co pt t (Ew co t c' k)) → post 1) → L_X0_touches_75 post mi re co no (m + 1) (nI t) 0 (nI c)
  | 0, c, hc, h1, h0 => by
    have : c = 3 := by omega
    subst this
    exact ⟨fun _ => ⟨fun q => absurd rfl q, fun _ => h0 (fun ⟨c', a, b, _⟩ => by omega)⟩, fun q => absurd (by decide) q⟩
  | m + 1, c, hc, h1, h0 => by
    have e1 : (nI c + 1) - ((nI c + 1) / 3) * 3 = nI ((c + 1) % 3) := by
      rcases (show c = 0 ∨ c = 1 ∨ c = 2 by omega) with rfl | rfl | rfl <;> decide
    have hc1 : (c + 1) % 3 < 3 := by omega
    have eb : ∀ k, bd 260100 (edg co t c k) := fun k => bd_le (by decide) (edg_bd hb)
    refine ⟨fun q => ?_, fun _ => ⟨fun q => absurd rfl q, fun _ x5 e5 => ?_⟩⟩
    · rw [n_3, nI_leI (by omega) (by omega)] at q; omega
    rw [e1] at e5
    subst e5
    refine s_at (k := 0) ht hc1 (by omega) (s_at (k := 0) ht (by omega) (by omega) (fun x ex => s_at (k := 1) ht hc1 (by omega) (s_at (k := 1) ht (by omega) (by omega) (fun y ey => s_at (k := 2) ht hc1 (by omega) (s_at (k := 2) ht (by omega) (by omega) (fun z ez => ?_))))))
    have ex' : x = Int64.ofInt (edg co t c 0) := by rw [ex, o_dif (hb _) (hb _)]; rfl
    have ey' : y = Int64.ofInt (edg co t c 1) := by rw [ey, o_dif (hb _) (hb _)]; rfl
    have ez' : z = Int64.ofInt (edg co t c 2) := by rw [ez, o_dif (hb _) (hb _)]; rfl
    subst ex'; subst ey'; subst ez'
    have found : ∀ k, k < 3 → prt co pt t (Ew co t c k) → ∀ u : Int32, u = nI c + 1 → L_X0_touches_75 post mi re co no (m + 1) (nI t) 1 u := fun k hk hP u eu => s_75z (h1 ⟨c, by omega, by omega, k, hk, hP⟩)
    rw [o_neg, o_neg, o_neg, o_0]
    refine s_parted ht hm hr hb hp (wb_v3 bd_0 (eb 2) (bd_neg (eb 1))) (fun z => ⟨fun _ => found 0 (by omega) z, fun q => absurd q (by decide)⟩) (fun z0 => ⟨fun q => absurd rfl q, fun _ => ?_⟩)
    refine s_parted ht hm hr hb hp (wb_v3 (bd_neg (eb 2)) bd_0 (eb 0)) (fun z => ⟨fun _ => found 1 (by omega) z, fun q => absurd q (by decide)⟩) (fun z1 => ⟨fun q => absurd rfl q, fun _ => ?_⟩)
    refine s_parted ht hm hr hb hp (wb_v3 (eb 1) (bd_neg (eb 0)) bd_0) (fun z => ⟨fun q => absurd q (by decide), fun _ => found 2 (by omega) z⟩) (fun z2 => ⟨fun _ u eu => ?_, fun q => absurd rfl q⟩)
    rw [eu, nI_1]
    refine s_75 ht hm hr hb hp m (c + 1) (by omega) (fun ⟨c', a, b, k, d⟩ => h1 ⟨c', by omega, b, k, d⟩) (fun z => h0 (fun ⟨c', a, b, k, hk, d⟩ => ?_))
    by_cases ec : c' = c
    · subst ec
      rcases (show k = 0 ∨ k = 1 ∨ k = 2 by omega) with rfl | rfl | rfl
      · exact z0 d
      · exact z1 d
      · exact z2 d
    · exact z ⟨c', by omega, b, k, hk, d⟩
theorem s_touchesC (ht : t < 128) (hm : asI mi (midI pt) 3) (hr : asI re (reaI pt) 3) (hb : ∀ j, bd 255 (co j).toInt) (hp : ∀ j, bd 255 (pt j).toInt) (hn : ∀ k, k < 3 → bd 260100 (no (3 * t + k)).toInt) (h0 : apt co no pt t → post 0) (h1 : ¬ apt co no pt t → post 1) : F_X0_touches (nI t) mi re co no post := by
  have found : apt co no pt t → J_X0_touches_66 (J_X0_touches_71 post mi re co no) mi re co no (nI t) := fun z => ⟨1, s_75z (h0 z)⟩
  have at_ : ∀ (k : Nat) {P : Int32 → Prop}, k < 3 → P (no (3 * t + k)) → F_X5_normal (nI t) (nI k) no P := fun k P hk hP => by
    refine ⟨vin (3 * t + k) (by omega) (by omega) (n3k t k), ?_⟩
    rw [n3k, nI_clamp (by omega)]; exact hP
  unfold F_X0_touches
  rw [o_0, o_1]
  refine s_parted ht hm hr hb hp (wb_A (k := 0)) (fun z => ⟨fun _ => found (Or.inr (Or.inl ⟨0, by omega, z⟩)), fun q => absurd q (by decide)⟩) (fun z0 => ⟨fun q => absurd rfl q, fun _ => ?_⟩)
  refine s_parted ht hm hr hb hp (wb_A (k := 1)) (fun z => ⟨fun _ => found (Or.inr (Or.inl ⟨1, by omega, z⟩)), fun q => absurd q (by decide)⟩) (fun z1 => ⟨fun q => absurd rfl q, fun _ => ?_⟩)
  refine s_parted ht hm hr hb hp (wb_A (k := 2)) (fun z => ⟨fun _ => found (Or.inr (Or.inl ⟨2, by omega, z⟩)), fun q => absurd q (by decide)⟩) (fun z2 => ⟨fun q => absurd rfl q, fun _ => ?_⟩)
  refine at_ 0 (by omega) (at_ 1 (by omega) (at_ 2 (by omega) ?_))
  rw [o_i2l, o_i2l, o_i2l]
  refine s_parted ht hm hr hb hp (wb_v3 (hn 0 (by omega)) (hn 1 (by omega)) (hn 2 (by omega))) (fun z => ⟨fun q => absurd q (by decide), fun _ => found (Or.inl z)⟩) (fun z3 => ⟨fun _ => ⟨4, s_75 ht hm hr hb hp 3 0 (by omega) (fun ⟨c, _, hc, k, hk, d⟩ => h0 (Or.inr (Or.inr ⟨c, hc, k, hk, d⟩))) (fun z => h1 (fun a => ?_))⟩, fun q => absurd rfl q⟩)
  rcases a with a | ⟨k, hk, a⟩ | ⟨c, hc, k, hk, a⟩
  · exact z3 a
  · rcases (show k = 0 ∨ k = 1 ∨ k = 2 by omega) with rfl | rfl | rfl
    · exact z0 a
    · exact z1 a
    · exact z2 a
  · exact z ⟨c, by omega, hc, k, hk, a⟩
end
-- the reference's
theorem s_wayIs {a b c : Int} {way : Nat → Int64} {post : (Nat → Int64) → Prop} (h : ∀ way', asI way' (v3 a b c) 3 → post way') : F_X12_wayIs (Int64.ofInt a) (Int64.ofInt b) (Int64.ofInt c) way post := by
  refine ⟨vin 0 (by omega) (by omega) rfl, fun g eg => ⟨vin 1 (by omega) (by omega) rfl, fun g2 eg2 => ⟨vin 2 (by omega) (by omega) rfl, fun g3 eg3 => h _ ?_⟩⟩⟩
  rw [cl_0] at eg
  rw [cl_1] at eg2
  rw [cl_2] at eg3
  rw [eg3, eg2, eg]
  exact asI_s (F := v3 a b c) (asI_s (F := v3 a b c) (asI_s (F := v3 a b c) (asI_0 _ _)))
variable {mno : Nat → Int64}
theorem s_91z {k40 : Int32 → Int32 → Int32 → (Nat → Int64) → Prop} {n k : Nat} {l4 : Int32} {way : Nat → Int64} (h : k40 (nI t) 1 (nI (k + 1)) way) : L_X12_touches_91 k40 pt co mno (n + 1) (nI t) 1 (nI k) l4 way :=
  ⟨fun _ x ex => by rw [ex, nI_1]; exact h, fun _ => ⟨fun _ x ex => by rw [ex, nI_1]; exact h, fun q => absurd q (by decide)⟩⟩
theorem s_91 {k40 : Int32 → Int32 → Int32 → (Nat → Int64) → Prop} {k : Nat} (ht : t < 128) (hk : k < 3) (hb : ∀ j, bd 255 (co j).toInt) (hp : ∀ j, bd 255 (pt j).toInt) : ∀ (m c : Nat) (way : Nat → Int64), c + m = 3 → ((∃ c', c ≤ c' ∧ c' < 3 ∧ prt co pt t (Ew co t c' k)) → ∀ way, k40 (nI t) 1 (nI (k + 1)) way) → (¬ (∃ c', c ≤ c' ∧ c' < 3 ∧ prt co pt t (Ew co t c' k)) → ∀ way, k40 (nI t) 0 (nI (k + 1)) way) → L_X12_touches_91 k40 pt co mno (m + 1) (nI t) 0 (nI k) (nI c) way
  | 0, c, way, hc, h1, h0 => by
    have : c = 3 := by omega
    subst this
    exact ⟨fun _ x ex => by rw [ex, nI_1]; exact h0 (fun ⟨c', a, b, _⟩ => by omega) _, fun q => absurd (by decide) q⟩
  | m + 1, c, way, hc, h1, h0 => by
    have e1 : (9 : Int32) * nI t + 3 * ((nI c + 1) - ((nI c + 1) / 3) * 3) = nI (9 * t + 3 * ((c + 1) % 3)) := by
      have : (nI c + 1) - ((nI c + 1) / 3) * 3 = nI ((c + 1) % 3) := by
        rcases (show c = 0 ∨ c = 1 ∨ c = 2 by omega) with rfl | rfl | rfl <;> decide
      rw [this, n_3, n_9, pk_mul, pk_mul, nI_add]
    have e2 : (9 : Int32) * nI t + 3 * nI c = nI (9 * t + 3 * c) := by rw [n_3, n_9, pk_mul, pk_mul, nI_add]
    have hc1 : (c + 1) % 3 < 3 := by omega
    have a1 : ∀ k : Nat, nI (9 * t + 3 * ((c + 1) % 3)) + nI k = nI (9 * t + 3 * ((c + 1) % 3) + k) := fun k => nI_add _ k
    have a2 : ∀ k : Nat, nI (9 * t + 3 * c) + nI k = nI (9 * t + 3 * c + k) := fun k => nI_add _ k
    have eb : ∀ k, bd 260100 (edg co t c k) := fun k => bd_le (by decide) (edg_bd hb)
    refine ⟨fun q => ?_, fun _ => ⟨fun q => absurd rfl q, fun _ => ?_⟩⟩
    · rw [n_3, nI_leI (by omega) (by omega)] at q; omega
    rw [e1, e2]
    refine ⟨vin _ (by omega) (by omega) rfl, vin _ (by omega) (by omega) rfl, fun x ex => ⟨vin _ (by omega) (by omega) (a1 1), vin _ (by omega) (by omega) (a2 1), fun y ey => ⟨vin _ (by omega) (by omega) (a1 2), vin _ (by omega) (by omega) (a2 2), fun z ez => ?_⟩⟩⟩
    have ex' : x = Int64.ofInt (edg co t c 0) := by rw [ex, nI_clamp (by omega), nI_clamp (by omega), o_dif (hb _) (hb _)]; rfl
    have ey' : y = Int64.ofInt (edg co t c 1) := by rw [ey, n_1, a1, a2, nI_clamp (by omega), nI_clamp (by omega), o_dif (hb _) (hb _)]; rfl
    have ez' : z = Int64.ofInt (edg co t c 2) := by rw [ez, n_2, a1, a2, nI_clamp (by omega), nI_clamp (by omega), o_dif (hb _) (hb _)]; rfl
    subst ex'; subst ey'; subst ez'
    have J : ∀ (u : Nat → Int) (way' : Nat → Int64), asI way' u 3 → (∀ j, j < 3 → u j = -Ew co t c k j) → J_X12_touches_262 (L_X12_touches_91 k40 pt co mno (m + 1)) pt co mno (nI t) (nI k) (nI c) way' := by
      intro u way' hu hn
      refine s_areApart ht hu hb hp (fun j hj => by rw [hn j hj]; exact bd_neg (wb_E hb j hj)) (fun z x ex => ?_) (fun z x ex => ?_)
      · exact s_91z (h1 ⟨c, by omega, by omega, (prt_neg hn).mp z⟩ _)
      · rw [ex, nI_1]
        refine s_91 ht hk hb hp m (c + 1) _ (by omega) (fun ⟨c', a, b, d⟩ => h1 ⟨c', by omega, b, d⟩) (fun y => h0 (fun ⟨c', a, b, d⟩ => ?_))
        by_cases ec : c' = c
        · subst ec; exact z ((prt_neg hn).mpr d)
        · exact y ⟨c', by omega, b, d⟩
    rw [o_neg, o_neg, o_neg, o_0]
    rcases (show k = 0 ∨ k = 1 ∨ k = 2 by omega) with rfl | rfl | rfl
    · refine ⟨fun q => absurd rfl q, fun _ => s_wayIs (fun way' hw => J _ way' hw (fun j hj => ?_))⟩
      rcases (show j = 0 ∨ j = 1 ∨ j = 2 by omega) with rfl | rfl | rfl
      · rfl
      · rfl
      · show edg co t c 1 = - -edg co t c 1; omega
    · refine ⟨fun _ => ⟨fun q => absurd rfl q, fun _ => s_wayIs (fun way' hw => J _ way' hw (fun j hj => ?_))⟩, fun q => absurd q (by decide)⟩
      rcases (show j = 0 ∨ j = 1 ∨ j = 2 by omega) with rfl | rfl | rfl
      · show edg co t c 2 = - -edg co t c 2; omega
      · rfl
      · rfl
    · refine ⟨fun _ => ⟨fun _ => s_wayIs (fun way' hw => J _ way' hw (fun j hj => ?_)), fun q => absurd q (by decide)⟩, fun q => absurd q (by decide)⟩
      rcases (show j = 0 ∨ j = 1 ∨ j = 2 by omega) with rfl | rfl | rfl
      · rfl
      · show edg co t c 0 = - -edg co t c 0; omega
      · rfl
section
variable {post : Int32 → (Nat → Int64) → Prop}
theorem s_40z {n : Nat} {l3 : Int32} {way : Nat → Int64} (h : ∀ way, post 0 way) : L_X12_touches_40 post pt co mno (n + 1) (nI t) 1 l3 way :=
  ⟨fun _ => ⟨fun _ => h _, fun q => absurd q (by decide)⟩, fun _ => ⟨fun _ => ⟨fun _ => h _, fun q => absurd q (by decide)⟩, fun q => absurd q (by decide)⟩⟩
theorem s_40 (ht : t < 128) (hb : ∀ j, bd 255 (co j).toInt) (hp : ∀ j, bd 255 (pt j).toInt) : ∀ (m k : Nat) (way : Nat → Int64), k + m = 3 → ((∃ k', k ≤ k' ∧ k' < 3 ∧ (prt co pt t (Aw k') ∨ ∃ c, c < 3 ∧ prt co pt t (Ew co t c k'))) → ∀ way, post 0 way) → (¬ (∃ k', k ≤ k' ∧ k' < 3 ∧ (prt co pt t (Aw k') ∨ ∃ c, c < 3 ∧ prt co pt t (Ew co t c k'))) → ∀ way, post 1 way) → L_X12_touches_40 post pt co mno (m + 1) (nI t) 0 (nI k) way
  | 0, k, way, hk, h1, h0 => by
    have : k = 3 := by omega
    subst this
    exact ⟨fun _ => ⟨fun q => absurd rfl q, fun _ => h0 (fun ⟨c', a, b, _⟩ => by omega) _⟩, fun q => absurd (by decide) q⟩
  | m + 1, k, way, hk, h1, h0 => by
    have go : ∀ a b c : Int, Aw k = v3 a b c → J_X12_touches_79 (L_X12_touches_40 post pt co mno (m + 1)) pt co mno (nI t) (nI k) (Int64.ofInt a) (Int64.ofInt b) (Int64.ofInt c) way := by
      intro a b c e
      refine s_wayIs (fun way' hw => ?_)
      rw [← e] at hw
      refine s_areApart ht hw hb hp wb_A (fun z => ⟨1, s_91z (s_40z (h1 ⟨k, by omega, by omega, Or.inl z⟩))⟩) (fun z => ⟨4, s_91 ht (by omega) hb hp 3 0 way' (by omega) (fun ⟨c', a, b, d⟩ way => s_40z (h1 ⟨k, by omega, by omega, Or.inr ⟨c', b, d⟩⟩)) (fun y way => ?_)⟩)
      refine s_40 ht hb hp m (k + 1) way (by omega) (fun ⟨k', a, b, d⟩ => h1 ⟨k', by omega, b, d⟩) (fun x => h0 (fun ⟨k', a, b, d⟩ => ?_))
      by_cases ek : k' = k
      · subst ek
        rcases d with d | ⟨c', hc', d⟩
        · exact z d
        · exact y ⟨c', by omega, hc', d⟩
      · exact x ⟨k', by omega, b, d⟩
    refine ⟨fun q => ?_, fun _ => ⟨fun q => absurd rfl q, fun _ => ?_⟩⟩
    · rw [n_3, nI_leI (by omega) (by omega)] at q; omega
    rcases (show k = 0 ∨ k = 1 ∨ k = 2 by omega) with rfl | rfl | rfl
    · exact ⟨fun q => absurd rfl q, fun _ => ⟨fun _ => ⟨fun _ => go 1 0 0 rfl, fun q => absurd q (by decide)⟩, fun q => absurd q (by decide)⟩⟩
    · exact ⟨fun _ => ⟨fun q => absurd rfl q, fun _ => ⟨fun _ => go 0 1 0 rfl, fun q => absurd q (by decide)⟩⟩, fun q => absurd q (by decide)⟩
    · exact ⟨fun _ => ⟨fun _ => ⟨fun q => absurd rfl q, fun _ => go 0 0 1 rfl⟩, fun q => absurd q (by decide)⟩, fun q => absurd q (by decide)⟩
theorem s_touchesM {way : Nat → Int64} (ht : t < 128) (hm : ∀ j, mno j = (no j).toInt64) (hb : ∀ j, bd 255 (co j).toInt) (hp : ∀ j, bd 255 (pt j).toInt) (hn : ∀ k, k < 3 → bd 260100 (no (3 * t + k)).toInt) (h0 : apt co no pt t → ∀ way, post 0 way) (h1 : ¬ apt co no pt t → ∀ way, post 1 way) : F_X12_touches (nI t) pt co mno way post := by
  have m0 : (3 : Int32) * nI t = nI (3 * t) := pk_mul 3 t
  have m1 : (3 : Int32) * nI t + 1 = nI (3 * t + 1) := n3k t 1
  have m2 : (3 : Int32) * nI t + 2 = nI (3 * t + 2) := n3k t 2
  refine ⟨vin _ (by omega) (by omega) m0, vin _ (by omega) (by omega) m1, vin _ (by omega) (by omega) m2, ?_⟩
  rw [m1, m2, m0, nI_clamp (by omega), nI_clamp (by omega), nI_clamp (by omega), hm, hm, hm, o_i2l, o_i2l, o_i2l]
  refine s_wayIs (fun way' hw => ?_)
  refine s_areApart (w := Nw no t) ht hw hb hp (wb_v3 (hn 0 (by omega)) (hn 1 (by omega)) (hn 2 (by omega))) (fun z => ⟨1, s_40z (h0 (Or.inl z))⟩) (fun z => ⟨4, s_40 ht hb hp 3 0 way' (by omega) (fun ⟨k, _, hk, d⟩ => h0 (Or.inr ?_)) (fun y => h1 (fun a => ?_))⟩)
  · rcases d with d | ⟨c, hc, d⟩
    · exact Or.inl ⟨k, hk, d⟩
    · exact Or.inr ⟨c, hc, k, hk, d⟩
  · rcases a with a | ⟨k, hk, a⟩ | ⟨c, hc, k, hk, a⟩
    · exact z a
    · exact y ⟨k, by omega, hk, Or.inl a⟩
    · exact y ⟨k, by omega, hk, Or.inr ⟨c, hc, a⟩⟩
end
end
theorem s_td31 {post : Int32 → (Nat → Int64) → (Nat → Int64) → (Nat → Int32) → Prop} {co no pt : Nat → Int32} {nt : Nat} {pm l1 : Int32} {mi re : Nat → Int64} (hn : nt ≤ 128) (hm : asI mi (midI pt) 3) (hr : asI re (reaI pt) 3) (hb : ∀ j, bd 255 (co j).toInt) (hp : ∀ j, bd 255 (pt j).toInt) (hN : ∀ t, t < nt → ∀ k, k < 3 → bd 260100 (no (3 * t + k)).toInt) (k : ∀ M, post (pick (fun t => ¬ apt co no pt t) l1 nt 0 0) mi re M) :
    ∀ (m i : Nat) (M : Nat → Int32), i + m = nt → (∀ t, t < i → (¬ M t = 0 ↔ ¬ apt co no pt t)) → L_X11_touched_31 post pm pt (nI nt) co no (m + 1) l1 (nI i) mi re M
  | 0, i, M, hi, h => by
    have : i = nt := by omega
    subst this
    refine ⟨fun _ => s_pickMarked hn ?_, fun q => absurd (by rw [nI_leI (by omega) (by omega)]; omega) q⟩
    rw [pick_congr (R := fun t => ¬ apt co no pt t) i 0 0 (fun j _ hj => h j (by omega))]
    exact k M
  | m + 1, i, M, hi, h => by
    refine ⟨fun q => ?_, fun _ => ?_⟩
    · rw [nI_leI (by omega) (by omega)] at q; omega
    refine s_touchesC (pt := pt) (by omega) hm hr hb hp (hN i (by omega)) (fun z => ⟨vin i (by omega) (by omega) rfl, fun g eg x ex => ?_⟩) (fun z => ⟨vin i (by omega) (by omega) rfl, fun g eg x ex => ?_⟩)
    · rw [nI_clamp (by omega), nar0] at eg
      rw [ex, nI_1]
      refine s_td31 hn hm hr hb hp hN k m (i + 1) g (by omega) (fun t ht => ?_)
      rw [eg]; unfold upd
      by_cases e : t = i
      · subst e; rw [if_pos rfl]; exact ⟨fun c => absurd rfl c, fun c => absurd z c⟩
      · rw [if_neg e]; exact h t (by omega)
    · rw [nI_clamp (by omega), nar1] at eg
      rw [ex, nI_1]
      refine s_td31 hn hm hr hb hp hN k m (i + 1) g (by omega) (fun t ht => ?_)
      rw [eg]; unfold upd
      by_cases e : t = i
      · subst e; rw [if_pos rfl]; exact ⟨fun _ => z, fun _ => by decide⟩
      · rw [if_neg e]; exact h t (by omega)
theorem s_td19 {post : Int32 → (Nat → Int64) → Prop} {co no pt : Nat → Int32} {mno : Nat → Int64} {nt : Nat} {pm k : Int32} (hn : nt ≤ 128) (hm : ∀ j, mno j = (no j).toInt64) (hb : ∀ j, bd 255 (co j).toInt) (hp : ∀ j, bd 255 (pt j).toInt) (hN : ∀ t, t < nt → ∀ k, k < 3 → bd 260100 (no (3 * t + k)).toInt) :
    ∀ (m i c : Nat) (way : Nat → Int64), i + m = nt → (∀ way, post (pick (fun t => ¬ apt co no pt t) k m i c) way) → L_X12_touched_19 post pm (nI nt) pt co mno (m + 1) k (nI c) (nI i) way
  | 0, i, c, way, hi, h => by
    have : i = nt := by omega
    subst this
    have h := h way
    unfold pick at h
    refine ⟨fun _ => ⟨fun q => by rw [if_neg q] at h; exact h, fun q => by rw [if_pos q] at h; exact h⟩, fun q => absurd (by rw [nI_leI (by omega) (by omega)]; omega) q⟩
  | m + 1, i, c, way, hi, h => by
    refine ⟨fun q => ?_, fun _ => ?_⟩
    · rw [nI_leI (by omega) (by omega)] at q; omega
    refine s_touchesM (no := no) (by omega) hm hb hp (hN i (by omega)) (fun z way => ⟨fun _ x ex => ?_, fun q => absurd rfl q⟩) (fun z way => ⟨fun q => absurd q (by decide), fun _ => ⟨fun q2 x ex y ey => ?_, fun q2 => ?_⟩⟩)
    · rw [pick_n (fun y => y z)] at h
      rw [ex, nI_1]; exact s_td19 hn hm hb hp hN m (i + 1) c way (by omega) h
    · rw [pick_q z q2] at h
      rw [ex, ey, nI_1, nI_1]; exact s_td19 hn hm hb hp hN m (i + 1) (c + 1) way (by omega) h
    · rw [pick_p z q2] at h; exact h way
theorem op_touched {a xm mm xn mn : Int32} {nt : Nat} {xpc mpc xc xno xt mc mt xmk : Nat → Int32} {mno bm br wy : Nat → Int64} (J : IP xm xpc mm mpc) (I : IM nt xn xc xno xt mn mc mno mt)
    {Q : Int32 → (Nat → Int64) → (Nat → Int64) → (Nat → Int32) → Int32 → (Nat → Int64) → Prop} (k : ∀ r b1 b2 M w, Q r b1 b2 M r w) :
    F_X11_touched a xm xpc xn xc xno bm br xmk (fun r v1 v2 v3 => F_X12_touched a mm mn mpc mc mno wy (fun r' w1 => Q r v1 v2 v3 r' w1)) := by
  obtain ⟨np, hnp, rfl, rfl, rfl, hbd⟩ := J
  obtain ⟨hnt, rfl, rfl, rfl, rfl, hcb, hmn, hcr⟩ := I
  have hN : ∀ t, t < nt → ∀ k, k < 3 → bd 260100 (xno (3 * t + k)).toInt := fun t ht => NC_bd (fun k hk => hcr t k ht hk) hcb
  have e1 : (-1 : Int32).toInt = -1 := rfl
  have p2 : nI np < 2 ↔ np < 2 := by rw [i32_lt, nI_toInt (by omega)]; show (np : Int) < 2 ↔ _; omega
  have p3 : 2 ≤ nI np ↔ 2 ≤ np := by rw [i32_le, nI_toInt (by omega)]; show (2 : Int) ≤ np ↔ _; omega
  refine ⟨fun q => ?_, fun q => ⟨fun q2 => s_span hbd (fun mi re hm hr => ⟨nt + 1, s_td31 hnt hm hr hcb hbd hN (fun M => ?_) nt 0 _ (by omega) (fun t h => absurd h (by omega))⟩), fun q2 => ?_⟩⟩
  · refine ⟨fun _ => k _ _ _ _ _, fun _ => ⟨fun c => absurd c ?_, fun _ => k _ _ _ _ _⟩⟩
    rw [i32_lt] at q; rw [i32_le]; omega
  · rw [p3] at q2
    refine ⟨fun c => absurd (p2.mp c) (by omega), fun _ => ⟨fun _ => ⟨nt + 1, s_td19 hnt hmn hcb hbd hN nt 0 0 _ (by omega) (fun w => k _ _ _ _ _)⟩, fun c => absurd ?_ c⟩⟩
    rw [i32_lt] at q; rw [i32_le]; omega
  · rw [p3] at q2
    exact ⟨fun _ => k _ _ _ _ _, fun c => absurd (p2.mpr (by omega)) c⟩
