/-! PURE PART: the reference's rays -/
theorem s_triple {D s : Nat → Int} {al se : Nat → Int64} {a b : Nat} {post : Int64 → Prop} (ha : a ≤ 6) (hb : b ≤ 6) (hD : asI al D 3) (hs : asI se s 9) (h : post (Int64.ofInt (tr3 D s a b))) : F_X12_triple (nI a) (nI b) al se post := by
  have a1 : nI a + 1 = nI (a + 1) := nI_1 a
  have a2 : nI a + 2 = nI (a + 2) := nI_add a 2
  have b1 : nI b + 1 = nI (b + 1) := nI_1 b
  have b2 : nI b + 2 = nI (b + 2) := nI_add b 2
  have v0 : vp_in 0 3 := vin 0 (by omega) (by omega) rfl
  have v1 : vp_in 1 3 := vin 1 (by omega) (by omega) rfl
  have v2 : vp_in 2 3 := vin 2 (by omega) (by omega) rfl
  have A0 : vp_in (nI a) 9 := vin a (by omega) (by omega) rfl
  have A1 : vp_in (nI a + 1) 9 := vin (a + 1) (by omega) (by omega) a1
  have A2 : vp_in (nI a + 2) 9 := vin (a + 2) (by omega) (by omega) a2
  have B0 : vp_in (nI b) 9 := vin b (by omega) (by omega) rfl
  have B1 : vp_in (nI b + 1) 9 := vin (b + 1) (by omega) (by omega) b1
  have B2 : vp_in (nI b + 2) 9 := vin (b + 2) (by omega) (by omega) b2
  refine ⟨v0, A1, B2, A2, B1, v1, A2, B0, A0, B2, v2, A0, B1, A1, B0, ?_⟩
  rw [a1, a2, b1, b2, cl_0, cl_1, cl_2, nI_clamp (by omega), nI_clamp (by omega), nI_clamp (by omega), nI_clamp (by omega), nI_clamp (by omega), nI_clamp (by omega), hD 0 (by omega), hD 1 (by omega), hD 2 (by omega), hs a (by omega), hs (a + 1) (by omega), hs (a + 2) (by omega), hs b (by omega), hs (b + 1) (by omega), hs (b + 2) (by omega)]
  simp only [o_mul, o_sub, o_add]
  exact h
section
variable {post : Int32 → Int64 → Int64 → (Nat → Int64) → (Nat → Int64) → Prop} {co no : Nat → Int32} {mno fr al : Nat → Int64} {t : Nat} {F D : Nat → Int}
theorem st_184 {n k : Nat} {av : Int64} {we se : Nat → Int64} (hk : k < 3) (hD : asI al D 3) (hs : asI se (sv co t F) 9) (B : RB co no t F D) (hne : be no t D ≠ 0)
    (h1 : 0 ≤ sb (be no t D) (wt co t F D k) → L_X12_hits_184 post co mno fr al n 1 (nI (k + 1)) av (Int64.ofInt (be no t D)) (vp_updL we k (Int64.ofInt (wt co t F D k))) se)
    (h0 : ¬ 0 ≤ sb (be no t D) (wt co t F D k) → L_X12_hits_184 post co mno fr al n 0 (nI (k + 1)) av (Int64.ofInt (be no t D)) (vp_updL we k (Int64.ofInt (wt co t F D k))) se) :
    L_X12_hits_184 post co mno fr al (n + 1) 1 (nI k) av (Int64.ofInt (be no t D)) we se := by
  have e1 : (3 : Int32) * ((nI k + 1) - ((nI k + 1) / 3) * 3) = nI (3 * ((k + 1) % 3)) := by
    rcases (show k = 0 ∨ k = 1 ∨ k = 2 by omega) with rfl | rfl | rfl <;> decide
  have e2 : (3 : Int32) * ((nI k + 2) - ((nI k + 2) / 3) * 3) = nI (3 * ((k + 2) % 3)) := by
    rcases (show k = 0 ∨ k = 1 ∨ k = 2 by omega) with rfl | rfl | rfl <;> decide
  have vk : vp_in (nI k) 3 := vin k (by omega) (by omega) rfl
  refine ⟨fun q => ?_, fun _ => ?_⟩
  · rw [n_3, nI_leI (by omega) (by omega)] at q; omega
  rw [e1, e2]
  refine s_triple (by omega) (by omega) hD hs ⟨vk, fun g eg => ⟨fun q => absurd q (by decide), fun _ => ⟨vk, ?_⟩⟩⟩
  rw [nI_clamp (by omega)] at eg
  have eg' : g = vp_updL we k (Int64.ofInt (wt co t F D k)) := eg
  have gk : g (nI k).toNatClampNeg = Int64.ofInt (wt co t F D k) := by rw [nI_clamp (by omega), eg', uL_s]
  rw [gk, lg_eq0 (B.2.2 k hk), lg_le0 (B.2.2 k hk)]
  have n1 : 0 ≤ sb (be no t D) (wt co t F D k) → ∀ x : Int32, x = nI k + 1 → L_X12_hits_184 post co mno fr al n 1 x av (Int64.ofInt (be no t D)) g se := fun z x ex => by rw [ex, nI_1, eg']; exact h1 z
  have n0 : ¬ 0 ≤ sb (be no t D) (wt co t F D k) → ∀ x : Int32, x = nI k + 1 → L_X12_hits_184 post co mno fr al n 0 x av (Int64.ofInt (be no t D)) g se := fun z x ex => by rw [ex, nI_1, eg']; exact h0 z
  have lb : lg_cmp (Int64.ofInt (be no t D)) 0 ≤ 0 ↔ be no t D ≤ 0 := lg_le0 B.1
  clear h1 h0 eg eg' gk
  unfold sb at n1 n0
  refine ⟨fun q => n1 ?_, fun q => ⟨vk, fun q2 => ⟨fun q3 => ⟨fun q4 => absurd rfl q4, fun _ => n1 ?_⟩, fun q3 => ⟨fun _ => n0 ?_, fun q4 => absurd q4 (by decide)⟩⟩, fun q2 => ⟨fun q3 => ⟨fun _ => n0 ?_, fun q4 => absurd q4 (by decide)⟩, fun q3 => ⟨fun q4 => absurd rfl q4, fun _ => n1 ?_⟩⟩⟩⟩
  · split <;> omega
  · rw [lb] at q3; rw [if_pos (by omega)]; omega
  · rw [lb] at q3; rw [if_neg (by omega)]; omega
  · rw [lb] at q3; rw [if_pos (by omega)]; omega
  · rw [lb] at q3; rw [if_neg (by omega)]; omega
theorem st_184z {n k : Nat} {av bv : Int64} {we se : Nat → Int64} (hk : k < 3) (hD : asI al D 3) (hs : asI se (sv co t F) 9)
    (h0 : L_X12_hits_184 post co mno fr al n 0 (nI (k + 1)) av bv (vp_updL we k (Int64.ofInt (wt co t F D k))) se) :
    L_X12_hits_184 post co mno fr al (n + 1) 0 (nI k) av bv we se := by
  have e1 : (3 : Int32) * ((nI k + 1) - ((nI k + 1) / 3) * 3) = nI (3 * ((k + 1) % 3)) := by
    rcases (show k = 0 ∨ k = 1 ∨ k = 2 by omega) with rfl | rfl | rfl <;> decide
  have e2 : (3 : Int32) * ((nI k + 2) - ((nI k + 2) / 3) * 3) = nI (3 * ((k + 2) % 3)) := by
    rcases (show k = 0 ∨ k = 1 ∨ k = 2 by omega) with rfl | rfl | rfl <;> decide
  have vk : vp_in (nI k) 3 := vin k (by omega) (by omega) rfl
  refine ⟨fun q => ?_, fun _ => ?_⟩
  · rw [n_3, nI_leI (by omega) (by omega)] at q; omega
  rw [e1, e2]
  refine s_triple (by omega) (by omega) hD hs ⟨vk, fun g eg => ⟨fun _ x ex => ?_, fun q => absurd rfl q⟩⟩
  rw [nI_clamp (by omega)] at eg
  have eg' : g = vp_updL we k (Int64.ofInt (wt co t F D k)) := eg
  rw [ex, nI_1, eg']; exact h0
theorem s_184 {av : Int64} {we se : Nat → Int64} (hD : asI al D 3) (hs : asI se (sv co t F) 9) (B : RB co no t F D) (hne : be no t D ≠ 0)
    (h1 : 0 ≤ sb (be no t D) (wt co t F D 0) → 0 ≤ sb (be no t D) (wt co t F D 1) → 0 ≤ sb (be no t D) (wt co t F D 2) → ∀ we' se', asI we' (wt co t F D) 3 → post 1 av (Int64.ofInt (be no t D)) we' se')
    (h0 : ¬ (0 ≤ sb (be no t D) (wt co t F D 0) ∧ 0 ≤ sb (be no t D) (wt co t F D 1) ∧ 0 ≤ sb (be no t D) (wt co t F D 2)) → ∀ a b we' se', post 0 a b we' se') :
    L_X12_hits_184 post co mno fr al 4 1 0 av (Int64.ofInt (be no t D)) we se := by
  have f0 : (¬ (0 ≤ sb (be no t D) (wt co t F D 0) ∧ 0 ≤ sb (be no t D) (wt co t F D 1) ∧ 0 ≤ sb (be no t D) (wt co t F D 2))) → ∀ we', L_X12_hits_184 post co mno fr al 1 0 (nI 3) av (Int64.ofInt (be no t D)) we' se := fun z we' => ⟨fun _ => ⟨bz_0, h0 z _ _ _ _⟩, fun q => absurd (by decide) q⟩
  refine st_184 (k := 0) (by omega) hD hs B hne (fun y0 => st_184 (k := 1) (by omega) hD hs B hne (fun y1 => st_184 (k := 2) (by omega) hD hs B hne (fun y2 => ⟨fun _ => ⟨bz_1, h1 y0 y1 y2 _ _ ?_⟩, fun q => absurd (by decide) q⟩) (fun y2 => f0 (fun z => y2 z.2.2) _)) (fun y1 => st_184z (k := 2) (by omega) hD hs (f0 (fun z => y1 z.2.1) _))) (fun y0 => st_184z (k := 1) (by omega) hD hs (st_184z (k := 2) (by omega) hD hs (f0 (fun z => y0 z.1) _)))
  exact asI_s (F := wt co t F D) (asI_s (F := wt co t F D) (asI_s (F := wt co t F D) (asI_0 _ _)))
theorem s_141 (ht : t < 128) (hF : asI fr F 3) {av bv : Int64} {we : Nat → Int64} (fin : ∀ se, asI se (sv co t F) 9 → L_X12_hits_184 post co mno fr al 4 1 0 av bv we se) :
    ∀ (m k : Nat) (se : Nat → Int64), k + m = 9 → asI se (sv co t F) k → L_X12_hits_141 post co mno fr al (m + 1) (nI t) (nI k) av bv we se
  | 0, k, se, hk, hs => ⟨fun _ => ⟨4, fin se (by have : k = 9 := by omega
                                                 subst this; exact hs)⟩, fun q => absurd (by rw [n_9, nI_leI (by omega) (by omega)]; omega) q⟩
  | m + 1, k, se, hk, hs => by
    have e3 : nI k - (nI k / 3) * 3 = nI (k % 3) := by
      rcases (show k = 0 ∨ k = 1 ∨ k = 2 ∨ k = 3 ∨ k = 4 ∨ k = 5 ∨ k = 6 ∨ k = 7 ∨ k = 8 by omega) with rfl | rfl | rfl | rfl | rfl | rfl | rfl | rfl | rfl <;> decide
    refine ⟨fun q => ?_, fun _ => ⟨vin (9 * t + k) (by omega) (by omega) (n9k t k), vin (k % 3) (by omega) (by omega) e3, vin k (by omega) (by omega) rfl, fun g eg x ex => ?_⟩⟩
    · rw [n_9, nI_leI (by omega) (by omega)] at q; omega
    rw [n9k, e3, nI_clamp (by omega), nI_clamp (by omega), nI_clamp (by omega), hF _ (by omega), o_i2l, o_sub] at eg
    rw [ex, nI_1, eg]
    exact s_141 ht hF fin m (k + 1) _ (by omega) (asI_s (F := sv co t F) hs)
theorem st_h12 {n k : Nat} {a b : Int} {we se : Nat → Int64} (ht : t < 128) (hk : k < 3) (hm : ∀ j, mno j = (no j).toInt64) (hF : asI fr F 3) (hD : asI al D 3)
    (h : L_X12_hits_12 post co mno fr al n (nI t) (nI (k + 1)) (Int64.ofInt (a + ((co (9 * t + k)).toInt - F k) * (no (3 * t + k)).toInt)) (Int64.ofInt (b + D k * (no (3 * t + k)).toInt)) we se) :
    L_X12_hits_12 post co mno fr al (n + 1) (nI t) (nI k) (Int64.ofInt a) (Int64.ofInt b) we se := by
  refine ⟨fun q => ?_, fun _ => ⟨vin k (by omega) (by omega) rfl, vin (3 * t + k) (by omega) (by omega) (n3k t k), fun x ex => ⟨vin (9 * t + k) (by omega) (by omega) (n9k t k), vin k (by omega) (by omega) rfl, vin (3 * t + k) (by omega) (by omega) (n3k t k), fun y ey z ez => ?_⟩⟩⟩
  · rw [n_3, nI_leI (by omega) (by omega)] at q; omega
  rw [n3k, nI_clamp (by omega), nI_clamp (by omega), hD k hk, hm, o_i2l, o_mul, o_add] at ex
  rw [n3k, n9k, nI_clamp (by omega), nI_clamp (by omega), nI_clamp (by omega), hF k hk, hm, o_i2l, o_i2l, o_sub, o_mul, o_add] at ey
  rw [ex, ey, ez, nI_1]; exact h
theorem s_hits {av bv : Int64} {we se : Nat → Int64} (ht : t < 128) (hm : ∀ j, mno j = (no j).toInt64) (hF : asI fr F 3) (hD : asI al D 3) (B : RB co no t F D)
    (h1 : hitp co no t F D → ∀ we' se', asI we' (wt co t F D) 3 → post 1 (Int64.ofInt (ab co no t F)) (Int64.ofInt (be no t D)) we' se')
    (h0 : ¬ hitp co no t F D → ∀ a b we' se', post 0 a b we' se') : F_X12_hits (nI t) av bv co mno we fr al se post := by
  refine ⟨4, st_h12 (a := 0) (b := 0) (k := 0) ht (by omega) hm hF hD (st_h12 (k := 1) ht (by omega) hm hF hD (st_h12 (k := 2) ht (by omega) hm hF hD ⟨fun _ => ?_, fun q => absurd (by decide) q⟩))⟩
  have ea : 0 + ((co (9 * t + 0)).toInt - F 0) * (no (3 * t + 0)).toInt + ((co (9 * t + 1)).toInt - F 1) * (no (3 * t + 1)).toInt + ((co (9 * t + 2)).toInt - F 2) * (no (3 * t + 2)).toInt = ab co no t F := by
    unfold ab sid dotN
    show 0 + ((co (9 * t)).toInt - F 0) * (no (3 * t)).toInt + ((co (9 * t + 1)).toInt - F 1) * (no (3 * t + 1)).toInt + ((co (9 * t + 2)).toInt - F 2) * (no (3 * t + 2)).toInt = _
    grind
  have eb : 0 + D 0 * (no (3 * t + 0)).toInt + D 1 * (no (3 * t + 1)).toInt + D 2 * (no (3 * t + 2)).toInt = be no t D := by
    unfold be dotN
    show 0 + D 0 * (no (3 * t)).toInt + D 1 * (no (3 * t + 1)).toInt + D 2 * (no (3 * t + 2)).toInt = _
    grind
  rw [ea, eb, lg_eq0 B.1, lg_eq0 B.2.1, lg_le0 B.2.1]
  have bad : ¬ (be no t D ≠ 0 ∧ 0 < sb (be no t D) (ab co no t F)) → ¬ hitp co no t F D := fun z y => z ⟨fun e => by have := y.1; unfold sb at this; split at this <;> omega, y.2.1⟩
  unfold sb at bad
  refine ⟨fun q => h0 (bad (fun z => z.1 q)) _ _ _ _, fun q => ⟨fun q2 => h0 (bad (fun z => ?_)) _ _ _ _, fun q2 => ?_⟩⟩
  · have := z.2; split at this <;> omega
  have go : (be no t D < 0 ↔ ab co no t F < 0) → ∃ n0 : Nat, L_X12_hits_141 post co mno fr al n0 (nI t) 0 (Int64.ofInt (ab co no t F)) (Int64.ofInt (be no t D)) we se := fun e => by
    have p1 : 0 < sb (be no t D) (be no t D) := by unfold sb; split <;> omega
    have p2 : 0 < sb (be no t D) (ab co no t F) := by unfold sb; split <;> omega
    exact ⟨10, s_141 ht hF (fun se hs => s_184 hD hs B q (fun y0 y1 y2 => h1 ⟨p1, p2, y0, y1, y2⟩) (fun z => h0 (fun y => z y.2.2))) 9 0 se (by omega) (asI_0 _ _)⟩
  have lb : lg_cmp (Int64.ofInt (be no t D)) 0 ≤ 0 ↔ be no t D ≤ 0 := lg_le0 B.1
  refine ⟨fun q3 => ⟨fun q4 => ⟨fun _ => go ?_, fun q5 => absurd rfl q5⟩, fun q4 => ⟨fun q5 => absurd q5 (by decide), fun _ => h0 (bad (fun z => ?_)) _ _ _ _⟩⟩, fun q3 => ⟨fun q4 => ⟨fun q5 => absurd q5 (by decide), fun _ => h0 (bad (fun z => ?_)) _ _ _ _⟩, fun q4 => ⟨fun _ => go ?_, fun q5 => absurd rfl q5⟩⟩⟩
  · rw [lb] at q4; omega
  · rw [lb] at q4; have := z.2; rw [if_neg (by omega)] at this; omega
  · rw [lb] at q4; have := z.2; rw [if_pos (by omega)] at this; omega
  · rw [lb] at q4; omega
end
section
variable {post : Int32 → Int64 → Int64 → (Nat → Int64) → (Nat → Int64) → (Nat → Int64) → (Nat → Int64) → Prop} {co no eye : Nat → Int32} {mno d : Nat → Int64} {t : Nat} {D : Nat → Int}
theorem st_looks {n k : Nat} {p1 : Int32} {av bv : Int64} {we se fr al : Nat → Int64} (hk : k < 3) (hd : asI d D 3)
    (h : L_X12_looks_2 post co mno eye d n p1 (nI (k + 1)) av bv we (vp_updL fr k (Int64.ofInt (eye k).toInt)) (vp_updL al k (Int64.ofInt (D k))) se) :
    L_X12_looks_2 post co mno eye d (n + 1) p1 (nI k) av bv we fr al se := by
  have vk : vp_in (nI k) 3 := vin k (by omega) (by omega) rfl
  refine ⟨fun q => ?_, fun _ => ⟨vk, vk, fun g eg => ⟨vk, vk, fun g2 eg2 x ex => ?_⟩⟩⟩
  · rw [n_3, nI_leI (by omega) (by omega)] at q; omega
  rw [nI_clamp (by omega)] at eg eg2
  rw [hd k hk] at eg2
  rw [eg, eg2, ex, nI_1]; exact h
theorem s_looks {av bv : Int64} {we se fr al : Nat → Int64} (ht : t < 128) (hm : ∀ j, mno j = (no j).toInt64) (hd : asI d D 3) (B : RB co no t (fun j => (eye j).toInt) D)
    (h1 : hitp co no t (fun j => (eye j).toInt) D → ∀ we' fr' al' se', asI we' (wt co t (fun j => (eye j).toInt) D) 3 → post 1 (Int64.ofInt (ab co no t (fun j => (eye j).toInt))) (Int64.ofInt (be no t D)) we' fr' al' se')
    (h0 : ¬ hitp co no t (fun j => (eye j).toInt) D → ∀ a b we' fr' al' se', post 0 a b we' fr' al' se') : F_X12_looks (nI t) av bv co mno eye d we fr al se post :=
  ⟨4, st_looks (k := 0) (by omega) hd (st_looks (k := 1) (by omega) hd (st_looks (k := 2) (by omega) hd ⟨fun _ => s_hits ht hm (F := fun j => (eye j).toInt) (D := D)
    (asI_s (F := fun j => (eye j).toInt) (asI_s (F := fun j => (eye j).toInt) (asI_s (F := fun j => (eye j).toInt) (asI_0 _ _)))) (asI_s (F := D) (asI_s (F := D) (asI_s (F := D) (asI_0 _ _)))) B
    (fun z we' se' hw => ⟨bz_1, h1 z _ _ _ _ hw⟩) (fun z a b we' se' => ⟨bz_0, h0 z _ _ _ _ _ _⟩), fun q => absurd (by decide) q⟩))⟩
end
