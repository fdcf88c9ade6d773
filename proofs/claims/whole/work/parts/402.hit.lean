/-! PURE PART: hit and told -/
def IH (wh : Int32) (ti pc we : Nat → Int64) (at_ : Int32) (ha : Nat → Int64) : Prop :=
  (wh = -2 ∧ at_ = 0) ∨ ∃ f, f < 128 ∧ wh = nI f ∧ at_ = 1 ∧ ha 0 = wh.toInt64 ∧ (∀ k, k < 2 → ∀ post : Int64 → Prop, post (ha (1 + k)) → F_X3_inLeastTerms (nI k) 2 ti post) ∧ (∀ k, k < 4 → ∀ post : Int64 → Prop, post (ha (3 + k)) → F_X3_inLeastTerms (nI k) 4 pc post) ∧ (∀ k, k < 4 → ∀ post : Int64 → Prop, post (ha (7 + k)) → F_X3_inLeastTerms (nI k) 4 we post)
theorem nI_sub1 (a k : Nat) : nI (a + k) - nI a = nI k := by rw [← nI_add, Int32.add_comm, Int32.add_sub_cancel]
theorem op_told {a wh at_ : Int32} {ti pc we ha : Nat → Int64} (I : IH wh ti pc we at_ ha) {Q : Int64 → Int64 → Prop} (k : ∀ r, Q r r) : F_X11_told a wh ti pc we (fun r => F_X12_told a at_ ha (fun r' => Q r r')) := by
  rcases I with ⟨rfl, rfl⟩ | ⟨f, hf, rfl, rfl, h0, h1, h2, h3⟩
  · exact ⟨fun _ => ⟨fun _ => ⟨fun _ => k _, fun q => absurd rfl q⟩, fun q => absurd rfl q⟩, fun q => absurd m2_neg q⟩
  refine ⟨fun q => absurd q (nI_nn hf), fun _ => ⟨fun q => absurd q (by decide), fun _ => ?_⟩⟩
  have out : ¬ (0 ≤ a.toInt ∧ a.toInt ≤ 10) → F_X12_told a 1 ha (fun r' => Q (-9000000000000000000) r') := fun z =>
    ⟨fun q => absurd q (by decide), fun _ => s_in32 (a := 0) (b := 10) rfl rfl (fun y => absurd y z) (fun _ => ⟨fun _ => k _, fun q => absurd rfl q⟩)⟩
  have inn : ∀ j, j < 11 → a = nI j → ∀ r, r = ha j → F_X12_told a 1 ha (fun r' => Q r r') := fun j hj ej r hr => by
    subst ej
    refine ⟨fun q => absurd q (by decide), fun _ => s_in32 (a := 0) (b := 10) rfl rfl (fun _ => ⟨fun q => absurd q (by decide), fun _ => ⟨vin j (by omega) (by omega) rfl, ?_⟩⟩) (fun y => absurd ?_ y)⟩
    · rw [nI_clamp (by omega), hr]; exact k _
    · rw [nI_toInt (by omega)]; omega
  have e1 : (1 : Int32).toInt = 1 := rfl
  have e2 : (2 : Int32).toInt = 2 := rfl
  have e3 : (3 : Int32).toInt = 3 := rfl
  have e6 : (6 : Int32).toInt = 6 := rfl
  have e7 : (7 : Int32).toInt = 7 := rfl
  have e10 : (10 : Int32).toInt = 10 := rfl
  have J53 : (a.toInt < 3 ∨ 6 < a.toInt) → a.toInt ≠ 0 → (a.toInt < 1 ∨ 2 < a.toInt) → J_X3_tell_53 (fun r => F_X12_told a 1 ha (fun r' => Q r r')) (nI f) ti pc we a := fun z z0 z1 => by
    refine ⟨fun q => out ?_, fun q => ⟨fun q2 => out ?_, fun q2 => ?_⟩⟩
    · rw [i32_lt, e7] at q; omega
    · rw [i32_lt, e10] at q2; omega
    · rw [i32_lt, e7] at q; rw [i32_lt, e10] at q2
      obtain ⟨j, hj, ej⟩ := nI_get (x := a) (N := 11) (by omega) (by omega) (by omega)
      rw [ej, nI_toInt (by omega)] at q q2
      have ek : a - 7 = nI (j - 7) := by
        rw [ej, show j = 7 + (j - 7) by omega]
        have := nI_sub1 7 (j - 7)
        rw [show 7 + (j - 7) - 7 = j - 7 by omega]; exact this
      rw [ek]
      refine h3 (j - 7) (by omega) _ ?_
      rw [show 7 + (j - 7) = j by omega]
      exact inn j hj ej _ rfl
  have J31 : a.toInt ≠ 0 → (a.toInt < 1 ∨ 2 < a.toInt) → J_X3_tell_31 (fun r => F_X12_told a 1 ha (fun r' => Q r r')) (nI f) ti pc we a := fun z0 z1 => by
    refine ⟨fun q => J53 ?_ z0 z1, fun q => ⟨fun q2 => J53 ?_ z0 z1, fun q2 => ?_⟩⟩
    · rw [i32_lt, e3] at q; omega
    · rw [i32_lt, e6] at q2; omega
    · rw [i32_lt, e3] at q; rw [i32_lt, e6] at q2
      obtain ⟨j, hj, ej⟩ := nI_get (x := a) (N := 11) (by omega) (by omega) (by omega)
      rw [ej, nI_toInt (by omega)] at q q2
      have ek : a - 3 = nI (j - 3) := by
        rw [ej, show j = 3 + (j - 3) by omega]
        have := nI_sub1 3 (j - 3)
        rw [show 3 + (j - 3) - 3 = j - 3 by omega]; exact this
      rw [ek]
      refine h2 (j - 3) (by omega) _ ?_
      rw [show 3 + (j - 3) = j by omega]
      exact inn j hj ej _ rfl
  have z0 : a = 0 ↔ a.toInt = 0 := by rw [← Int32.toInt_inj]; rfl
  refine ⟨fun q => ⟨fun q2 => J31 (fun c => q (z0.mpr c)) ?_, fun q2 => ⟨fun q3 => J31 (fun c => q (z0.mpr c)) ?_, fun q3 => ?_⟩⟩, fun q => inn 0 (by omega) q _ h0.symm⟩
  · rw [i32_lt, e1] at q2; omega
  · rw [i32_lt, e2] at q3; omega
  · rw [i32_lt, e1] at q2; rw [i32_lt, e2] at q3
    obtain ⟨j, hj, ej⟩ := nI_get (x := a) (N := 11) (by omega) (by omega) (by omega)
    rw [ej, nI_toInt (by omega)] at q2 q3
    have ek : a - 1 = nI (j - 1) := by
      rw [ej, show j = 1 + (j - 1) by omega]
      have := nI_sub1 1 (j - 1)
      rw [show 1 + (j - 1) - 1 = j - 1 by omega]; exact this
    rw [ek]
    refine h1 (j - 1) (by omega) _ ?_
    rw [show 1 + (j - 1) = j by omega]
    exact inn j hj ej _ rfl
-- bounds of what is stored
theorem ov_pos {co no : Nat → Int32} {F D : Nat → Int} {f : Nat} (h : hitp co no f F D) : 0 < ov no D f := h.1
theorem tm_bd {co no : Nat → Int32} {F D : Nat → Int} {f : Nat} (B : CB co no f F D) (j : Nat) : bd bM (tm co no F D f j) := by
  unfold tm; split
  · exact bd_le (by decide) (sb_bd (b := be no f D) B.2.1)
  · exact bd_le (by decide) (sb_bd (b := be no f D) B.1)
theorem pl_bd {co no : Nat → Int32} {F D : Nat → Int} {f : Nat} (B : CB co no f F D) (hF : ∀ k, k < 3 → bd 255 (F k)) (hD : ∀ k, k < 3 → bd 1023 (D k)) (j : Nat) : bd 613200000000 (pl co no F D f j) := by
  unfold pl; split
  next hj => exact bd_add (bd_mul (hF j hj) (sb_bd (b := be no f D) B.1)) (bd_mul (hD j hj) (sb_bd (b := be no f D) B.2.1))
  · exact bd_le (by decide) (sb_bd (b := be no f D) B.1)
theorem wg_bd {co no : Nat → Int32} {F D : Nat → Int} {f : Nat} (B : CB co no f F D) (j : Nat) : bd bM (wg co no F D f j) := by
  unfold wg; split
  next hj => exact bd_le (by decide) (sb_bd (b := be no f D) (B.2.2 j hj))
  · exact bd_le (by decide) (sb_bd (b := be no f D) B.1)
theorem gN_ne {R : Nat → Int} {n : Nat} (h : 0 < R n) : gN R (n + 1) ≠ 0 := by
  show Nat.gcd (gN R n) (R n).natAbs ≠ 0
  intro e
  have := (Nat.gcd_eq_zero_iff.mp e).2
  omega
/-- the hand -/
def hd11 (co no : Nat → Int32) (F D : Nat → Int) (f j : Nat) : Int :=
  if j = 0 then (f : Int) else if j < 3 then red (tm co no F D f) 2 (j - 1) else if j < 7 then red (pl co no F D f) 4 (j - 3) else red (wg co no F D f) 4 (j - 7)
section
variable {post : Int32 → Int64 → Int64 → Int32 → Int64 → Int64 → Int32 → (Nat → Int64) → (Nat → Int64) → (Nat → Int64) → (Nat → Int64) → (Nat → Int64) → (Nat → Int64) → (Nat → Int64) → (Nat → Int64) → Prop} {tr w h : Int32} {co no eye : Nat → Int32} {mno ma : Nat → Int64} {F D : Nat → Int} {f : Nat}
variable {a b : Int64} {fi at_ : Int32} {fA fB : Int64} {d we fr al se fW pc : Nat → Int64}
theorem st_hit97 {n k : Nat} {ha : Nat → Int64} (hk : k < 4) (hp : asI pc (red (pl co no F D f) 4) 4) (hh : L_X12_hit_97 post tr w h co mno eye ma n (nI (k + 1)) a b fi fA fB at_ d we fr al se fW (vp_updL ha (3 + k) (Int64.ofInt (hd11 co no F D f (3 + k)))) pc) :
    L_X12_hit_97 post tr w h co mno eye ma (n + 1) (nI k) a b fi fA fB at_ d we fr al se fW ha pc := by
  have e3 : (3 : Int32) + nI k = nI (3 + k) := nI_add 3 k
  refine ⟨fun q => ?_, fun _ => ⟨vin k (by omega) (by omega) rfl, vin (3 + k) (by omega) (by omega) e3, fun g eg x ex => ?_⟩⟩
  · rw [n_4, nI_leI (by omega) (by omega)] at q; omega
  have e : hd11 co no F D f (3 + k) = red (pl co no F D f) 4 k := by
    unfold hd11; rw [if_neg (by omega), if_neg (by omega), if_pos (by omega), Nat.add_sub_cancel_left]
  rw [e] at hh
  rw [e3, nI_clamp (by omega), nI_clamp (by omega), hp k hk] at eg
  rw [ex, nI_1, eg]; exact hh
theorem st_hit134 {n k g : Nat} {ha : Nat → Int64} (hk : k < 3) (hw : asI fW (ww co no F D f) 3) (hb : bd bM (wg co no F D f k)) (hg : g ≤ 9000000000000000000) (hh : L_X12_hit_134 post tr w h co mno eye ma n (Int64.ofInt ((Nat.gcd g (wg co no F D f k).natAbs : Nat) : Int)) (nI (k + 1)) a b fi fA fB at_ d we fr al se fW ha pc) :
    L_X12_hit_134 post tr w h co mno eye ma (n + 1) (Int64.ofInt (g : Int)) (nI k) a b fi fA fB at_ d we fr al se fW ha pc := by
  have ew : wg co no F D f k = ww co no F D f k := by unfold wg; rw [if_pos hk]
  refine ⟨fun q => ?_, fun _ => ⟨vin k (by omega) (by omega) rfl, ?_⟩⟩
  · rw [n_3, nI_leI (by omega) (by omega)] at q; omega
  rw [nI_clamp (by omega), hw k hk, ← ew]
  refine s_common ⟨by unfold bM; omega, by unfold bM; omega⟩ hb (fun x ex => ?_)
  rw [ex, nI_1]; exact hh
theorem st_hit163 {n k : Nat} {ha : Nat → Int64} (hk : k < 3) (hw : asI fW (ww co no F D f) 3) (hb : bd bM (wg co no F D f k)) (hg : gN (wg co no F D f) 4 < 9223372036854775808) (hg0 : gN (wg co no F D f) 4 ≠ 0)
    (hh : L_X12_hit_163 post tr w h co mno eye ma n (Int64.ofInt (gN (wg co no F D f) 4 : Nat)) (nI (k + 1)) a b fi fA fB at_ d we fr al se fW (vp_updL ha (7 + k) (Int64.ofInt (hd11 co no F D f (7 + k)))) pc) :
    L_X12_hit_163 post tr w h co mno eye ma (n + 1) (Int64.ofInt (gN (wg co no F D f) 4 : Nat)) (nI k) a b fi fA fB at_ d we fr al se fW ha pc := by
  have ew : wg co no F D f k = ww co no F D f k := by unfold wg; rw [if_pos hk]
  have e7 : (7 : Int32) + nI k = nI (7 + k) := nI_add 7 k
  refine ⟨fun q => ?_, fun _ => ⟨vin k (by omega) (by omega) rfl, o_ne0 hg hg0, vin (7 + k) (by omega) (by omega) e7, fun g eg x ex => ?_⟩⟩
  · rw [n_3, nI_leI (by omega) (by omega)] at q; omega
  have e : hd11 co no F D f (7 + k) = (wg co no F D f k).tdiv (gN (wg co no F D f) 4 : Nat) := by
    unfold hd11 red; rw [if_neg (by omega), if_neg (by omega), if_neg (by omega), Nat.add_sub_cancel_left]
  rw [e] at hh
  rw [e7, nI_clamp (by omega), nI_clamp (by omega), hw k hk, ← ew, o_div (bd_r63 (by decide) hb) (nat_r63 hg)] at eg
  rw [ex, nI_1, eg]; exact hh
end
