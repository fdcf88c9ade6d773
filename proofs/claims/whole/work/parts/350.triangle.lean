/-! PURE PART: triangle -/
theorem cpy_bd {s f : Nat → Int32} {o n : Nat} {B : Int} (hs : ∀ j, bd B (s j).toInt) (hf : ∀ j, bd B (f j).toInt) : ∀ j, bd B (va_cpy s f 0 o n j).toInt := fun j => by
  unfold va_cpy; split
  · exact hs _
  · exact hf _
theorem IM_set {nt t : Nat} {xc xno c : Nat → Int32} {mno : Nat → Int64} (n' : Nat) (hn : ∀ u, u < n' → u = t ∨ u < nt) (hc : ∀ j, bd 255 (c j).toInt) (hm : ∀ j, mno j = (xno j).toInt64) (hx : ∀ u k, u < nt → k < 3 → (xno (3 * u + k)).toInt = crs xc (9 * u) k) :
    (∀ j, nrmL c mno t j = (nrm c xno t j).toInt64) ∧ (∀ u k, u < n' → k < 3 → (nrm c xno t (3 * u + k)).toInt = crs (va_cpy c xc 0 (9 * t) 9) (9 * u) k) := by
  have cb : ∀ k, bd 520200 (crs c 0 k) := fun k => crs_bd (fun j _ => hc _) k
  refine ⟨fun j => ?_, fun u k hu hk => ?_⟩
  · unfold nrmL nrm
    split
    · rw [q_l (bd_r31 (by omega) (cb _))]
    · exact hm j
  · by_cases e : u = t
    · subst e
      unfold nrm
      rw [if_pos ⟨by omega, by omega⟩, show 3 * u + k - 3 * u = k by omega, q_toInt (bd_r31 (by omega) (cb k))]
      refine crs_congr (fun j hj => ?_) k
      rw [pk_cpy_in (by omega) (by omega)]
      congr 1; omega
    · have hu2 : u < nt := (hn u hu).resolve_left e
      unfold nrm
      rw [if_neg (by omega), hx u k hu2 hk]
      refine crs_congr (fun j hj => ?_) k
      rw [pk_cpy_out (by omega)]
theorem op_triangle {a xm mm xn mn xnodes xdeep mnodes : Int32} {nt : Nat} {xpc mpc xc xno xt xtr xtn mc mt : Nat → Int32} {mno mcr : Nat → Int64} (J : IP xm xpc mm mpc) (I : IM nt xn xc xno xt mn mc mno mt)
    {Q : Int32 → Int32 → Int32 → (Nat → Int32) → (Nat → Int32) → (Nat → Int32) → (Nat → Int32) → (Nat → Int32) → Int32 → Int32 → Int32 → Int32 → Int32 → Int32 → (Nat → Int32) → (Nat → Int64) → (Nat → Int32) → (Nat → Int64) → Prop}
    (k1 : ∀ (r xm' mm' : Int32) (xtr' xtn' : Nat → Int32) (mcr' : Nat → Int64), IP xm' xpc mm' mpc → Q r xm' xn xc xno xt xtr' xtn' xnodes xdeep r mm' mn mnodes mc mno mt mcr')
    (k2 : ∀ (r xm' mm' xn' mn' : Int32) (xc' xno' xt' mc' mt' xtr' xtn' : Nat → Int32) (mno' mcr' : Nat → Int64), IP xm' xpc mm' mpc → IM (nt + 1) xn' xc' xno' xt' mn' mc' mno' mt' → Q r xm' xn' xc' xno' xt' xtr' xtn' 0 0 r mm' mn' 0 mc' mno' mt' mcr') :
    F_X11_triangle a xm xpc xn xc xno xt xtr xtn xnodes xdeep (fun r v1 v2 v3 v4 v5 v6 v7 v8 v9 => F_X12_triangle a mm mn mnodes mpc mc mno mt mcr (fun r' w1 w2 w3 w4 w5 w6 w7 => Q r v1 v2 v3 v4 v5 v6 v7 v8 v9 r' w1 w2 w3 w4 w5 w6 w7)) := by
  have J0 := J
  obtain ⟨np, hnp, rfl, rfl, rfl, hbd⟩ := J
  obtain ⟨hnt, rfl, rfl, rfl, rfl, hcb, hmn, hcr⟩ := I
  have J1 : IP 0 mpc 0 mpc := ⟨0, by omega, rfl, rfl, rfl, hbd⟩
  refine ⟨fun q3 => ?_, fun q3 => ⟨fun c => absurd c q3, fun _ => k1 _ _ _ _ _ _ J0⟩⟩
  have hnp3 : nI np = 3 := q3
  refine s_isByte (fun hb => ⟨fun q => absurd q (by decide), fun _ => ?_⟩) (fun hb => ⟨fun _ => ⟨fun _ => ?_, fun q => absurd (by decide) q⟩, fun q => absurd rfl q⟩)
  rotate_left
  · refine ⟨fun _ => ⟨fun _ => k1 _ _ _ _ _ _ J1, fun _ => ?_⟩, fun c => absurd hnp3 c⟩
    exact s_in32 (a := 0) (b := 255) rfl rfl (fun c => absurd c hb) (fun _ => ⟨fun q => absurd rfl q, fun _ => k1 _ _ _ _ _ _ J1⟩)
  by_cases hfull : nt = 128
  · subst hfull
    refine ⟨fun q => absurd q (by decide), fun _ => ⟨fun _ => ?_, fun q => absurd (by decide) q⟩⟩
    exact ⟨fun _ => ⟨fun _ => k1 _ _ _ _ _ _ J1, fun c => absurd rfl c⟩, fun c => absurd hnp3 c⟩
  have ht : nt < 128 := by omega
  have n128 : ¬ nI nt = 128 := by rw [n_128, nI_eq (by omega) (by omega)]; omega
  refine s_append ht hbd (fun z tr' tn' => ⟨fun _ => ?_, fun q => absurd (by decide) q⟩) (fun z tr' tn' => ⟨fun q => absurd q (nI_pos (by omega)), fun _ => ?_⟩)
  · refine ⟨fun _ => ⟨fun c => absurd c n128, fun _ => s_in32 (a := 0) (b := 255) rfl rfl (fun _ => ⟨fun _ => ?_, fun q => absurd q (by decide)⟩) (fun c => absurd hb c)⟩, fun c => absurd hnp3 c⟩
    exact s_crossOf hbd (fun _ g => ⟨fun q => absurd rfl q, fun _ => k1 _ _ _ _ _ _ J1⟩) (fun c => absurd z c)
  · refine ⟨fun _ => ⟨fun c => absurd c n128, fun _ => s_in32 (a := 0) (b := 255) rfl rfl (fun _ => ⟨fun _ => ?_, fun q => absurd q (by decide)⟩) (fun c => absurd hb c)⟩, fun c => absurd hnp3 c⟩
    refine s_crossOf hbd (fun c => absurd c z) (fun _ g hg => ⟨fun _ => ⟨10, s_tri56 ht hg ?_⟩, fun q => absurd q (by decide)⟩)
    obtain ⟨h1, h2⟩ := IM_set (t := nt) (nt + 1) (fun u hu => by omega) hbd hmn hcr
    exact k2 _ _ _ _ _ _ _ _ _ _ _ _ _ _ J1 ⟨by omega, rfl, rfl, rfl, rfl, cpy_bd hbd hcb, h1, h2⟩
