/-! PURE PART: the mesh: triangles, normals -/
def crs (c : Nat → Int32) (o k : Nat) : Int :=
  if k = 0 then ((c (o + 4)).toInt - (c (o + 1)).toInt) * ((c (o + 8)).toInt - (c (o + 2)).toInt) - ((c (o + 5)).toInt - (c (o + 2)).toInt) * ((c (o + 7)).toInt - (c (o + 1)).toInt)
  else if k = 1 then ((c (o + 5)).toInt - (c (o + 2)).toInt) * ((c (o + 6)).toInt - (c o).toInt) - ((c (o + 3)).toInt - (c o).toInt) * ((c (o + 8)).toInt - (c (o + 2)).toInt)
  else ((c (o + 3)).toInt - (c o).toInt) * ((c (o + 7)).toInt - (c (o + 1)).toInt) - ((c (o + 4)).toInt - (c (o + 1)).toInt) * ((c (o + 6)).toInt - (c o).toInt)
theorem crs_bd {c : Nat → Int32} {o : Nat} (h : ∀ j, j < 9 → bd 255 (c (o + j)).toInt) (k : Nat) : bd 520200 (crs c o k) := by
  have d : ∀ i j, i < 9 → j < 9 → bd 510 ((c (o + i)).toInt - (c (o + j)).toInt) := fun i j hi hj => bd_sub (h i hi) (h j hj)
  have d0 : ∀ i, i < 9 → bd 510 ((c (o + i)).toInt - (c o).toInt) := fun i hi => d i 0 hi (by omega)
  unfold crs
  split
  · exact bd_sub (bd_mul (d 4 1 (by omega) (by omega)) (d 8 2 (by omega) (by omega))) (bd_mul (d 5 2 (by omega) (by omega)) (d 7 1 (by omega) (by omega)))
  · split
    · exact bd_sub (bd_mul (d 5 2 (by omega) (by omega)) (d0 6 (by omega))) (bd_mul (d0 3 (by omega)) (d 8 2 (by omega) (by omega)))
    · exact bd_sub (bd_mul (d0 3 (by omega)) (d 7 1 (by omega) (by omega))) (bd_mul (d 4 1 (by omega) (by omega)) (d0 6 (by omega)))
theorem cl_0 : (0 : Int32).toNatClampNeg = 0 := by decide
theorem cl_1 : (1 : Int32).toNatClampNeg = 1 := by decide
theorem cl_2 : (2 : Int32).toNatClampNeg = 2 := by decide
theorem cl_3 : (3 : Int32).toNatClampNeg = 3 := by decide
theorem cl_4 : (4 : Int32).toNatClampNeg = 4 := by decide
theorem cl_5 : (5 : Int32).toNatClampNeg = 5 := by decide
theorem cl_6 : (6 : Int32).toNatClampNeg = 6 := by decide
theorem cl_7 : (7 : Int32).toNatClampNeg = 7 := by decide
theorem cl_8 : (8 : Int32).toNatClampNeg = 8 := by decide
theorem q_dif (x y : Int32) : x - y = Int32.ofInt (x.toInt - y.toInt) := by rw [← q_sub, ← q_self, ← q_self]
theorem q_zero {a : Int} (h : r31 a) : Int32.ofInt a = 0 ↔ a = 0 := by
  rw [← Int32.toInt_inj, q_toInt h]; rfl
theorem s_trialIsFlat {tr tn : Nat → Int32} {post : Int32 → (Nat → Int32) → Prop} (hb : ∀ j, bd 255 (tr j).toInt)
    (h1 : (∀ k, k < 3 → crs tr 0 k = 0) → ∀ g : Nat → Int32, post 1 g) (h0 : ¬ (∀ k, k < 3 → crs tr 0 k = 0) → ∀ g : Nat → Int32, (∀ k, k < 3 → g k = Int32.ofInt (crs tr 0 k)) → post 0 g) : F_X5_trialIsFlat tr tn post := by
  have v9 : ∀ k, k < 9 → vp_in (nI k) 9 := fun k hk => vp_in_nI hk (by omega)
  have v3 : ∀ k, k < 3 → vp_in (nI k) 3 := fun k hk => vp_in_nI hk (by omega)
  have cb : ∀ k, r31 (crs tr 0 k) := fun k => bd_r31 (by omega) (crs_bd (fun j _ => hb _) k)
  refine ⟨v9 3 (by omega), v9 0 (by omega), fun x3 e3 => ⟨v9 4 (by omega), v9 1 (by omega), fun x6 e6 => ⟨v9 5 (by omega), v9 2 (by omega), fun x9 e9 => ⟨v9 6 (by omega), v9 0 (by omega), fun x12 e12 => ⟨v9 7 (by omega), v9 1 (by omega), fun x15 e15 => ⟨v9 8 (by omega), v9 2 (by omega), fun x18 e18 => ⟨v3 0 (by omega), fun g20 e20 => ⟨v3 1 (by omega), fun g22 e22 => ⟨v3 2 (by omega), fun g24 e24 => ?_⟩⟩⟩⟩⟩⟩⟩⟩⟩
  rw [cl_3, cl_0, q_dif] at e3
  rw [cl_4, cl_1, q_dif] at e6
  rw [cl_5, cl_2, q_dif] at e9
  rw [cl_6, cl_0, q_dif] at e12
  rw [cl_7, cl_1, q_dif] at e15
  rw [cl_8, cl_2, q_dif] at e18
  rw [cl_0, e6, e18, e9, e15, q_mul, q_mul, q_sub] at e20
  rw [cl_1, e9, e12, e3, e18, q_mul, q_mul, q_sub] at e22
  rw [cl_2, e3, e15, e6, e12, q_mul, q_mul, q_sub] at e24
  have k0 : g24 0 = Int32.ofInt (crs tr 0 0) := by rw [e24, pk_un (by omega), e22, pk_un (by omega), e20, pk_us]; rfl
  have k1 : g24 1 = Int32.ofInt (crs tr 0 1) := by rw [e24, pk_un (by omega), e22, pk_us]; rfl
  have k2 : g24 2 = Int32.ofInt (crs tr 0 2) := by rw [e24, pk_us]; rfl
  have all : ∀ k, k < 3 → g24 k = Int32.ofInt (crs tr 0 k) := fun k hk => by
    rcases (show k = 0 ∨ k = 1 ∨ k = 2 by omega) with rfl | rfl | rfl
    · exact k0
    · exact k1
    · exact k2
  rw [cl_0, cl_1, cl_2, k0, k1, k2, q_zero (cb 0), q_zero (cb 1), q_zero (cb 2)]
  refine ⟨v3 0 (by omega), fun q => h0 (fun z => q (z 0 (by omega))) _ all, fun q0 => ⟨v3 1 (by omega), fun q => h0 (fun z => q (z 1 (by omega))) _ all, fun q1 => ⟨v3 2 (by omega), fun q => h0 (fun z => q (z 2 (by omega))) _ all, fun q2 => h1 (fun k hk => ?_) _⟩⟩⟩
  rcases (show k = 0 ∨ k = 1 ∨ k = 2 by omega) with rfl | rfl | rfl
  · exact q0
  · exact q1
  · exact q2
theorem o_dif {x y : Int32} (hx : bd 255 x.toInt) (hy : bd 255 y.toInt) : (x - y).toInt64 = Int64.ofInt (x.toInt - y.toInt) := by
  rw [q_dif, q_l (bd_r31 (A := 510) (by omega) (bd_sub hx hy))]
theorem o_zero {a : Int} (h : r63 a) : lg_cmp (Int64.ofInt a) 0 = 0 ↔ a = 0 := by rw [lg_cmp_eq, o_0, o_eq h ⟨by omega, by omega⟩]
theorem s_crossOf {row : Nat → Int32} {cr : Nat → Int64} {post : Int32 → (Nat → Int64) → Prop} (hb : ∀ j, bd 255 (row j).toInt)
    (h0 : (∀ k, k < 3 → crs row 0 k = 0) → ∀ g : Nat → Int64, post 0 g) (h1 : ¬ (∀ k, k < 3 → crs row 0 k = 0) → ∀ g : Nat → Int64, (∀ k, k < 3 → g k = Int64.ofInt (crs row 0 k)) → post 1 g) : F_X12_crossOf 0 9 cr row post := by
  have v9 : ∀ k, k < 9 → vp_in (nI k) 9 := fun k hk => vp_in_nI hk (by omega)
  have v3 : ∀ k, k < 3 → vp_in (nI k) 3 := fun k hk => vp_in_nI hk (by omega)
  have cb : ∀ k, r63 (crs row 0 k) := fun k => bd_r63 (by omega) (crs_bd (fun j _ => hb _) k)
  refine ⟨v9 3 (by omega), v9 0 (by omega), fun x3 e3 => ⟨v9 4 (by omega), v9 1 (by omega), fun x6 e6 => ⟨v9 5 (by omega), v9 2 (by omega), fun x9 e9 => ⟨v9 6 (by omega), v9 0 (by omega), fun x12 e12 => ⟨v9 7 (by omega), v9 1 (by omega), fun x15 e15 => ⟨v9 8 (by omega), v9 2 (by omega), fun x18 e18 => ⟨v3 0 (by omega), fun g20 e20 => ⟨v3 1 (by omega), fun g22 e22 => ⟨v3 2 (by omega), fun g24 e24 => ?_⟩⟩⟩⟩⟩⟩⟩⟩⟩
  replace e3 : x3 = Int64.ofInt ((row 3).toInt - (row 0).toInt) := by rw [e3, ← o_dif (hb 3) (hb 0)]; rfl
  replace e6 : x6 = Int64.ofInt ((row 4).toInt - (row 1).toInt) := by rw [e6, ← o_dif (hb 4) (hb 1)]; rfl
  replace e9 : x9 = Int64.ofInt ((row 5).toInt - (row 2).toInt) := by rw [e9, ← o_dif (hb 5) (hb 2)]; rfl
  replace e12 : x12 = Int64.ofInt ((row 6).toInt - (row 0).toInt) := by rw [e12, ← o_dif (hb 6) (hb 0)]; rfl
  replace e15 : x15 = Int64.ofInt ((row 7).toInt - (row 1).toInt) := by rw [e15, ← o_dif (hb 7) (hb 1)]; rfl
  replace e18 : x18 = Int64.ofInt ((row 8).toInt - (row 2).toInt) := by rw [e18, ← o_dif (hb 8) (hb 2)]; rfl
  rw [cl_0, e6, e18, e9, e15, o_mul, o_mul, o_sub] at e20
  rw [cl_1, e9, e12, e3, e18, o_mul, o_mul, o_sub] at e22
  rw [cl_2, e3, e15, e6, e12, o_mul, o_mul, o_sub] at e24
  have k0 : g24 0 = Int64.ofInt (crs row 0 0) := by rw [e24, pk_uLn (by omega), e22, pk_uLn (by omega), e20, pk_uLs]; rfl
  have k1 : g24 1 = Int64.ofInt (crs row 0 1) := by rw [e24, pk_uLn (by omega), e22, pk_uLs]; rfl
  have k2 : g24 2 = Int64.ofInt (crs row 0 2) := by rw [e24, pk_uLs]; rfl
  have all : ∀ k, k < 3 → g24 k = Int64.ofInt (crs row 0 k) := fun k hk => by
    rcases (show k = 0 ∨ k = 1 ∨ k = 2 by omega) with rfl | rfl | rfl
    · exact k0
    · exact k1
    · exact k2
  rw [cl_0, cl_1, cl_2, k0, k1, k2, o_zero (cb 0), o_zero (cb 1), o_zero (cb 2)]
  refine ⟨v3 0 (by omega), fun q => h1 (fun z => q (z 0 (by omega))) _ all, fun q0 => ⟨v3 1 (by omega), fun q => h1 (fun z => q (z 1 (by omega))) _ all, fun q1 => ⟨v3 2 (by omega), fun q2 => h0 (fun k hk => ?_) _, fun q => h1 (fun z => q (z 2 (by omega))) _ all⟩⟩⟩
  rcases (show k = 0 ∨ k = 1 ∨ k = 2 by omega) with rfl | rfl | rfl
  · exact q0
  · exact q1
  · exact q2
