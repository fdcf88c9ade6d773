/-! PURE PART: the mesh: triangles, normals -/
def crs (c : Nat → Int32) (o k : Nat) : Int :=
  if k = 0 then ((c (o + 4)).toInt - (c (o + 1)).toInt) * ((c (o + 8)).toInt - (c (o + 2)).toInt) - ((c (o + 5)).toInt - (c (o + 2)).toInt) * ((c (o + 7)).toInt - (c (o + 1)).toInt)
  else if k = 1 then ((c (o + 5)).toInt - (c (o + 2)).toInt) * ((c (o + 6)).toInt - (c o).toInt) - ((c (o + 3)).toInt - (c o).toInt) * ((c (o + 8)).toInt - (c (o + 2)).toInt)
  else ((c (o + 3)).toInt - (c o).toInt) * ((c (o + 7)).toInt - (c (o + 1)).toInt) - ((c (o + 4)).toInt - (c (o + 1)).toInt) * ((c (o + 6)).toInt - (c o).toInt)
theorem crs_bd {c : Nat → Int32} {o : Nat} (h : ∀ j, j < 9 → bd 255 (c (o + j)).toInt) (k : Nat) : bd 520200 (crs c o k) := by
  have d : ∀ i j, i < 9 → j < 9 → bd 510 ((c (o + i)).toInt - (c (o + j)).toInt) := fun i j hi hj => bd_sub (h i hi) (h j hj)
  have d0 : ∀ i, i < 9 → bd 510 ((c (o + i)).toInt - (c o).toInt) := fun i hi => d i 0 hi (by omega)
  unfold crs
  split
  · exact bd_sub (bd_mul (d 4 1 (by omega) (by omega)) (d 8 2 (by omega) (by omega))) (bd_mul (d 5 2 (by omega) (by omega)) (d 7 1 (by omega) (by omega)))
  · split
    · exact bd_sub (bd_mul (d 5 2 (by omega) (by omega)) (d0 6 (by omega))) (bd_mul (d0 3 (by omega)) (d 8 2 (by omega) (by omega)))
    · exact bd_sub (bd_mul (d0 3 (by omega)) (d 7 1 (by omega) (by omega))) (bd_mul (d 4 1 (by omega) (by omega)) (d0 6 (by omega)))
theorem cl_0 : (0 : Int32).toNatClampNeg = 0 := by decide
theorem cl_1 : (1 : Int32).toNatClampNeg = 1 := by decide
theorem cl_2 : (2 : Int32).toNatClampNeg = 2 := by decide
theorem cl_3 : (3 : Int32).toNatClampNeg = 3 := by decide
theorem cl_4 : (4 : Int32).toNatClampNeg = 4 := by decide
theorem cl_5 : (5 : Int32).toNatClampNeg = 5 := by decide
theorem cl_6 : (6 : Int32).toNatClampNeg = 6 := by decide
theorem cl_7 : (7 : Int32).toNatClampNeg = 7 := by decide
theorem cl_8 : (8 : Int32).toNatClampNeg = 8 := by decide
theorem q_dif (x y : Int32) : x - y = Int32.ofInt (x.toInt - y.toInt) := by rw [← q_sub, ← q_self, ← q_self]
theorem q_zero {a : Int} (h : r31 a) : Int32.ofInt a = 0 ↔ a = 0 := by
  rw [← Int32.toInt_inj, q_toInt h]; rfl
theorem s_trialIsFlat {tr tn : Nat → Int32} {post : Int32 → (Nat → Int32) → Prop} (hb : ∀ j, j < 9 → bd 255 (tr j).toInt)
    (h1 : (∀ k, k < 3 → crs tr 0 k = 0) → ∀ g : Nat → Int32, post 1 g) (h0 : ¬ (∀ k, k < 3 → crs tr 0 k = 0) → ∀ g : Nat → Int32, (∀ k, k < 3 → g k = Int32.ofInt (crs tr 0 k)) → post 0 g) : F_X5_trialIsFlat tr tn post := by
  have v9 : ∀ k, k < 9 → vp_in (nI k) 9 := fun k hk => vp_in_nI hk (by omega)
  have v3 : ∀ k, k < 3 → vp_in (nI k) 3 := fun k hk => vp_in_nI hk (by omega)
  have cb : ∀ k, r31 (crs tr 0 k) := fun k => bd_r31 (by omega) (crs_bd (fun j hj => by rw [Nat.zero_add]; exact hb j hj) k)
  refine ⟨v9 3 (by omega), v9 0 (by omega), fun x3 e3 => ⟨v9 4 (by omega), v9 1 (by omega), fun x6 e6 => ⟨v9 5 (by omega), v9 2 (by omega), fun x9 e9 => ⟨v9 6 (by omega), v9 0 (by omega), fun x12 e12 => ⟨v9 7 (by omega), v9 1 (by omega), fun x15 e15 => ⟨v9 8 (by omega), v9 2 (by omega), fun x18 e18 => ⟨v3 0 (by omega), fun g20 e20 => ⟨v3 1 (by omega), fun g22 e22 => ⟨v3 2 (by omega), fun g24 e24 => ?_⟩⟩⟩⟩⟩⟩⟩⟩⟩
  rw [cl_3, cl_0, q_dif] at e3
  rw [cl_4, cl_1, q_dif] at e6
  rw [cl_5, cl_2, q_dif] at e9
  rw [cl_6, cl_0, q_dif] at e12
  rw [cl_7, cl_1, q_dif] at e15
  rw [cl_8, cl_2, q_dif] at e18
  rw [cl_0, e6, e18, e9, e15, q_mul, q_mul, q_sub] at e20
  rw [cl_1, e9, e12, e3, e18, q_mul, q_mul, q_sub] at e22
  rw [cl_2, e3, e15, e6, e12, q_mul, q_mul, q_sub] at e24
  have k0 : g24 0 = Int32.ofInt (crs tr 0 0) := by rw [e24, pk_un (by omega), e22, pk_un (by omega), e20, pk_us]; rfl
  have k1 : g24 1 = Int32.ofInt (crs tr 0 1) := by rw [e24, pk_un (by omega), e22, pk_us]; rfl
  have k2 : g24 2 = Int32.ofInt (crs tr 0 2) := by rw [e24, pk_us]; rfl
  have all : ∀ k, k < 3 → g24 k = Int32.ofInt (crs tr 0 k) := fun k hk => by
    rcases (show k = 0 ∨ k = 1 ∨ k = 2 by omega) with rfl | rfl | rfl
    · exact k0
    · exact k1
    · exact k2
  rw [cl_0, cl_1, cl_2, k0, k1, k2, q_zero (cb 0), q_zero (cb 1), q_zero (cb 2)]
  refine ⟨v3 0 (by omega), fun q => h0 (fun z => q (z 0 (by omega))) _ all, fun q0 => ⟨v3 1 (by omega), fun q => h0 (fun z => q (z 1 (by omega))) _ all, fun q1 => ⟨v3 2 (by omega), fun q => h0 (fun z => q (z 2 (by omega))) _ all, fun q2 => h1 (fun k hk => ?_) _⟩⟩⟩
  rcases (show k = 0 ∨ k = 1 ∨ k = 2 by omega) with rfl | rfl | rfl
  · exact q0
  · exact q1
  · exact q2
theorem o_dif {x y : Int32} (hx : bd 255 x.toInt) (hy : bd 255 y.toInt) : (x - y).toInt64 = Int64.ofInt (x.toInt - y.toInt) := by
  rw [q_dif, q_l (bd_r31 (A := 510) (by omega) (bd_sub hx hy))]
theorem o_zero {a : Int} (h : r63 a) : lg_cmp (Int64.ofInt a) 0 = 0 ↔ a = 0 := by rw [lg_cmp_eq, o_0, o_eq h ⟨by omega, by omega⟩]
theorem s_crossOf {row : Nat → Int32} {cr : Nat → Int64} {post : Int32 → (Nat → Int64) → Prop} (hb : ∀ j, j < 9 → bd 255 (row j).toInt)
    (h0 : (∀ k, k < 3 → crs row 0 k = 0) → ∀ g : Nat → Int64, post 0 g) (h1 : ¬ (∀ k, k < 3 → crs row 0 k = 0) → ∀ g : Nat → Int64, (∀ k, k < 3 → g k = Int64.ofInt (crs row 0 k)) → post 1 g) : F_X12_crossOf 0 9 cr row post := by
  have v9 : ∀ k, k < 9 → vp_in (nI k) 9 := fun k hk => vp_in_nI hk (by omega)
  have v3 : ∀ k, k < 3 → vp_in (nI k) 3 := fun k hk => vp_in_nI hk (by omega)
  have cb : ∀ k, r63 (crs row 0 k) := fun k => bd_r63 (by omega) (crs_bd (fun j hj => by rw [Nat.zero_add]; exact hb j hj) k)
  refine ⟨v9 3 (by omega), v9 0 (by omega), fun x3 e3 => ⟨v9 4 (by omega), v9 1 (by omega), fun x6 e6 => ⟨v9 5 (by omega), v9 2 (by omega), fun x9 e9 => ⟨v9 6 (by omega), v9 0 (by omega), fun x12 e12 => ⟨v9 7 (by omega), v9 1 (by omega), fun x15 e15 => ⟨v9 8 (by omega), v9 2 (by omega), fun x18 e18 => ⟨v3 0 (by omega), fun g20 e20 => ⟨v3 1 (by omega), fun g22 e22 => ⟨v3 2 (by omega), fun g24 e24 => ?_⟩⟩⟩⟩⟩⟩⟩⟩⟩
  replace e3 : x3 = Int64.ofInt ((row 3).toInt - (row 0).toInt) := by rw [e3, ← o_dif (hb 3 (by omega)) (hb 0 (by omega))]; rfl
  replace e6 : x6 = Int64.ofInt ((row 4).toInt - (row 1).toInt) := by rw [e6, ← o_dif (hb 4 (by omega)) (hb 1 (by omega))]; rfl
  replace e9 : x9 = Int64.ofInt ((row 5).toInt - (row 2).toInt) := by rw [e9, ← o_dif (hb 5 (by omega)) (hb 2 (by omega))]; rfl
  replace e12 : x12 = Int64.ofInt ((row 6).toInt - (row 0).toInt) := by rw [e12, ← o_dif (hb 6 (by omega)) (hb 0 (by omega))]; rfl
  replace e15 : x15 = Int64.ofInt ((row 7).toInt - (row 1).toInt) := by rw [e15, ← o_dif (hb 7 (by omega)) (hb 1 (by omega))]; rfl
  replace e18 : x18 = Int64.ofInt ((row 8).toInt - (row 2).toInt) := by rw [e18, ← o_dif (hb 8 (by omega)) (hb 2 (by omega))]; rfl
  rw [cl_0, e6, e18, e9, e15, o_mul, o_mul, o_sub] at e20
  rw [cl_1, e9, e12, e3, e18, o_mul, o_mul, o_sub] at e22
  rw [cl_2, e3, e15, e6, e12, o_mul, o_mul, o_sub] at e24
  have k0 : g24 0 = Int64.ofInt (crs row 0 0) := by rw [e24, pk_uLn (by omega), e22, pk_uLn (by omega), e20, pk_uLs]; rfl
  have k1 : g24 1 = Int64.ofInt (crs row 0 1) := by rw [e24, pk_uLn (by omega), e22, pk_uLs]; rfl
  have k2 : g24 2 = Int64.ofInt (crs row 0 2) := by rw [e24, pk_uLs]; rfl
  have all : ∀ k, k < 3 → g24 k = Int64.ofInt (crs row 0 k) := fun k hk => by
    rcases (show k = 0 ∨ k = 1 ∨ k = 2 by omega) with rfl | rfl | rfl
    · exact k0
    · exact k1
    · exact k2
  rw [cl_0, cl_1, cl_2, k0, k1, k2, o_zero (cb 0), o_zero (cb 1), o_zero (cb 2)]
  refine ⟨v3 0 (by omega), fun q => h1 (fun z => q (z 0 (by omega))) _ all, fun q0 => ⟨v3 1 (by omega), fun q => h1 (fun z => q (z 1 (by omega))) _ all, fun q1 => ⟨v3 2 (by omega), fun q2 => h0 (fun k hk => ?_) _, fun q => h1 (fun z => q (z 2 (by omega))) _ all⟩⟩⟩
  rcases (show k = 0 ∨ k = 1 ∨ k = 2 by omega) with rfl | rfl | rfl
  · exact q0
  · exact q1
  · exact q2
theorem crs_congr {f g : Nat → Int32} {o p : Nat} (e : ∀ j, j < 9 → f (o + j) = g (p + j)) (k : Nat) : crs f o k = crs g p k := by
  have e0 : f o = g p := e 0 (by omega)
  unfold crs
  rw [e 4 (by omega), e 1 (by omega), e 8 (by omega), e 2 (by omega), e 5 (by omega), e 7 (by omega), e 6 (by omega), e 3 (by omega), e0]
theorem st_tryCorner {post : (Nat → Int32) → Prop} {c tr : Nat → Int32} {n k a b : Nat} (hk : k < 3) (ha : a < 3) (hb : b < 3) (h : L_X5_tryCorner_3 post c n (nI a) (nI b) (nI (k + 1)) (upd tr (3 * a + k) (c (3 * b + k)))) : L_X5_tryCorner_3 post c (n + 1) (nI a) (nI b) (nI k) tr := by
  refine ⟨fun q => ?_, fun _ => ⟨vin (3 * b + k) (by omega) (by omega) (n3k b k), vin (3 * a + k) (by omega) (by omega) (n3k a k), fun g eg x ex => ?_⟩⟩
  · rw [n_3, nI_leI (by omega) (by omega)] at q; omega
  · rw [n3k, n3k, nI_clamp (by omega), nI_clamp (by omega)] at eg
    rw [eg, ex, nI_1]; exact h
theorem s_tryCorner {post : (Nat → Int32) → Prop} {c tr : Nat → Int32} {a b : Nat} (ha : a < 3) (hb : b < 3) (h : post (put3 tr (3 * a) (fun k => c (3 * b + k)))) : F_X5_tryCorner (nI a) (nI b) tr c post :=
  ⟨4, st_tryCorner (k := 0) (by omega) ha hb (st_tryCorner (k := 1) (by omega) ha hb (st_tryCorner (k := 2) (by omega) ha hb ⟨fun _ => h, fun q => absurd (by decide) q⟩))⟩
theorem put3_at {f g : Nat → Int32} {o j : Nat} : put3 f o g j = if o ≤ j ∧ j < o + 3 then g (j - o) else f j := by
  unfold put3 upd
  by_cases c2 : j = o + 2
  · rw [if_pos c2, if_pos ⟨by omega, by omega⟩]; congr 1; omega
  · rw [if_neg c2]
    by_cases c1 : j = o + 1
    · rw [if_pos c1, if_pos ⟨by omega, by omega⟩]; congr 1; omega
    · rw [if_neg c1]
      by_cases c0 : j = o
      · rw [if_pos c0, if_pos ⟨by omega, by omega⟩]; congr 1; omega
      · rw [if_neg c0, if_neg (by omega)]
/-- the normals with those of one triangle set -/
def nrm (c no : Nat → Int32) (t : Nat) : Nat → Int32 := fun j => if 3 * t ≤ j ∧ j < 3 * t + 3 then Int32.ofInt (crs c 0 (j - 3 * t)) else no j
def nrmL (c : Nat → Int32) (no : Nat → Int64) (t : Nat) : Nat → Int64 := fun j => if 3 * t ≤ j ∧ j < 3 * t + 3 then Int64.ofInt (crs c 0 (j - 3 * t)) else no j
theorem s_storeTrial {post : (Nat → Int32) → (Nat → Int32) → Prop} {co no tr tn c : Nat → Int32} {t : Nat} (ht : t < 128) (hc : ∀ j, j < 9 → tr j = c j) (hn : ∀ k, k < 3 → tn k = Int32.ofInt (crs c 0 k)) (h : post (va_cpy c co 0 (9 * t) 9) (nrm c no t)) : F_X5_storeTrial (nI t) co no tr tn post := by
  have e9 : (9 : Int32) * nI t = nI (9 * t) := pk_mul 9 t
  have e3 : (3 : Int32) * nI t = nI (3 * t) := pk_mul 3 t
  have c9 : ((9 : Int32) * nI t).toNatClampNeg = 9 * t := by rw [e9]; exact nI_clamp (by omega)
  have c3 : ((3 : Int32) * nI t).toNatClampNeg = 3 * t := by rw [e3]; exact nI_clamp (by omega)
  have p9 : ¬ (9 : Int32) * nI t < 0 := by rw [e9]; exact nI_pos (by omega)
  have p3 : ¬ (3 : Int32) * nI t < 0 := by rw [e3]; exact nI_pos (by omega)
  refine ⟨⟨by decide, p9, by decide, by decide, by rw [c9, cl_9]; omega⟩, fun g2 eg2 => ⟨⟨by decide, p3, by decide, by decide, by rw [c3, cl_3]; omega⟩, fun g4 eg4 => ?_⟩⟩
  rw [cl_0, c9, cl_9] at eg2
  rw [cl_0, c3, cl_3] at eg4
  have h2 : g2 = va_cpy c co 0 (9 * t) 9 := by
    rw [eg2]; funext j; unfold va_cpy
    split
    · rename_i hj; rw [hc _ (by omega)]
    · rfl
  have h4 : g4 = nrm c no t := by
    rw [eg4]; funext j; unfold va_cpy nrm
    split
    · rename_i hj; rw [hn _ (by omega), Nat.zero_add]
    · rfl
  rw [h2, h4]; exact h
theorem s_append {post : Int32 → Int32 → (Nat → Int32) → (Nat → Int32) → (Nat → Int32) → (Nat → Int32) → (Nat → Int32) → Prop} {co no to tr tn c : Nat → Int32} {t : Nat} {v : Int32} (ht : t < 128) (hb : ∀ j, bd 255 (c j).toInt)
    (hflat : (∀ k, k < 3 → crs c 0 k = 0) → ∀ tr' tn', post (-2) (nI t) co no to tr' tn')
    (hmade : ¬ (∀ k, k < 3 → crs c 0 k = 0) → ∀ tr' tn', post (nI t) (nI (t + 1)) (va_cpy c co 0 (9 * t) 9) (nrm c no t) (upd to t v) tr' tn') : F_X5_append v (nI t) co no to tr tn c post := by
  refine ⟨fun _ => ⟨4, ?_⟩, fun q => absurd (by rw [n_128]; exact nI_lt ht (by omega)) q⟩
  have step : ∀ (n a : Nat) (tr : Nat → Int32), a < 3 → L_X5_append_14 post c n v (nI (a + 1)) (nI t) co no to (put3 tr (3 * a) (fun k => c (3 * a + k))) tn → L_X5_append_14 post c (n + 1) v (nI a) (nI t) co no to tr tn := by
    intro n a tr ha h
    refine ⟨fun q => ?_, fun _ => s_tryCorner ha ha (fun x ex => by rw [ex, nI_1]; exact h)⟩
    rw [n_3, nI_leI (by omega) (by omega)] at q; omega
  refine step 3 0 tr (by omega) (step 2 1 _ (by omega) (step 1 2 _ (by omega) ⟨fun _ => ?_, fun q => absurd (by decide) q⟩))
  obtain ⟨tr', etr⟩ : ∃ f, f = put3 (put3 (put3 tr (3 * 0) fun k => c (3 * 0 + k)) (3 * 1) fun k => c (3 * 1 + k)) (3 * 2) fun k => c (3 * 2 + k) := ⟨_, rfl⟩
  rw [← etr]
  have hc : ∀ j, j < 9 → tr' j = c j := by
    intro j hj
    rw [etr, put3_at, put3_at, put3_at]
    split
    · congr 1; omega
    · split
      · congr 1; omega
      · split
        · congr 1; omega
        · omega
  have hcr : ∀ k, crs tr' 0 k = crs c 0 k := fun k => crs_congr (fun j hj => by rw [Nat.zero_add]; exact hc j hj) k
  refine s_trialIsFlat (fun j hj => by rw [hc j hj]; exact hb j) (fun z g => ⟨fun q => absurd q (by decide), fun _ => hflat (fun k hk => by rw [← hcr]; exact z k hk) _ _⟩) (fun z g hg => ⟨fun _ => ?_, fun q => absurd rfl q⟩)
  refine s_storeTrial ht hc (fun k hk => by rw [hg k hk, hcr]) ⟨vin t ht (by omega) rfl, fun g9 eg9 x ex => ?_⟩
  rw [nI_clamp (by omega)] at eg9
  rw [ex, nI_1, nI_pred, eg9]
  exact hmade (fun y => z (fun k hk => by rw [hcr]; exact y k hk)) _ _
theorem cpy_0 {α : Type} (s f : Nat → α) (o : Nat) : va_cpy s f 0 o 0 = f := by funext j; unfold va_cpy; rw [if_neg (by omega)]
theorem cpy_s (s f : Nat → Int32) (o k : Nat) : upd (va_cpy s f 0 o k) (o + k) (s k) = va_cpy s f 0 o (k + 1) := by
  funext j; unfold upd va_cpy
  by_cases c : j = o + k
  · rw [if_pos c, if_pos ⟨by omega, by omega⟩]; congr 1; omega
  · rw [if_neg c]
    by_cases d : o ≤ j ∧ j < o + k
    · rw [if_pos d, if_pos ⟨by omega, by omega⟩]
    · rw [if_neg d, if_neg (by omega)]
theorem cpy_sL (s f : Nat → Int64) (o k : Nat) : vp_updL (va_cpy s f 0 o k) (o + k) (s k) = va_cpy s f 0 o (k + 1) := by
  funext j; unfold vp_updL va_cpy
  by_cases c : j = o + k
  · rw [if_pos c, if_pos ⟨by omega, by omega⟩]; congr 1; omega
  · rw [if_neg c]
    by_cases d : o ≤ j ∧ j < o + k
    · rw [if_pos d, if_pos ⟨by omega, by omega⟩]
    · rw [if_neg d, if_neg (by omega)]
theorem nrmL_cpy {c : Nat → Int32} {cr no : Nat → Int64} {t : Nat} (h : ∀ k, k < 3 → cr k = Int64.ofInt (crs c 0 k)) : va_cpy cr no 0 (3 * t) 3 = nrmL c no t := by
  funext j; unfold va_cpy nrmL
  split
  · rename_i hj; rw [h _ (by omega), Nat.zero_add]
  · rfl
theorem s_tri56 {post : Int32 → Int32 → Int32 → Int32 → (Nat → Int32) → (Nat → Int64) → (Nat → Int32) → (Nat → Int64) → Prop} {pt co to : Nat → Int32} {no cr : Nat → Int64} {t : Nat} {v pts nodes : Int32} (ht : t < 128) (hcr : ∀ k, k < 3 → cr k = Int64.ofInt (crs pt 0 k))
    (h : post (nI t) pts (nI (t + 1)) 0 (va_cpy pt co 0 (9 * t) 9) (nrmL pt no t) (upd to t v) cr) : L_X12_triangle_56 post pt 10 v 0 pts (nI t) nodes co no to cr := by
  have st9 : ∀ (n k : Nat), k < 9 → L_X12_triangle_56 post pt n v (nI (k + 1)) pts (nI t) nodes (va_cpy pt co 0 (9 * t) (k + 1)) no to cr → L_X12_triangle_56 post pt (n + 1) v (nI k) pts (nI t) nodes (va_cpy pt co 0 (9 * t) k) no to cr := by
    intro n k hk h
    refine ⟨fun q => ?_, fun _ => ⟨vin k (by omega) (by omega) rfl, vin (9 * t + k) (by omega) (by omega) (n9k t k), fun g eg x ex => ?_⟩⟩
    · rw [n_9, nI_leI (by omega) (by omega)] at q; omega
    · rw [n9k, nI_clamp (by omega), nI_clamp (by omega), cpy_s] at eg
      rw [eg, ex, nI_1]; exact h
  have st3 : ∀ (n k : Nat) (co' : Nat → Int32), k < 3 → L_X12_triangle_90 post pt n v (nI (k + 1)) pts (nI t) nodes co' (va_cpy cr no 0 (3 * t) (k + 1)) to cr → L_X12_triangle_90 post pt (n + 1) v (nI k) pts (nI t) nodes co' (va_cpy cr no 0 (3 * t) k) to cr := by
    intro n k co' hk h
    refine ⟨fun q => ?_, fun _ => ⟨vin k (by omega) (by omega) rfl, vin (3 * t + k) (by omega) (by omega) (n3k t k), fun g eg x ex => ?_⟩⟩
    · rw [n_3, nI_leI (by omega) (by omega)] at q; omega
    · rw [n3k, nI_clamp (by omega), nI_clamp (by omega), cpy_sL] at eg
      rw [eg, ex, nI_1]; exact h
  have h0 := cpy_0 pt co (9 * t)
  rw [← h0]
  refine st9 9 0 (by omega) (st9 8 1 (by omega) (st9 7 2 (by omega) (st9 6 3 (by omega) (st9 5 4 (by omega) (st9 4 5 (by omega) (st9 3 6 (by omega) (st9 2 7 (by omega) (st9 1 8 (by omega) ⟨fun _ => ⟨4, ?_⟩, fun q => absurd (by decide) q⟩))))))))
  have h1 := cpy_0 cr no (3 * t)
  rw [← h1]
  refine st3 3 0 _ (by omega) (st3 2 1 _ (by omega) (st3 1 2 _ (by omega) ⟨fun _ => ⟨vin t ht (by omega) rfl, fun g eg x ex => ?_⟩, fun q => absurd (by decide) q⟩))
  rw [nI_clamp (by omega)] at eg
  rw [eg, ex, nI_1, nI_pred, nrmL_cpy hcr]
  exact h
/-- the mesh: both sides hold the same -/
def IM (nt : Nat) (xn : Int32) (xc xno xt : Nat → Int32) (mn : Int32) (mc : Nat → Int32) (mno : Nat → Int64) (mt : Nat → Int32) : Prop :=
  nt ≤ 128 ∧ xn = nI nt ∧ mn = nI nt ∧ mc = xc ∧ mt = xt ∧ (∀ j, bd 255 (xc j).toInt) ∧ (∀ j, mno j = (xno j).toInt64) ∧ (∀ t k, t < nt → k < 3 → (xno (3 * t + k)).toInt = crs xc (9 * t) k)
