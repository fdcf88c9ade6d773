/-! PURE PART: the reference's level -/
def nn2 (no : Nat → Int32) (f k : Nat) : Int := (no (3 * f + k)).toInt
/-- the sum of products of a row and a normal -/
def dot3 (D : Nat → Int) (no : Nat → Int32) (f : Nat) : Nat → Int
  | 0 => 0
  | i + 1 => dot3 D no f i + D i * nn2 no f i
section
variable {post : Int32 → (Nat → Int64) → (Nat → Int64) → (Nat → Int64) → (Nat → Int64) → Prop} {fi : Int32} {mno pc : Nat → Int64} {lt : Nat → Int32}
theorem s_l225 {k130 : Int64 → Int64 → Int32 → (Nat → Int64) → (Nat → Int64) → (Nat → Int64) → (Nat → Int64) → Prop} {one two pr sq : Nat → Int64} {a b : Nat → Nat} {l2 l4 : Int64} {k : Nat} (ha : dig one a 8) (hb : dig two b 8) : ∀ m, m ≤ 8 → (vl b m ≤ vl a m → post (nI k) one two pr sq) → (¬ vl b m ≤ vl a m → ∀ x : Int32, x = nI k + (-1) → k130 l2 l4 x one two pr sq) → L_X12_levelOf_225 k130 post fi mno lt pc (m + 1) l2 l4 (nI k) 0 (nI m + (-1)) one two pr sq
  | 0, _, h1, _ => ⟨fun _ => ⟨fun q => absurd q (by decide), fun _ => h1 (Nat.le_refl 0)⟩, fun q => absurd (by decide) q⟩
  | m + 1, hm, h1, h0 => by
    rw [nI_p1']
    have v : vp_in (nI m) 8 := vin m (by omega) (by omega) rfl
    have am := ha m (by omega)
    have bm := hb m (by omega)
    have la := vl_lt (d := a) m (fun j hj => (ha j (by omega)).2)
    have lb := vl_lt (d := b) m (fun j hj => (hb j (by omega)).2)
    refine ⟨fun q => absurd q (nI_nn (by omega)), fun _ => ⟨fun q => absurd rfl q, fun _ => ⟨v, v, ?_⟩⟩⟩
    rw [nI_clamp (by omega), am.1, bm.1, lg_geN am.2 bm.2, lg_leN am.2 bm.2]
    refine ⟨fun q => ⟨v, v, fun q2 x ex => ?_, fun q2 x ex => ?_⟩, fun q x ex => ?_⟩
    · have e : a m = b m := by omega
      rw [ex]; exact s_l225 ha hb m (by omega) (fun z => h1 ((top_eq e).mpr z)) (fun z => h0 (fun y => z ((top_eq e).mp y)))
    · have t := top_lt (a := b) (b := a) lb (by omega)
      have J : J_X12_levelOf_288 k130 post fi mno lt pc l2 l4 (nI k) 1 one two pr sq := ⟨fun q => absurd q (by decide), fun _ => h1 (by omega)⟩
      exact ⟨fun _ => J, fun _ => ⟨fun _ => J, fun q => absurd q (by decide)⟩⟩
    · have t := top_lt (a := a) (b := b) la (by omega)
      have J : J_X12_levelOf_288 k130 post fi mno lt pc l2 l4 (nI k) (-1) one two pr sq := ⟨fun _ => h0 (by omega), fun q => absurd (by decide) q⟩
      exact ⟨fun _ => J, fun _ => ⟨fun _ => J, fun q => absurd q (by decide)⟩⟩
theorem s_l166 {k130 : Int64 → Int64 → Int32 → (Nat → Int64) → (Nat → Int64) → (Nat → Int64) → (Nat → Int64) → Prop} {one pr sq : Nat → Int64} {e : Nat → Nat} {l2 : Int64} {NN k : Nat} (he : dig sq e 8)
    (fin : ∀ two, dig two e 8 → F_X12_times (Int64.ofInt (NN : Int)) 8 pr two (fun v10 v11 => (F_X12_times ((nI k).toInt64 * (nI k).toInt64) 8 v10 v11 (fun v12 v13 => (∃ n0 : Nat, L_X12_levelOf_225 k130 post fi mno lt pc n0 l2 (Int64.ofInt (NN : Int)) (nI k) 0 7 one v13 v12 sq))))) :
    ∀ (m i : Nat) (two : Nat → Int64), i + m = 8 → dig two e i → L_X12_levelOf_166 k130 post fi mno lt pc (m + 1) l2 (Int64.ofInt (NN : Int)) (nI k) (nI i) one two pr sq
  | 0, i, two, hi, hd => by
    have : i = 8 := by omega
    subst this
    exact ⟨fun _ => fin two hd, fun q => absurd (by decide) q⟩
  | m + 1, i, two, hi, hd => by
    have v8 : vp_in (nI i) 8 := vin i (by omega) (by omega) rfl
    refine ⟨fun q => ?_, fun _ => ⟨v8, v8, fun g eg x ex => ?_⟩⟩
    · rw [n_8, nI_leI (by omega) (by omega)] at q; omega
    rw [nI_clamp (by omega)] at eg
    rw [ex, nI_1]
    refine s_l166 he fin m (i + 1) g (by omega) (fun j hj => ?_)
    rw [eg]
    by_cases c : j = i
    · subst c; rw [uL_s]; exact he j (by omega)
    · rw [uL_n c]; exact hd j (by omega)
theorem s_l130 {sq : Nat → Int64} {V NN S : Nat} (hS : hlds sq 8 S) (hV : V < 9223372036854775808) (hN : NN < 9223372036854775808) (hS5 : S < 1073741824 ^ 5) (hU : S * NN < 1073741824 ^ 5) : ∀ (k : Nat) (one two pr : Nat → Int64), k ≤ 15 → (∀ one' two' pr', post (nI (lev (V * V * 225) (S * NN) k)) one' two' pr' sq) → L_X12_levelOf_130 post fi mno lt pc (k + 1) (Int64.ofInt (V : Int)) (Int64.ofInt (NN : Int)) (nI k) one two pr sq
  | 0, one, two, pr, _, fin => ⟨fun _ => fin _ _ _, fun q => absurd (by decide) q⟩
  | k + 1, one, two, pr, hk, fin => by
    have kk : (k + 1) * (k + 1) ≤ 15 * 15 := Nat.mul_le_mul hk hk
    have VV : V * V ≤ 9223372036854775808 * 9223372036854775808 := Nat.mul_le_mul (by omega) (by omega)
    refine ⟨fun q => absurd q (by rw [i32_le, nI_toInt (by omega)]; show ¬ ((k + 1 : Nat) : Int) ≤ 0; omega), fun _ => ?_⟩
    refine s_isNumber hV (fun o1 h1 => s_times h1 (by omega) hV (fun p1 o2 h2 => ?_))
    rw [show (225 : Int64) = Int64.ofInt ((225 : Nat) : Int) from rfl]
    refine s_times h2 (by omega) (by omega) (fun p2 o3 h3 => ?_)
    obtain ⟨e, he, eS⟩ := hS
    refine ⟨9, s_l166 he (fun two' ht => ?_) 8 0 two (by omega) dig_0⟩
    refine s_times ⟨e, ht, eS⟩ hS5 hN (fun p3 t2 h4 => ?_)
    have ek : (nI (k + 1)).toInt64 * (nI (k + 1)).toInt64 = Int64.ofInt (((k + 1) * (k + 1) : Nat) : Int) := by
      rw [o_i2l, nI_toInt (by omega), o_mul, ← Int.natCast_mul]
    rw [ek]
    refine s_times h4 hU (by omega) (fun p4 t3 h5 => ⟨9, ?_⟩)
    obtain ⟨a, ha, ea⟩ := h3
    obtain ⟨b, hb, eb⟩ := h5
    refine s_l225 ha hb 8 (by omega) (fun z => ?_) (fun z x ex => ?_)
    · rw [ea, eb] at z
      have f := fin o3 t3 p4
      unfold lev at f
      rw [if_pos z] at f; exact f
    · rw [ea, eb] at z
      rw [ex, nI_p1']
      refine s_l130 ⟨e, he, eS⟩ hV hN hS5 hU k _ _ _ (by omega) (fun o t p => ?_)
      have f := fin o t p
      unfold lev at f
      rw [if_neg z] at f; exact f
theorem st_l32 {no : Nat → Int32} {f i n k S : Nat} {p : Nat → Int} {d s : Int} {one two pr sq : Nat → Int64} (hf : f < 128) (hi : i < 4) (hk : k < 3) (hm : ∀ j, mno j = (no j).toInt64) (hp : asI pc p 4) (hb : bd 818000000000 (ltD lt i p (p 3) k)) (hS : hlds sq 8 S) (hSb : S + (ltD lt i p (p 3) k).natAbs * (ltD lt i p (p 3) k).natAbs < 1073741824 ^ 8)
    (h : ∀ one' pr' sq', hlds sq' 8 (S + (ltD lt i p (p 3) k).natAbs * (ltD lt i p (p 3) k).natAbs) → L_X12_levelOf_32 post (nI f) mno lt pc n (nI i) (Int64.ofInt (d - ltD lt i p (p 3) k * nn2 no f k)) (Int64.ofInt (s + nn2 no f k * nn2 no f k)) (nI (k + 1)) one' two pr' sq') :
    L_X12_levelOf_32 post (nI f) mno lt pc (n + 1) (nI i) (Int64.ofInt d) (Int64.ofInt s) (nI k) one two pr sq := by
  refine ⟨fun q => ?_, fun _ => ⟨vin (3 * i + k) (by omega) (by omega) (n3k i k), vin 3 (by omega) (by omega) rfl, vin k (by omega) (by omega) rfl, fun x ex => ⟨vin (3 * f + k) (by omega) (by omega) (n3k f k), fun y ey z ez w ew => ?_⟩⟩⟩
  · rw [n_3, nI_leI (by omega) (by omega)] at q; omega
  have ex' : x = Int64.ofInt (-ltD lt i p (p 3) k) := by
    rw [ex, n3k, nI_clamp (by omega), nI_clamp (by omega), cl_3, hp 3 (by omega), hp k (by omega), o_i2l, o_mul, o_sub]
    congr 1; unfold ltD; grind
  have ey' : y = Int64.ofInt (nn2 no f k) := by rw [ey, n3k, nI_clamp (by omega), hm, o_i2l]; rfl
  have ez' : z = Int64.ofInt (d - ltD lt i p (p 3) k * nn2 no f k) := by rw [ez, ex', ey', o_mul, o_add]; congr 1; grind
  have ew' : w = Int64.ofInt (s + nn2 no f k * nn2 no f k) := by rw [ew, ey', o_mul, o_add]
  rw [ex', ez', ew']
  have en : (-ltD lt i p (p 3) k).natAbs = (ltD lt i p (p 3) k).natAbs := Int.natAbs_neg _
  refine s_addSquare (S := S) (bd_le (by decide) (bd_neg hb)) hS (by rw [en]; exact hSb) (fun one' pr' sq' h' x ex => ?_)
  rw [en] at h'
  rw [ex, nI_1]; exact h _ _ _ h'
theorem s_l8 {l1 : Int32} {l2 l4 : Int64} {one two pr : Nat → Int64} (k : ∀ sq, hlds sq 8 0 → ∃ n0, L_X12_levelOf_32 post fi mno lt pc n0 l1 l2 l4 0 one two pr sq) : ∀ (m i : Nat) (sq : Nat → Int64), i + m = 8 → dig sq (fun _ => 0) i → L_X12_levelOf_8 post fi mno lt pc (m + 1) l1 l2 l4 (nI i) one two pr sq
  | 0, i, sq, hi, hd => by
    have : i = 8 := by omega
    subst this
    exact ⟨fun _ => k sq ⟨_, hd, vl_zero 8⟩, fun q => absurd (by decide) q⟩
  | m + 1, i, sq, hi, hd => by
    refine ⟨fun q => ?_, fun _ => ⟨vin i (by omega) (by omega) rfl, fun g eg x ex => ?_⟩⟩
    · rw [n_8, nI_leI (by omega) (by omega)] at q; omega
    rw [nI_clamp (by omega)] at eg
    rw [ex, nI_1]
    refine s_l8 k m (i + 1) g (by omega) (fun j hj => ?_)
    rw [eg]
    by_cases c : j = i
    · subst c; rw [uL_s]; exact ⟨rfl, by show (0 : Nat) < 1073741824; omega⟩
    · rw [uL_n c]; exact hd j (by omega)
theorem sq_nn (x : Int) : 0 ≤ x * x := by
  rw [← Int.natAbs_mul_self]; exact Int.natCast_nonneg _
/-- the square of a normal -/
def nsq (no : Nat → Int32) (f : Nat) : Int := nn2 no f 0 * nn2 no f 0 + nn2 no f 1 * nn2 no f 1 + nn2 no f 2 * nn2 no f 2
theorem nsq_bd {no : Nat → Int32} {f : Nat} (hn : ∀ k, k < 3 → bd 260100 (no (3 * f + k)).toInt) : 0 ≤ nsq no f ∧ nsq no f < 210000000000 := by
  have h0 := bd_mul (hn 0 (by omega)) (hn 0 (by omega))
  have h1 := bd_mul (hn 1 (by omega)) (hn 1 (by omega))
  have h2 := bd_mul (hn 2 (by omega)) (hn 2 (by omega))
  have p0 : 0 ≤ nn2 no f 0 * nn2 no f 0 := sq_nn _
  have p1 : 0 ≤ nn2 no f 1 * nn2 no f 1 := sq_nn _
  have p2 : 0 ≤ nn2 no f 2 * nn2 no f 2 := sq_nn _
  obtain ⟨_, q0⟩ := h0
  obtain ⟨_, q1⟩ := h1
  obtain ⟨_, q2⟩ := h2
  unfold nsq
  unfold nn2 at *
  omega
theorem s_levelOfM {no : Nat → Int32} {f i : Nat} {p : Nat → Int} {one two pr sq : Nat → Int64} (hf : f < 128) (hi : i < 4) (hm : ∀ j, mno j = (no j).toInt64) (hn : ∀ k, k < 3 → bd 260100 (no (3 * f + k)).toInt) (hp : asI pc p 4) (hb : ∀ k, k < 3 → bd 818000000000 (ltD lt i p (p 3) k))
    (fin : ∀ one' two' pr' sq', post (nI (lev ((be no f (ltD lt i p (p 3))).natAbs * (be no f (ltD lt i p (p 3))).natAbs * 225) (sqs (ltD lt i p (p 3)) 3 * (nsq no f).natAbs) 15)) one' two' pr' sq') : F_X12_levelOf (nI i) (nI f) mno lt pc one two pr sq post := by
  have s1 := sqs_le hb 1 (by omega)
  have s2 := sqs_le hb 2 (by omega)
  have s3 := sqs_le hb 3 (by omega)
  have q := nsq_bd hn
  have eb := be_bd hn hb
  refine ⟨9, s_l8 (fun sq0 h0 => ⟨4, ?_⟩) 8 0 sq (by omega) dig_0⟩
  refine st_l32 (no := no) (d := 0) (s := 0) (k := 0) (S := 0) hf hi (by omega) hm hp (hb 0 (by omega)) h0 (by change 0 + (ltD lt i p (p 3) 0).natAbs * (ltD lt i p (p 3) 0).natAbs ≤ _ at s1; omega) (fun one1 pr1 sq1 h1 => ?_)
  refine st_l32 (no := no) (k := 1) hf hi (by omega) hm hp (hb 1 (by omega)) h1 (by change 0 + (ltD lt i p (p 3) 0).natAbs * (ltD lt i p (p 3) 0).natAbs + (ltD lt i p (p 3) 1).natAbs * (ltD lt i p (p 3) 1).natAbs ≤ _ at s2; omega) (fun one2 pr2 sq2 h2 => ?_)
  refine st_l32 (no := no) (k := 2) hf hi (by omega) hm hp (hb 2 (by omega)) h2 (by change 0 + (ltD lt i p (p 3) 0).natAbs * (ltD lt i p (p 3) 0).natAbs + (ltD lt i p (p 3) 1).natAbs * (ltD lt i p (p 3) 1).natAbs + (ltD lt i p (p 3) 2).natAbs * (ltD lt i p (p 3) 2).natAbs ≤ _ at s3; omega) (fun one3 pr3 sq3 h3 => ⟨fun _ => ?_, fun q => absurd (by decide) q⟩)
  have ed : 0 - ltD lt i p (p 3) 0 * nn2 no f 0 - ltD lt i p (p 3) 1 * nn2 no f 1 - ltD lt i p (p 3) 2 * nn2 no f 2 = -be no f (ltD lt i p (p 3)) := by
    unfold be dotN nn2
    show 0 - ltD lt i p (p 3) 0 * (no (3 * f)).toInt - ltD lt i p (p 3) 1 * (no (3 * f + 1)).toInt - ltD lt i p (p 3) 2 * (no (3 * f + 2)).toInt = _
    grind
  have es : 0 + nn2 no f 0 * nn2 no f 0 + nn2 no f 1 * nn2 no f 1 + nn2 no f 2 * nn2 no f 2 = ((nsq no f).natAbs : Int) := by
    rw [Int.zero_add]; show nsq no f = _; omega
  rw [ed, es]
  have h3' : hlds sq3 8 (sqs (ltD lt i p (p 3)) 3) := h3
  have lN : (nsq no f).natAbs ≤ 210000000000 := by omega
  have lU : sqs (ltD lt i p (p 3)) 3 * (nsq no f).natAbs ≤ 3 * 669124000000000000000000 * 210000000000 := Nat.mul_le_mul s3 lN
  obtain ⟨eb1, eb2⟩ := eb
  have J : ∀ x : Int64, x = Int64.ofInt (((be no f (ltD lt i p (p 3))).natAbs : Nat) : Int) → J_X12_levelOf_125 post (nI f) mno lt pc (Int64.ofInt (((nsq no f).natAbs : Nat) : Int)) x one3 two pr3 sq3 := by
    intro x ex
    subst ex
    exact ⟨16, s_l130 h3' (by omega) (by omega) (by omega) (by omega) 15 _ _ _ (by omega) (fun _ _ _ => fin _ _ _ _)⟩
  rw [lg_ge0 ⟨by unfold bM; omega, by unfold bM; omega⟩]
  refine ⟨fun q => J _ ?_, fun q => J _ ?_⟩
  · congr 1; omega
  · rw [o_neg]; congr 1; omega
end
