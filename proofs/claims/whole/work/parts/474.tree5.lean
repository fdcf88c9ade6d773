/-! PURE PART: the tree: the reference's stack; build -/
section
variable {co : Nat → Int32} {nt lst : Nat} {tri : Int32}
variable {post : Int32 → Int32 → (Nat → Int32) → (Nat → Int32) → (Nat → Int32) → (Nat → Int32) → (Nat → Int32) → (Nat → Int32) → (Nat → Int32) → (Nat → Int32) → (Nat → Int32) → (Nat → Int32) → Prop}
theorem b80_head {M s l dep n q : Nat} {p : Int32} {f m lo hi a dp b o oth td lo1 hi1 : Nat → Int32}
    (hnt : nt ≤ 128) (ho : OKo nt o) (hn : n < 255) (hq : q ≤ 8) (hl : 1 ≤ l) (hs : s + l ≤ nt) (hd : dep ≤ 7) (hls : lst ≤ 8) (t0 : td (3 * q) = nI s) (t1 : td (3 * q + 1) = nI l) (t2 : td (3 * q + 2) = p) (LK : LNK lo hi p n lo1 hi1) (DE : DEP p dep dp n)
    (K1 : l ≤ lst → ∀ oth', L_X12_build_80 post tri co M (nI lst) (nI q) (nI (n + 1)) (upd f n (nI s)) (upd m n (nI l)) (upd lo1 n (-2)) (upd hi1 n (-2)) (upd a n p) (upd dp n (nI dep)) (pb b n (bx co o s l)) o oth' td)
    (K2 : ¬ l ≤ lst → ∀ oth' td', (∀ j, j < 3 * q → td' j = td j) → td' (3 * q) = nI (s + l / 2) → td' (3 * q + 1) = nI (l - l / 2) → td' (3 * q + 2) = nI n → td' (3 * (q + 1)) = nI s → td' (3 * (q + 1) + 1) = nI (l / 2) → td' (3 * (q + 1) + 2) = nI n →
      L_X12_build_80 post tri co M (nI lst) (nI (q + 2)) (nI (n + 1)) (upd f n (nI s)) (upd m n (nI l)) (upd lo1 n (-2)) (upd hi1 n (-2)) (upd a n p) (upd dp n (nI dep)) (pb b n (bx co o s l)) (srtN co o s l) oth' td') :
    L_X12_build_80 post tri co (M + 1) (nI lst) (nI (q + 1)) (nI n) f m lo hi a dp b o oth td := by
  have vn : vp_in (nI n) 255 := vin n hn (by omega) rfl
  have cn : (nI n).toNatClampNeg = n := nI_clamp (by omega)
  have q0 : (3 : Int32) * nI q = nI (3 * q) := pk_mul 3 q
  have q1 : (3 : Int32) * nI q + 1 = nI (3 * q + 1) := n3k q 1
  have q2 : (3 : Int32) * nI q + 2 = nI (3 * q + 2) := n3k q 2
  refine ⟨fun c => absurd c (by rw [i32_le, nI_toInt (by omega)]; show ¬ ((q + 1 : Nat) : Int) ≤ 0; omega), fun _ x ex => ?_⟩
  rw [nI_p1'] at ex
  subst ex
  refine ⟨vin (3 * q + 2) (by omega) (by omega) q2, fun y ey => ⟨vin (3 * q) (by omega) (by omega) q0, vin (3 * q + 1) (by omega) (by omega) q1, ?_⟩⟩
  rw [q2, nI_clamp (by omega), t2] at ey
  rw [ey]
  rw [q1, q0, nI_clamp (by omega), nI_clamp (by omega), t0, t1]
  have J : J_X12_build_159 (L_X12_build_80 post tri co M) tri co (nI lst) (nI q) (nI n) (nI (n + 1)) (upd f n (nI s)) (upd m n (nI l)) (upd lo1 n (-2)) (upd hi1 n (-2)) (upd a n p) (upd dp n (nI dep)) b o oth td :=
    s_boxOf hnt ho hn (by rw [pk_us]) (by rw [pk_us]) hs (fun oth' h' => ⟨7, s_168 hnt ho hn hq (by rw [pk_us]) (by rw [pk_us]) hl hs hls h' (fun c => K1 c oth') (fun c => K2 c oth') 6 0 b (by omega) (fun j => by rw [if_neg (by omega)])⟩)
  refine ⟨vn, fun g1 e1 => ⟨vn, fun g2 e2 => ⟨vn, fun g3 e3 => ⟨vn, fun g4 e4 => ⟨vn, fun g5 e5 => ?_⟩⟩⟩⟩⟩
  rw [cn] at e1 e2 e3 e4 e5
  subst e1; subst e2; subst e3; subst e4; subst e5
  have D76 : ∀ {P : Int32 → (Nat → Int32) → (Nat → Int32) → (Nat → Int32) → (Nat → Int32) → (Nat → Int32) → (Nat → Int32) → Prop}, P (nI (n + 1)) (upd f n (nI s)) (upd m n (nI l)) (upd lo n (-2)) (upd hi n (-2)) (upd a n p) (upd dp n (nI dep)) → (0 ≤ p → (vp_in p 255 ∧ J_X12_newNode_76 P (nI n) ((dp p.toNatClampNeg) + 1) (nI n) (upd f n (nI s)) (upd m n (nI l)) (upd lo n (-2)) (upd hi n (-2)) (upd a n p) dp)) ∧ (¬ 0 ≤ p → J_X12_newNode_76 P (nI n) 0 (nI n) (upd f n (nI s)) (upd m n (nI l)) (upd lo n (-2)) (upd hi n (-2)) (upd a n p) dp) := by
    intro P h
    rcases DE with ⟨rfl, rfl⟩ | ⟨g, d0, hg, rfl, e0, rfl⟩
    · exact ⟨fun c => absurd c (by decide), fun _ => ⟨vn, fun g eg x ex => by rw [cn] at eg; rw [eg, ex, nI_1]; exact h⟩⟩
    · refine ⟨fun _ => ⟨vin g (by omega) (by omega) rfl, ⟨vn, fun g eg x ex => ?_⟩⟩, fun c => absurd (nI_nn2 (by omega)).2 c⟩
      rw [cn, nI_clamp (by omega), e0, nI_1] at eg
      rw [eg, ex, nI_1]; exact h
  refine D76 ?_
  rcases LK with ⟨rfl, rfl, rfl⟩ | ⟨g, hg, rfl, LK⟩
  · exact ⟨fun _ => J, fun c => absurd m2_neg c⟩
  · have vg : vp_in (nI g) 255 := vin g (by omega) (by omega) rfl
    refine ⟨fun c => absurd c (nI_nn2 (by omega)).1, fun _ => ⟨vg, ?_⟩⟩
    rw [nI_clamp (show g < 2 ^ 31 by omega), pk_un (show g ≠ n by omega)]
    rcases LK with ⟨e0, rfl, rfl⟩ | ⟨x, hx, e0, rfl, rfl⟩
    · rw [e0]
      refine ⟨fun c => absurd c (by decide), fun _ => ⟨vg, fun g58 e58 => ?_⟩⟩
      rw [e58, upd_comm (by omega)]; exact J
    · rw [e0]
      refine ⟨fun _ => ⟨vg, fun g56 e56 => ?_⟩, fun c => absurd (nI_nn2 hx).2 c⟩
      rw [e56, upd_comm (by omega)]; exact J
theorem s_b80 (hnt : nt ≤ 128) (hls1 : 1 ≤ lst) (hls : lst ≤ 8) : ∀ (e s l dep n q N : Nat) (p : Int32) (f m lo hi a dp b o oth td lo1 hi1 : Nat → Int32),
    1 ≤ l → l ≤ 2 ^ e → s + l ≤ nt → dep + e ≤ 7 → n + 2 * l ≤ 256 → q + e ≤ 8 → OKo nt o → td (3 * q) = nI s → td (3 * q + 1) = nI l → td (3 * q + 2) = p → LNK lo hi p n lo1 hi1 → DEP p dep dp n →
    (∀ oth' td', (∀ j, j < 3 * q → td' j = td j) → L_X12_build_80 post tri co N (nI lst) (nI q) (nI (n + sz lst e l)) (Kc co lst e s l p n (o, f, m, a, b)).2.1 (Kc co lst e s l p n (o, f, m, a, b)).2.2.1 (Lo lst e l n lo1) (Up lst e l n hi1) (Kc co lst e s l p n (o, f, m, a, b)).2.2.2.1 (Dp lst e l dep n dp) (Kc co lst e s l p n (o, f, m, a, b)).2.2.2.2 (Kc co lst e s l p n (o, f, m, a, b)).1 oth' td') →
    L_X12_build_80 post tri co (N + sz lst e l) (nI lst) (nI (q + 1)) (nI n) f m lo hi a dp b o oth td
  | 0, s, l, dep, n, q, N, p, f, m, lo, hi, a, dp, b, o, oth, td, lo1, hi1, hl, h2, hs, hd, hn, hq, ho, t0, t1, t2, LK, DE, k => by
    have h2' : l ≤ 1 := h2
    exact b80_head hnt ho (by omega) (by omega) hl hs (by omega) hls t0 t1 t2 LK DE (fun _ oth' => k oth' td (fun _ _ => rfl)) (fun c => absurd (show l ≤ lst by omega) c)
  | e + 1, s, l, dep, n, q, N, p, f, m, lo, hi, a, dp, b, o, oth, td, lo1, hi1, hl, h2, hs, hd, hn, hq, ho, t0, t1, t2, LK, DE, k => by
    by_cases c : l ≤ lst
    · rw [sz_s, if_pos c] at k ⊢
      rw [Kc_s, if_pos c] at k
      unfold Lo Up Dp at k
      rw [if_pos c, if_pos c, if_pos c] at k
      exact b80_head hnt ho (by omega) (by omega) hl hs (by omega) hls t0 t1 t2 LK DE (fun _ oth' => k oth' td (fun _ _ => rfl)) (fun d => absurd c d)
    · obtain ⟨a1, b1, c1, d1⟩ := half h2 (by omega)
      have z1 := sz_le hls1 e _ a1 b1
      rw [sz_s, if_neg c] at k ⊢
      rw [Kc_s, if_neg c] at k
      unfold Lo Up Dp at k
      rw [if_neg c, if_neg c, if_neg c] at k
      rw [show N + (1 + sz lst e (l / 2) + sz lst e (l - l / 2)) = (N + sz lst e (l - l / 2) + sz lst e (l / 2)) + 1 by omega]
      refine b80_head hnt ho (by omega) (by omega) hl hs (by omega) hls t0 t1 t2 LK DE (fun d => absurd d c) (fun _ oth' td' h0 u0 u1 u2 w0 w1 w2 => ?_)
      refine s_b80 hnt hls1 hls e s (l / 2) (dep + 1) (n + 1) (q + 1) _ (nI n) _ _ _ _ _ _ _ _ _ _ (upd (upd lo1 n (-2)) n (nI (n + 1))) (upd hi1 n (-2)) a1 b1 (by omega) (by omega) (by omega) (by omega) (OKo_srt hnt _ _ _ (by omega) ho) w0 w1 w2 (Or.inr ⟨n, by omega, rfl, Or.inl ⟨pk_us, rfl, rfl⟩⟩) (Or.inr ⟨n, dep, by omega, rfl, pk_us, rfl⟩) (fun oth2 td2 h2' => ?_)
      refine s_b80 hnt hls1 hls e (s + l / 2) (l - l / 2) (dep + 1) (n + 1 + sz lst e (l / 2)) q N (nI n) _ _ _ _ _ _ _ _ _ _ (Lo lst e (l / 2) (n + 1) (upd (upd lo1 n (-2)) n (nI (n + 1)))) (upd (Up lst e (l / 2) (n + 1) (upd hi1 n (-2))) n (nI (n + 1 + sz lst e (l / 2)))) c1 d1 (by omega) (by omega) (by omega) (by omega) (Kc_o hnt e _ _ _ _ _ a1 b1 (by omega) hls1 (OKo_srt hnt _ _ _ (by omega) ho)) (by rw [h2' _ (by omega)]; exact u0) (by rw [h2' _ (by omega)]; exact u1) (by rw [h2' _ (by omega)]; exact u2) (Or.inr ⟨n, by omega, rfl, Or.inr ⟨n + 1, by omega, by rw [Lo_at _ _ _ n _ (by omega), pk_us], rfl, rfl⟩⟩) (Or.inr ⟨n, dep, by omega, rfl, by rw [Dp_at _ _ _ _ n _ (by omega), pk_us], rfl⟩) (fun oth3 td3 h3 => ?_)
      rw [Up_upd _ _ _ n _ _ (by omega), Lo_upd _ _ _ n (upd lo1 n (-2)) _ (by omega), show n + 1 + sz lst e (l / 2) + sz lst e (l - l / 2) = n + (1 + sz lst e (l / 2) + sz lst e (l - l / 2)) by omega]
      exact k oth3 td3 (fun j hj => by rw [h3 j hj, h2' j (by omega), h0 j hj])
end
theorem bx_b {co o : Nat → Int32} {s l k : Nat} (hb : ∀ j, bd 255 (co j).toInt) : bd 1000 (bx co o s l k).toInt := by
  have h1 : ∀ l k, bd 1000 (blw co o k s l).toInt := fun l k => by
    induction l with
    | zero => show bd 1000 (1000 : Int32).toInt; exact ⟨by decide, by decide⟩
    | succ l ih =>
      have := lst3_b (t := ot o (s + l)) (k := k) hb
      show bd 1000 (jminI _ _).toInt
      rw [jmin_t]; unfold bd at *; omega
  have h2 : ∀ l k, bd 1000 (bgh co o k s l).toInt := fun l k => by
    induction l with
    | zero => show bd 1000 (-1000 : Int32).toInt; exact ⟨by decide, by decide⟩
    | succ l ih =>
      have := grt3_b (t := ot o (s + l)) (k := k) hb
      show bd 1000 (jmaxI _ _).toInt
      rw [jmax_t]; unfold bd at *; omega
  unfold bx; split
  · exact h1 _ _
  · exact h2 _ _
theorem pb_b {b g : Nat → Int32} {n : Nat} (h1 : ∀ j, bd 1000 (b j).toInt) (h2 : ∀ k, bd 1000 (g k).toInt) : ∀ j, bd 1000 (pb b n g j).toInt := fun j => by
  unfold pb; split
  · exact h2 _
  · exact h1 _
theorem Kc_b {co : Nat → Int32} {lst : Nat} (hb : ∀ j, bd 255 (co j).toInt) : ∀ (e s l : Nat) (p : Int32) (n : Nat) (c : TC), (∀ j, bd 1000 (c.2.2.2.2 j).toInt) → ∀ j, bd 1000 ((Kc co lst e s l p n c).2.2.2.2 j).toInt
  | 0, s, l, p, n, c, h => pb_b h (fun k => bx_b hb)
  | e + 1, s, l, p, n, c, h => by
    rw [Kc_s]; split
    · exact pb_b h (fun k => bx_b hb)
    · exact Kc_b hb e _ _ _ _ _ (Kc_b hb e _ _ _ _ _ (pb_b h (fun k => bx_b hb)))
/-- the order as it begins -/
def oin (o : Nat → Int32) (nt : Nat) : Nat → Int32 := fun j => if j < nt then nI j else o j
theorem oin_s (o : Nat → Int32) (i : Nat) : upd (oin o i) i (nI i) = oin o (i + 1) := by
  funext j; unfold upd oin
  by_cases c : j = i
  · rw [if_pos c, if_pos (by omega), c]
  · rw [if_neg c]
    by_cases d : j < i
    · rw [if_pos d, if_pos (by omega)]
    · rw [if_neg d, if_neg (by omega)]
theorem oin_ok (o : Nat → Int32) (nt : Nat) : OKo nt (oin o nt) := fun j hj => ⟨j, hj, by unfold oin; rw [if_pos hj]⟩
theorem oin_0 (o : Nat → Int32) : oin o 0 = o := by funext j; unfold oin; rw [if_neg (by omega)]
/-- the tree: both sides hold the same -/
def IT (nt nn : Nat) (xn xd : Int32) (xo xf xm xl xu xa xb : Nat → Int32) (mn : Int32) (mf mm ml mh ma md mb mo : Nat → Int32) : Prop :=
  nn ≤ 255 ∧ xn = nI nn ∧ mn = nI nn ∧ mo = xo ∧ mf = xf ∧ mm = xm ∧ ml = xl ∧ mh = xu ∧ ma = xa ∧ mb = xb ∧ fmx md nn 0 0 = xd ∧ (0 < nn → 1 ≤ nt ∧ OKo nt xo ∧ xm 0 = nI nt ∧ ∀ j, j < nn → nodOK nt 0 j (-2) xf xm xa) ∧ ∀ j, bd 1000 (xb j).toInt
theorem grow_end {post : Int32 → Int32 → (Nat → Int32) → (Nat → Int32) → (Nat → Int32) → (Nat → Int32) → (Nat → Int32) → (Nat → Int32) → (Nat → Int32) → Prop} {co : Nat → Int32} {nt lst e : Nat} {o f m lo up a b : Nat → Int32} (h7 : e ≤ 7) (h2e : nt ≤ 2 ^ e) (hnt : nt ≤ 128) (hb : ∀ j, bd 255 (co j).toInt) (hls1 : 1 ≤ lst) (hls : lst ≤ 8) (h1 : 1 ≤ nt)
    (k1 : post (nI (0 + sz lst e nt)) (nI (mx lst e nt 0 0)) (Kc co lst e 0 nt (-2) 0 (oin o nt, f, m, a, b)).1 (Kc co lst e 0 nt (-2) 0 (oin o nt, f, m, a, b)).2.1 (Kc co lst e 0 nt (-2) 0 (oin o nt, f, m, a, b)).2.2.1 (Lo lst e nt 0 lo) (Up lst e nt 0 up) (Kc co lst e 0 nt (-2) 0 (oin o nt, f, m, a, b)).2.2.2.1 (Kc co lst e 0 nt (-2) 0 (oin o nt, f, m, a, b)).2.2.2.2) :
    F_X5_many (nI nt) (fun r7 => (F_X9_branch 20 (nI lst) 0 r7 (-2) 0 0 0 (oin o nt) f m lo up a b co (fun r8 v9 v10 v11 v12 v13 v14 v15 v16 v17 => post v9 v10 v11 v12 v13 v14 v15 v16 v17))) := by
  unfold F_X5_many
  rw [n_0]
  generalize hD : (20 : Nat) = D
  exact s_branch hnt hb hls1 hls e D 0 nt 0 0 0 (-2) (oin o nt) f m lo up a b (fun r8 v9 v10 v11 v12 v13 v14 v15 v16 v17 => post v9 v10 v11 v12 v13 v14 v15 v16 v17) (by omega) h1 h2e (by omega) (by omega) (by omega) (by omega) (oin_ok o nt) k1
theorem s_grow6 {post : Int32 → Int32 → (Nat → Int32) → (Nat → Int32) → (Nat → Int32) → (Nat → Int32) → (Nat → Int32) → (Nat → Int32) → (Nat → Int32) → Prop} {co : Nat → Int32} {nt lst e : Nat} {o f m lo up a b : Nat → Int32} (h7 : e ≤ 7) (h2e : nt ≤ 2 ^ e) (hnt : nt ≤ 128) (hb : ∀ j, bd 255 (co j).toInt) (hls1 : 1 ≤ lst) (hls : lst ≤ 8)
    (k0 : nt = 0 → post 0 0 (oin o nt) f m lo up a b) (k1 : 1 ≤ nt → post (nI (0 + sz lst e nt)) (nI (mx lst e nt 0 0)) (Kc co lst e 0 nt (-2) 0 (oin o nt, f, m, a, b)).1 (Kc co lst e 0 nt (-2) 0 (oin o nt, f, m, a, b)).2.1 (Kc co lst e 0 nt (-2) 0 (oin o nt, f, m, a, b)).2.2.1 (Lo lst e nt 0 lo) (Up lst e nt 0 up) (Kc co lst e 0 nt (-2) 0 (oin o nt, f, m, a, b)).2.2.2.1 (Kc co lst e 0 nt (-2) 0 (oin o nt, f, m, a, b)).2.2.2.2) :
    ∀ (w i : Nat), i + w = nt → L_X9_grow_6 post (nI nt) co (w + 1) (nI lst) (nI i) 0 0 (oin o i) f m lo up a b
  | 0, i, hi => by
    have : i = nt := by omega
    subst this
    refine ⟨fun _ => ⟨fun q => ?_, fun q => ?_⟩, fun q => absurd (by rw [nI_leI (by omega) (by omega)]; omega) q⟩
    · rw [n_0, nI_leI (by omega) (by omega)] at q; exact k0 (by omega)
    · rw [n_0, nI_leI (by omega) (by omega)] at q
      exact grow_end h7 h2e hnt hb hls1 hls (by omega) (k1 (by omega))
  | w + 1, i, hi => by
    refine ⟨fun q => ?_, fun _ => ⟨vin i (by omega) (by omega) rfl, fun g eg x ex => ?_⟩⟩
    · rw [nI_leI (by omega) (by omega)] at q; omega
    rw [nI_clamp (by omega), oin_s] at eg
    rw [eg, ex, nI_1]
    exact s_grow6 h7 h2e hnt hb hls1 hls k0 k1 w (i + 1) (by omega)
theorem s_mb30 {post : Int32 → Int32 → (Nat → Int32) → (Nat → Int32) → (Nat → Int32) → (Nat → Int32) → (Nat → Int32) → (Nat → Int32) → (Nat → Int32) → (Nat → Int32) → (Nat → Int32) → (Nat → Int32) → Prop} {co : Nat → Int32} {nt lst e : Nat} {f m lo hi a dp b o oth td : Nat → Int32} (h7 : e ≤ 7) (h2e : nt ≤ 2 ^ e) (hnt : nt ≤ 128) (h1 : 1 ≤ nt) (hls1 : 1 ≤ lst) (hls : lst ≤ 8)
    (k : ∀ oth td, post (nI (0 + sz lst e nt)) (nI (0 + sz lst e nt)) (Kc co lst e 0 nt (-2) 0 (oin o nt, f, m, a, b)).2.1 (Kc co lst e 0 nt (-2) 0 (oin o nt, f, m, a, b)).2.2.1 (Lo lst e nt 0 lo) (Up lst e nt 0 hi) (Kc co lst e 0 nt (-2) 0 (oin o nt, f, m, a, b)).2.2.2.1 (Dp lst e nt 0 0 dp) (Kc co lst e 0 nt (-2) 0 (oin o nt, f, m, a, b)).2.2.2.2 (Kc co lst e 0 nt (-2) 0 (oin o nt, f, m, a, b)).1 oth td) :
    ∀ (w i : Nat), i + w = nt → L_X12_build_30 post (nI nt) co (w + 1) (nI lst) (nI i) 0 f m lo hi a dp b (oin o i) oth td
  | 0, i, hi' => by
    have : i = nt := by omega
    subst this
    refine ⟨fun _ => ⟨vin 0 (by omega) (by omega) rfl, fun g1 e1 => ⟨vin 1 (by omega) (by omega) rfl, fun g2 e2 => ⟨vin 2 (by omega) (by omega) rfl, fun g3 e3 => ⟨1 + sz lst e i, ?_⟩⟩⟩⟩, fun q => absurd (by rw [nI_leI (by omega) (by omega)]; omega) q⟩
    rw [cl_0] at e1
    rw [cl_1] at e2
    rw [cl_2] at e3
    refine s_b80 hnt hls1 hls e 0 i 0 0 0 1 (-2) _ _ _ _ _ _ _ _ _ _ lo hi (by omega) h2e (by omega) (by omega) (by omega) (by omega) (oin_ok o i) ?_ ?_ ?_ (Or.inl ⟨rfl, rfl, rfl⟩) (Or.inl ⟨rfl, rfl⟩) (fun oth' td' _ => ⟨fun _ => k _ _, fun q => absurd (by decide) q⟩)
    · rw [e3, pk_un (by omega), e2, pk_un (by omega), e1]; exact pk_us
    · rw [e3, pk_un (by omega), e2]; exact pk_us
    · rw [e3]; exact pk_us
  | w + 1, i, hi' => by
    refine ⟨fun q => ?_, fun _ => ⟨vin i (by omega) (by omega) rfl, fun g eg x ex => ?_⟩⟩
    · rw [nI_leI (by omega) (by omega)] at q; omega
    rw [nI_clamp (by omega), oin_s] at eg
    rw [eg, ex, nI_1]
    exact s_mb30 h7 h2e hnt h1 hls1 hls k w (i + 1) (by omega)
theorem op_build {a xn mn tn td_ un : Int32} {nt nn : Nat} {xc xno xt mc mt xo xf xm xl xu xa xb mf mm ml mh ma md mb mo oth tdo : Nat → Int32} {mno : Nat → Int64} (I : IM nt xn xc xno xt mn mc mno mt) (T : IT nt nn tn td_ xo xf xm xl xu xa xb un mf mm ml mh ma md mb mo)
    {Q : Int32 → Int32 → Int32 → (Nat → Int32) → (Nat → Int32) → (Nat → Int32) → (Nat → Int32) → (Nat → Int32) → (Nat → Int32) → (Nat → Int32) → Int32 → Int32 → (Nat → Int32) → (Nat → Int32) → (Nat → Int32) → (Nat → Int32) → (Nat → Int32) → (Nat → Int32) → (Nat → Int32) → (Nat → Int32) → (Nat → Int32) → (Nat → Int32) → Prop}
    (k : ∀ (nn : Nat) (r tn td_ : Int32) (xo xf xm xl xu xa xb : Nat → Int32) (un : Int32) (mf mm ml mh ma md mb mo oth tdo : Nat → Int32), IT nt nn tn td_ xo xf xm xl xu xa xb un mf mm ml mh ma md mb mo → Q r tn td_ xo xf xm xl xu xa xb r un mf mm ml mh ma md mb mo oth tdo) :
    F_X11_build a xn xc tn td_ xo xf xm xl xu xa xb (fun r v1 v2 v3 v4 v5 v6 v7 v8 v9 => F_X12_build a mn un mc mf mm ml mh ma md mb mo oth tdo (fun r' w1 w2 w3 w4 w5 w6 w7 w8 w9 w10 w11 => Q r v1 v2 v3 v4 v5 v6 v7 v8 v9 r' w1 w2 w3 w4 w5 w6 w7 w8 w9 w10 w11)) := by
  obtain ⟨hnt, rfl, rfl, rfl, rfl, hcb, hmn, hcr⟩ := I
  have e1 : (1 : Int32).toInt = 1 := rfl
  have e8 : (8 : Int32).toInt = 8 := rfl
  refine ⟨fun q => ?_, fun q => ⟨fun q2 => ?_, fun q2 => ?_⟩⟩
  · rw [i32_lt, e1] at q
    exact s_in32 (a := 1) (b := 8) rfl rfl (fun z => by omega) (fun _ => ⟨fun q => absurd rfl q, fun _ => k nn _ _ _ _ _ _ _ _ _ _ _ _ _ _ _ _ _ _ _ _ _ T⟩)
  · rw [i32_lt, e1] at q
    rw [i32_le, e8] at q2
    obtain ⟨lst, hl, rfl⟩ := nI_get (x := a) (N := 9) (by omega) (by omega) (by omega)
    rw [nI_toInt (by omega)] at q q2
    obtain ⟨-, -, -, rfl, rfl, rfl, rfl, rfl, rfl, rfl, -, -, hbb⟩ := T
    obtain ⟨e, he⟩ : ∃ e : Nat, e = 7 := ⟨7, rfl⟩
    have h7 : e ≤ 7 := by omega
    have h2e : nt ≤ 2 ^ e := by rw [he]; omega
    clear he
    have ref : ∀ {P : Int32 → Int32 → (Nat → Int32) → (Nat → Int32) → (Nat → Int32) → (Nat → Int32) → (Nat → Int32) → (Nat → Int32) → (Nat → Int32) → (Nat → Int32) → (Nat → Int32) → (Nat → Int32) → Prop}, ((¬ nI nt = 0 → (∃ n0 : Nat, L_X12_build_30 P (nI nt) mc n0 (nI lst) 0 0 mf mm ml mh ma md mb mo oth tdo)) ∧ (nI nt = 0 → P 0 0 mf mm ml mh ma md mb mo oth tdo)) → F_X12_build (nI lst) (nI nt) un mc mf mm ml mh ma md mb mo oth tdo P := fun h =>
      s_in32 (a := 1) (b := 8) rfl rfl (fun _ => ⟨fun _ => h, fun q => absurd q (by decide)⟩) (fun z => absurd (by rw [nI_toInt (by omega)]; omega) z)
    refine ⟨nt + 1, ?_⟩
    have g := s_grow6 (co := mc) (lst := lst) (o := mo) (f := mf) (m := mm) (lo := ml) (up := mh) (a := ma) (b := mb) (post := fun v1 v2 v3 v4 v5 v6 v7 v8 v9 => F_X12_build (nI lst) (nI nt) un mc mf mm ml mh ma md mb mo oth tdo (fun r' w1 w2 w3 w4 w5 w6 w7 w8 w9 w10 w11 => Q v1 v1 v2 v3 v4 v5 v6 v7 v8 v9 r' w1 w2 w3 w4 w5 w6 w7 w8 w9 w10 w11)) h7 h2e hnt hcb (by omega) (by omega) (fun e => ?_) (fun h1 => ?_) nt 0 (by omega)
    · rw [oin_0] at g; exact g
    · subst e
      rw [oin_0]
      exact ref ⟨fun c => absurd rfl c, fun _ => k 0 _ _ _ _ _ _ _ _ _ _ _ _ _ _ _ _ _ _ _ _ _ ⟨by omega, rfl, rfl, rfl, rfl, rfl, rfl, rfl, rfl, rfl, rfl, fun h => absurd h (by omega), hbb⟩⟩
    · refine ref ⟨fun _ => ⟨nt + 1, ?_⟩, fun c => ?_⟩
      · have g := s_mb30 (co := mc) (lst := lst) (f := mf) (m := mm) (lo := ml) (hi := mh) (a := ma) (dp := md) (b := mb) (o := mo) (oth := oth) (td := tdo) (post := fun r' w1 w2 w3 w4 w5 w6 w7 w8 w9 w10 w11 => Q (nI (0 + sz lst e nt)) (nI (0 + sz lst e nt)) (nI (mx lst e nt 0 0)) (Kc mc lst e 0 nt (-2) 0 (oin mo nt, mf, mm, ma, mb)).1 (Kc mc lst e 0 nt (-2) 0 (oin mo nt, mf, mm, ma, mb)).2.1 (Kc mc lst e 0 nt (-2) 0 (oin mo nt, mf, mm, ma, mb)).2.2.1 (Lo lst e nt 0 ml) (Up lst e nt 0 mh) (Kc mc lst e 0 nt (-2) 0 (oin mo nt, mf, mm, ma, mb)).2.2.2.1 (Kc mc lst e 0 nt (-2) 0 (oin mo nt, mf, mm, ma, mb)).2.2.2.2 r' w1 w2 w3 w4 w5 w6 w7 w8 w9 w10 w11) h7 h2e hnt h1 (by omega) (by omega) (fun oth td => ?_) nt 0 (by omega)
        · rw [oin_0] at g; exact g
        · have z := sz_le (lst := lst) (by omega) e nt h1 h2e
          have N := Kc_nod (co := mc) (lst := lst) (nt := nt) (by omega) e 0 nt (-2) 0 (oin mo nt, mf, mm, ma, mb) h1 h2e (by omega)
          refine k (0 + sz lst e nt) _ _ _ _ _ _ _ _ _ _ _ _ _ _ _ _ _ _ _ _ _ ⟨by omega, rfl, rfl, rfl, rfl, rfl, rfl, rfl, rfl, rfl, ?_, fun _ => ⟨h1, Kc_o hnt e _ _ _ _ _ h1 h2e (by omega) (by omega) (oin_ok mo nt), N.1, fun j hj => N.2 j (by omega) (by omega)⟩, Kc_b hcb e _ _ _ _ _ hbb⟩
          rw [Nat.zero_add]
          exact fmx_Dp e nt 0 0 0 md (by omega) (by omega)
      · rw [n_0, nI_eq (by omega) (by omega)] at c; omega
  · rw [i32_le, e8] at q2
    exact s_in32 (a := 1) (b := 8) rfl rfl (fun z => by omega) (fun _ => ⟨fun q => absurd rfl q, fun _ => k nn _ _ _ _ _ _ _ _ _ _ _ _ _ _ _ _ _ _ _ _ _ T⟩)
