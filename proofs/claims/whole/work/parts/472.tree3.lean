/-! PURE PART: the tree: how it grows, the class -/
abbrev TC := (Nat → Int32) × (Nat → Int32) × (Nat → Int32) × (Nat → Int32) × (Nat → Int32)
def mkC (co : Nat → Int32) (s l : Nat) (p : Int32) (n : Nat) (c : TC) : TC := (c.1, upd c.2.1 n (nI s), upd c.2.2.1 n (nI l), upd c.2.2.2.1 n p, pb c.2.2.2.2 n (bx co c.1 s l))
noncomputable def stC (co : Nat → Int32) (s l : Nat) (c : TC) : TC := (srtN co c.1 s l, c.2)
def sz (lst : Nat) : Nat → Nat → Nat
  | 0, _ => 1
  | e + 1, l => if l ≤ lst then 1 else 1 + sz lst e (l / 2) + sz lst e (l - l / 2)
noncomputable def Kc (co : Nat → Int32) (lst : Nat) : Nat → Nat → Nat → Int32 → Nat → TC → TC
  | 0, s, l, p, n, c => mkC co s l p n c
  | e + 1, s, l, p, n, c => if l ≤ lst then mkC co s l p n c else Kc co lst e (s + l / 2) (l - l / 2) (nI n) (n + 1 + sz lst e (l / 2)) (Kc co lst e s (l / 2) (nI n) (n + 1) (stC co s l (mkC co s l p n c)))
def Lo (lst : Nat) : Nat → Nat → Nat → (Nat → Int32) → Nat → Int32
  | 0, _, n, w => upd w n (-2)
  | e + 1, l, n, w => if l ≤ lst then upd w n (-2) else Lo lst e (l - l / 2) (n + 1 + sz lst e (l / 2)) (upd (Lo lst e (l / 2) (n + 1) (upd w n (-2))) n (nI (n + 1)))
def Up (lst : Nat) : Nat → Nat → Nat → (Nat → Int32) → Nat → Int32
  | 0, _, n, w => upd w n (-2)
  | e + 1, l, n, w => if l ≤ lst then upd w n (-2) else upd (Up lst e (l - l / 2) (n + 1 + sz lst e (l / 2)) (Up lst e (l / 2) (n + 1) (upd w n (-2)))) n (nI (n + 1 + sz lst e (l / 2)))
def mx (lst : Nat) : Nat → Nat → Nat → Nat → Nat
  | 0, _, dep, m => max m dep
  | e + 1, l, dep, m => if l ≤ lst then max m dep else mx lst e (l - l / 2) (dep + 1) (mx lst e (l / 2) (dep + 1) (max m dep))
theorem half {e l : Nat} (h : l ≤ 2 ^ (e + 1)) (h2 : 2 ≤ l) : 1 ≤ l / 2 ∧ l / 2 ≤ 2 ^ e ∧ 1 ≤ l - l / 2 ∧ l - l / 2 ≤ 2 ^ e := by
  have : 2 ^ (e + 1) = 2 * 2 ^ e := by rw [Nat.pow_succ, Nat.mul_comm]
  omega
theorem sz_pos (lst : Nat) : ∀ e l, 1 ≤ sz lst e l
  | 0, _ => Nat.le_refl 1
  | e + 1, l => by unfold sz; split <;> omega
theorem sz_le {lst : Nat} (hl : 1 ≤ lst) : ∀ e l, 1 ≤ l → l ≤ 2 ^ e → sz lst e l + 1 ≤ 2 * l
  | 0, l, h1, h2 => by show 1 + 1 ≤ 2 * l; omega
  | e + 1, l, h1, h2 => by
    unfold sz; split
    · omega
    · obtain ⟨a, b, c, d⟩ := half h2 (by omega)
      have := sz_le hl e _ a b
      have := sz_le hl e _ c d
      omega
theorem nI_half {l : Nat} (h : l < 2 ^ 31) : nI l / 2 = nI (l / 2) := by
  rw [← Int32.toInt_inj, Int32.toInt_div_of_ne_right _ _ (by decide), nI_toInt h, nI_toInt (by omega)]
  show ((l : Nat) : Int).tdiv ((2 : Nat) : Int) = _
  rw [Int.ofNat_tdiv]
theorem nI_rest {l : Nat} : nI l - nI (l / 2) = nI (l - l / 2) := by
  have := nI_sub1 (l / 2) (l - l / 2)
  rw [show l / 2 + (l - l / 2) = l by omega] at this; exact this
theorem jmax_n {a b : Nat} (ha : a < 2 ^ 31) (hb : b < 2 ^ 31) : jmaxI (nI a) (nI b) = nI (max a b) := by
  rw [← Int32.toInt_inj, jmax_t, nI_toInt ha, nI_toInt hb, nI_toInt (by omega)]; omega
theorem mx_le (lst : Nat) : ∀ e l dep m, m ≤ 7 → dep + e ≤ 7 → mx lst e l dep m ≤ 7
  | 0, _, dep, m, hm, hd => by show max m dep ≤ 7; omega
  | e + 1, l, dep, m, hm, hd => by
    unfold mx; split
    · omega
    · exact mx_le lst e _ _ _ (mx_le lst e _ _ _ (by omega) (by omega)) (by omega)
theorem Kc_o {co : Nat → Int32} {lst nt : Nat} (hnt : nt ≤ 128) : ∀ e s l p n (c : TC), 1 ≤ l → l ≤ 2 ^ e → s + l ≤ nt → 1 ≤ lst → OKo nt c.1 → OKo nt (Kc co lst e s l p n c).1
  | 0, s, l, p, n, c, _, _, _, _, ho => ho
  | e + 1, s, l, p, n, c, h1, h2, hs, hl, ho => by
    unfold Kc; split
    · exact ho
    · obtain ⟨a, b, c', d⟩ := half h2 (by omega)
      refine Kc_o hnt e _ _ _ _ _ c' d (by omega) hl (Kc_o hnt e _ _ _ _ _ a b (by omega) hl ?_)
      exact OKo_srt hnt _ _ _ (by omega) ho
theorem br_head {co : Nat → Int32} {lst nt D s l dep n dd : Nat} {p : Int32} {o f m lo up a b : Nat → Int32} {post : Int32 → Int32 → Int32 → (Nat → Int32) → (Nat → Int32) → (Nat → Int32) → (Nat → Int32) → (Nat → Int32) → (Nat → Int32) → (Nat → Int32) → Prop}
    (hnt : nt ≤ 128) (hb : ∀ j, bd 255 (co j).toInt) (hl : 1 ≤ l) (hs : s + l ≤ nt) (hd : dep ≤ 7) (hdd : dd ≤ 7) (hn : n < 255) (hls : lst ≤ 8) (ho : OKo nt o)
    (k1 : l ≤ lst → post (nI n) (nI (n + 1)) (nI (max dd dep)) o (upd f n (nI s)) (upd m n (nI l)) (upd lo n (-2)) (upd up n (-2)) (upd a n p) (pb b n (bx co o s l)))
    (k2 : ¬ l ≤ lst → F_X9_branch D (nI lst) (nI s) (nI (l / 2)) (nI n) (nI (dep + 1)) (nI (n + 1)) (nI (max dd dep)) (srtN co o s l) (upd f n (nI s)) (upd m n (nI l)) (upd lo n (-2)) (upd up n (-2)) (upd a n p) (pb b n (bx co o s l)) co (fun r21 v22 v23 v24 v25 v26 v27 v28 v29 v30 =>
      F_X9_branch D (nI lst) (nI (s + l / 2)) (nI (l - l / 2)) (nI n) (nI (dep + 1)) v22 v23 v24 v25 v26 (upd v27 n r21) v28 v29 v30 co (fun r33 v34 v35 v36 v37 v38 v39 v40 v41 v42 => post (nI n) v34 v35 v36 v37 v38 v39 (upd v40 n r33) v41 v42))) :
    F_X9_branch (D + 1) (nI lst) (nI s) (nI l) p (nI dep) (nI n) (nI dd) o f m lo up a b co post := by
  have vn : vp_in (nI n) 255 := vin n hn (by omega) rfl
  have cn : (nI n).toNatClampNeg = n := nI_clamp (by omega)
  refine ⟨fun q => absurd q ?_, fun _ => ⟨fun _ x3 e3 x4 e4 => ⟨vn, fun g6 e6 => ⟨vn, fun g8 e8 => ⟨vn, fun g10 e10 => ⟨vn, fun g12 e12 => ⟨vn, fun g14 e14 => ?_⟩⟩⟩⟩⟩, fun q => absurd ?_ q⟩⟩
  · rw [show (16 : Int32) = nI 16 from rfl, i32_lt, nI_toInt (by omega), nI_toInt (by omega)]; omega
  · rw [cn] at e6 e8 e10 e12 e14
    rw [nI_1] at e3
    rw [jmax_n (by omega) (by omega)] at e4
    subst e3; subst e4; subst e6; subst e8; subst e10; subst e12; subst e14
    refine s_fitBox hnt hb ho hn (by rw [pk_us]) (by rw [pk_us]) hl hs ⟨fun q => ?_, fun q x ex => ?_⟩
    · rw [nI_leI (by omega) (by omega)] at q; exact k1 q
    · rw [nI_leI (by omega) (by omega)] at q
      rw [nI_half (by omega)] at ex
      subst ex
      have k2' := k2 q
      refine s_sortC hnt hb ho hl hs ?_
      rw [nI_1, nI_rest, nI_add]
      have cv : ∀ {D : Nat} {x1 x2 x3 x4 x5 x6 x7 : Int32} {y1 y2 y3 y4 y5 y6 y7 y8 : Nat → Int32} {P R : Int32 → Int32 → Int32 → (Nat → Int32) → (Nat → Int32) → (Nat → Int32) → (Nat → Int32) → (Nat → Int32) → (Nat → Int32) → (Nat → Int32) → Prop}, P = R → F_X9_branch D x1 x2 x3 x4 x5 x6 x7 y1 y2 y3 y4 y5 y6 y7 y8 P → F_X9_branch D x1 x2 x3 x4 x5 x6 x7 y1 y2 y3 y4 y5 y6 y7 y8 R := fun e h => e ▸ h
      refine cv ?_ k2'
      funext r21 v22 v23 v24 v25 v26 v27 v28 v29 v30
      refine propext ⟨fun h => ⟨vn, fun g eg => ?_⟩, fun h => ?_⟩
      · rw [cn] at eg; subst eg
        refine cv ?_ h
        funext r33 v34 v35 v36 v37 v38 v39 v40 v41 v42
        refine propext ⟨fun h => ⟨vn, fun g eg => by (try rw [cn] at eg); subst eg; exact h⟩, fun h => ?_⟩
        have := h.2 _ rfl
        (try rw [cn] at this); exact this
      · have h2 := h.2 _ rfl
        rw [cn] at h2
        refine cv ?_ h2
        funext r33 v34 v35 v36 v37 v38 v39 v40 v41 v42
        refine propext ⟨fun h => ?_, fun h => ⟨vn, fun g eg => by (try rw [cn] at eg); subst eg; exact h⟩⟩
        have := h.2 _ rfl
        (try rw [cn] at this); exact this
  · rw [show (255 : Int32) = nI 255 from rfl, i32_lt, nI_toInt (by omega), nI_toInt (by omega)]; omega
theorem s_branch {co : Nat → Int32} {lst nt : Nat} (hnt : nt ≤ 128) (hb : ∀ j, bd 255 (co j).toInt) (hls1 : 1 ≤ lst) (hls : lst ≤ 8) : ∀ (e D s l dep n dd : Nat) (p : Int32) (o f m lo up a b : Nat → Int32) (post : Int32 → Int32 → Int32 → (Nat → Int32) → (Nat → Int32) → (Nat → Int32) → (Nat → Int32) → (Nat → Int32) → (Nat → Int32) → (Nat → Int32) → Prop),
    e < D → 1 ≤ l → l ≤ 2 ^ e → s + l ≤ nt → dep + e ≤ 7 → dd ≤ 7 → n + 2 * l ≤ 256 → OKo nt o →
    post (nI n) (nI (n + sz lst e l)) (nI (mx lst e l dep dd)) (Kc co lst e s l p n (o, f, m, a, b)).1 (Kc co lst e s l p n (o, f, m, a, b)).2.1 (Kc co lst e s l p n (o, f, m, a, b)).2.2.1 (Lo lst e l n lo) (Up lst e l n up) (Kc co lst e s l p n (o, f, m, a, b)).2.2.2.1 (Kc co lst e s l p n (o, f, m, a, b)).2.2.2.2 →
    F_X9_branch D (nI lst) (nI s) (nI l) p (nI dep) (nI n) (nI dd) o f m lo up a b co post
  | e, 0, s, l, dep, n, dd, p, o, f, m, lo, up, a, b, post, hD, _, _, _, _, _, _, _, _ => absurd hD (by omega)
  | 0, D + 1, s, l, dep, n, dd, p, o, f, m, lo, up, a, b, post, hD, h1, h2, hs, hd, hdd, hn, ho, k =>
    br_head hnt hb h1 hs (by omega) hdd (by omega) hls ho (fun _ => k) (fun q => absurd (show l ≤ lst by have : l ≤ 1 := h2; omega) q)
  | e + 1, D + 1, s, l, dep, n, dd, p, o, f, m, lo, up, a, b, post, hD, h1, h2, hs, hd, hdd, hn, ho, k => by
    refine br_head hnt hb h1 hs (by omega) hdd (by omega) hls ho (fun q => ?_) (fun q => ?_)
    · unfold sz mx Kc Lo Up at k
      rw [if_pos q, if_pos q, if_pos q, if_pos q, if_pos q] at k
      exact k
    · obtain ⟨a1, b1, c1, d1⟩ := half h2 (by omega)
      have z1 := sz_le hls1 e _ a1 b1
      refine s_branch hnt hb hls1 hls e D s (l / 2) (dep + 1) (n + 1) (max dd dep) (nI n) _ _ _ _ _ _ _ _ (by omega) a1 b1 (by omega) (by omega) (by omega) (by omega) (OKo_srt hnt _ _ _ (by omega) ho) ?_
      refine s_branch hnt hb hls1 hls e D (s + l / 2) (l - l / 2) (dep + 1) (n + 1 + sz lst e (l / 2)) (mx lst e (l / 2) (dep + 1) (max dd dep)) (nI n) _ _ _ _ _ _ _ _ (by omega) c1 d1 (by omega) (by omega) (mx_le _ _ _ _ _ (by omega) (by omega)) (by omega) (Kc_o hnt e _ _ _ _ _ a1 b1 (by omega) hls1 (OKo_srt hnt _ _ _ (by omega) ho)) ?_
      unfold sz mx Kc Lo Up at k
      rw [if_neg q, if_neg q, if_neg q, if_neg q, if_neg q] at k
      rw [show n + (1 + sz lst e (l / 2) + sz lst e (l - l / 2)) = n + 1 + sz lst e (l / 2) + sz lst e (l - l / 2) by omega] at k
      exact k
