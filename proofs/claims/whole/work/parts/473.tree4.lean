/-! PURE PART: the tree: how it grows, the reference -/
theorem upd_comm {w : Nat → Int32} {i j : Nat} {x y : Int32} (h : i ≠ j) : upd (upd w i x) j y = upd (upd w j y) i x := by
  funext k; unfold upd; by_cases a : k = j
  · rw [if_pos a, if_neg (by omega), if_pos a]
  · rw [if_neg a]; by_cases b : k = i
    · rw [if_pos b, if_pos b]
    · rw [if_neg b, if_neg b, if_neg a]
theorem Lo_at {lst : Nat} : ∀ (e l n q : Nat) (w : Nat → Int32), q < n → Lo lst e l n w q = w q
  | 0, l, n, q, w, h => by show upd w n (-2) q = _; rw [pk_un (by omega)]
  | e + 1, l, n, q, w, h => by
    unfold Lo; split
    · rw [pk_un (by omega)]
    · rw [Lo_at e _ _ q _ (by omega), pk_un (by omega), Lo_at e _ _ q _ (by omega), pk_un (by omega)]
theorem Lo_upd {lst : Nat} : ∀ (e l n q : Nat) (w : Nat → Int32) (x : Int32), q < n → Lo lst e l n (upd w q x) = upd (Lo lst e l n w) q x
  | 0, l, n, q, w, x, h => upd_comm (by omega)
  | e + 1, l, n, q, w, x, h => by
    unfold Lo; split
    · exact upd_comm (by omega)
    · rw [upd_comm (w := w) (by omega), Lo_upd e _ _ q _ x (by omega), upd_comm (i := q) (by omega), Lo_upd e _ _ q _ x (by omega)]
theorem Up_at {lst : Nat} : ∀ (e l n q : Nat) (w : Nat → Int32), q < n → Up lst e l n w q = w q
  | 0, l, n, q, w, h => by show upd w n (-2) q = _; rw [pk_un (by omega)]
  | e + 1, l, n, q, w, h => by
    unfold Up; split
    · rw [pk_un (by omega)]
    · rw [pk_un (by omega), Up_at e _ _ q _ (by omega), Up_at e _ _ q _ (by omega), pk_un (by omega)]
theorem Up_upd {lst : Nat} : ∀ (e l n q : Nat) (w : Nat → Int32) (x : Int32), q < n → Up lst e l n (upd w q x) = upd (Up lst e l n w) q x
  | 0, l, n, q, w, x, h => upd_comm (by omega)
  | e + 1, l, n, q, w, x, h => by
    unfold Up; split
    · exact upd_comm (by omega)
    · rw [upd_comm (w := w) (by omega), Up_upd e _ _ q _ x (by omega), Up_upd e _ _ q _ x (by omega), upd_comm (i := q) (by omega)]
def Dp (lst : Nat) : Nat → Nat → Nat → Nat → (Nat → Int32) → Nat → Int32
  | 0, _, dep, n, w => upd w n (nI dep)
  | e + 1, l, dep, n, w => if l ≤ lst then upd w n (nI dep) else Dp lst e (l - l / 2) (dep + 1) (n + 1 + sz lst e (l / 2)) (Dp lst e (l / 2) (dep + 1) (n + 1) (upd w n (nI dep)))
theorem Dp_at {lst : Nat} : ∀ (e l dep n q : Nat) (w : Nat → Int32), q < n → Dp lst e l dep n w q = w q
  | 0, l, dep, n, q, w, h => by show upd w n (nI dep) q = _; rw [pk_un (by omega)]
  | e + 1, l, dep, n, q, w, h => by
    unfold Dp; split
    · rw [pk_un (by omega)]
    · rw [Dp_at e _ _ _ q _ (by omega), Dp_at e _ _ _ q _ (by omega), pk_un (by omega)]
/-- the greatest of a row -/
def fmx (w : Nat → Int32) : Nat → Nat → Int32 → Int32
  | 0, _, v => v
  | c + 1, j, v => fmx w c (j + 1) (if w j ≤ v then v else w j)
theorem fmx_add (w : Nat → Int32) : ∀ (a b j : Nat) (v : Int32), fmx w (a + b) j v = fmx w b (j + a) (fmx w a j v)
  | 0, b, j, v => by rw [Nat.zero_add]; rfl
  | a + 1, b, j, v => by
    rw [show a + 1 + b = (a + b) + 1 by omega]
    show fmx w (a + b) (j + 1) _ = _
    rw [fmx_add w a b (j + 1), show j + 1 + a = j + (a + 1) by omega]; rfl
theorem fmx_congr {w u : Nat → Int32} : ∀ (c j : Nat) (v : Int32), (∀ i, j ≤ i → i < j + c → w i = u i) → fmx w c j v = fmx u c j v
  | 0, _, _, _ => rfl
  | c + 1, j, v, h => by
    show fmx w c (j + 1) _ = fmx u c (j + 1) _
    rw [h j (by omega) (by omega), fmx_congr c (j + 1) _ (fun i h1 h2 => h i (by omega) (by omega))]
theorem fmx_one {w : Nat → Int32} {n dep v : Nat} (h : w n = nI dep) (hd : dep < 2 ^ 31) (hv : v < 2 ^ 31) : fmx w 1 n (nI v) = nI (max v dep) := by
  show (if w n ≤ nI v then nI v else w n) = _
  rw [h]
  by_cases c : dep ≤ v
  · rw [if_pos (by rw [nI_leI hd hv]; exact c), Nat.max_eq_left c]
  · rw [if_neg (by rw [nI_leI hd hv]; exact c), Nat.max_eq_right (by omega)]
theorem fmx_Dp {lst : Nat} : ∀ (e l dep n v : Nat) (w : Nat → Int32), v ≤ 7 → dep + e ≤ 7 → fmx (Dp lst e l dep n w) (sz lst e l) n (nI v) = nI (mx lst e l dep v)
  | 0, l, dep, n, v, w, hv, hd => fmx_one (by show upd w n (nI dep) n = _; rw [pk_us]) (by omega) (by omega)
  | e + 1, l, dep, n, v, w, hv, hd => by
    unfold sz mx Dp
    by_cases q : l ≤ lst
    · rw [if_pos q, if_pos q, if_pos q]; exact fmx_one (by rw [pk_us]) (by omega) (by omega)
    · rw [if_neg q, if_neg q, if_neg q, show 1 + sz lst e (l / 2) + sz lst e (l - l / 2) = 1 + (sz lst e (l / 2) + sz lst e (l - l / 2)) by omega, fmx_add, fmx_add, fmx_one (dep := dep) (v := v) (by rw [Dp_at e _ _ _ n _ (by omega), Dp_at e _ _ _ n _ (by omega), pk_us]) (by omega) (by omega)]
      rw [fmx_congr (u := Dp lst e (l / 2) (dep + 1) (n + 1) (upd w n (nI dep))) (sz lst e (l / 2)) (n + 1) _ (fun i h1 h2 => Dp_at e _ _ _ i _ (by omega))]
      rw [fmx_Dp e (l / 2) (dep + 1) (n + 1) (max v dep) _ (by omega) (by omega)]
      exact fmx_Dp e (l - l / 2) (dep + 1) (n + 1 + sz lst e (l / 2)) _ _ (mx_le _ _ _ _ _ (by omega) (by omega)) (by omega)
theorem sz_s {lst e l : Nat} : sz lst (e + 1) l = if l ≤ lst then 1 else 1 + sz lst e (l / 2) + sz lst e (l - l / 2) := rfl
theorem Kc_s {co : Nat → Int32} {lst e s l n : Nat} {p : Int32} {c : TC} : Kc co lst (e + 1) s l p n c = if l ≤ lst then mkC co s l p n c else Kc co lst e (s + l / 2) (l - l / 2) (nI n) (n + 1 + sz lst e (l / 2)) (Kc co lst e s (l / 2) (nI n) (n + 1) (stC co s l (mkC co s l p n c))) := rfl
/-- what the rows of nodes hold -/
def nodOK (nt n j : Nat) (p : Int32) (f m a : Nat → Int32) : Prop := (∃ s l, f j = nI s ∧ m j = nI l ∧ 1 ≤ l ∧ s + l ≤ nt) ∧ ((j = n ∧ a j = p) ∨ ∃ g, n ≤ g ∧ g < j ∧ a j = nI g)
theorem Kc_at {co : Nat → Int32} {lst : Nat} : ∀ (e s l : Nat) (p : Int32) (n : Nat) (c : TC) (q : Nat), q < n → (Kc co lst e s l p n c).2.1 q = c.2.1 q ∧ (Kc co lst e s l p n c).2.2.1 q = c.2.2.1 q ∧ (Kc co lst e s l p n c).2.2.2.1 q = c.2.2.2.1 q
  | 0, s, l, p, n, c, q, h => by
    refine ⟨?_, ?_, ?_⟩
    · show upd c.2.1 n _ q = _; rw [pk_un (by omega)]
    · show upd c.2.2.1 n _ q = _; rw [pk_un (by omega)]
    · show upd c.2.2.2.1 n _ q = _; rw [pk_un (by omega)]
  | e + 1, s, l, p, n, c, q, h => by
    unfold Kc
    by_cases r : l ≤ lst
    · rw [if_pos r]
      refine ⟨?_, ?_, ?_⟩
      · show upd c.2.1 n _ q = _; rw [pk_un (by omega)]
      · show upd c.2.2.1 n _ q = _; rw [pk_un (by omega)]
      · show upd c.2.2.2.1 n _ q = _; rw [pk_un (by omega)]
    · rw [if_neg r]
      have h2 := Kc_at (co := co) (lst := lst) e (s + l / 2) (l - l / 2) (nI n) (n + 1 + sz lst e (l / 2)) (Kc co lst e s (l / 2) (nI n) (n + 1) (stC co s l (mkC co s l p n c))) q (by omega)
      have h1 := Kc_at (co := co) (lst := lst) e s (l / 2) (nI n) (n + 1) (stC co s l (mkC co s l p n c)) q (by omega)
      have h0 : (stC co s l (mkC co s l p n c)).2.1 q = c.2.1 q ∧ (stC co s l (mkC co s l p n c)).2.2.1 q = c.2.2.1 q ∧ (stC co s l (mkC co s l p n c)).2.2.2.1 q = c.2.2.2.1 q := by
        refine ⟨?_, ?_, ?_⟩
        · show upd c.2.1 n _ q = _; rw [pk_un (by omega)]
        · show upd c.2.2.1 n _ q = _; rw [pk_un (by omega)]
        · show upd c.2.2.2.1 n _ q = _; rw [pk_un (by omega)]
      exact ⟨h2.1.trans (h1.1.trans h0.1), h2.2.1.trans (h1.2.1.trans h0.2.1), h2.2.2.trans (h1.2.2.trans h0.2.2)⟩
theorem nod_mk {co : Nat → Int32} {nt s l n : Nat} {p : Int32} {c : TC} (hl : 1 ≤ l) (hs : s + l ≤ nt) : nodOK nt n n p (mkC co s l p n c).2.1 (mkC co s l p n c).2.2.1 (mkC co s l p n c).2.2.2.1 :=
  ⟨⟨s, l, by show upd c.2.1 n _ n = _; rw [pk_us], by show upd c.2.2.1 n _ n = _; rw [pk_us], hl, hs⟩, Or.inl ⟨rfl, by show upd c.2.2.2.1 n _ n = _; rw [pk_us]⟩⟩
theorem Kc_nod {co : Nat → Int32} {lst nt : Nat} (hls : 1 ≤ lst) : ∀ (e s l : Nat) (p : Int32) (n : Nat) (c : TC), 1 ≤ l → l ≤ 2 ^ e → s + l ≤ nt → (Kc co lst e s l p n c).2.2.1 n = nI l ∧ ∀ j, n ≤ j → j < n + sz lst e l → nodOK nt n j p (Kc co lst e s l p n c).2.1 (Kc co lst e s l p n c).2.2.1 (Kc co lst e s l p n c).2.2.2.1
  | 0, s, l, p, n, c, hl, h2, hs => by
    refine ⟨by show upd c.2.2.1 n _ n = _; rw [pk_us], fun j h3 h4 => ?_⟩
    have : j = n := by unfold sz at h4; omega
    subst this; exact nod_mk hl hs
  | e + 1, s, l, p, n, c, hl, h2, hs => by
    rw [Kc_s, sz_s]
    by_cases r : l ≤ lst
    · rw [if_pos r, if_pos r]
      refine ⟨by show upd c.2.2.1 n _ n = _; rw [pk_us], fun j h3 h4 => ?_⟩
      have : j = n := by omega
      subst this; exact nod_mk hl hs
    · rw [if_neg r, if_neg r]
      obtain ⟨a1, b1, c1, d1⟩ := half h2 (by omega)
      have L := Kc_nod (co := co) (nt := nt) hls e s (l / 2) (nI n) (n + 1) (stC co s l (mkC co s l p n c)) a1 b1 (by omega)
      have R := Kc_nod (co := co) (nt := nt) hls e (s + l / 2) (l - l / 2) (nI n) (n + 1 + sz lst e (l / 2)) (Kc co lst e s (l / 2) (nI n) (n + 1) (stC co s l (mkC co s l p n c))) c1 d1 (by omega)
      have At := fun q (h : q < n + 1 + sz lst e (l / 2)) => Kc_at (co := co) (lst := lst) e (s + l / 2) (l - l / 2) (nI n) (n + 1 + sz lst e (l / 2)) (Kc co lst e s (l / 2) (nI n) (n + 1) (stC co s l (mkC co s l p n c))) q h
      have At2 := Kc_at (co := co) (lst := lst) e s (l / 2) (nI n) (n + 1) (stC co s l (mkC co s l p n c)) n (by omega)
      have M : nodOK nt n n p (stC co s l (mkC co s l p n c)).2.1 (stC co s l (mkC co s l p n c)).2.2.1 (stC co s l (mkC co s l p n c)).2.2.2.1 := nod_mk (co := co) (c := c) hl hs
      have Mn : (stC co s l (mkC co s l p n c)).2.2.1 n = nI l := by show upd c.2.2.1 n _ n = _; rw [pk_us]
      have A0 := At n (by omega)
      refine ⟨A0.2.1.trans (At2.2.1.trans Mn), fun j h3 h4 => ?_⟩
      by_cases e0 : j = n
      · subst e0
        unfold nodOK at M ⊢
        rw [A0.1, A0.2.1, A0.2.2, At2.1, At2.2.1, At2.2.2]; exact M
      · by_cases e1 : j < n + 1 + sz lst e (l / 2)
        · have q := L.2 j (by omega) (by omega)
          have A := At j e1
          unfold nodOK at q ⊢
          rw [A.1, A.2.1, A.2.2]
          refine ⟨q.1, Or.inr ?_⟩
          rcases q.2 with ⟨_, q⟩ | ⟨g, g1, g2, q⟩
          · exact ⟨n, by omega, by omega, q⟩
          · exact ⟨g, by omega, g2, q⟩
        · have q := R.2 j (by omega) (by omega)
          unfold nodOK at q ⊢
          refine ⟨q.1, Or.inr ?_⟩
          rcases q.2 with ⟨_, q⟩ | ⟨g, g1, g2, q⟩
          · exact ⟨n, by omega, by omega, q⟩
          · exact ⟨g, by omega, g2, q⟩
-- the reference's stack
def LNK (lo hi : Nat → Int32) (p : Int32) (n : Nat) (lo1 hi1 : Nat → Int32) : Prop :=
  (p = -2 ∧ lo1 = lo ∧ hi1 = hi) ∨ ∃ g, g < n ∧ p = nI g ∧ ((lo g = -2 ∧ lo1 = upd lo g (nI n) ∧ hi1 = hi) ∨ ∃ x, x < 2 ^ 31 ∧ lo g = nI x ∧ lo1 = lo ∧ hi1 = upd hi g (nI n))
def DEP (p : Int32) (dep : Nat) (dp : Nat → Int32) (n : Nat) : Prop := (p = -2 ∧ dep = 0) ∨ ∃ g d0, g < n ∧ p = nI g ∧ dp g = nI d0 ∧ dep = d0 + 1
theorem nI_nn2 {f : Nat} (h : f < 2 ^ 31) : ¬ nI f < 0 ∧ 0 ≤ nI f := by
  rw [i32_lt, i32_le, nI_toInt h]
  constructor
  · show ¬ (f : Int) < 0; omega
  · show (0 : Int) ≤ f; omega
section
variable {co : Nat → Int32} {nt lst : Nat} {tri : Int32}
theorem s_168 {k80 : Int32 → Int32 → Int32 → (Nat → Int32) → (Nat → Int32) → (Nat → Int32) → (Nat → Int32) → (Nat → Int32) → (Nat → Int32) → (Nat → Int32) → (Nat → Int32) → (Nat → Int32) → (Nat → Int32) → Prop} {s l n q : Nat} {nn : Int32} {f m lo hi a dp b o oth td : Nat → Int32}
    (hnt : nt ≤ 128) (ho : OKo nt o) (hn : n < 255) (hq : q ≤ 8) (hf : f n = nI s) (hm : m n = nI l) (hl : 1 ≤ l) (hs : s + l ≤ nt) (hls : lst ≤ 8) (hoth : ∀ k, k < 6 → oth k = bx co o s l k)
    (K1 : l ≤ lst → k80 (nI lst) (nI q) nn f m lo hi a dp (pb b n (bx co o s l)) o oth td)
    (K2 : ¬ l ≤ lst → ∀ td', (∀ j, j < 3 * q → td' j = td j) → td' (3 * q) = nI (s + l / 2) → td' (3 * q + 1) = nI (l - l / 2) → td' (3 * q + 2) = nI n → td' (3 * (q + 1)) = nI s → td' (3 * (q + 1) + 1) = nI (l / 2) → td' (3 * (q + 1) + 2) = nI n → k80 (nI lst) (nI (q + 2)) nn f m lo hi a dp (pb b n (bx co o s l)) (srtN co o s l) oth td') :
    ∀ (w i : Nat) (b' : Nat → Int32), i + w = 6 → (∀ j, b' j = if 6 * n ≤ j ∧ j < 6 * n + i then bx co o s l (j - 6 * n) else b j) → L_X12_build_168 k80 tri co (w + 1) (nI lst) (nI q) (nI n) (nI i) nn f m lo hi a dp b' o oth td
  | 0, i, b', hi, hb' => by
    have : i = 6 := by omega
    subst this
    have eb : b' = pb b n (bx co o s l) := funext hb'
    subst eb
    have vn : vp_in (nI n) 255 := vin n hn (by omega) rfl
    have cn : (nI n).toNatClampNeg = n := nI_clamp (by omega)
    have q0 : (3 : Int32) * nI q = nI (3 * q) := pk_mul 3 q
    have q1 : (3 : Int32) * nI q + 1 = nI (3 * q + 1) := n3k q 1
    have q2 : (3 : Int32) * nI q + 2 = nI (3 * q + 2) := n3k q 2
    have p0 : (3 : Int32) * nI (q + 1) = nI (3 * (q + 1)) := pk_mul 3 (q + 1)
    have p1 : (3 : Int32) * nI (q + 1) + 1 = nI (3 * (q + 1) + 1) := n3k (q + 1) 1
    have p2 : (3 : Int32) * nI (q + 1) + 2 = nI (3 * (q + 1) + 2) := n3k (q + 1) 2
    refine ⟨fun _ => ⟨vn, ?_⟩, fun q => absurd (by decide) q⟩
    rw [cn, hm, hf, nI_leI (by omega) (by omega)]
    refine ⟨K1, fun c => s_sortM hnt ho hn hf hm hl hs ⟨vn, fun x ex => ⟨vn, vin (3 * q) (by omega) (by omega) q0, fun g1 e1 => ⟨vn, vin (3 * q + 1) (by omega) (by omega) q1, fun g2 e2 => ⟨vin (3 * q + 2) (by omega) (by omega) q2, fun g3 e3 y ey => ?_⟩⟩⟩⟩⟩
    rw [nI_half (by omega)] at ex
    rw [nI_1] at ey
    subst ex; subst ey
    refine ⟨vn, vin (3 * (q + 1)) (by omega) (by omega) p0, fun g4 e4 => ⟨vin (3 * (q + 1) + 1) (by omega) (by omega) p1, fun g5 e5 => ⟨vin (3 * (q + 1) + 2) (by omega) (by omega) p2, fun g6 e6 z ez => ?_⟩⟩⟩
    rw [q0, nI_clamp (by omega), nI_add] at e1
    rw [q1, nI_clamp (by omega), nI_rest] at e2
    rw [q2, nI_clamp (by omega)] at e3
    rw [p0, nI_clamp (by omega)] at e4
    rw [p1, nI_clamp (by omega)] at e5
    rw [p2, nI_clamp (by omega)] at e6
    rw [ez, nI_1]
    refine K2 c g6 (fun j hj => ?_) ?_ ?_ ?_ ?_ ?_ ?_
    · rw [e6, pk_un (by omega), e5, pk_un (by omega), e4, pk_un (by omega), e3, pk_un (by omega), e2, pk_un (by omega), e1, pk_un (by omega)]
    · rw [e6, pk_un (by omega), e5, pk_un (by omega), e4, pk_un (by omega), e3, pk_un (by omega), e2, pk_un (by omega), e1, pk_us]
    · rw [e6, pk_un (by omega), e5, pk_un (by omega), e4, pk_un (by omega), e3, pk_un (by omega), e2, pk_us]
    · rw [e6, pk_un (by omega), e5, pk_un (by omega), e4, pk_un (by omega), e3, pk_us]
    · rw [e6, pk_un (by omega), e5, pk_un (by omega), e4, pk_us]
    · rw [e6, pk_un (by omega), e5, pk_us]
    · rw [e6, pk_us]
  | w + 1, i, b', hi, hb' => by
    have ei : (6 : Int32) * nI n + nI i = nI (6 * n + i) := by rw [n_6, pk_mul, nI_add]
    refine ⟨fun q => ?_, fun _ => ⟨vin i (by omega) (by omega) rfl, vin (6 * n + i) (by omega) (by omega) ei, fun g eg x ex => ?_⟩⟩
    · rw [n_6, nI_leI (by omega) (by omega)] at q; omega
    rw [ei, nI_clamp (by omega), nI_clamp (by omega), hoth i (by omega)] at eg
    rw [ex, nI_1]
    refine s_168 hnt ho hn hq hf hm hl hs hls hoth K1 K2 w (i + 1) g (by omega) (fun j => ?_)
    rw [eg]; unfold upd
    by_cases c : j = 6 * n + i
    · rw [if_pos c, if_pos (by omega)]; subst c; rw [Nat.add_sub_cancel_left]
    · rw [if_neg c, hb' j]
      by_cases c2 : 6 * n ≤ j ∧ j < 6 * n + i
      · rw [if_pos c2, if_pos (by omega)]
      · rw [if_neg c2, if_neg (by omega)]
end
