/-! two blocks of a world: one is called upon, the other (z) stays -/
theorem va_Dapp_l {A : Nat → Prop} {w z : va_W} (h : va_D A (w ++ z)) : va_D A w :=
  ⟨fun i j p q hi hj e => h.1 i j p q (by rw [List.getElem?_append_left (List.getElem?_eq_some_iff.mp hi).1]; exact hi) (by rw [List.getElem?_append_left (List.getElem?_eq_some_iff.mp hj).1]; exact hj) e,
   fun k q hk => h.2 k q (by rw [List.getElem?_append_left (List.getElem?_eq_some_iff.mp hk).1]; exact hk)⟩
theorem va_Dapp_z {A : Nat → Prop} {w z : va_W} {j : Nat} {q : Nat × va_E} (hj : z[j]? = some q) : (w ++ z)[w.length + j]? = some q := by
  rw [List.getElem?_append_right (Nat.le_add_right _ _), Nat.add_sub_cancel_left]; exact hj
theorem va_Dapp_r {A : Nat → Prop} {w z : va_W} (h : va_D A (w ++ z)) : va_D A z :=
  ⟨fun i j p q hi hj e => by have h9 := h.1 _ _ p q (va_Dapp_z (A := A) (w := w) hi) (va_Dapp_z (A := A) (w := w) hj) e; omega, fun k q hk => h.2 _ q (va_Dapp_z (A := A) (w := w) hk)⟩
theorem va_Dapp_ne {A : Nat → Prop} {w z : va_W} (h : va_D A (w ++ z)) {i j : Nat} {p q : Nat × va_E} (hi : w[i]? = some p) (hj : z[j]? = some q) : p.1 ≠ q.1 := fun e => by
  have hl := (List.getElem?_eq_some_iff.mp hi).1
  have h9 := h.1 i _ p q (by rw [List.getElem?_append_left hl]; exact hi) (va_Dapp_z (A := A) (w := w) hj) e
  omega
theorem va_Dapp_swap {A : Nat → Prop} {w z : va_W} (h : va_D A (w ++ z)) : va_D A (z ++ w) :=
  (va_Dapp_r h).app (va_Dapp_l h) (fun _ _ _ _ hp hq e => va_Dapp_ne h hq hp e.symm)
theorem va_Dl {A : Nat → Prop} {w w2 z : va_W} (h : va_D A (w ++ z)) (is : List Nat) (hn : va_nd is = true) (hs : is.map (fun i => w[i]?) = w2.map some) : va_D A (w2 ++ z) := by
  refine ((va_Dapp_l h).sub is hn hs).app (va_Dapp_r h) (fun i j p q hp hq => ?_)
  have h1 : (is.map (fun i => w[i]?))[i]? = some (some p) := by rw [hs, List.getElem?_map, hp]; rfl
  rw [List.getElem?_map] at h1
  cases hi : is[i]? with
  | none => rw [hi] at h1; cases h1
  | some k => rw [hi] at h1; exact va_Dapp_ne h (Option.some.inj h1) hq
def va_DD (A : Nat → Prop) (x m : va_W) : Prop := va_D A (x ++ m)
theorem DD_l {A : Nat → Prop} {w z : va_W} (h : va_DD A w z) : va_D A w := va_Dapp_l h
theorem DD_swap {A : Nat → Prop} {w z : va_W} (h : va_DD A w z) : va_DD A z w := va_Dapp_swap h
theorem DD_sub {A : Nat → Prop} {w w2 z : va_W} (h : va_DD A w z) (is : List Nat) (hn : va_nd is = true) (hs : is.map (fun i => w[i]?) = w2.map some) : va_DD A w2 z := va_Dl h is hn hs
section MZ
variable {p : Program} {l : Launch} {e : Env} {R : Room} {s : State} {m : MethodId} {args : Array Value} {below : List Frame} {meth : Method} {c : Code} {H : Heap} {locs : List Loc} {cells slots : Nat} {Q : State → Prop}
variable {pc : Nat} {ls : Array Slot} {st rest : List Value} {A : Nat → Prop} {mc ms : Nat} {G : va_G} {ty : List (ClassId × FieldType)} {S : Type} {w wc wr z : va_W} {wd : S → va_W}
/-- behind a call on one block: the other is as it was, and apart -/
theorem va_joinz {H1 : Heap} {w1 : va_W} (hP : va_P G vwCl w H) (hPz : va_P G vwCl z H) (hD : va_D A (w ++ z)) (isC isR : List Nat) (hC : isC.map (fun i => w[i]?) = wc.map some) (hR : isR.map (fun i => w[i]?) = wr.map some) (hn : va_nd isR = true) (hdis : ∀ i ∈ isR, i ∉ isC)
    (hk : ∀ q : Nat, q < H.size → ¬ va_A wc H.size q → H1[q]? = H[q]?) (hF : ∀ q, va_A wc H.size q → A q) (hP1 : va_P G vwCl w1 H1) (hD1 : va_D (va_A wc H.size) w1) : va_P G vwCl (wr ++ w1) H1 ∧ va_P G vwCl z H1 ∧ va_D A ((wr ++ w1) ++ z) := by
  obtain ⟨h1, h2⟩ := va_join hP (va_Dapp_l hD) isC isR hC hR hn hdis hk hF hP1 hD1
  have at' : ∀ {is : List Nat} {v : va_W}, is.map (fun i => w[i]?) = v.map some → ∀ (k : Nat) (q : Nat × va_E), v[k]? = some q → ∃ i : Nat, w[i]? = some q := by
    intro is v hs k q hq
    have h3 : (is.map (fun i => w[i]?))[k]? = some (some q) := by rw [hs, List.getElem?_map, hq]; rfl
    rw [List.getElem?_map] at h3
    cases hi : is[k]? with
    | none => rw [hi] at h3; cases h3
    | some i => rw [hi] at h3; exact ⟨i, Option.some.inj h3⟩
  have zout : ∀ (k : Nat) (q : Nat × va_E), z[k]? = some q → q.1 < H.size ∧ ¬ va_A wc H.size q.1 := by
    intro k q hq
    have hl := (hPz k q hq).lt
    refine ⟨hl, fun h => ?_⟩
    rcases h with ⟨k2, e2, h⟩ | h
    · obtain ⟨i, hi⟩ := at' hC k2 (q.1, e2) h
      exact va_Dapp_ne hD hi hq rfl
    · omega
  refine ⟨h1, fun k q hq => (hPz k q hq).kept (hk q.1 (zout k q hq).1 (zout k q hq).2), h2.app (va_Dapp_r hD) (fun i j x y hx hy hxy => ?_)⟩
  by_cases hl : i < wr.length
  · rw [List.getElem?_append_left hl] at hx
    obtain ⟨k, hk2⟩ := at' hR i x hx
    exact va_Dapp_ne hD hk2 hy hxy
  · rw [List.getElem?_append_right (by omega)] at hx
    exact (zout j y hy).2 (by rw [← hxy]; exact hD1.2 _ x hx)
theorem afterIz {post : Int32 → S → Prop} {a : Array Value} (hr : va_Run p l e R s m args below meth c H locs cells slots mc ms (F0 m pc ls st) rest (va_Qi post (gB G ty (va_A wc H.size) wd) (va_A wc H.size) a) (va_A wc H.size))
    (hP : va_P G vwCl w H) (hPz : va_P G vwCl z H) (hD : va_DD A w z) (hS : va_S A s.heap H locs) (hA : ∀ q, s.heap.size ≤ q → A q) (isC isR : List Nat) (hC : isC.map (fun i => w[i]?) = wc.map some) (hR : isR.map (fun i => w[i]?) = wr.map some) (hn : va_nd isR = true) (hdis : ∀ i ∈ isR, i ∉ isC)
    (kk : ∀ (r : Int32) (u : S) (H1 : Heap) (locs1 : List Loc), post r u → va_P G vwCl (wr ++ wd u) H1 → va_P G vwCl z H1 → va_DD A (wr ++ wd u) z → va_S A s.heap H1 locs1 → W p l e R s m args below meth c H1 locs1 (cells + mc) (slots + ms) Q (F0 m (pc + 3) ls (.int r :: rest))) :
    W p l e R s m args below meth c H locs cells slots Q (F0 m pc ls st) := by
  have hFc := va_free (wc := wc) (DD_l hD) hS hA isC hC
  refine va_calli hr hS (fun q _ h => hFc q h) hFc (fun r u t H1 locs1 ht hvm hw hB hz1 hk1 hS1 => ?_)
  obtain ⟨hP1, hK1, hD1⟩ := hB
  rw [ht] at hP1
  obtain ⟨hP2, hPz2, hD2⟩ := va_joinz hP hPz hD isC isR hC hR hn hdis hk1 hFc hP1 hD1
  exact kk r u H1 locs1 hw hP2 hPz2 hD2 hS1
theorem afterLz {post : Int64 → S → Prop} {a : Array Value} (hr : va_Run p l e R s m args below meth c H locs cells slots mc ms (F0 m pc ls st) rest (va_Ql post (gB G ty (va_A wc H.size) wd) (va_A wc H.size) a) (va_A wc H.size))
    (hP : va_P G vwCl w H) (hPz : va_P G vwCl z H) (hD : va_DD A w z) (hS : va_S A s.heap H locs) (hA : ∀ q, s.heap.size ≤ q → A q) (isC isR : List Nat) (hC : isC.map (fun i => w[i]?) = wc.map some) (hR : isR.map (fun i => w[i]?) = wr.map some) (hn : va_nd isR = true) (hdis : ∀ i ∈ isR, i ∉ isC)
    (kk : ∀ (r : Int64) (u : S) (H1 : Heap) (locs1 : List Loc), post r u → va_P G vwCl (wr ++ wd u) H1 → va_P G vwCl z H1 → va_DD A (wr ++ wd u) z → va_S A s.heap H1 locs1 → W p l e R s m args below meth c H1 locs1 (cells + mc) (slots + ms) Q (F0 m (pc + 3) ls (.long r :: rest))) :
    W p l e R s m args below meth c H locs cells slots Q (F0 m pc ls st) := by
  have hFc := va_free (wc := wc) (DD_l hD) hS hA isC hC
  refine va_calll hr hS (fun q _ h => hFc q h) hFc (fun r u t H1 locs1 ht hvm hw hB hz1 hk1 hS1 => ?_)
  obtain ⟨hP1, hK1, hD1⟩ := hB
  rw [ht] at hP1
  obtain ⟨hP2, hPz2, hD2⟩ := va_joinz hP hPz hD isC isR hC hR hn hdis hk1 hFc hP1 hD1
  exact kk r u H1 locs1 hw hP2 hPz2 hD2 hS1
end MZ
