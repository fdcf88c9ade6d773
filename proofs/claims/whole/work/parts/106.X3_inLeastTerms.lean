def rm_X3_inLeastTerms : Room := { frames := 1, cells := 0, slots := 0, locals := 32 }
def L_X3_inLeastTerms_5 (post : Int64 → Prop) (n_p0 : Nat) (v_p0 : Nat → Int64) : Nat → Int32 → Int64 → Int32 → Prop
  | 0, _, _, _ => False
  | n_5 + 1, l1, l2, l4 => (((nI n_p0) ≤ l4 → ((¬ (lg_cmp l2 0) = 0 → (vp_in l1 n_p0 ∧ (¬ l2 = 0 ∧ post ((v_p0 l1.toNatClampNeg) / l2)))) ∧ ((lg_cmp l2 0) = 0 → (vp_in l1 n_p0 ∧ post (v_p0 l1.toNatClampNeg))))) ∧ (¬ (nI n_p0) ≤ l4 → (vp_in l4 n_p0 ∧ (F_X3_commonDivisor l2 (jabsL (v_p0 l4.toNatClampNeg)) (fun r7 => (∀ x8 : Int32, x8 = (l4 + 1) → L_X3_inLeastTerms_5 post n_p0 v_p0 n_5 l1 r7 x8))))))
def F_X3_inLeastTerms (p1 : Int32) (n_p0 : Nat) (v_p0 : Nat → Int64) (post : Int64 → Prop) : Prop := (∃ n0 : Nat, L_X3_inLeastTerms_5 post n_p0 v_p0 n0 p1 0 0)
set_option maxHeartbeats 8000000 in
set_option maxRecDepth 100000 in
theorem c_X3_inLeastTerms (l : Launch) (G : va_G) (cI cL cZ : ClassId) (h_p0 : Nat) (n_p0 : Nat) (v_p0 : Nat → Int64) (p1 : Int32) (sz : Nat) (post : Int64 → Prop) (hF : F_X3_inLeastTerms p1 n_p0 v_p0 post) : MetL l G (gT cI cL cZ) yX3_inLeastTerms (gW yX3_inLeastTerms cX3_inLeastTerms 5 (some .long)) rm_X3_inLeastTerms 0 0 [.ref h_p0, .int p1] sz [(h_p0, .inl (cL, n_p0, .inr (.inl v_p0)))] (fun (u : Unit) => [(h_p0, .inl (cL, n_p0, .inr (.inl v_p0)))]) (fun (r : Int64) (u : Unit) => post r) := by
  refine startL (cc := cX3_inLeastTerms) (maxL := 5) (by decide +kernel) rfl (Nat.le_of_ble_eq_true rfl) ?_
  intro p e s m args below meth c Q ls A C0 hP hD hS hl hret
  obtain ⟨hx, hb, hml, hown, hts, hnw, hK, hA, hin⟩ := C0
  have hown : s.vm.findClass RX3 = some m.cls := hown
  have hl : lv_has ls 5 [(0, .ref h_p0), (1, .int p1)] := hl
  refine lv_lconst (v := 0) hx hb dX3_inLeastTerms_0 (by decide) ?_
  refine lv_lstore_n (lv' := [(2, .long 0), (0, .ref h_p0), (1, .int p1)]) hx hb dX3_inLeastTerms_1 rfl hl (by decide) rfl (fun ls hl => ?_)
  refine lv_iconst (v := 0) hx hb dX3_inLeastTerms_2 (by decide) ?_
  refine lv_istore (lv' := [(4, .int 0), (2, .long 0), (0, .ref h_p0), (1, .int p1)]) hx hb dX3_inLeastTerms_3 hl (by decide) rfl (fun ls hl => ?_)
  have k_5 : ∀ (n_5 : Nat) (l1 : Int32) (l2 : Int64) (l4 : Int32), L_X3_inLeastTerms_5 post n_p0 v_p0 n_5 l1 l2 l4 → ∀ (H : Heap) (locs : List Loc) (ls : Array Slot), va_P G vwCl [(h_p0, .inl (cL, n_p0, .inr (.inl v_p0)))] H → va_D A [(h_p0, .inl (cL, n_p0, .inr (.inl v_p0)))] → va_S A s.heap H locs → lv_has ls 5 [(0, .ref h_p0), (1, .int l1), (2, .long l2), (4, .int l4)] → W p l e rm_X3_inLeastTerms s m args below meth c H locs 0 0 Q (F0 m 5 ls []) := by
    intro n_5
    induction n_5 with
    | zero =>
      intro l1 l2 l4 hF
      exact (show False from hF).elim
    | succ n_5 k_5 =>
      intro l1 l2 l4 hF H locs ls hP hD hS hl
      refine lv_iload hx hb dX3_inLeastTerms_5 (lv_at hl 3 rfl) ?_
      refine lv_aload_n hx hb dX3_inLeastTerms_7 rfl (lv_at hl 0 rfl) ?_
      refine va_alen (v := (nI n_p0)) hx hb hK hP 0 1 rfl rfl rfl dX3_inLeastTerms_8 ?_
      refine lv_icmp_ge (tgt := 30) hx hb dX3_inLeastTerms_9 (by decide) (fun c1 => ?_) (fun c1 => ?_)
      · have hF := hF.1 c1
        refine lv_lload_n hx hb dX3_inLeastTerms_30 rfl (lv_at hl 2 rfl) ?_
        refine lv_lconst (v := 0) hx hb dX3_inLeastTerms_31 (by decide) ?_
        refine W.lcmp hx hb dX3_inLeastTerms_32 ?_
        refine lv_if_ne (tgt := 42) hx hb dX3_inLeastTerms_33 (by decide) (fun c2 => ?_) (fun c2 => ?_)
        · have hF := hF.1 c2
          refine lv_aload_n hx hb dX3_inLeastTerms_42 rfl (lv_at hl 0 rfl) ?_
          refine lv_iload_n hx hb dX3_inLeastTerms_43 rfl (lv_at hl 1 rfl) ?_
          obtain ⟨b3, hF⟩ := hF
          refine va_lald hx hb hK hP 0 1 rfl rfl b3 dX3_inLeastTerms_44 ?_
          refine lv_lload_n hx hb dX3_inLeastTerms_45 rfl (lv_at hl 2 rfl) ?_
          obtain ⟨b4, hF⟩ := hF
          refine lv_ldiv hx hb dX3_inLeastTerms_46 b4 ?_
          exact hret 47 ls _ _ ((v_p0 l1.toNatClampNeg) / l2) () dX3_inLeastTerms_47  hF hP hD hS
        · have hF := hF.2 c2
          refine lv_aload_n hx hb dX3_inLeastTerms_36 rfl (lv_at hl 0 rfl) ?_
          refine lv_iload_n hx hb dX3_inLeastTerms_37 rfl (lv_at hl 1 rfl) ?_
          obtain ⟨b5, hF⟩ := hF
          refine va_lald hx hb hK hP 0 1 rfl rfl b5 dX3_inLeastTerms_38 ?_
          refine lv_goto (tgt := 47) hx hb dX3_inLeastTerms_39 (by decide) ?_
          exact hret 47 ls _ _ (v_p0 l1.toNatClampNeg) () dX3_inLeastTerms_47  hF hP hD hS
      · have hF := hF.2 c1
        refine lv_lload_n hx hb dX3_inLeastTerms_12 rfl (lv_at hl 2 rfl) ?_
        refine lv_aload_n hx hb dX3_inLeastTerms_13 rfl (lv_at hl 0 rfl) ?_
        refine lv_iload hx hb dX3_inLeastTerms_14 (lv_at hl 3 rfl) ?_
        obtain ⟨b6, hF⟩ := hF
        refine va_lald hx hb hK hP 0 1 rfl rfl b6 dX3_inLeastTerms_16 ?_
        refine va_mabs_long hx hb (by rw [hml]; exact hl.1.symm) hown (hts _ (List.mem_cons_of_mem _ mw_3_148)) (hts _ (List.mem_cons_of_mem _ mw_2_175)) (hts _ (List.mem_cons_of_mem _ mw_1_15)) (hts _ (List.mem_cons_of_mem _ mw_2_176)) (Nat.le_of_ble_eq_true rfl) (Nat.le_of_ble_eq_true rfl) (Nat.le_of_ble_eq_true rfl) (Nat.le_of_ble_eq_true rfl) dX3_inLeastTerms_17 ?_
        refine W.eq (g2 := F0 m 20 ls (.long (jabsL (v_p0 l4.toNatClampNeg)) :: [.long l2])) rfl ?_
        refine afterL (wr := [(h_p0, .inl (cL, n_p0, .inr (.inl v_p0)))]) (va_runS (As := [.long l2, .long (jabsL (v_p0 l4.toNatClampNeg))]) (rest := []) ⟨hx, hb, hml, hown, hts⟩ (c_X3_commonDivisor l G cI cL cZ l2 (jabsL (v_p0 l4.toNatClampNeg)) _ _ hF) (va_cwS 2 hts (gS mw_3_149 mw_3_150 mw_1_8 mw_3_151) rfl rfl rfl (by decide +kernel) ⟨Nat.le_of_ble_eq_true rfl, Nat.le_of_ble_eq_true rfl⟩) ⟨gP_blind, gP_of hK hnw hP hD [] (by decide +kernel) rfl rfl⟩ rfl rfl hl.1 rfl (lv_room (Nat.le_of_ble_eq_true rfl)) dX3_inLeastTerms_20 ⟨Nat.le_of_ble_eq_true rfl, Nat.le_of_ble_eq_true rfl⟩) hP hD hS hA [] [0] rfl rfl (by decide +kernel) (by decide +kernel) (fun r7 u H locs hF hP hD hS => ?_)
        try dsimp only at hF
        have hP : va_P G vwCl [(h_p0, .inl (cL, n_p0, .inr (.inl v_p0)))] H := hP
        have hD : va_D A [(h_p0, .inl (cL, n_p0, .inr (.inl v_p0)))] := hD
        refine lv_lstore_n (lv' := [(2, .long r7), (0, .ref h_p0), (1, .int l1), (4, .int l4)]) hx hb dX3_inLeastTerms_23 rfl hl (by decide) rfl (fun ls hl => ?_)
        obtain ⟨x8, ex8⟩ : ∃ z : Int32, z = (l4 + 1) := ⟨_, rfl⟩
        have hF := hF x8 ex8
        refine lv_iinc (v := x8) (lv' := [(4, .int x8), (2, .long r7), (0, .ref h_p0), (1, .int l1)]) hx hb dX3_inLeastTerms_24 hl (k := 3) rfl (by rw [ex8]; rfl) (by decide) rfl (fun ls hl => ?_)
        refine lv_goto (tgt := 5) hx hb dX3_inLeastTerms_27 (by decide) ?_
        exact k_5 l1 r7 x8 hF _ _ ls hP hD hS (lv_sub hl [2, 3, 1, 0] rfl)
  obtain ⟨n0, hF⟩ := hF
  exact k_5 n0 p1 0 0 hF _ _ ls hP hD hS (lv_sub hl [2, 3, 1, 0] rfl)

def rm_X3_tell : Room := { frames := 2, cells := 0, slots := 0, locals := 56 }
def J_X3_tell_53 (post : Int64 → Prop) (v_t_which : Int32) (v_t_time : Nat → Int64) (v_t_place : Nat → Int64) (v_t_weights : Nat → Int64) (l1 : Int32) : Prop := ((l1 < 7 → post (-9000000000000000000)) ∧ (¬ l1 < 7 → ((10 < l1 → post (-9000000000000000000)) ∧ (¬ 10 < l1 → (F_X3_inLeastTerms (l1 - 7) 4 v_t_weights (fun r4 => post r4))))))
def J_X3_tell_31 (post : Int64 → Prop) (v_t_which : Int32) (v_t_time : Nat → Int64) (v_t_place : Nat → Int64) (v_t_weights : Nat → Int64) (l1 : Int32) : Prop := ((l1 < 3 → J_X3_tell_53 post v_t_which v_t_time v_t_place v_t_weights l1) ∧ (¬ l1 < 3 → ((6 < l1 → J_X3_tell_53 post v_t_which v_t_time v_t_place v_t_weights l1) ∧ (¬ 6 < l1 → (F_X3_inLeastTerms (l1 - 3) 4 v_t_place (fun r7 => post r7))))))
def F_X3_tell (p1 : Int32) (v_t_which : Int32) (v_t_time : Nat → Int64) (v_t_place : Nat → Int64) (v_t_weights : Nat → Int64) (post : Int64 → Prop) : Prop := ((¬ p1 = 0 → ((p1 < 1 → J_X3_tell_31 post v_t_which v_t_time v_t_place v_t_weights p1) ∧ (¬ p1 < 1 → ((2 < p1 → J_X3_tell_31 post v_t_which v_t_time v_t_place v_t_weights p1) ∧ (¬ 2 < p1 → (F_X3_inLeastTerms (p1 - 1) 2 v_t_time (fun r10 => post r10))))))) ∧ (p1 = 0 → post (v_t_which.toInt64)))
set_option maxHeartbeats 8000000 in
set_option maxRecDepth 100000 in
theorem c_X3_tell (l : Launch) (G : va_G) (cI cL cZ : ClassId) (h_t : Nat) (h_t_time : Nat) (h_t_place : Nat) (h_t_weights : Nat) (v_t_which : Int32) (v_t_time : Nat → Int64) (v_t_place : Nat → Int64) (v_t_weights : Nat → Int64) (p1 : Int32) (sz : Nat) (post : Int64 → Prop) (hF : F_X3_tell p1 v_t_which v_t_time v_t_place v_t_weights post) : MetL l G (gT cI cL cZ) yX3_tell (gW yX3_tell cX3_tell 2 (some .long)) rm_X3_tell 0 0 [.ref h_t, .int p1] sz [(h_t, .inr (3, [.ref h_t_time, .ref h_t_place, .ref h_t_weights, .int v_t_which])), (h_t_time, .inl (cL, 2, .inr (.inl v_t_time))), (h_t_place, .inl (cL, 4, .inr (.inl v_t_place))), (h_t_weights, .inl (cL, 4, .inr (.inl v_t_weights)))] (fun (u : Unit) => [(h_t, .inr (3, [.ref h_t_time, .ref h_t_place, .ref h_t_weights, .int v_t_which])), (h_t_time, .inl (cL, 2, .inr (.inl v_t_time))), (h_t_place, .inl (cL, 4, .inr (.inl v_t_place))), (h_t_weights, .inl (cL, 4, .inr (.inl v_t_weights)))]) (fun (r : Int64) (u : Unit) => post r) := by
  refine startL (cc := cX3_tell) (maxL := 2) (by decide +kernel) rfl (Nat.le_of_ble_eq_true rfl) ?_
  intro p e s m args below meth c Q ls A C0 hP hD hS hl hret
  obtain ⟨hx, hb, hml, hown, hts, hnw, hK, hA, hin⟩ := C0
  have hown : s.vm.findClass RX3 = some m.cls := hown
  have hl : lv_has ls 2 [(0, .ref h_t), (1, .int p1)] := hl
  refine lv_iload_n hx hb dX3_tell_0 rfl (lv_at hl 1 rfl) ?_
  refine lv_if_ne (tgt := 10) hx hb dX3_tell_1 (by decide) (fun c1 => ?_) (fun c1 => ?_)
  · have hF := hF.1 c1
    refine lv_iload_n hx hb dX3_tell_10 rfl (lv_at hl 1 rfl) ?_
    refine lv_iconst (v := 1) hx hb dX3_tell_11 (by decide) ?_
    have k_31 : ∀ (l1 : Int32), J_X3_tell_31 post v_t_which v_t_time v_t_place v_t_weights l1 → ∀ (H : Heap) (locs : List Loc) (ls : Array Slot), va_P G vwCl [(h_t, .inr (3, [.ref h_t_time, .ref h_t_place, .ref h_t_weights, .int v_t_which])), (h_t_time, .inl (cL, 2, .inr (.inl v_t_time))), (h_t_place, .inl (cL, 4, .inr (.inl v_t_place))), (h_t_weights, .inl (cL, 4, .inr (.inl v_t_weights)))] H → va_D A [(h_t, .inr (3, [.ref h_t_time, .ref h_t_place, .ref h_t_weights, .int v_t_which])), (h_t_time, .inl (cL, 2, .inr (.inl v_t_time))), (h_t_place, .inl (cL, 4, .inr (.inl v_t_place))), (h_t_weights, .inl (cL, 4, .inr (.inl v_t_weights)))] → va_S A s.heap H locs → lv_has ls 2 [(0, .ref h_t), (1, .int l1)] → W p l e rm_X3_tell s m args below meth c H locs 0 0 Q (F0 m 31 ls []) := by
      intro l1 hF H locs ls hP hD hS hl
      refine lv_iload_n hx hb dX3_tell_31 rfl (lv_at hl 1 rfl) ?_
      refine lv_iconst (v := 3) hx hb dX3_tell_32 (by decide) ?_
      have k_53 : ∀ (l1 : Int32), J_X3_tell_53 post v_t_which v_t_time v_t_place v_t_weights l1 → ∀ (H : Heap) (locs : List Loc) (ls : Array Slot), va_P G vwCl [(h_t, .inr (3, [.ref h_t_time, .ref h_t_place, .ref h_t_weights, .int v_t_which])), (h_t_time, .inl (cL, 2, .inr (.inl v_t_time))), (h_t_place, .inl (cL, 4, .inr (.inl v_t_place))), (h_t_weights, .inl (cL, 4, .inr (.inl v_t_weights)))] H → va_D A [(h_t, .inr (3, [.ref h_t_time, .ref h_t_place, .ref h_t_weights, .int v_t_which])), (h_t_time, .inl (cL, 2, .inr (.inl v_t_time))), (h_t_place, .inl (cL, 4, .inr (.inl v_t_place))), (h_t_weights, .inl (cL, 4, .inr (.inl v_t_weights)))] → va_S A s.heap H locs → lv_has ls 2 [(0, .ref h_t), (1, .int l1)] → W p l e rm_X3_tell s m args below meth c H locs 0 0 Q (F0 m 53 ls []) := by
        intro l1 hF H locs ls hP hD hS hl
        refine lv_iload_n hx hb dX3_tell_53 rfl (lv_at hl 1 rfl) ?_
        refine lv_bipush (v := 7) hx hb dX3_tell_54 (by decide) ?_
        refine lv_icmp_lt (tgt := 77) hx hb dX3_tell_56 (by decide) (fun c2 => ?_) (fun c2 => ?_)
        · have hF := hF.1 c2
          refine lv_ldc2 (own := RX3) (v := (-9000000000000000000)) hx hb hown (hts _ (List.mem_cons_of_mem _ mw_3_152)) dX3_tell_77 ?_
          exact hret 80 ls _ _ (-9000000000000000000) () dX3_tell_80  hF hP hD hS
        · have hF := hF.2 c2
          refine lv_iload_n hx hb dX3_tell_59 rfl (lv_at hl 1 rfl) ?_
          refine lv_bipush (v := 10) hx hb dX3_tell_60 (by decide) ?_
          refine lv_icmp_gt (tgt := 77) hx hb dX3_tell_62 (by decide) (fun c3 => ?_) (fun c3 => ?_)
          · have hF := hF.1 c3
            refine lv_ldc2 (own := RX3) (v := (-9000000000000000000)) hx hb hown (hts _ (List.mem_cons_of_mem _ mw_3_152)) dX3_tell_77 ?_
            exact hret 80 ls _ _ (-9000000000000000000) () dX3_tell_80  hF hP hD hS
          · have hF := hF.2 c3
            refine lv_aload_n hx hb dX3_tell_65 rfl (lv_at hl 0 rfl) ?_
            refine va_get (D := G) (ci := 3) (v := .ref h_t_weights) (C := RX3) (T := TX3) (N := 4) hx hb hts (fun w h => List.mem_cons_of_mem _ (inG_3 w h)) hown hK hP 0 rfl rfl 2 (by decide) (hts _ (List.mem_cons_of_mem _ mw_1_174)) (fun _ h9 => h9) rfl dX3_tell_66 ?_
            refine lv_iload_n hx hb dX3_tell_69 rfl (lv_at hl 1 rfl) ?_
            refine lv_bipush (v := 7) hx hb dX3_tell_70 (by decide) ?_
            refine lv_isub hx hb dX3_tell_72 ?_
            refine afterL (wr := [(h_t, .inr (3, [.ref h_t_time, .ref h_t_place, .ref h_t_weights, .int v_t_which])), (h_t_time, .inl (cL, 2, .inr (.inl v_t_time))), (h_t_place, .inl (cL, 4, .inr (.inl v_t_place)))]) (va_runS (As := [.ref h_t_weights, .int (l1 - 7)]) (rest := []) ⟨hx, hb, hml, hown, hts⟩ (c_X3_inLeastTerms l G cI cL cZ h_t_weights 4 v_t_weights (l1 - 7) _ _ hF) (va_cwS 2 hts (gS mw_3_145 mw_3_146 mw_1_8 mw_3_147) rfl rfl rfl (by decide +kernel) ⟨Nat.le_of_ble_eq_true rfl, Nat.le_of_ble_eq_true rfl⟩) ⟨gP_blind, gP_of hK hnw hP hD [3] (by decide +kernel) rfl rfl⟩ rfl rfl hl.1 rfl (lv_room (Nat.le_of_ble_eq_true rfl)) dX3_tell_73 ⟨Nat.le_of_ble_eq_true rfl, Nat.le_of_ble_eq_true rfl⟩) hP hD hS hA [3] [0, 1, 2] rfl rfl (by decide +kernel) (by decide +kernel) (fun r4 u H locs hF hP hD hS => ?_)
            try dsimp only at hF
            have hP : va_P G vwCl [(h_t, .inr (3, [.ref h_t_time, .ref h_t_place, .ref h_t_weights, .int v_t_which])), (h_t_time, .inl (cL, 2, .inr (.inl v_t_time))), (h_t_place, .inl (cL, 4, .inr (.inl v_t_place))), (h_t_weights, .inl (cL, 4, .inr (.inl v_t_weights)))] H := hP
            have hD : va_D A [(h_t, .inr (3, [.ref h_t_time, .ref h_t_place, .ref h_t_weights, .int v_t_which])), (h_t_time, .inl (cL, 2, .inr (.inl v_t_time))), (h_t_place, .inl (cL, 4, .inr (.inl v_t_place))), (h_t_weights, .inl (cL, 4, .inr (.inl v_t_weights)))] := hD
            exact hret 76 ls _ _ r4 () dX3_tell_76  hF hP hD hS
      refine lv_icmp_lt (tgt := 53) hx hb dX3_tell_33 (by decide) (fun c5 => ?_) (fun c5 => ?_)
      · have hF := hF.1 c5
        exact k_53 l1 hF _ _ ls hP hD hS (lv_sub hl [0, 1] rfl)
      · have hF := hF.2 c5
        refine lv_iload_n hx hb dX3_tell_36 rfl (lv_at hl 1 rfl) ?_
        refine lv_bipush (v := 6) hx hb dX3_tell_37 (by decide) ?_
        refine lv_icmp_gt (tgt := 53) hx hb dX3_tell_39 (by decide) (fun c6 => ?_) (fun c6 => ?_)
        · have hF := hF.1 c6
          exact k_53 l1 hF _ _ ls hP hD hS (lv_sub hl [0, 1] rfl)
        · have hF := hF.2 c6
          refine lv_aload_n hx hb dX3_tell_42 rfl (lv_at hl 0 rfl) ?_
          refine va_get (D := G) (ci := 3) (v := .ref h_t_place) (C := RX3) (T := TX3) (N := 4) hx hb hts (fun w h => List.mem_cons_of_mem _ (inG_3 w h)) hown hK hP 0 rfl rfl 1 (by decide) (hts _ (List.mem_cons_of_mem _ mw_1_172)) (fun _ h9 => h9) rfl dX3_tell_43 ?_
          refine lv_iload_n hx hb dX3_tell_46 rfl (lv_at hl 1 rfl) ?_
          refine lv_iconst (v := 3) hx hb dX3_tell_47 (by decide) ?_
          refine lv_isub hx hb dX3_tell_48 ?_
          refine afterL (wr := [(h_t, .inr (3, [.ref h_t_time, .ref h_t_place, .ref h_t_weights, .int v_t_which])), (h_t_time, .inl (cL, 2, .inr (.inl v_t_time))), (h_t_weights, .inl (cL, 4, .inr (.inl v_t_weights)))]) (va_runS (As := [.ref h_t_place, .int (l1 - 3)]) (rest := []) ⟨hx, hb, hml, hown, hts⟩ (c_X3_inLeastTerms l G cI cL cZ h_t_place 4 v_t_place (l1 - 3) _ _ hF) (va_cwS 2 hts (gS mw_3_145 mw_3_146 mw_1_8 mw_3_147) rfl rfl rfl (by decide +kernel) ⟨Nat.le_of_ble_eq_true rfl, Nat.le_of_ble_eq_true rfl⟩) ⟨gP_blind, gP_of hK hnw hP hD [2] (by decide +kernel) rfl rfl⟩ rfl rfl hl.1 rfl (lv_room (Nat.le_of_ble_eq_true rfl)) dX3_tell_49 ⟨Nat.le_of_ble_eq_true rfl, Nat.le_of_ble_eq_true rfl⟩) hP hD hS hA [2] [0, 1, 3] rfl rfl (by decide +kernel) (by decide +kernel) (fun r7 u H locs hF hP hD hS => ?_)
          try dsimp only at hF
          have hP : va_P G vwCl [(h_t, .inr (3, [.ref h_t_time, .ref h_t_place, .ref h_t_weights, .int v_t_which])), (h_t_time, .inl (cL, 2, .inr (.inl v_t_time))), (h_t_weights, .inl (cL, 4, .inr (.inl v_t_weights))), (h_t_place, .inl (cL, 4, .inr (.inl v_t_place)))] H := hP
          have hD : va_D A [(h_t, .inr (3, [.ref h_t_time, .ref h_t_place, .ref h_t_weights, .int v_t_which])), (h_t_time, .inl (cL, 2, .inr (.inl v_t_time))), (h_t_weights, .inl (cL, 4, .inr (.inl v_t_weights))), (h_t_place, .inl (cL, 4, .inr (.inl v_t_place)))] := hD
          exact hret 52 ls _ _ r7 () dX3_tell_52  hF (hP.sub [0, 1, 3, 2] rfl) (hD.sub [0, 1, 3, 2] (by decide +kernel) rfl) hS
    refine lv_icmp_lt (tgt := 31) hx hb dX3_tell_12 (by decide) (fun c8 => ?_) (fun c8 => ?_)
    · have hF := hF.1 c8
      exact k_31 p1 hF _ _ ls hP hD hS (lv_sub hl [0, 1] rfl)
    · have hF := hF.2 c8
      refine lv_iload_n hx hb dX3_tell_15 rfl (lv_at hl 1 rfl) ?_
      refine lv_iconst (v := 2) hx hb dX3_tell_16 (by decide) ?_
      refine lv_icmp_gt (tgt := 31) hx hb dX3_tell_17 (by decide) (fun c9 => ?_) (fun c9 => ?_)
      · have hF := hF.1 c9
        exact k_31 p1 hF _ _ ls hP hD hS (lv_sub hl [0, 1] rfl)
      · have hF := hF.2 c9
        refine lv_aload_n hx hb dX3_tell_20 rfl (lv_at hl 0 rfl) ?_
        refine va_get (D := G) (ci := 3) (v := .ref h_t_time) (C := RX3) (T := TX3) (N := 4) hx hb hts (fun w h => List.mem_cons_of_mem _ (inG_3 w h)) hown hK hP 0 rfl rfl 0 (by decide) (hts _ (List.mem_cons_of_mem _ mw_1_171)) (fun _ h9 => h9) rfl dX3_tell_21 ?_
        refine lv_iload_n hx hb dX3_tell_24 rfl (lv_at hl 1 rfl) ?_
        refine lv_iconst (v := 1) hx hb dX3_tell_25 (by decide) ?_
        refine lv_isub hx hb dX3_tell_26 ?_
        refine afterL (wr := [(h_t, .inr (3, [.ref h_t_time, .ref h_t_place, .ref h_t_weights, .int v_t_which])), (h_t_place, .inl (cL, 4, .inr (.inl v_t_place))), (h_t_weights, .inl (cL, 4, .inr (.inl v_t_weights)))]) (va_runS (As := [.ref h_t_time, .int (p1 - 1)]) (rest := []) ⟨hx, hb, hml, hown, hts⟩ (c_X3_inLeastTerms l G cI cL cZ h_t_time 2 v_t_time (p1 - 1) _ _ hF) (va_cwS 2 hts (gS mw_3_145 mw_3_146 mw_1_8 mw_3_147) rfl rfl rfl (by decide +kernel) ⟨Nat.le_of_ble_eq_true rfl, Nat.le_of_ble_eq_true rfl⟩) ⟨gP_blind, gP_of hK hnw hP hD [1] (by decide +kernel) rfl rfl⟩ rfl rfl hl.1 rfl (lv_room (Nat.le_of_ble_eq_true rfl)) dX3_tell_27 ⟨Nat.le_of_ble_eq_true rfl, Nat.le_of_ble_eq_true rfl⟩) hP hD hS hA [1] [0, 2, 3] rfl rfl (by decide +kernel) (by decide +kernel) (fun r10 u H locs hF hP hD hS => ?_)
        try dsimp only at hF
        have hP : va_P G vwCl [(h_t, .inr (3, [.ref h_t_time, .ref h_t_place, .ref h_t_weights, .int v_t_which])), (h_t_place, .inl (cL, 4, .inr (.inl v_t_place))), (h_t_weights, .inl (cL, 4, .inr (.inl v_t_weights))), (h_t_time, .inl (cL, 2, .inr (.inl v_t_time)))] H := hP
        have hD : va_D A [(h_t, .inr (3, [.ref h_t_time, .ref h_t_place, .ref h_t_weights, .int v_t_which])), (h_t_place, .inl (cL, 4, .inr (.inl v_t_place))), (h_t_weights, .inl (cL, 4, .inr (.inl v_t_weights))), (h_t_time, .inl (cL, 2, .inr (.inl v_t_time)))] := hD
        exact hret 30 ls _ _ r10 () dX3_tell_30  hF (hP.sub [0, 3, 1, 2] rfl) (hD.sub [0, 3, 1, 2] (by decide +kernel) rfl) hS
  · have hF := hF.2 c1
    refine lv_aload_n hx hb dX3_tell_4 rfl (lv_at hl 0 rfl) ?_
    refine va_get (D := G) (ci := 3) (v := .int v_t_which) (C := RX3) (T := TX3) (N := 4) hx hb hts (fun w h => List.mem_cons_of_mem _ (inG_3 w h)) hown hK hP 0 rfl rfl 3 (by decide) (hts _ (List.mem_cons_of_mem _ mw_1_175)) (fun _ h9 => h9) rfl dX3_tell_5 ?_
    refine lv_i2l (v := v_t_which.toInt64) hx hb dX3_tell_8 rfl ?_
    exact hret 9 ls _ _ (v_t_which.toInt64) () dX3_tell_9  hF hP hD hS

def rm_X11_told : Room := { frames := 3, cells := 0, slots := 0, locals := 77 }
def F_X11_told (p1 : Int32) (v_t_atHand_which : Int32) (v_t_atHand_time : Nat → Int64) (v_t_atHand_place : Nat → Int64) (v_t_atHand_weights : Nat → Int64) (post : Int64 → Prop) : Prop := (F_X3_isThere v_t_atHand_which (fun r1 => ((r1 = 0 → post (-9000000000000000000)) ∧ (¬ r1 = 0 → (F_X3_tell p1 v_t_atHand_which v_t_atHand_time v_t_atHand_place v_t_atHand_weights (fun r3 => post r3))))))
set_option maxHeartbeats 8000000 in
set_option maxRecDepth 100000 in
theorem c_X11_told (l : Launch) (G : va_G) (cI cL cZ : ClassId) (h_t : Nat) (h_t_points : Nat) (h_t_mesh : Nat) (h_t_camera : Nat) (h_t_lamps : Nat) (h_t_tree : Nat) (h_t_crossings : Nat) (h_t_atHand : Nat) (h_t_view : Nat) (h_t_sight : Nat) (h_t_shade : Nat) (h_t_slope : Nat) (h_t_box : Nat) (h_t_marked : Nat) (h_t_atHand_time : Nat) (h_t_atHand_place : Nat) (h_t_atHand_weights : Nat) (v_t_atHand_which : Int32) (v_t_atHand_time : Nat → Int64) (v_t_atHand_place : Nat → Int64) (v_t_atHand_weights : Nat → Int64) (v_t_back : Int32) (p1 : Int32) (sz : Nat) (post : Int64 → Prop) (hF : F_X11_told p1 v_t_atHand_which v_t_atHand_time v_t_atHand_place v_t_atHand_weights post) : MetL l G (gT cI cL cZ) yX11_told (gW yX11_told cX11_told 2 (some .long)) rm_X11_told 0 0 [.ref h_t, .int p1] sz [(h_t, .inr (11, [.ref h_t_points, .ref h_t_mesh, .ref h_t_camera, .ref h_t_lamps, .ref h_t_tree, .ref h_t_crossings, .ref h_t_atHand, .ref h_t_view, .ref h_t_sight, .ref h_t_shade, .ref h_t_slope, .ref h_t_box, .ref h_t_marked, .int v_t_back])), (h_t_atHand, .inr (3, [.ref h_t_atHand_time, .ref h_t_atHand_place, .ref h_t_atHand_weights, .int v_t_atHand_which])), (h_t_atHand_time, .inl (cL, 2, .inr (.inl v_t_atHand_time))), (h_t_atHand_place, .inl (cL, 4, .inr (.inl v_t_atHand_place))), (h_t_atHand_weights, .inl (cL, 4, .inr (.inl v_t_atHand_weights)))] (fun (u : Unit) => [(h_t, .inr (11, [.ref h_t_points, .ref h_t_mesh, .ref h_t_camera, .ref h_t_lamps, .ref h_t_tree, .ref h_t_crossings, .ref h_t_atHand, .ref h_t_view, .ref h_t_sight, .ref h_t_shade, .ref h_t_slope, .ref h_t_box, .ref h_t_marked, .int v_t_back])), (h_t_atHand, .inr (3, [.ref h_t_atHand_time, .ref h_t_atHand_place, .ref h_t_atHand_weights, .int v_t_atHand_which])), (h_t_atHand_time, .inl (cL, 2, .inr (.inl v_t_atHand_time))), (h_t_atHand_place, .inl (cL, 4, .inr (.inl v_t_atHand_place))), (h_t_atHand_weights, .inl (cL, 4, .inr (.inl v_t_atHand_weights)))]) (fun (r : Int64) (u : Unit) => post r) := by
  refine startL (cc := cX11_told) (maxL := 2) (by decide +kernel) rfl (Nat.le_of_ble_eq_true rfl) ?_
  intro p e s m args below meth c Q ls A C0 hP hD hS hl hret
  obtain ⟨hx, hb, hml, hown, hts, hnw, hK, hA, hin⟩ := C0
  have hown : s.vm.findClass RX11 = some m.cls := hown
  have hl : lv_has ls 2 [(0, .ref h_t), (1, .int p1)] := hl
  refine lv_aload_n hx hb dX11_told_0 rfl (lv_at hl 0 rfl) ?_
  refine va_get (D := G) (ci := 11) (v := .ref h_t_atHand) (C := RX11) (T := TX11) (N := 14) hx hb hts (fun w h => List.mem_cons_of_mem _ (inG_11 w h)) hown hK hP 0 rfl rfl 6 (by decide) (hts _ (List.mem_cons_of_mem _ mw_2_47)) (fun _ h9 => h9) rfl dX11_told_1 ?_
  refine afterI (wr := [(h_t, .inr (11, [.ref h_t_points, .ref h_t_mesh, .ref h_t_camera, .ref h_t_lamps, .ref h_t_tree, .ref h_t_crossings, .ref h_t_atHand, .ref h_t_view, .ref h_t_sight, .ref h_t_shade, .ref h_t_slope, .ref h_t_box, .ref h_t_marked, .int v_t_back])), (h_t_atHand_time, .inl (cL, 2, .inr (.inl v_t_atHand_time))), (h_t_atHand_place, .inl (cL, 4, .inr (.inl v_t_atHand_place))), (h_t_atHand_weights, .inl (cL, 4, .inr (.inl v_t_atHand_weights)))]) (va_runV (As := []) (rest := []) ⟨hx, hb, hml, hown, hts⟩ (c_X3_isThere l G cI cL cZ h_t_atHand h_t_atHand_time h_t_atHand_place h_t_atHand_weights v_t_atHand_which _ _ hF) (cwV 0 hts (gV mw_3_140 mw_3_129 mw_3_130 mw_1_8 mw_3_131) rfl rfl rfl (by decide +kernel) ⟨Nat.le_of_ble_eq_true rfl, Nat.le_of_ble_eq_true rfl⟩) ⟨gP_blind, va_recv hK hP (ci := 3) (q0 := 1) rfl rfl, gP_of hK hnw hP hD [1] (by decide +kernel) rfl rfl⟩ rfl rfl hl.1 rfl (lv_room (Nat.le_of_ble_eq_true rfl)) dX11_told_4 ⟨Nat.le_of_ble_eq_true rfl, Nat.le_of_ble_eq_true rfl⟩) hP hD hS hA [1] [0, 2, 3, 4] rfl rfl (by decide +kernel) (by decide +kernel) (fun r1 u H locs hF hP hD hS => ?_)
  try dsimp only at hF
  have hP : va_P G vwCl [(h_t, .inr (11, [.ref h_t_points, .ref h_t_mesh, .ref h_t_camera, .ref h_t_lamps, .ref h_t_tree, .ref h_t_crossings, .ref h_t_atHand, .ref h_t_view, .ref h_t_sight, .ref h_t_shade, .ref h_t_slope, .ref h_t_box, .ref h_t_marked, .int v_t_back])), (h_t_atHand_time, .inl (cL, 2, .inr (.inl v_t_atHand_time))), (h_t_atHand_place, .inl (cL, 4, .inr (.inl v_t_atHand_place))), (h_t_atHand_weights, .inl (cL, 4, .inr (.inl v_t_atHand_weights))), (h_t_atHand, .inr (3, [.ref h_t_atHand_time, .ref h_t_atHand_place, .ref h_t_atHand_weights, .int v_t_atHand_which]))] H := hP
  have hD : va_D A [(h_t, .inr (11, [.ref h_t_points, .ref h_t_mesh, .ref h_t_camera, .ref h_t_lamps, .ref h_t_tree, .ref h_t_crossings, .ref h_t_atHand, .ref h_t_view, .ref h_t_sight, .ref h_t_shade, .ref h_t_slope, .ref h_t_box, .ref h_t_marked, .int v_t_back])), (h_t_atHand_time, .inl (cL, 2, .inr (.inl v_t_atHand_time))), (h_t_atHand_place, .inl (cL, 4, .inr (.inl v_t_atHand_place))), (h_t_atHand_weights, .inl (cL, 4, .inr (.inl v_t_atHand_weights))), (h_t_atHand, .inr (3, [.ref h_t_atHand_time, .ref h_t_atHand_place, .ref h_t_atHand_weights, .int v_t_atHand_which]))] := hD
  refine lv_if_eq (tgt := 21) hx hb dX11_told_7 (by decide) (fun c2 => ?_) (fun c2 => ?_)
  · have hF := hF.1 c2
    refine lv_ldc2 (own := RX11) (v := (-9000000000000000000)) hx hb hown (hts _ (List.mem_cons_of_mem _ mw_3_153)) dX11_told_21 ?_
    exact hret 24 ls _ _ (-9000000000000000000) () dX11_told_24  hF (hP.sub [0, 4, 1, 2, 3] rfl) (hD.sub [0, 4, 1, 2, 3] (by decide +kernel) rfl) hS
  · have hF := hF.2 c2
    refine lv_aload_n hx hb dX11_told_10 rfl (lv_at hl 0 rfl) ?_
    refine va_get (D := G) (ci := 11) (v := .ref h_t_atHand) (C := RX11) (T := TX11) (N := 14) hx hb hts (fun w h => List.mem_cons_of_mem _ (inG_11 w h)) hown hK hP 0 rfl rfl 6 (by decide) (hts _ (List.mem_cons_of_mem _ mw_2_47)) (fun _ h9 => h9) rfl dX11_told_11 ?_
    refine lv_iload_n hx hb dX11_told_14 rfl (lv_at hl 1 rfl) ?_
    refine afterL (wr := [(h_t, .inr (11, [.ref h_t_points, .ref h_t_mesh, .ref h_t_camera, .ref h_t_lamps, .ref h_t_tree, .ref h_t_crossings, .ref h_t_atHand, .ref h_t_view, .ref h_t_sight, .ref h_t_shade, .ref h_t_slope, .ref h_t_box, .ref h_t_marked, .int v_t_back]))]) (va_runV (As := [.int p1]) (rest := []) ⟨hx, hb, hml, hown, hts⟩ (c_X3_tell l G cI cL cZ h_t_atHand h_t_atHand_time h_t_atHand_place h_t_atHand_weights v_t_atHand_which v_t_atHand_time v_t_atHand_place v_t_atHand_weights p1 _ _ hF) (cwV 1 hts (gV mw_3_141 mw_3_142 mw_3_143 mw_1_8 mw_3_144) rfl rfl rfl (by decide +kernel) ⟨Nat.le_of_ble_eq_true rfl, Nat.le_of_ble_eq_true rfl⟩) ⟨gP_blind, va_recv hK hP (ci := 3) (q0 := 4) rfl rfl, gP_of hK hnw hP hD [4, 1, 2, 3] (by decide +kernel) rfl rfl⟩ rfl rfl hl.1 rfl (lv_room (Nat.le_of_ble_eq_true rfl)) dX11_told_15 ⟨Nat.le_of_ble_eq_true rfl, Nat.le_of_ble_eq_true rfl⟩) hP hD hS hA [4, 1, 2, 3] [0] rfl rfl (by decide +kernel) (by decide +kernel) (fun r3 u H locs hF hP hD hS => ?_)
    try dsimp only at hF
    have hP : va_P G vwCl [(h_t, .inr (11, [.ref h_t_points, .ref h_t_mesh, .ref h_t_camera, .ref h_t_lamps, .ref h_t_tree, .ref h_t_crossings, .ref h_t_atHand, .ref h_t_view, .ref h_t_sight, .ref h_t_shade, .ref h_t_slope, .ref h_t_box, .ref h_t_marked, .int v_t_back])), (h_t_atHand, .inr (3, [.ref h_t_atHand_time, .ref h_t_atHand_place, .ref h_t_atHand_weights, .int v_t_atHand_which])), (h_t_atHand_time, .inl (cL, 2, .inr (.inl v_t_atHand_time))), (h_t_atHand_place, .inl (cL, 4, .inr (.inl v_t_atHand_place))), (h_t_atHand_weights, .inl (cL, 4, .inr (.inl v_t_atHand_weights)))] H := hP
    have hD : va_D A [(h_t, .inr (11, [.ref h_t_points, .ref h_t_mesh, .ref h_t_camera, .ref h_t_lamps, .ref h_t_tree, .ref h_t_crossings, .ref h_t_atHand, .ref h_t_view, .ref h_t_sight, .ref h_t_shade, .ref h_t_slope, .ref h_t_box, .ref h_t_marked, .int v_t_back])), (h_t_atHand, .inr (3, [.ref h_t_atHand_time, .ref h_t_atHand_place, .ref h_t_atHand_weights, .int v_t_atHand_which])), (h_t_atHand_time, .inl (cL, 2, .inr (.inl v_t_atHand_time))), (h_t_atHand_place, .inl (cL, 4, .inr (.inl v_t_atHand_place))), (h_t_atHand_weights, .inl (cL, 4, .inr (.inl v_t_atHand_weights)))] := hD
    refine lv_goto (tgt := 24) hx hb dX11_told_18 (by decide) ?_
    exact hret 24 ls _ _ r3 () dX11_told_24  hF hP hD hS

def rm_X2_clear : Room := { frames := 0, cells := 0, slots := 0, locals := 0 }
def F_X2_clear (v_t_many : Int32) (post : Int32 → Prop) : Prop := post 0
set_option maxHeartbeats 8000000 in
set_option maxRecDepth 100000 in
theorem c_X2_clear (l : Launch) (G : va_G) (cI cL cZ : ClassId) (h_t : Nat) (h_t_triangles : Nat) (h_t_far : Nat) (h_t_over : Nat) (v_t_many : Int32) (sz : Nat) (post : Int32 → Prop) (hF : F_X2_clear v_t_many post) : MetV l G (gT cI cL cZ) yX2_clear (gW yX2_clear cX2_clear 1 none) rm_X2_clear 0 0 [.ref h_t] sz [(h_t, .inr (2, [.ref h_t_triangles, .ref h_t_far, .ref h_t_over, .int v_t_many]))] (fun (u : Int32) => [(h_t, .inr (2, [.ref h_t_triangles, .ref h_t_far, .ref h_t_over, .int u]))]) (fun (u : Int32) => post u) := by
  refine startV (cc := cX2_clear) (maxL := 1) (by decide +kernel) rfl (Nat.le_of_ble_eq_true rfl) ?_
  intro p e s m args below meth c Q ls A C0 hP hD hS hl hret
  obtain ⟨hx, hb, hml, hown, hts, hnw, hK, hA, hin⟩ := C0
  have hown : s.vm.findClass RX2 = some m.cls := hown
  have hl : lv_has ls 1 [(0, .ref h_t)] := hl
  refine lv_aload_n hx hb dX2_clear_0 rfl (lv_at hl 0 rfl) ?_
  refine lv_iconst (v := 0) hx hb dX2_clear_1 (by decide) ?_
  refine va_put (D := G) (ci := 2) (v := .int 0) (ty := .int) (C := RX2) (T := TX2) (N := 4) hx hb hts (fun w h => List.mem_cons_of_mem _ (inG_2 w h)) tyX2 tyX2_ok nmX2 hown hK hP hD hS 0 rfl rfl 3 (by decide) (hts _ (List.mem_cons_of_mem _ mw_1_154)) (fun _ h9 => h9) rfl (by decide +kernel) rfl rfl (Nat.le_of_ble_eq_true rfl) dX2_clear_2 (fun H locs hP hD hS => ?_)
  have hP : va_P G vwCl [(h_t, .inr (2, [.ref h_t_triangles, .ref h_t_far, .ref h_t_over, .int 0]))] H := hP
  have hD : va_D A [(h_t, .inr (2, [.ref h_t_triangles, .ref h_t_far, .ref h_t_over, .int 0]))] := hD
  exact hret 5 ls _ _ 0 dX2_clear_5  hF hP hD hS

def rm_X2_insert : Room := { frames := 0, cells := 0, slots := 0, locals := 0 }
def J_X2_insert_103 (post : Int32 → (Nat → Int32) → (Nat → Int64) → (Nat → Int64) → Prop) (l1 : Int32) (l2 : Int64) (l4 : Int64) (l6 : Int32) (v_t_many : Int32) (v_t_triangles : Nat → Int32) (v_t_far : Nat → Int64) (v_t_over : Nat → Int64) : Prop := (vp_in l6 128 ∧ (∀ g3 : Nat → Int32, g3 = upd v_t_triangles (l6.toNatClampNeg) l1 → (vp_in l6 128 ∧ (∀ g5 : Nat → Int64, g5 = vp_updL v_t_far (l6.toNatClampNeg) l2 → (vp_in l6 128 ∧ (∀ g7 : Nat → Int64, g7 = vp_updL v_t_over (l6.toNatClampNeg) l4 → (∀ x8 : Int32, x8 = (v_t_many + 1) → post x8 g3 g5 g7)))))))
def L_X2_insert_17 (post : Int32 → (Nat → Int32) → (Nat → Int64) → (Nat → Int64) → Prop) : Nat → Int32 → Int64 → Int64 → Int32 → Int32 → (Nat → Int32) → (Nat → Int64) → (Nat → Int64) → Prop
  | 0, _, _, _, _, _, _, _, _ => False
  | n_17 + 1, l1, l2, l4, l6, v_t_many, v_t_triangles, v_t_far, v_t_over => ((l6 ≤ 0 → J_X2_insert_103 post l1 l2 l4 l6 v_t_many v_t_triangles v_t_far v_t_over) ∧ (¬ l6 ≤ 0 → (vp_in (l6 - 1) 128 ∧ (vp_in (l6 - 1) 128 ∧ (((lg_cmp ((v_t_far (l6 - 1).toNatClampNeg) * l4) (l2 * (v_t_over (l6 - 1).toNatClampNeg))) ≤ 0 → J_X2_insert_103 post l1 l2 l4 l6 v_t_many v_t_triangles v_t_far v_t_over) ∧ (¬ (lg_cmp ((v_t_far (l6 - 1).toNatClampNeg) * l4) (l2 * (v_t_over (l6 - 1).toNatClampNeg))) ≤ 0 → (vp_in (l6 - 1) 128 ∧ (vp_in l6 128 ∧ (∀ g15 : Nat → Int32, g15 = upd v_t_triangles (l6.toNatClampNeg) (v_t_triangles (l6 - 1).toNatClampNeg) → (vp_in (l6 - 1) 128 ∧ (vp_in l6 128 ∧ (∀ g18 : Nat → Int64, g18 = vp_updL v_t_far (l6.toNatClampNeg) (v_t_far (l6 - 1).toNatClampNeg) → (vp_in (l6 - 1) 128 ∧ (vp_in l6 128 ∧ (∀ g21 : Nat → Int64, g21 = vp_updL v_t_over (l6.toNatClampNeg) (v_t_over (l6 - 1).toNatClampNeg) → (∀ x22 : Int32, x22 = (l6 + (-1)) → L_X2_insert_17 post n_17 l1 l2 l4 x22 v_t_many g15 g18 g21))))))))))))))))
def F_X2_insert (p1 : Int32) (p2 : Int64) (p4 : Int64) (v_t_many : Int32) (v_t_triangles : Nat → Int32) (v_t_far : Nat → Int64) (v_t_over : Nat → Int64) (post : Int32 → (Nat → Int32) → (Nat → Int64) → (Nat → Int64) → Prop) : Prop := ((v_t_many < 128 → (∃ n0 : Nat, L_X2_insert_17 post n0 p1 p2 p4 v_t_many v_t_many v_t_triangles v_t_far v_t_over)) ∧ (¬ v_t_many < 128 → post v_t_many v_t_triangles v_t_far v_t_over))
set_option maxHeartbeats 8000000 in
set_option maxRecDepth 100000 in
theorem c_X2_insert (l : Launch) (G : va_G) (cI cL cZ : ClassId) (h_t : Nat) (h_t_triangles : Nat) (h_t_far : Nat) (h_t_over : Nat) (v_t_many : Int32) (v_t_triangles : Nat → Int32) (v_t_far : Nat → Int64) (v_t_over : Nat → Int64) (p1 : Int32) (p2 : Int64) (p4 : Int64) (sz : Nat) (post : Int32 → (Nat → Int32) → (Nat → Int64) → (Nat → Int64) → Prop) (hF : F_X2_insert p1 p2 p4 v_t_many v_t_triangles v_t_far v_t_over post) : MetV l G (gT cI cL cZ) yX2_insert (gW yX2_insert cX2_insert 7 none) rm_X2_insert 0 0 [.ref h_t, .int p1, .long p2, .long p4] sz [(h_t, .inr (2, [.ref h_t_triangles, .ref h_t_far, .ref h_t_over, .int v_t_many])), (h_t_triangles, .inl (cI, 128, .inl v_t_triangles)), (h_t_far, .inl (cL, 128, .inr (.inl v_t_far))), (h_t_over, .inl (cL, 128, .inr (.inl v_t_over)))] (fun (u : Int32 × (Nat → Int32) × (Nat → Int64) × (Nat → Int64)) => [(h_t, .inr (2, [.ref h_t_triangles, .ref h_t_far, .ref h_t_over, .int u.1])), (h_t_triangles, .inl (cI, 128, .inl u.2.1)), (h_t_far, .inl (cL, 128, .inr (.inl u.2.2.1))), (h_t_over, .inl (cL, 128, .inr (.inl u.2.2.2)))]) (fun (u : Int32 × (Nat → Int32) × (Nat → Int64) × (Nat → Int64)) => post u.1 u.2.1 u.2.2.1 u.2.2.2) := by
  refine startV (cc := cX2_insert) (maxL := 7) (by decide +kernel) rfl (Nat.le_of_ble_eq_true rfl) ?_
  intro p e s m args below meth c Q ls A C0 hP hD hS hl hret
  obtain ⟨hx, hb, hml, hown, hts, hnw, hK, hA, hin⟩ := C0
  have hown : s.vm.findClass RX2 = some m.cls := hown
  have hl : lv_has ls 7 [(0, .ref h_t), (1, .int p1), (2, .long p2), (4, .long p4)] := hl
  refine lv_aload_n hx hb dX2_insert_0 rfl (lv_at hl 0 rfl) ?_
  refine va_get (D := G) (ci := 2) (v := .int v_t_many) (C := RX2) (T := TX2) (N := 4) hx hb hts (fun w h => List.mem_cons_of_mem _ (inG_2 w h)) hown hK hP 0 rfl rfl 3 (by decide) (hts _ (List.mem_cons_of_mem _ mw_1_154)) (fun _ h9 => h9) rfl dX2_insert_1 ?_
  refine lv_sipush (v := 128) hx hb dX2_insert_4 (by decide) ?_
  refine lv_icmp_lt (tgt := 11) hx hb dX2_insert_7 (by decide) (fun c1 => ?_) (fun c1 => ?_)
  · have hF := hF.1 c1
    refine lv_aload_n hx hb dX2_insert_11 rfl (lv_at hl 0 rfl) ?_
    refine va_get (D := G) (ci := 2) (v := .int v_t_many) (C := RX2) (T := TX2) (N := 4) hx hb hts (fun w h => List.mem_cons_of_mem _ (inG_2 w h)) hown hK hP 0 rfl rfl 3 (by decide) (hts _ (List.mem_cons_of_mem _ mw_1_154)) (fun _ h9 => h9) rfl dX2_insert_12 ?_
    refine lv_istore (lv' := [(6, .int v_t_many), (0, .ref h_t), (1, .int p1), (2, .long p2), (4, .long p4)]) hx hb dX2_insert_15 hl (by decide) rfl (fun ls hl => ?_)
    have k_17 : ∀ (n_17 : Nat) (l1 : Int32) (l2 : Int64) (l4 : Int64) (l6 : Int32) (v_t_many : Int32) (v_t_triangles : Nat → Int32) (v_t_far : Nat → Int64) (v_t_over : Nat → Int64), L_X2_insert_17 post n_17 l1 l2 l4 l6 v_t_many v_t_triangles v_t_far v_t_over → ∀ (H : Heap) (locs : List Loc) (ls : Array Slot), va_P G vwCl [(h_t, .inr (2, [.ref h_t_triangles, .ref h_t_far, .ref h_t_over, .int v_t_many])), (h_t_triangles, .inl (cI, 128, .inl v_t_triangles)), (h_t_far, .inl (cL, 128, .inr (.inl v_t_far))), (h_t_over, .inl (cL, 128, .inr (.inl v_t_over)))] H → va_D A [(h_t, .inr (2, [.ref h_t_triangles, .ref h_t_far, .ref h_t_over, .int v_t_many])), (h_t_triangles, .inl (cI, 128, .inl v_t_triangles)), (h_t_far, .inl (cL, 128, .inr (.inl v_t_far))), (h_t_over, .inl (cL, 128, .inr (.inl v_t_over)))] → va_S A s.heap H locs → lv_has ls 7 [(0, .ref h_t), (1, .int l1), (2, .long l2), (4, .long l4), (6, .int l6)] → W p l e rm_X2_insert s m args below meth c H locs 0 0 Q (F0 m 17 ls []) := by
      intro n_17
      induction n_17 with
      | zero =>
        intro l1 l2 l4 l6 v_t_many v_t_triangles v_t_far v_t_over hF
        exact (show False from hF).elim
      | succ n_17 k_17 =>
        intro l1 l2 l4 l6 v_t_many v_t_triangles v_t_far v_t_over hF H locs ls hP hD hS hl
        refine lv_iload hx hb dX2_insert_17 (lv_at hl 4 rfl) ?_
        have k_103 : ∀ (l1 : Int32) (l2 : Int64) (l4 : Int64) (l6 : Int32) (v_t_many : Int32) (v_t_triangles : Nat → Int32) (v_t_far : Nat → Int64) (v_t_over : Nat → Int64), J_X2_insert_103 post l1 l2 l4 l6 v_t_many v_t_triangles v_t_far v_t_over → ∀ (H : Heap) (locs : List Loc) (ls : Array Slot), va_P G vwCl [(h_t, .inr (2, [.ref h_t_triangles, .ref h_t_far, .ref h_t_over, .int v_t_many])), (h_t_triangles, .inl (cI, 128, .inl v_t_triangles)), (h_t_far, .inl (cL, 128, .inr (.inl v_t_far))), (h_t_over, .inl (cL, 128, .inr (.inl v_t_over)))] H → va_D A [(h_t, .inr (2, [.ref h_t_triangles, .ref h_t_far, .ref h_t_over, .int v_t_many])), (h_t_triangles, .inl (cI, 128, .inl v_t_triangles)), (h_t_far, .inl (cL, 128, .inr (.inl v_t_far))), (h_t_over, .inl (cL, 128, .inr (.inl v_t_over)))] → va_S A s.heap H locs → lv_has ls 7 [(0, .ref h_t), (1, .int l1), (2, .long l2), (4, .long l4), (6, .int l6)] → W p l e rm_X2_insert s m args below meth c H locs 0 0 Q (F0 m 103 ls []) := by
          intro l1 l2 l4 l6 v_t_many v_t_triangles v_t_far v_t_over hF H locs ls hP hD hS hl
          refine lv_aload_n hx hb dX2_insert_103 rfl (lv_at hl 0 rfl) ?_
          refine va_get (D := G) (ci := 2) (v := .ref h_t_triangles) (C := RX2) (T := TX2) (N := 4) hx hb hts (fun w h => List.mem_cons_of_mem _ (inG_2 w h)) hown hK hP 0 rfl rfl 0 (by decide) (hts _ (List.mem_cons_of_mem _ mw_1_151)) (fun _ h9 => h9) rfl dX2_insert_104 ?_
          refine lv_iload hx hb dX2_insert_107 (lv_at hl 4 rfl) ?_
          refine lv_iload_n hx hb dX2_insert_109 rfl (lv_at hl 1 rfl) ?_
          obtain ⟨b2, hF⟩ := hF
          refine g_iast (t0 := 0) hx hb hK hP hD hS 1 rfl rfl b2 dX2_insert_110 (fun g3 H locs eg3 hP hD hS => ?_)
          have hF := hF g3 eg3
          have hP : va_P G vwCl [(h_t, .inr (2, [.ref h_t_triangles, .ref h_t_far, .ref h_t_over, .int v_t_many])), (h_t_triangles, .inl (cI, 128, .inl g3)), (h_t_far, .inl (cL, 128, .inr (.inl v_t_far))), (h_t_over, .inl (cL, 128, .inr (.inl v_t_over)))] H := hP
          have hD : va_D A [(h_t, .inr (2, [.ref h_t_triangles, .ref h_t_far, .ref h_t_over, .int v_t_many])), (h_t_triangles, .inl (cI, 128, .inl g3)), (h_t_far, .inl (cL, 128, .inr (.inl v_t_far))), (h_t_over, .inl (cL, 128, .inr (.inl v_t_over)))] := hD
          refine lv_aload_n hx hb dX2_insert_111 rfl (lv_at hl 0 rfl) ?_
          refine va_get (D := G) (ci := 2) (v := .ref h_t_far) (C := RX2) (T := TX2) (N := 4) hx hb hts (fun w h => List.mem_cons_of_mem _ (inG_2 w h)) hown hK hP 0 rfl rfl 1 (by decide) (hts _ (List.mem_cons_of_mem _ mw_1_152)) (fun _ h9 => h9) rfl dX2_insert_112 ?_
          refine lv_iload hx hb dX2_insert_115 (lv_at hl 4 rfl) ?_
          refine lv_lload_n hx hb dX2_insert_117 rfl (lv_at hl 2 rfl) ?_
          obtain ⟨b4, hF⟩ := hF
          refine g_last (t0 := 1) hx hb hK hP hD hS 2 rfl rfl b4 dX2_insert_118 (fun g5 H locs eg5 hP hD hS => ?_)
          have hF := hF g5 eg5
          have hP : va_P G vwCl [(h_t, .inr (2, [.ref h_t_triangles, .ref h_t_far, .ref h_t_over, .int v_t_many])), (h_t_triangles, .inl (cI, 128, .inl g3)), (h_t_far, .inl (cL, 128, .inr (.inl g5))), (h_t_over, .inl (cL, 128, .inr (.inl v_t_over)))] H := hP
          have hD : va_D A [(h_t, .inr (2, [.ref h_t_triangles, .ref h_t_far, .ref h_t_over, .int v_t_many])), (h_t_triangles, .inl (cI, 128, .inl g3)), (h_t_far, .inl (cL, 128, .inr (.inl g5))), (h_t_over, .inl (cL, 128, .inr (.inl v_t_over)))] := hD
          refine lv_aload_n hx hb dX2_insert_119 rfl (lv_at hl 0 rfl) ?_
          refine va_get (D := G) (ci := 2) (v := .ref h_t_over) (C := RX2) (T := TX2) (N := 4) hx hb hts (fun w h => List.mem_cons_of_mem _ (inG_2 w h)) hown hK hP 0 rfl rfl 2 (by decide) (hts _ (List.mem_cons_of_mem _ mw_1_153)) (fun _ h9 => h9) rfl dX2_insert_120 ?_
          refine lv_iload hx hb dX2_insert_123 (lv_at hl 4 rfl) ?_
          refine lv_lload hx hb dX2_insert_125 (lv_at hl 3 rfl) ?_
          obtain ⟨b6, hF⟩ := hF
          refine g_last (t0 := 1) hx hb hK hP hD hS 3 rfl rfl b6 dX2_insert_127 (fun g7 H locs eg7 hP hD hS => ?_)
          have hF := hF g7 eg7
          have hP : va_P G vwCl [(h_t, .inr (2, [.ref h_t_triangles, .ref h_t_far, .ref h_t_over, .int v_t_many])), (h_t_triangles, .inl (cI, 128, .inl g3)), (h_t_far, .inl (cL, 128, .inr (.inl g5))), (h_t_over, .inl (cL, 128, .inr (.inl g7)))] H := hP
          have hD : va_D A [(h_t, .inr (2, [.ref h_t_triangles, .ref h_t_far, .ref h_t_over, .int v_t_many])), (h_t_triangles, .inl (cI, 128, .inl g3)), (h_t_far, .inl (cL, 128, .inr (.inl g5))), (h_t_over, .inl (cL, 128, .inr (.inl g7)))] := hD
          refine lv_aload_n hx hb dX2_insert_128 rfl (lv_at hl 0 rfl) ?_
          refine lv_dup hx hb dX2_insert_129 rfl ?_
          refine va_get (D := G) (ci := 2) (v := .int v_t_many) (C := RX2) (T := TX2) (N := 4) hx hb hts (fun w h => List.mem_cons_of_mem _ (inG_2 w h)) hown hK hP 0 rfl rfl 3 (by decide) (hts _ (List.mem_cons_of_mem _ mw_1_154)) (fun _ h9 => h9) rfl dX2_insert_130 ?_
          refine lv_iconst (v := 1) hx hb dX2_insert_133 (by decide) ?_
          refine lv_iadd hx hb dX2_insert_134 ?_
          refine lv_topi (fun x8 ex8 => ?_)
          have hF := hF x8 ex8
          refine va_put (D := G) (ci := 2) (v := .int x8) (ty := .int) (C := RX2) (T := TX2) (N := 4) hx hb hts (fun w h => List.mem_cons_of_mem _ (inG_2 w h)) tyX2 tyX2_ok nmX2 hown hK hP hD hS 0 rfl rfl 3 (by decide) (hts _ (List.mem_cons_of_mem _ mw_1_154)) (fun _ h9 => h9) rfl (by decide +kernel) rfl rfl (Nat.le_of_ble_eq_true rfl) dX2_insert_135 (fun H locs hP hD hS => ?_)
          have hP : va_P G vwCl [(h_t, .inr (2, [.ref h_t_triangles, .ref h_t_far, .ref h_t_over, .int x8])), (h_t_triangles, .inl (cI, 128, .inl g3)), (h_t_far, .inl (cL, 128, .inr (.inl g5))), (h_t_over, .inl (cL, 128, .inr (.inl g7)))] H := hP
          have hD : va_D A [(h_t, .inr (2, [.ref h_t_triangles, .ref h_t_far, .ref h_t_over, .int x8])), (h_t_triangles, .inl (cI, 128, .inl g3)), (h_t_far, .inl (cL, 128, .inr (.inl g5))), (h_t_over, .inl (cL, 128, .inr (.inl g7)))] := hD
          exact hret 138 ls _ _ (x8, g3, g5, g7) dX2_insert_138  hF hP hD hS
        refine lv_if_le (tgt := 103) hx hb dX2_insert_19 (by decide) (fun c9 => ?_) (fun c9 => ?_)
        · have hF := hF.1 c9
          exact k_103 l1 l2 l4 l6 v_t_many v_t_triangles v_t_far v_t_over hF _ _ ls hP hD hS (lv_sub hl [0, 1, 2, 3, 4] rfl)
        · have hF := hF.2 c9
          refine lv_aload_n hx hb dX2_insert_22 rfl (lv_at hl 0 rfl) ?_
          refine va_get (D := G) (ci := 2) (v := .ref h_t_far) (C := RX2) (T := TX2) (N := 4) hx hb hts (fun w h => List.mem_cons_of_mem _ (inG_2 w h)) hown hK hP 0 rfl rfl 1 (by decide) (hts _ (List.mem_cons_of_mem _ mw_1_152)) (fun _ h9 => h9) rfl dX2_insert_23 ?_
          refine lv_iload hx hb dX2_insert_26 (lv_at hl 4 rfl) ?_
          refine lv_iconst (v := 1) hx hb dX2_insert_28 (by decide) ?_
          refine lv_isub hx hb dX2_insert_29 ?_
          obtain ⟨b10, hF⟩ := hF
          refine va_lald hx hb hK hP 2 1 rfl rfl b10 dX2_insert_30 ?_
          refine lv_lload hx hb dX2_insert_31 (lv_at hl 3 rfl) ?_
          refine lv_lmul hx hb dX2_insert_33 ?_
          refine lv_lload_n hx hb dX2_insert_34 rfl (lv_at hl 2 rfl) ?_
          refine lv_aload_n hx hb dX2_insert_35 rfl (lv_at hl 0 rfl) ?_
          refine va_get (D := G) (ci := 2) (v := .ref h_t_over) (C := RX2) (T := TX2) (N := 4) hx hb hts (fun w h => List.mem_cons_of_mem _ (inG_2 w h)) hown hK hP 0 rfl rfl 2 (by decide) (hts _ (List.mem_cons_of_mem _ mw_1_153)) (fun _ h9 => h9) rfl dX2_insert_36 ?_
          refine lv_iload hx hb dX2_insert_39 (lv_at hl 4 rfl) ?_
          refine lv_iconst (v := 1) hx hb dX2_insert_41 (by decide) ?_
          refine lv_isub hx hb dX2_insert_42 ?_
          obtain ⟨b11, hF⟩ := hF
          refine va_lald hx hb hK hP 3 1 rfl rfl b11 dX2_insert_43 ?_
          refine lv_lmul hx hb dX2_insert_44 ?_
          refine W.lcmp hx hb dX2_insert_45 ?_
          refine lv_if_le (tgt := 103) hx hb dX2_insert_46 (by decide) (fun c12 => ?_) (fun c12 => ?_)
          · have hF := hF.1 c12
            exact k_103 l1 l2 l4 l6 v_t_many v_t_triangles v_t_far v_t_over hF _ _ ls hP hD hS (lv_sub hl [0, 1, 2, 3, 4] rfl)
          · have hF := hF.2 c12
            refine lv_aload_n hx hb dX2_insert_49 rfl (lv_at hl 0 rfl) ?_
            refine va_get (D := G) (ci := 2) (v := .ref h_t_triangles) (C := RX2) (T := TX2) (N := 4) hx hb hts (fun w h => List.mem_cons_of_mem _ (inG_2 w h)) hown hK hP 0 rfl rfl 0 (by decide) (hts _ (List.mem_cons_of_mem _ mw_1_151)) (fun _ h9 => h9) rfl dX2_insert_50 ?_
            refine lv_iload hx hb dX2_insert_53 (lv_at hl 4 rfl) ?_
            refine lv_aload_n hx hb dX2_insert_55 rfl (lv_at hl 0 rfl) ?_
            refine va_get (D := G) (ci := 2) (v := .ref h_t_triangles) (C := RX2) (T := TX2) (N := 4) hx hb hts (fun w h => List.mem_cons_of_mem _ (inG_2 w h)) hown hK hP 0 rfl rfl 0 (by decide) (hts _ (List.mem_cons_of_mem _ mw_1_151)) (fun _ h9 => h9) rfl dX2_insert_56 ?_
            refine lv_iload hx hb dX2_insert_59 (lv_at hl 4 rfl) ?_
            refine lv_iconst (v := 1) hx hb dX2_insert_61 (by decide) ?_
            refine lv_isub hx hb dX2_insert_62 ?_
            obtain ⟨b13, hF⟩ := hF
            refine va_iald hx hb hK hP 1 0 rfl rfl b13 dX2_insert_63 ?_
            obtain ⟨b14, hF⟩ := hF
            refine g_iast (t0 := 0) hx hb hK hP hD hS 1 rfl rfl b14 dX2_insert_64 (fun g15 H locs eg15 hP hD hS => ?_)
            have hF := hF g15 eg15
            have hP : va_P G vwCl [(h_t, .inr (2, [.ref h_t_triangles, .ref h_t_far, .ref h_t_over, .int v_t_many])), (h_t_triangles, .inl (cI, 128, .inl g15)), (h_t_far, .inl (cL, 128, .inr (.inl v_t_far))), (h_t_over, .inl (cL, 128, .inr (.inl v_t_over)))] H := hP
            have hD : va_D A [(h_t, .inr (2, [.ref h_t_triangles, .ref h_t_far, .ref h_t_over, .int v_t_many])), (h_t_triangles, .inl (cI, 128, .inl g15)), (h_t_far, .inl (cL, 128, .inr (.inl v_t_far))), (h_t_over, .inl (cL, 128, .inr (.inl v_t_over)))] := hD
            refine lv_aload_n hx hb dX2_insert_65 rfl (lv_at hl 0 rfl) ?_
            refine va_get (D := G) (ci := 2) (v := .ref h_t_far) (C := RX2) (T := TX2) (N := 4) hx hb hts (fun w h => List.mem_cons_of_mem _ (inG_2 w h)) hown hK hP 0 rfl rfl 1 (by decide) (hts _ (List.mem_cons_of_mem _ mw_1_152)) (fun _ h9 => h9) rfl dX2_insert_66 ?_
            refine lv_iload hx hb dX2_insert_69 (lv_at hl 4 rfl) ?_
            refine lv_aload_n hx hb dX2_insert_71 rfl (lv_at hl 0 rfl) ?_
            refine va_get (D := G) (ci := 2) (v := .ref h_t_far) (C := RX2) (T := TX2) (N := 4) hx hb hts (fun w h => List.mem_cons_of_mem _ (inG_2 w h)) hown hK hP 0 rfl rfl 1 (by decide) (hts _ (List.mem_cons_of_mem _ mw_1_152)) (fun _ h9 => h9) rfl dX2_insert_72 ?_
            refine lv_iload hx hb dX2_insert_75 (lv_at hl 4 rfl) ?_
            refine lv_iconst (v := 1) hx hb dX2_insert_77 (by decide) ?_
            refine lv_isub hx hb dX2_insert_78 ?_
            obtain ⟨b16, hF⟩ := hF
            refine va_lald hx hb hK hP 2 1 rfl rfl b16 dX2_insert_79 ?_
            obtain ⟨b17, hF⟩ := hF
            refine g_last (t0 := 1) hx hb hK hP hD hS 2 rfl rfl b17 dX2_insert_80 (fun g18 H locs eg18 hP hD hS => ?_)
            have hF := hF g18 eg18
            have hP : va_P G vwCl [(h_t, .inr (2, [.ref h_t_triangles, .ref h_t_far, .ref h_t_over, .int v_t_many])), (h_t_triangles, .inl (cI, 128, .inl g15)), (h_t_far, .inl (cL, 128, .inr (.inl g18))), (h_t_over, .inl (cL, 128, .inr (.inl v_t_over)))] H := hP
            have hD : va_D A [(h_t, .inr (2, [.ref h_t_triangles, .ref h_t_far, .ref h_t_over, .int v_t_many])), (h_t_triangles, .inl (cI, 128, .inl g15)), (h_t_far, .inl (cL, 128, .inr (.inl g18))), (h_t_over, .inl (cL, 128, .inr (.inl v_t_over)))] := hD
            refine lv_aload_n hx hb dX2_insert_81 rfl (lv_at hl 0 rfl) ?_
            refine va_get (D := G) (ci := 2) (v := .ref h_t_over) (C := RX2) (T := TX2) (N := 4) hx hb hts (fun w h => List.mem_cons_of_mem _ (inG_2 w h)) hown hK hP 0 rfl rfl 2 (by decide) (hts _ (List.mem_cons_of_mem _ mw_1_153)) (fun _ h9 => h9) rfl dX2_insert_82 ?_
            refine lv_iload hx hb dX2_insert_85 (lv_at hl 4 rfl) ?_
            refine lv_aload_n hx hb dX2_insert_87 rfl (lv_at hl 0 rfl) ?_
            refine va_get (D := G) (ci := 2) (v := .ref h_t_over) (C := RX2) (T := TX2) (N := 4) hx hb hts (fun w h => List.mem_cons_of_mem _ (inG_2 w h)) hown hK hP 0 rfl rfl 2 (by decide) (hts _ (List.mem_cons_of_mem _ mw_1_153)) (fun _ h9 => h9) rfl dX2_insert_88 ?_
            refine lv_iload hx hb dX2_insert_91 (lv_at hl 4 rfl) ?_
            refine lv_iconst (v := 1) hx hb dX2_insert_93 (by decide) ?_
            refine lv_isub hx hb dX2_insert_94 ?_
            obtain ⟨b19, hF⟩ := hF
            refine va_lald hx hb hK hP 3 1 rfl rfl b19 dX2_insert_95 ?_
            obtain ⟨b20, hF⟩ := hF
            refine g_last (t0 := 1) hx hb hK hP hD hS 3 rfl rfl b20 dX2_insert_96 (fun g21 H locs eg21 hP hD hS => ?_)
            have hF := hF g21 eg21
            have hP : va_P G vwCl [(h_t, .inr (2, [.ref h_t_triangles, .ref h_t_far, .ref h_t_over, .int v_t_many])), (h_t_triangles, .inl (cI, 128, .inl g15)), (h_t_far, .inl (cL, 128, .inr (.inl g18))), (h_t_over, .inl (cL, 128, .inr (.inl g21)))] H := hP
            have hD : va_D A [(h_t, .inr (2, [.ref h_t_triangles, .ref h_t_far, .ref h_t_over, .int v_t_many])), (h_t_triangles, .inl (cI, 128, .inl g15)), (h_t_far, .inl (cL, 128, .inr (.inl g18))), (h_t_over, .inl (cL, 128, .inr (.inl g21)))] := hD
            obtain ⟨x22, ex22⟩ : ∃ z : Int32, z = (l6 + (-1)) := ⟨_, rfl⟩
            have hF := hF x22 ex22
            refine lv_iinc (v := x22) (lv' := [(6, .int x22), (0, .ref h_t), (1, .int l1), (2, .long l2), (4, .long l4)]) hx hb dX2_insert_97 hl (k := 4) rfl (by rw [ex22]; rfl) (by decide) rfl (fun ls hl => ?_)
            refine lv_goto (tgt := 17) hx hb dX2_insert_100 (by decide) ?_
            exact k_17 l1 l2 l4 x22 v_t_many g15 g18 g21 hF _ _ ls hP hD hS (lv_sub hl [1, 2, 3, 4, 0] rfl)
    obtain ⟨n0, hF⟩ := hF
    exact k_17 n0 p1 p2 p4 v_t_many v_t_many v_t_triangles v_t_far v_t_over hF _ _ ls hP hD hS (lv_sub hl [1, 2, 3, 4, 0] rfl)
  · have hF := hF.2 c1
    exact hret 10 ls _ _ (v_t_many, v_t_triangles, v_t_far, v_t_over) dX2_insert_10  hF hP hD hS

def rm_X2_many : Room := { frames := 0, cells := 0, slots := 0, locals := 0 }
def F_X2_many (v_t_many : Int32) (post : Int32 → Prop) : Prop := post v_t_many
set_option maxHeartbeats 8000000 in
set_option maxRecDepth 100000 in
theorem c_X2_many (l : Launch) (G : va_G) (cI cL cZ : ClassId) (h_t : Nat) (h_t_triangles : Nat) (h_t_far : Nat) (h_t_over : Nat) (v_t_many : Int32) (sz : Nat) (post : Int32 → Prop) (hF : F_X2_many v_t_many post) : MetI l G (gT cI cL cZ) yX2_many (gW yX2_many cX2_many 1 (some .int)) rm_X2_many 0 0 [.ref h_t] sz [(h_t, .inr (2, [.ref h_t_triangles, .ref h_t_far, .ref h_t_over, .int v_t_many]))] (fun (u : Unit) => [(h_t, .inr (2, [.ref h_t_triangles, .ref h_t_far, .ref h_t_over, .int v_t_many]))]) (fun (r : Int32) (u : Unit) => post r) := by
  refine startI (cc := cX2_many) (maxL := 1) (ty9 := .int) (by decide +kernel) rfl (Nat.le_of_ble_eq_true rfl) ?_
  intro p e s m args below meth c Q ls A C0 hP hD hS hl hret
  obtain ⟨hx, hb, hml, hown, hts, hnw, hK, hA, hin⟩ := C0
  have hown : s.vm.findClass RX2 = some m.cls := hown
  have hl : lv_has ls 1 [(0, .ref h_t)] := hl
  refine lv_aload_n hx hb dX2_many_0 rfl (lv_at hl 0 rfl) ?_
  refine va_get (D := G) (ci := 2) (v := .int v_t_many) (C := RX2) (T := TX2) (N := 4) hx hb hts (fun w h => List.mem_cons_of_mem _ (inG_2 w h)) hown hK hP 0 rfl rfl 3 (by decide) (hts _ (List.mem_cons_of_mem _ mw_1_154)) (fun _ h9 => h9) rfl dX2_many_1 ?_
  exact hret 4 ls _ _ v_t_many () dX2_many_4 rfl hF hP hD hS

def rm_X11_cross : Room := { frames := 4, cells := 0, slots := 0, locals := 100 }
def L_X11_cross_36 (post : Int32 → Int32 → (Nat → Int32) → (Nat → Int64) → (Nat → Int64) → Int64 → Int64 → Int64 → Int64 → Int64 → Int64 → (Nat → Int64) → (Nat → Int64) → Prop) (v_t_mesh_many : Int32) (v_t_mesh_corners : Nat → Int32) (v_t_mesh_normals : Nat → Int32) (v_t_camera_w : Int32) (v_t_camera_h : Int32) (v_t_camera_eye : Nat → Int32) (v_t_camera_axes : Nat → Int32) : Nat → Int32 → Int32 → (Nat → Int32) → (Nat → Int64) → (Nat → Int64) → Int64 → Int64 → Int64 → Int64 → Int64 → Int64 → (Nat → Int64) → (Nat → Int64) → Prop
  | 0, _, _, _, _, _, _, _, _, _, _, _, _, _ => False
  | n_36 + 1, l3, v_t_crossings_many, v_t_crossings_triangles, v_t_crossings_far, v_t_crossings_over, v_t_sight_turn, v_t_sight_far, v_t_sight_over, v_t_sight_weightA, v_t_sight_weightB, v_t_sight_weightC, v_t_sight_from, v_t_sight_along => (F_X5_many v_t_mesh_many (fun r6 => ((r6 ≤ l3 → (F_X2_many v_t_crossings_many (fun r8 => post r8 v_t_crossings_many v_t_crossings_triangles v_t_crossings_far v_t_crossings_over v_t_sight_turn v_t_sight_far v_t_sight_over v_t_sight_weightA v_t_sight_weightB v_t_sight_weightC v_t_sight_from v_t_sight_along))) ∧ (¬ r6 ≤ l3 → (F_X7_strikes l3 v_t_sight_turn v_t_sight_far v_t_sight_over v_t_sight_weightA v_t_sight_weightB v_t_sight_weightC v_t_sight_from v_t_sight_along v_t_mesh_corners v_t_mesh_normals (fun r9 v10 v11 v12 v13 v14 v15 => ((r9 = 0 → (∀ x17 : Int32, x17 = (l3 + 1) → L_X11_cross_36 post v_t_mesh_many v_t_mesh_corners v_t_mesh_normals v_t_camera_w v_t_camera_h v_t_camera_eye v_t_camera_axes n_36 x17 v_t_crossings_many v_t_crossings_triangles v_t_crossings_far v_t_crossings_over v10 v11 v12 v13 v14 v15 v_t_sight_from v_t_sight_along)) ∧ (¬ r9 = 0 → (F_X2_insert l3 v11 v12 v_t_crossings_many v_t_crossings_triangles v_t_crossings_far v_t_crossings_over (fun v18 v19 v20 v21 => (∀ x22 : Int32, x22 = (l3 + 1) → L_X11_cross_36 post v_t_mesh_many v_t_mesh_corners v_t_mesh_normals v_t_camera_w v_t_camera_h v_t_camera_eye v_t_camera_axes n_36 x22 v18 v19 v20 v21 v10 v11 v12 v13 v14 v15 v_t_sight_from v_t_sight_along)))))))))))
def F_X11_cross (p1 : Int32) (p2 : Int32) (v_t_mesh_many : Int32) (v_t_mesh_corners : Nat → Int32) (v_t_mesh_normals : Nat → Int32) (v_t_camera_w : Int32) (v_t_camera_h : Int32) (v_t_camera_eye : Nat → Int32) (v_t_camera_axes : Nat → Int32) (v_t_crossings_many : Int32) (v_t_crossings_triangles : Nat → Int32) (v_t_crossings_far : Nat → Int64) (v_t_crossings_over : Nat → Int64) (v_t_sight_turn : Int64) (v_t_sight_far : Int64) (v_t_sight_over : Int64) (v_t_sight_weightA : Int64) (v_t_sight_weightB : Int64) (v_t_sight_weightC : Int64) (v_t_sight_from : Nat → Int64) (v_t_sight_along : Nat → Int64) (post : Int32 → Int32 → (Nat → Int32) → (Nat → Int64) → (Nat → Int64) → Int64 → Int64 → Int64 → Int64 → Int64 → Int64 → (Nat → Int64) → (Nat → Int64) → Prop) : Prop := (F_X1_hasPixel p1 p2 v_t_camera_w v_t_camera_h (fun r1 => ((¬ r1 = 0 → (F_X2_clear v_t_crossings_many (fun v3 => (F_X1_aim p1 p2 v_t_camera_w v_t_camera_h v_t_camera_eye v_t_camera_axes v_t_sight_from v_t_sight_along (fun v4 v5 => (∃ n0 : Nat, L_X11_cross_36 post v_t_mesh_many v_t_mesh_corners v_t_mesh_normals v_t_camera_w v_t_camera_h v_t_camera_eye v_t_camera_axes n0 0 v3 v_t_crossings_triangles v_t_crossings_far v_t_crossings_over v_t_sight_turn v_t_sight_far v_t_sight_over v_t_sight_weightA v_t_sight_weightB v_t_sight_weightC v4 v5)))))) ∧ (r1 = 0 → post (-1) v_t_crossings_many v_t_crossings_triangles v_t_crossings_far v_t_crossings_over v_t_sight_turn v_t_sight_far v_t_sight_over v_t_sight_weightA v_t_sight_weightB v_t_sight_weightC v_t_sight_from v_t_sight_along))))
set_option maxHeartbeats 8000000 in
set_option maxRecDepth 100000 in
theorem c_X11_cross (l : Launch) (G : va_G) (cI cL cZ : ClassId) (h_t : Nat) (h_t_points : Nat) (h_t_mesh : Nat) (h_t_camera : Nat) (h_t_lamps : Nat) (h_t_tree : Nat) (h_t_crossings : Nat) (h_t_atHand : Nat) (h_t_view : Nat) (h_t_sight : Nat) (h_t_shade : Nat) (h_t_slope : Nat) (h_t_box : Nat) (h_t_marked : Nat) (h_t_mesh_corners : Nat) (h_t_mesh_normals : Nat) (h_t_mesh_tones : Nat) (h_t_mesh_trial : Nat) (h_t_mesh_trialNormal : Nat) (h_t_camera_eye : Nat) (h_t_camera_axes : Nat) (h_t_camera_trial : Nat) (h_t_crossings_triangles : Nat) (h_t_crossings_far : Nat) (h_t_crossings_over : Nat) (h_t_sight_from : Nat) (h_t_sight_along : Nat) (v_t_mesh_many : Int32) (v_t_mesh_corners : Nat → Int32) (v_t_mesh_normals : Nat → Int32) (v_t_camera_w : Int32) (v_t_camera_h : Int32) (v_t_camera_eye : Nat → Int32) (v_t_camera_axes : Nat → Int32) (v_t_crossings_many : Int32) (v_t_crossings_triangles : Nat → Int32) (v_t_crossings_far : Nat → Int64) (v_t_crossings_over : Nat → Int64) (v_t_sight_turn : Int64) (v_t_sight_far : Int64) (v_t_sight_over : Int64) (v_t_sight_weightA : Int64) (v_t_sight_weightB : Int64) (v_t_sight_weightC : Int64) (v_t_sight_from : Nat → Int64) (v_t_sight_along : Nat → Int64) (v_t_back : Int32) (p1 : Int32) (p2 : Int32) (sz : Nat) (post : Int32 → Int32 → (Nat → Int32) → (Nat → Int64) → (Nat → Int64) → Int64 → Int64 → Int64 → Int64 → Int64 → Int64 → (Nat → Int64) → (Nat → Int64) → Prop) (hF : F_X11_cross p1 p2 v_t_mesh_many v_t_mesh_corners v_t_mesh_normals v_t_camera_w v_t_camera_h v_t_camera_eye v_t_camera_axes v_t_crossings_many v_t_crossings_triangles v_t_crossings_far v_t_crossings_over v_t_sight_turn v_t_sight_far v_t_sight_over v_t_sight_weightA v_t_sight_weightB v_t_sight_weightC v_t_sight_from v_t_sight_along post) : MetI l G (gT cI cL cZ) yX11_cross (gW yX11_cross cX11_cross 4 (some .int)) rm_X11_cross 0 0 [.ref h_t, .int p1, .int p2] sz [(h_t, .inr (11, [.ref h_t_points, .ref h_t_mesh, .ref h_t_camera, .ref h_t_lamps, .ref h_t_tree, .ref h_t_crossings, .ref h_t_atHand, .ref h_t_view, .ref h_t_sight, .ref h_t_shade, .ref h_t_slope, .ref h_t_box, .ref h_t_marked, .int v_t_back])), (h_t_mesh, .inr (5, [.ref h_t_mesh_corners, .ref h_t_mesh_normals, .ref h_t_mesh_tones, .ref h_t_mesh_trial, .ref h_t_mesh_trialNormal, .int v_t_mesh_many])), (h_t_mesh_corners, .inl (cI, 1152, .inl v_t_mesh_corners)), (h_t_mesh_normals, .inl (cI, 384, .inl v_t_mesh_normals)), (h_t_camera, .inr (1, [.ref h_t_camera_eye, .ref h_t_camera_axes, .ref h_t_camera_trial, .int v_t_camera_w, .int v_t_camera_h])), (h_t_camera_eye, .inl (cI, 3, .inl v_t_camera_eye)), (h_t_camera_axes, .inl (cI, 9, .inl v_t_camera_axes)), (h_t_crossings, .inr (2, [.ref h_t_crossings_triangles, .ref h_t_crossings_far, .ref h_t_crossings_over, .int v_t_crossings_many])), (h_t_crossings_triangles, .inl (cI, 128, .inl v_t_crossings_triangles)), (h_t_crossings_far, .inl (cL, 128, .inr (.inl v_t_crossings_far))), (h_t_crossings_over, .inl (cL, 128, .inr (.inl v_t_crossings_over))), (h_t_sight, .inr (7, [.ref h_t_sight_from, .ref h_t_sight_along, .long v_t_sight_turn, .long v_t_sight_far, .long v_t_sight_over, .long v_t_sight_weightA, .long v_t_sight_weightB, .long v_t_sight_weightC])), (h_t_sight_from, .inl (cL, 3, .inr (.inl v_t_sight_from))), (h_t_sight_along, .inl (cL, 3, .inr (.inl v_t_sight_along)))] (fun (u : Int32 × (Nat → Int32) × (Nat → Int64) × (Nat → Int64) × Int64 × Int64 × Int64 × Int64 × Int64 × Int64 × (Nat → Int64) × (Nat → Int64)) => [(h_t, .inr (11, [.ref h_t_points, .ref h_t_mesh, .ref h_t_camera, .ref h_t_lamps, .ref h_t_tree, .ref h_t_crossings, .ref h_t_atHand, .ref h_t_view, .ref h_t_sight, .ref h_t_shade, .ref h_t_slope, .ref h_t_box, .ref h_t_marked, .int v_t_back])), (h_t_mesh, .inr (5, [.ref h_t_mesh_corners, .ref h_t_mesh_normals, .ref h_t_mesh_tones, .ref h_t_mesh_trial, .ref h_t_mesh_trialNormal, .int v_t_mesh_many])), (h_t_mesh_corners, .inl (cI, 1152, .inl v_t_mesh_corners)), (h_t_mesh_normals, .inl (cI, 384, .inl v_t_mesh_normals)), (h_t_camera, .inr (1, [.ref h_t_camera_eye, .ref h_t_camera_axes, .ref h_t_camera_trial, .int v_t_camera_w, .int v_t_camera_h])), (h_t_camera_eye, .inl (cI, 3, .inl v_t_camera_eye)), (h_t_camera_axes, .inl (cI, 9, .inl v_t_camera_axes)), (h_t_crossings, .inr (2, [.ref h_t_crossings_triangles, .ref h_t_crossings_far, .ref h_t_crossings_over, .int u.1])), (h_t_crossings_triangles, .inl (cI, 128, .inl u.2.1)), (h_t_crossings_far, .inl (cL, 128, .inr (.inl u.2.2.1))), (h_t_crossings_over, .inl (cL, 128, .inr (.inl u.2.2.2.1))), (h_t_sight, .inr (7, [.ref h_t_sight_from, .ref h_t_sight_along, .long u.2.2.2.2.1, .long u.2.2.2.2.2.1, .long u.2.2.2.2.2.2.1, .long u.2.2.2.2.2.2.2.1, .long u.2.2.2.2.2.2.2.2.1, .long u.2.2.2.2.2.2.2.2.2.1])), (h_t_sight_from, .inl (cL, 3, .inr (.inl u.2.2.2.2.2.2.2.2.2.2.1))), (h_t_sight_along, .inl (cL, 3, .inr (.inl u.2.2.2.2.2.2.2.2.2.2.2)))]) (fun (r : Int32) (u : Int32 × (Nat → Int32) × (Nat → Int64) × (Nat → Int64) × Int64 × Int64 × Int64 × Int64 × Int64 × Int64 × (Nat → Int64) × (Nat → Int64)) => post r u.1 u.2.1 u.2.2.1 u.2.2.2.1 u.2.2.2.2.1 u.2.2.2.2.2.1 u.2.2.2.2.2.2.1 u.2.2.2.2.2.2.2.1 u.2.2.2.2.2.2.2.2.1 u.2.2.2.2.2.2.2.2.2.1 u.2.2.2.2.2.2.2.2.2.2.1 u.2.2.2.2.2.2.2.2.2.2.2) := by
  refine startI (cc := cX11_cross) (maxL := 4) (ty9 := .int) (by decide +kernel) rfl (Nat.le_of_ble_eq_true rfl) ?_
  intro p e s m args below meth c Q ls A C0 hP hD hS hl hret
  obtain ⟨hx, hb, hml, hown, hts, hnw, hK, hA, hin⟩ := C0
  have hown : s.vm.findClass RX11 = some m.cls := hown
  have hl : lv_has ls 4 [(0, .ref h_t), (1, .int p1), (2, .int p2)] := hl
  refine lv_aload_n hx hb dX11_cross_0 rfl (lv_at hl 0 rfl) ?_
  refine va_get (D := G) (ci := 11) (v := .ref h_t_camera) (C := RX11) (T := TX11) (N := 14) hx hb hts (fun w h => List.mem_cons_of_mem _ (inG_11 w h)) hown hK hP 0 rfl rfl 2 (by decide) (hts _ (List.mem_cons_of_mem _ mw_2_43)) (fun _ h9 => h9) rfl dX11_cross_1 ?_
  refine lv_iload_n hx hb dX11_cross_4 rfl (lv_at hl 1 rfl) ?_
  refine lv_iload_n hx hb dX11_cross_5 rfl (lv_at hl 2 rfl) ?_
  refine afterI (wr := [(h_t, .inr (11, [.ref h_t_points, .ref h_t_mesh, .ref h_t_camera, .ref h_t_lamps, .ref h_t_tree, .ref h_t_crossings, .ref h_t_atHand, .ref h_t_view, .ref h_t_sight, .ref h_t_shade, .ref h_t_slope, .ref h_t_box, .ref h_t_marked, .int v_t_back])), (h_t_mesh, .inr (5, [.ref h_t_mesh_corners, .ref h_t_mesh_normals, .ref h_t_mesh_tones, .ref h_t_mesh_trial, .ref h_t_mesh_trialNormal, .int v_t_mesh_many])), (h_t_mesh_corners, .inl (cI, 1152, .inl v_t_mesh_corners)), (h_t_mesh_normals, .inl (cI, 384, .inl v_t_mesh_normals)), (h_t_camera_eye, .inl (cI, 3, .inl v_t_camera_eye)), (h_t_camera_axes, .inl (cI, 9, .inl v_t_camera_axes)), (h_t_crossings, .inr (2, [.ref h_t_crossings_triangles, .ref h_t_crossings_far, .ref h_t_crossings_over, .int v_t_crossings_many])), (h_t_crossings_triangles, .inl (cI, 128, .inl v_t_crossings_triangles)), (h_t_crossings_far, .inl (cL, 128, .inr (.inl v_t_crossings_far))), (h_t_crossings_over, .inl (cL, 128, .inr (.inl v_t_crossings_over))), (h_t_sight, .inr (7, [.ref h_t_sight_from, .ref h_t_sight_along, .long v_t_sight_turn, .long v_t_sight_far, .long v_t_sight_over, .long v_t_sight_weightA, .long v_t_sight_weightB, .long v_t_sight_weightC])), (h_t_sight_from, .inl (cL, 3, .inr (.inl v_t_sight_from))), (h_t_sight_along, .inl (cL, 3, .inr (.inl v_t_sight_along)))]) (va_runV (As := [.int p1, .int p2]) (rest := []) ⟨hx, hb, hml, hown, hts⟩ (c_X1_hasPixel l G cI cL cZ h_t_camera h_t_camera_eye h_t_camera_axes h_t_camera_trial v_t_camera_w v_t_camera_h p1 p2 _ _ hF) (cwV 2 hts (gV mw_3_80 mw_3_81 mw_3_82 mw_1_4 mw_3_83) rfl rfl rfl (by decide +kernel) ⟨Nat.le_of_ble_eq_true rfl, Nat.le_of_ble_eq_true rfl⟩) ⟨gP_blind, va_recv hK hP (ci := 1) (q0 := 4) rfl rfl, gP_of hK hnw hP hD [4] (by decide +kernel) rfl rfl⟩ rfl rfl hl.1 rfl (lv_room (Nat.le_of_ble_eq_true rfl)) dX11_cross_6 ⟨Nat.le_of_ble_eq_true rfl, Nat.le_of_ble_eq_true rfl⟩) hP hD hS hA [4] [0, 1, 2, 3, 5, 6, 7, 8, 9, 10, 11, 12, 13] rfl rfl (by decide +kernel) (by decide +kernel) (fun r1 u H locs hF hP hD hS => ?_)
  try dsimp only at hF
  have hP : va_P G vwCl [(h_t, .inr (11, [.ref h_t_points, .ref h_t_mesh, .ref h_t_camera, .ref h_t_lamps, .ref h_t_tree, .ref h_t_crossings, .ref h_t_atHand, .ref h_t_view, .ref h_t_sight, .ref h_t_shade, .ref h_t_slope, .ref h_t_box, .ref h_t_marked, .int v_t_back])), (h_t_mesh, .inr (5, [.ref h_t_mesh_corners, .ref h_t_mesh_normals, .ref h_t_mesh_tones, .ref h_t_mesh_trial, .ref h_t_mesh_trialNormal, .int v_t_mesh_many])), (h_t_mesh_corners, .inl (cI, 1152, .inl v_t_mesh_corners)), (h_t_mesh_normals, .inl (cI, 384, .inl v_t_mesh_normals)), (h_t_camera_eye, .inl (cI, 3, .inl v_t_camera_eye)), (h_t_camera_axes, .inl (cI, 9, .inl v_t_camera_axes)), (h_t_crossings, .inr (2, [.ref h_t_crossings_triangles, .ref h_t_crossings_far, .ref h_t_crossings_over, .int v_t_crossings_many])), (h_t_crossings_triangles, .inl (cI, 128, .inl v_t_crossings_triangles)), (h_t_crossings_far, .inl (cL, 128, .inr (.inl v_t_crossings_far))), (h_t_crossings_over, .inl (cL, 128, .inr (.inl v_t_crossings_over))), (h_t_sight, .inr (7, [.ref h_t_sight_from, .ref h_t_sight_along, .long v_t_sight_turn, .long v_t_sight_far, .long v_t_sight_over, .long v_t_sight_weightA, .long v_t_sight_weightB, .long v_t_sight_weightC])), (h_t_sight_from, .inl (cL, 3, .inr (.inl v_t_sight_from))), (h_t_sight_along, .inl (cL, 3, .inr (.inl v_t_sight_along))), (h_t_camera, .inr (1, [.ref h_t_camera_eye, .ref h_t_camera_axes, .ref h_t_camera_trial, .int v_t_camera_w, .int v_t_camera_h]))] H := hP
  have hD : va_D A [(h_t, .inr (11, [.ref h_t_points, .ref h_t_mesh, .ref h_t_camera, .ref h_t_lamps, .ref h_t_tree, .ref h_t_crossings, .ref h_t_atHand, .ref h_t_view, .ref h_t_sight, .ref h_t_shade, .ref h_t_slope, .ref h_t_box, .ref h_t_marked, .int v_t_back])), (h_t_mesh, .inr (5, [.ref h_t_mesh_corners, .ref h_t_mesh_normals, .ref h_t_mesh_tones, .ref h_t_mesh_trial, .ref h_t_mesh_trialNormal, .int v_t_mesh_many])), (h_t_mesh_corners, .inl (cI, 1152, .inl v_t_mesh_corners)), (h_t_mesh_normals, .inl (cI, 384, .inl v_t_mesh_normals)), (h_t_camera_eye, .inl (cI, 3, .inl v_t_camera_eye)), (h_t_camera_axes, .inl (cI, 9, .inl v_t_camera_axes)), (h_t_crossings, .inr (2, [.ref h_t_crossings_triangles, .ref h_t_crossings_far, .ref h_t_crossings_over, .int v_t_crossings_many])), (h_t_crossings_triangles, .inl (cI, 128, .inl v_t_crossings_triangles)), (h_t_crossings_far, .inl (cL, 128, .inr (.inl v_t_crossings_far))), (h_t_crossings_over, .inl (cL, 128, .inr (.inl v_t_crossings_over))), (h_t_sight, .inr (7, [.ref h_t_sight_from, .ref h_t_sight_along, .long v_t_sight_turn, .long v_t_sight_far, .long v_t_sight_over, .long v_t_sight_weightA, .long v_t_sight_weightB, .long v_t_sight_weightC])), (h_t_sight_from, .inl (cL, 3, .inr (.inl v_t_sight_from))), (h_t_sight_along, .inl (cL, 3, .inr (.inl v_t_sight_along))), (h_t_camera, .inr (1, [.ref h_t_camera_eye, .ref h_t_camera_axes, .ref h_t_camera_trial, .int v_t_camera_w, .int v_t_camera_h]))] := hD
  refine lv_if_ne (tgt := 14) hx hb dX11_cross_9 (by decide) (fun c2 => ?_) (fun c2 => ?_)
  · have hF := hF.1 c2
    refine lv_aload_n hx hb dX11_cross_14 rfl (lv_at hl 0 rfl) ?_
    refine va_get (D := G) (ci := 11) (v := .ref h_t_crossings) (C := RX11) (T := TX11) (N := 14) hx hb hts (fun w h => List.mem_cons_of_mem _ (inG_11 w h)) hown hK hP 0 rfl rfl 5 (by decide) (hts _ (List.mem_cons_of_mem _ mw_2_46)) (fun _ h9 => h9) rfl dX11_cross_15 ?_
    refine afterV (wr := [(h_t, .inr (11, [.ref h_t_points, .ref h_t_mesh, .ref h_t_camera, .ref h_t_lamps, .ref h_t_tree, .ref h_t_crossings, .ref h_t_atHand, .ref h_t_view, .ref h_t_sight, .ref h_t_shade, .ref h_t_slope, .ref h_t_box, .ref h_t_marked, .int v_t_back])), (h_t_mesh, .inr (5, [.ref h_t_mesh_corners, .ref h_t_mesh_normals, .ref h_t_mesh_tones, .ref h_t_mesh_trial, .ref h_t_mesh_trialNormal, .int v_t_mesh_many])), (h_t_mesh_corners, .inl (cI, 1152, .inl v_t_mesh_corners)), (h_t_mesh_normals, .inl (cI, 384, .inl v_t_mesh_normals)), (h_t_camera_eye, .inl (cI, 3, .inl v_t_camera_eye)), (h_t_camera_axes, .inl (cI, 9, .inl v_t_camera_axes)), (h_t_crossings_triangles, .inl (cI, 128, .inl v_t_crossings_triangles)), (h_t_crossings_far, .inl (cL, 128, .inr (.inl v_t_crossings_far))), (h_t_crossings_over, .inl (cL, 128, .inr (.inl v_t_crossings_over))), (h_t_sight, .inr (7, [.ref h_t_sight_from, .ref h_t_sight_along, .long v_t_sight_turn, .long v_t_sight_far, .long v_t_sight_over, .long v_t_sight_weightA, .long v_t_sight_weightB, .long v_t_sight_weightC])), (h_t_sight_from, .inl (cL, 3, .inr (.inl v_t_sight_from))), (h_t_sight_along, .inl (cL, 3, .inr (.inl v_t_sight_along))), (h_t_camera, .inr (1, [.ref h_t_camera_eye, .ref h_t_camera_axes, .ref h_t_camera_trial, .int v_t_camera_w, .int v_t_camera_h]))]) (va_runV (As := []) (rest := []) ⟨hx, hb, hml, hown, hts⟩ (c_X2_clear l G cI cL cZ h_t_crossings h_t_crossings_triangles h_t_crossings_far h_t_crossings_over v_t_crossings_many _ _ hF) (cwV 0 hts (gV mw_3_158 mw_3_159 mw_3_160 mw_1_7 mw_3_161) rfl rfl rfl (by decide +kernel) ⟨Nat.le_of_ble_eq_true rfl, Nat.le_of_ble_eq_true rfl⟩) ⟨gP_blind, va_recv hK hP (ci := 2) (q0 := 6) rfl rfl, gP_of hK hnw hP hD [6] (by decide +kernel) rfl rfl⟩ rfl rfl hl.1 rfl (lv_room (Nat.le_of_ble_eq_true rfl)) dX11_cross_18 ⟨Nat.le_of_ble_eq_true rfl, Nat.le_of_ble_eq_true rfl⟩) hP hD hS hA [6] [0, 1, 2, 3, 4, 5, 7, 8, 9, 10, 11, 12, 13] rfl rfl (by decide +kernel) (by decide +kernel) (fun u H locs hF hP hD hS => ?_)
    obtain ⟨v3, rfl⟩ : ∃ z, z = u := ⟨_, rfl⟩
    try dsimp only at hF
    have hP : va_P G vwCl [(h_t, .inr (11, [.ref h_t_points, .ref h_t_mesh, .ref h_t_camera, .ref h_t_lamps, .ref h_t_tree, .ref h_t_crossings, .ref h_t_atHand, .ref h_t_view, .ref h_t_sight, .ref h_t_shade, .ref h_t_slope, .ref h_t_box, .ref h_t_marked, .int v_t_back])), (h_t_mesh, .inr (5, [.ref h_t_mesh_corners, .ref h_t_mesh_normals, .ref h_t_mesh_tones, .ref h_t_mesh_trial, .ref h_t_mesh_trialNormal, .int v_t_mesh_many])), (h_t_mesh_corners, .inl (cI, 1152, .inl v_t_mesh_corners)), (h_t_mesh_normals, .inl (cI, 384, .inl v_t_mesh_normals)), (h_t_camera_eye, .inl (cI, 3, .inl v_t_camera_eye)), (h_t_camera_axes, .inl (cI, 9, .inl v_t_camera_axes)), (h_t_crossings_triangles, .inl (cI, 128, .inl v_t_crossings_triangles)), (h_t_crossings_far, .inl (cL, 128, .inr (.inl v_t_crossings_far))), (h_t_crossings_over, .inl (cL, 128, .inr (.inl v_t_crossings_over))), (h_t_sight, .inr (7, [.ref h_t_sight_from, .ref h_t_sight_along, .long v_t_sight_turn, .long v_t_sight_far, .long v_t_sight_over, .long v_t_sight_weightA, .long v_t_sight_weightB, .long v_t_sight_weightC])), (h_t_sight_from, .inl (cL, 3, .inr (.inl v_t_sight_from))), (h_t_sight_along, .inl (cL, 3, .inr (.inl v_t_sight_along))), (h_t_camera, .inr (1, [.ref h_t_camera_eye, .ref h_t_camera_axes, .ref h_t_camera_trial, .int v_t_camera_w, .int v_t_camera_h])), (h_t_crossings, .inr (2, [.ref h_t_crossings_triangles, .ref h_t_crossings_far, .ref h_t_crossings_over, .int v3]))] H := hP
    have hD : va_D A [(h_t, .inr (11, [.ref h_t_points, .ref h_t_mesh, .ref h_t_camera, .ref h_t_lamps, .ref h_t_tree, .ref h_t_crossings, .ref h_t_atHand, .ref h_t_view, .ref h_t_sight, .ref h_t_shade, .ref h_t_slope, .ref h_t_box, .ref h_t_marked, .int v_t_back])), (h_t_mesh, .inr (5, [.ref h_t_mesh_corners, .ref h_t_mesh_normals, .ref h_t_mesh_tones, .ref h_t_mesh_trial, .ref h_t_mesh_trialNormal, .int v_t_mesh_many])), (h_t_mesh_corners, .inl (cI, 1152, .inl v_t_mesh_corners)), (h_t_mesh_normals, .inl (cI, 384, .inl v_t_mesh_normals)), (h_t_camera_eye, .inl (cI, 3, .inl v_t_camera_eye)), (h_t_camera_axes, .inl (cI, 9, .inl v_t_camera_axes)), (h_t_crossings_triangles, .inl (cI, 128, .inl v_t_crossings_triangles)), (h_t_crossings_far, .inl (cL, 128, .inr (.inl v_t_crossings_far))), (h_t_crossings_over, .inl (cL, 128, .inr (.inl v_t_crossings_over))), (h_t_sight, .inr (7, [.ref h_t_sight_from, .ref h_t_sight_along, .long v_t_sight_turn, .long v_t_sight_far, .long v_t_sight_over, .long v_t_sight_weightA, .long v_t_sight_weightB, .long v_t_sight_weightC])), (h_t_sight_from, .inl (cL, 3, .inr (.inl v_t_sight_from))), (h_t_sight_along, .inl (cL, 3, .inr (.inl v_t_sight_along))), (h_t_camera, .inr (1, [.ref h_t_camera_eye, .ref h_t_camera_axes, .ref h_t_camera_trial, .int v_t_camera_w, .int v_t_camera_h])), (h_t_crossings, .inr (2, [.ref h_t_crossings_triangles, .ref h_t_crossings_far, .ref h_t_crossings_over, .int v3]))] := hD
    refine lv_aload_n hx hb dX11_cross_21 rfl (lv_at hl 0 rfl) ?_
    refine va_get (D := G) (ci := 11) (v := .ref h_t_camera) (C := RX11) (T := TX11) (N := 14) hx hb hts (fun w h => List.mem_cons_of_mem _ (inG_11 w h)) hown hK hP 0 rfl rfl 2 (by decide) (hts _ (List.mem_cons_of_mem _ mw_2_43)) (fun _ h9 => h9) rfl dX11_cross_22 ?_
    refine lv_iload_n hx hb dX11_cross_25 rfl (lv_at hl 1 rfl) ?_
    refine lv_iload_n hx hb dX11_cross_26 rfl (lv_at hl 2 rfl) ?_
    refine lv_aload_n hx hb dX11_cross_27 rfl (lv_at hl 0 rfl) ?_
    refine va_get (D := G) (ci := 11) (v := .ref h_t_sight) (C := RX11) (T := TX11) (N := 14) hx hb hts (fun w h => List.mem_cons_of_mem _ (inG_11 w h)) hown hK hP 0 rfl rfl 8 (by decide) (hts _ (List.mem_cons_of_mem _ mw_2_49)) (fun _ h9 => h9) rfl dX11_cross_28 ?_
    refine afterV (wr := [(h_t, .inr (11, [.ref h_t_points, .ref h_t_mesh, .ref h_t_camera, .ref h_t_lamps, .ref h_t_tree, .ref h_t_crossings, .ref h_t_atHand, .ref h_t_view, .ref h_t_sight, .ref h_t_shade, .ref h_t_slope, .ref h_t_box, .ref h_t_marked, .int v_t_back])), (h_t_mesh, .inr (5, [.ref h_t_mesh_corners, .ref h_t_mesh_normals, .ref h_t_mesh_tones, .ref h_t_mesh_trial, .ref h_t_mesh_trialNormal, .int v_t_mesh_many])), (h_t_mesh_corners, .inl (cI, 1152, .inl v_t_mesh_corners)), (h_t_mesh_normals, .inl (cI, 384, .inl v_t_mesh_normals)), (h_t_crossings_triangles, .inl (cI, 128, .inl v_t_crossings_triangles)), (h_t_crossings_far, .inl (cL, 128, .inr (.inl v_t_crossings_far))), (h_t_crossings_over, .inl (cL, 128, .inr (.inl v_t_crossings_over))), (h_t_crossings, .inr (2, [.ref h_t_crossings_triangles, .ref h_t_crossings_far, .ref h_t_crossings_over, .int v3]))]) (va_runV (As := [.int p1, .int p2, .ref h_t_sight]) (rest := []) ⟨hx, hb, hml, hown, hts⟩ (c_X1_aim l G cI cL cZ h_t_camera h_t_camera_eye h_t_camera_axes h_t_camera_trial h_t_sight h_t_sight_from h_t_sight_along v_t_camera_w v_t_camera_h v_t_camera_eye v_t_camera_axes v_t_sight_from v_t_sight_along v_t_sight_turn v_t_sight_far v_t_sight_over v_t_sight_weightA v_t_sight_weightB v_t_sight_weightC p1 p2 _ _ hF) (cwV 3 hts (gV mw_3_88 mw_3_89 mw_3_90 mw_1_4 mw_3_91) rfl rfl rfl (by decide +kernel) ⟨Nat.le_of_ble_eq_true rfl, Nat.le_of_ble_eq_true rfl⟩) ⟨gP_blind, va_recv hK hP (ci := 1) (q0 := 12) rfl rfl, gP_of hK hnw hP hD [12, 4, 5, 9, 10, 11] (by decide +kernel) rfl rfl⟩ rfl rfl hl.1 rfl (lv_room (Nat.le_of_ble_eq_true rfl)) dX11_cross_31 ⟨Nat.le_of_ble_eq_true rfl, Nat.le_of_ble_eq_true rfl⟩) hP hD hS hA [12, 4, 5, 9, 10, 11] [0, 1, 2, 3, 6, 7, 8, 13] rfl rfl (by decide +kernel) (by decide +kernel) (fun u H locs hF hP hD hS => ?_)
    obtain ⟨v4, v5⟩ := u
    try dsimp only at hF
    have hP : va_P G vwCl [(h_t, .inr (11, [.ref h_t_points, .ref h_t_mesh, .ref h_t_camera, .ref h_t_lamps, .ref h_t_tree, .ref h_t_crossings, .ref h_t_atHand, .ref h_t_view, .ref h_t_sight, .ref h_t_shade, .ref h_t_slope, .ref h_t_box, .ref h_t_marked, .int v_t_back])), (h_t_mesh, .inr (5, [.ref h_t_mesh_corners, .ref h_t_mesh_normals, .ref h_t_mesh_tones, .ref h_t_mesh_trial, .ref h_t_mesh_trialNormal, .int v_t_mesh_many])), (h_t_mesh_corners, .inl (cI, 1152, .inl v_t_mesh_corners)), (h_t_mesh_normals, .inl (cI, 384, .inl v_t_mesh_normals)), (h_t_crossings_triangles, .inl (cI, 128, .inl v_t_crossings_triangles)), (h_t_crossings_far, .inl (cL, 128, .inr (.inl v_t_crossings_far))), (h_t_crossings_over, .inl (cL, 128, .inr (.inl v_t_crossings_over))), (h_t_crossings, .inr (2, [.ref h_t_crossings_triangles, .ref h_t_crossings_far, .ref h_t_crossings_over, .int v3])), (h_t_camera, .inr (1, [.ref h_t_camera_eye, .ref h_t_camera_axes, .ref h_t_camera_trial, .int v_t_camera_w, .int v_t_camera_h])), (h_t_camera_eye, .inl (cI, 3, .inl v_t_camera_eye)), (h_t_camera_axes, .inl (cI, 9, .inl v_t_camera_axes)), (h_t_sight, .inr (7, [.ref h_t_sight_from, .ref h_t_sight_along, .long v_t_sight_turn, .long v_t_sight_far, .long v_t_sight_over, .long v_t_sight_weightA, .long v_t_sight_weightB, .long v_t_sight_weightC])), (h_t_sight_from, .inl (cL, 3, .inr (.inl v4))), (h_t_sight_along, .inl (cL, 3, .inr (.inl v5)))] H := hP
    have hD : va_D A [(h_t, .inr (11, [.ref h_t_points, .ref h_t_mesh, .ref h_t_camera, .ref h_t_lamps, .ref h_t_tree, .ref h_t_crossings, .ref h_t_atHand, .ref h_t_view, .ref h_t_sight, .ref h_t_shade, .ref h_t_slope, .ref h_t_box, .ref h_t_marked, .int v_t_back])), (h_t_mesh, .inr (5, [.ref h_t_mesh_corners, .ref h_t_mesh_normals, .ref h_t_mesh_tones, .ref h_t_mesh_trial, .ref h_t_mesh_trialNormal, .int v_t_mesh_many])), (h_t_mesh_corners, .inl (cI, 1152, .inl v_t_mesh_corners)), (h_t_mesh_normals, .inl (cI, 384, .inl v_t_mesh_normals)), (h_t_crossings_triangles, .inl (cI, 128, .inl v_t_crossings_triangles)), (h_t_crossings_far, .inl (cL, 128, .inr (.inl v_t_crossings_far))), (h_t_crossings_over, .inl (cL, 128, .inr (.inl v_t_crossings_over))), (h_t_crossings, .inr (2, [.ref h_t_crossings_triangles, .ref h_t_crossings_far, .ref h_t_crossings_over, .int v3])), (h_t_camera, .inr (1, [.ref h_t_camera_eye, .ref h_t_camera_axes, .ref h_t_camera_trial, .int v_t_camera_w, .int v_t_camera_h])), (h_t_camera_eye, .inl (cI, 3, .inl v_t_camera_eye)), (h_t_camera_axes, .inl (cI, 9, .inl v_t_camera_axes)), (h_t_sight, .inr (7, [.ref h_t_sight_from, .ref h_t_sight_along, .long v_t_sight_turn, .long v_t_sight_far, .long v_t_sight_over, .long v_t_sight_weightA, .long v_t_sight_weightB, .long v_t_sight_weightC])), (h_t_sight_from, .inl (cL, 3, .inr (.inl v4))), (h_t_sight_along, .inl (cL, 3, .inr (.inl v5)))] := hD
    refine lv_iconst (v := 0) hx hb dX11_cross_34 (by decide) ?_
    refine lv_istore_n (lv' := [(3, .int 0), (0, .ref h_t), (1, .int p1), (2, .int p2)]) hx hb dX11_cross_35 rfl hl (by decide) rfl (fun ls hl => ?_)
    have k_36 : ∀ (n_36 : Nat) (l3 : Int32) (v_t_crossings_many : Int32) (v_t_crossings_triangles : Nat → Int32) (v_t_crossings_far : Nat → Int64) (v_t_crossings_over : Nat → Int64) (v_t_sight_turn : Int64) (v_t_sight_far : Int64) (v_t_sight_over : Int64) (v_t_sight_weightA : Int64) (v_t_sight_weightB : Int64) (v_t_sight_weightC : Int64) (v_t_sight_from : Nat → Int64) (v_t_sight_along : Nat → Int64), L_X11_cross_36 post v_t_mesh_many v_t_mesh_corners v_t_mesh_normals v_t_camera_w v_t_camera_h v_t_camera_eye v_t_camera_axes n_36 l3 v_t_crossings_many v_t_crossings_triangles v_t_crossings_far v_t_crossings_over v_t_sight_turn v_t_sight_far v_t_sight_over v_t_sight_weightA v_t_sight_weightB v_t_sight_weightC v_t_sight_from v_t_sight_along → ∀ (H : Heap) (locs : List Loc) (ls : Array Slot), va_P G vwCl [(h_t, .inr (11, [.ref h_t_points, .ref h_t_mesh, .ref h_t_camera, .ref h_t_lamps, .ref h_t_tree, .ref h_t_crossings, .ref h_t_atHand, .ref h_t_view, .ref h_t_sight, .ref h_t_shade, .ref h_t_slope, .ref h_t_box, .ref h_t_marked, .int v_t_back])), (h_t_mesh, .inr (5, [.ref h_t_mesh_corners, .ref h_t_mesh_normals, .ref h_t_mesh_tones, .ref h_t_mesh_trial, .ref h_t_mesh_trialNormal, .int v_t_mesh_many])), (h_t_mesh_corners, .inl (cI, 1152, .inl v_t_mesh_corners)), (h_t_mesh_normals, .inl (cI, 384, .inl v_t_mesh_normals)), (h_t_camera, .inr (1, [.ref h_t_camera_eye, .ref h_t_camera_axes, .ref h_t_camera_trial, .int v_t_camera_w, .int v_t_camera_h])), (h_t_camera_eye, .inl (cI, 3, .inl v_t_camera_eye)), (h_t_camera_axes, .inl (cI, 9, .inl v_t_camera_axes)), (h_t_crossings, .inr (2, [.ref h_t_crossings_triangles, .ref h_t_crossings_far, .ref h_t_crossings_over, .int v_t_crossings_many])), (h_t_crossings_triangles, .inl (cI, 128, .inl v_t_crossings_triangles)), (h_t_crossings_far, .inl (cL, 128, .inr (.inl v_t_crossings_far))), (h_t_crossings_over, .inl (cL, 128, .inr (.inl v_t_crossings_over))), (h_t_sight, .inr (7, [.ref h_t_sight_from, .ref h_t_sight_along, .long v_t_sight_turn, .long v_t_sight_far, .long v_t_sight_over, .long v_t_sight_weightA, .long v_t_sight_weightB, .long v_t_sight_weightC])), (h_t_sight_from, .inl (cL, 3, .inr (.inl v_t_sight_from))), (h_t_sight_along, .inl (cL, 3, .inr (.inl v_t_sight_along)))] H → va_D A [(h_t, .inr (11, [.ref h_t_points, .ref h_t_mesh, .ref h_t_camera, .ref h_t_lamps, .ref h_t_tree, .ref h_t_crossings, .ref h_t_atHand, .ref h_t_view, .ref h_t_sight, .ref h_t_shade, .ref h_t_slope, .ref h_t_box, .ref h_t_marked, .int v_t_back])), (h_t_mesh, .inr (5, [.ref h_t_mesh_corners, .ref h_t_mesh_normals, .ref h_t_mesh_tones, .ref h_t_mesh_trial, .ref h_t_mesh_trialNormal, .int v_t_mesh_many])), (h_t_mesh_corners, .inl (cI, 1152, .inl v_t_mesh_corners)), (h_t_mesh_normals, .inl (cI, 384, .inl v_t_mesh_normals)), (h_t_camera, .inr (1, [.ref h_t_camera_eye, .ref h_t_camera_axes, .ref h_t_camera_trial, .int v_t_camera_w, .int v_t_camera_h])), (h_t_camera_eye, .inl (cI, 3, .inl v_t_camera_eye)), (h_t_camera_axes, .inl (cI, 9, .inl v_t_camera_axes)), (h_t_crossings, .inr (2, [.ref h_t_crossings_triangles, .ref h_t_crossings_far, .ref h_t_crossings_over, .int v_t_crossings_many])), (h_t_crossings_triangles, .inl (cI, 128, .inl v_t_crossings_triangles)), (h_t_crossings_far, .inl (cL, 128, .inr (.inl v_t_crossings_far))), (h_t_crossings_over, .inl (cL, 128, .inr (.inl v_t_crossings_over))), (h_t_sight, .inr (7, [.ref h_t_sight_from, .ref h_t_sight_along, .long v_t_sight_turn, .long v_t_sight_far, .long v_t_sight_over, .long v_t_sight_weightA, .long v_t_sight_weightB, .long v_t_sight_weightC])), (h_t_sight_from, .inl (cL, 3, .inr (.inl v_t_sight_from))), (h_t_sight_along, .inl (cL, 3, .inr (.inl v_t_sight_along)))] → va_S A s.heap H locs → lv_has ls 4 [(0, .ref h_t), (3, .int l3)] → W p l e rm_X11_cross s m args below meth c H locs 0 0 Q (F0 m 36 ls []) := by
      intro n_36
      induction n_36 with
      | zero =>
        intro l3 v_t_crossings_many v_t_crossings_triangles v_t_crossings_far v_t_crossings_over v_t_sight_turn v_t_sight_far v_t_sight_over v_t_sight_weightA v_t_sight_weightB v_t_sight_weightC v_t_sight_from v_t_sight_along hF
        exact (show False from hF).elim
      | succ n_36 k_36 =>
        intro l3 v_t_crossings_many v_t_crossings_triangles v_t_crossings_far v_t_crossings_over v_t_sight_turn v_t_sight_far v_t_sight_over v_t_sight_weightA v_t_sight_weightB v_t_sight_weightC v_t_sight_from v_t_sight_along hF H locs ls hP hD hS hl
        refine lv_iload_n hx hb dX11_cross_36 rfl (lv_at hl 1 rfl) ?_
        refine lv_aload_n hx hb dX11_cross_37 rfl (lv_at hl 0 rfl) ?_
        refine va_get (D := G) (ci := 11) (v := .ref h_t_mesh) (C := RX11) (T := TX11) (N := 14) hx hb hts (fun w h => List.mem_cons_of_mem _ (inG_11 w h)) hown hK hP 0 rfl rfl 1 (by decide) (hts _ (List.mem_cons_of_mem _ mw_2_42)) (fun _ h9 => h9) rfl dX11_cross_38 ?_
        refine afterI (wr := [(h_t, .inr (11, [.ref h_t_points, .ref h_t_mesh, .ref h_t_camera, .ref h_t_lamps, .ref h_t_tree, .ref h_t_crossings, .ref h_t_atHand, .ref h_t_view, .ref h_t_sight, .ref h_t_shade, .ref h_t_slope, .ref h_t_box, .ref h_t_marked, .int v_t_back])), (h_t_mesh_corners, .inl (cI, 1152, .inl v_t_mesh_corners)), (h_t_mesh_normals, .inl (cI, 384, .inl v_t_mesh_normals)), (h_t_camera, .inr (1, [.ref h_t_camera_eye, .ref h_t_camera_axes, .ref h_t_camera_trial, .int v_t_camera_w, .int v_t_camera_h])), (h_t_camera_eye, .inl (cI, 3, .inl v_t_camera_eye)), (h_t_camera_axes, .inl (cI, 9, .inl v_t_camera_axes)), (h_t_crossings, .inr (2, [.ref h_t_crossings_triangles, .ref h_t_crossings_far, .ref h_t_crossings_over, .int v_t_crossings_many])), (h_t_crossings_triangles, .inl (cI, 128, .inl v_t_crossings_triangles)), (h_t_crossings_far, .inl (cL, 128, .inr (.inl v_t_crossings_far))), (h_t_crossings_over, .inl (cL, 128, .inr (.inl v_t_crossings_over))), (h_t_sight, .inr (7, [.ref h_t_sight_from, .ref h_t_sight_along, .long v_t_sight_turn, .long v_t_sight_far, .long v_t_sight_over, .long v_t_sight_weightA, .long v_t_sight_weightB, .long v_t_sight_weightC])), (h_t_sight_from, .inl (cL, 3, .inr (.inl v_t_sight_from))), (h_t_sight_along, .inl (cL, 3, .inr (.inl v_t_sight_along)))]) (va_runV (As := []) (rest := [.int l3]) ⟨hx, hb, hml, hown, hts⟩ (c_X5_many l G cI cL cZ h_t_mesh h_t_mesh_corners h_t_mesh_normals h_t_mesh_tones h_t_mesh_trial h_t_mesh_trialNormal v_t_mesh_many _ _ hF) (cwV 0 hts (gV mw_3_96 mw_2_225 mw_2_226 mw_1_3 mw_2_227) rfl rfl rfl (by decide +kernel) ⟨Nat.le_of_ble_eq_true rfl, Nat.le_of_ble_eq_true rfl⟩) ⟨gP_blind, va_recv hK hP (ci := 5) (q0 := 1) rfl rfl, gP_of hK hnw hP hD [1] (by decide +kernel) rfl rfl⟩ rfl rfl hl.1 rfl (lv_room (Nat.le_of_ble_eq_true rfl)) dX11_cross_41 ⟨Nat.le_of_ble_eq_true rfl, Nat.le_of_ble_eq_true rfl⟩) hP hD hS hA [1] [0, 2, 3, 4, 5, 6, 7, 8, 9, 10, 11, 12, 13] rfl rfl (by decide +kernel) (by decide +kernel) (fun r6 u H locs hF hP hD hS => ?_)
        try dsimp only at hF
        have hP : va_P G vwCl [(h_t, .inr (11, [.ref h_t_points, .ref h_t_mesh, .ref h_t_camera, .ref h_t_lamps, .ref h_t_tree, .ref h_t_crossings, .ref h_t_atHand, .ref h_t_view, .ref h_t_sight, .ref h_t_shade, .ref h_t_slope, .ref h_t_box, .ref h_t_marked, .int v_t_back])), (h_t_mesh_corners, .inl (cI, 1152, .inl v_t_mesh_corners)), (h_t_mesh_normals, .inl (cI, 384, .inl v_t_mesh_normals)), (h_t_camera, .inr (1, [.ref h_t_camera_eye, .ref h_t_camera_axes, .ref h_t_camera_trial, .int v_t_camera_w, .int v_t_camera_h])), (h_t_camera_eye, .inl (cI, 3, .inl v_t_camera_eye)), (h_t_camera_axes, .inl (cI, 9, .inl v_t_camera_axes)), (h_t_crossings, .inr (2, [.ref h_t_crossings_triangles, .ref h_t_crossings_far, .ref h_t_crossings_over, .int v_t_crossings_many])), (h_t_crossings_triangles, .inl (cI, 128, .inl v_t_crossings_triangles)), (h_t_crossings_far, .inl (cL, 128, .inr (.inl v_t_crossings_far))), (h_t_crossings_over, .inl (cL, 128, .inr (.inl v_t_crossings_over))), (h_t_sight, .inr (7, [.ref h_t_sight_from, .ref h_t_sight_along, .long v_t_sight_turn, .long v_t_sight_far, .long v_t_sight_over, .long v_t_sight_weightA, .long v_t_sight_weightB, .long v_t_sight_weightC])), (h_t_sight_from, .inl (cL, 3, .inr (.inl v_t_sight_from))), (h_t_sight_along, .inl (cL, 3, .inr (.inl v_t_sight_along))), (h_t_mesh, .inr (5, [.ref h_t_mesh_corners, .ref h_t_mesh_normals, .ref h_t_mesh_tones, .ref h_t_mesh_trial, .ref h_t_mesh_trialNormal, .int v_t_mesh_many]))] H := hP
        have hD : va_D A [(h_t, .inr (11, [.ref h_t_points, .ref h_t_mesh, .ref h_t_camera, .ref h_t_lamps, .ref h_t_tree, .ref h_t_crossings, .ref h_t_atHand, .ref h_t_view, .ref h_t_sight, .ref h_t_shade, .ref h_t_slope, .ref h_t_box, .ref h_t_marked, .int v_t_back])), (h_t_mesh_corners, .inl (cI, 1152, .inl v_t_mesh_corners)), (h_t_mesh_normals, .inl (cI, 384, .inl v_t_mesh_normals)), (h_t_camera, .inr (1, [.ref h_t_camera_eye, .ref h_t_camera_axes, .ref h_t_camera_trial, .int v_t_camera_w, .int v_t_camera_h])), (h_t_camera_eye, .inl (cI, 3, .inl v_t_camera_eye)), (h_t_camera_axes, .inl (cI, 9, .inl v_t_camera_axes)), (h_t_crossings, .inr (2, [.ref h_t_crossings_triangles, .ref h_t_crossings_far, .ref h_t_crossings_over, .int v_t_crossings_many])), (h_t_crossings_triangles, .inl (cI, 128, .inl v_t_crossings_triangles)), (h_t_crossings_far, .inl (cL, 128, .inr (.inl v_t_crossings_far))), (h_t_crossings_over, .inl (cL, 128, .inr (.inl v_t_crossings_over))), (h_t_sight, .inr (7, [.ref h_t_sight_from, .ref h_t_sight_along, .long v_t_sight_turn, .long v_t_sight_far, .long v_t_sight_over, .long v_t_sight_weightA, .long v_t_sight_weightB, .long v_t_sight_weightC])), (h_t_sight_from, .inl (cL, 3, .inr (.inl v_t_sight_from))), (h_t_sight_along, .inl (cL, 3, .inr (.inl v_t_sight_along))), (h_t_mesh, .inr (5, [.ref h_t_mesh_corners, .ref h_t_mesh_normals, .ref h_t_mesh_tones, .ref h_t_mesh_trial, .ref h_t_mesh_trialNormal, .int v_t_mesh_many]))] := hD
        refine lv_icmp_ge (tgt := 90) hx hb dX11_cross_44 (by decide) (fun c7 => ?_) (fun c7 => ?_)
        · have hF := hF.1 c7
          refine lv_aload_n hx hb dX11_cross_90 rfl (lv_at hl 0 rfl) ?_
          refine va_get (D := G) (ci := 11) (v := .ref h_t_crossings) (C := RX11) (T := TX11) (N := 14) hx hb hts (fun w h => List.mem_cons_of_mem _ (inG_11 w h)) hown hK hP 0 rfl rfl 5 (by decide) (hts _ (List.mem_cons_of_mem _ mw_2_46)) (fun _ h9 => h9) rfl dX11_cross_91 ?_
          refine afterI (wr := [(h_t, .inr (11, [.ref h_t_points, .ref h_t_mesh, .ref h_t_camera, .ref h_t_lamps, .ref h_t_tree, .ref h_t_crossings, .ref h_t_atHand, .ref h_t_view, .ref h_t_sight, .ref h_t_shade, .ref h_t_slope, .ref h_t_box, .ref h_t_marked, .int v_t_back])), (h_t_mesh_corners, .inl (cI, 1152, .inl v_t_mesh_corners)), (h_t_mesh_normals, .inl (cI, 384, .inl v_t_mesh_normals)), (h_t_camera, .inr (1, [.ref h_t_camera_eye, .ref h_t_camera_axes, .ref h_t_camera_trial, .int v_t_camera_w, .int v_t_camera_h])), (h_t_camera_eye, .inl (cI, 3, .inl v_t_camera_eye)), (h_t_camera_axes, .inl (cI, 9, .inl v_t_camera_axes)), (h_t_crossings_triangles, .inl (cI, 128, .inl v_t_crossings_triangles)), (h_t_crossings_far, .inl (cL, 128, .inr (.inl v_t_crossings_far))), (h_t_crossings_over, .inl (cL, 128, .inr (.inl v_t_crossings_over))), (h_t_sight, .inr (7, [.ref h_t_sight_from, .ref h_t_sight_along, .long v_t_sight_turn, .long v_t_sight_far, .long v_t_sight_over, .long v_t_sight_weightA, .long v_t_sight_weightB, .long v_t_sight_weightC])), (h_t_sight_from, .inl (cL, 3, .inr (.inl v_t_sight_from))), (h_t_sight_along, .inl (cL, 3, .inr (.inl v_t_sight_along))), (h_t_mesh, .inr (5, [.ref h_t_mesh_corners, .ref h_t_mesh_normals, .ref h_t_mesh_tones, .ref h_t_mesh_trial, .ref h_t_mesh_trialNormal, .int v_t_mesh_many]))]) (va_runV (As := []) (rest := []) ⟨hx, hb, hml, hown, hts⟩ (c_X2_many l G cI cL cZ h_t_crossings h_t_crossings_triangles h_t_crossings_far h_t_crossings_over v_t_crossings_many _ _ hF) (cwV 0 hts (gV mw_3_166 mw_3_167 mw_3_168 mw_1_7 mw_3_169) rfl rfl rfl (by decide +kernel) ⟨Nat.le_of_ble_eq_true rfl, Nat.le_of_ble_eq_true rfl⟩) ⟨gP_blind, va_recv hK hP (ci := 2) (q0 := 6) rfl rfl, gP_of hK hnw hP hD [6] (by decide +kernel) rfl rfl⟩ rfl rfl hl.1 rfl (lv_room (Nat.le_of_ble_eq_true rfl)) dX11_cross_94 ⟨Nat.le_of_ble_eq_true rfl, Nat.le_of_ble_eq_true rfl⟩) hP hD hS hA [6] [0, 1, 2, 3, 4, 5, 7, 8, 9, 10, 11, 12, 13] rfl rfl (by decide +kernel) (by decide +kernel) (fun r8 u H locs hF hP hD hS => ?_)
          try dsimp only at hF
          have hP : va_P G vwCl [(h_t, .inr (11, [.ref h_t_points, .ref h_t_mesh, .ref h_t_camera, .ref h_t_lamps, .ref h_t_tree, .ref h_t_crossings, .ref h_t_atHand, .ref h_t_view, .ref h_t_sight, .ref h_t_shade, .ref h_t_slope, .ref h_t_box, .ref h_t_marked, .int v_t_back])), (h_t_mesh_corners, .inl (cI, 1152, .inl v_t_mesh_corners)), (h_t_mesh_normals, .inl (cI, 384, .inl v_t_mesh_normals)), (h_t_camera, .inr (1, [.ref h_t_camera_eye, .ref h_t_camera_axes, .ref h_t_camera_trial, .int v_t_camera_w, .int v_t_camera_h])), (h_t_camera_eye, .inl (cI, 3, .inl v_t_camera_eye)), (h_t_camera_axes, .inl (cI, 9, .inl v_t_camera_axes)), (h_t_crossings_triangles, .inl (cI, 128, .inl v_t_crossings_triangles)), (h_t_crossings_far, .inl (cL, 128, .inr (.inl v_t_crossings_far))), (h_t_crossings_over, .inl (cL, 128, .inr (.inl v_t_crossings_over))), (h_t_sight, .inr (7, [.ref h_t_sight_from, .ref h_t_sight_along, .long v_t_sight_turn, .long v_t_sight_far, .long v_t_sight_over, .long v_t_sight_weightA, .long v_t_sight_weightB, .long v_t_sight_weightC])), (h_t_sight_from, .inl (cL, 3, .inr (.inl v_t_sight_from))), (h_t_sight_along, .inl (cL, 3, .inr (.inl v_t_sight_along))), (h_t_mesh, .inr (5, [.ref h_t_mesh_corners, .ref h_t_mesh_normals, .ref h_t_mesh_tones, .ref h_t_mesh_trial, .ref h_t_mesh_trialNormal, .int v_t_mesh_many])), (h_t_crossings, .inr (2, [.ref h_t_crossings_triangles, .ref h_t_crossings_far, .ref h_t_crossings_over, .int v_t_crossings_many]))] H := hP
          have hD : va_D A [(h_t, .inr (11, [.ref h_t_points, .ref h_t_mesh, .ref h_t_camera, .ref h_t_lamps, .ref h_t_tree, .ref h_t_crossings, .ref h_t_atHand, .ref h_t_view, .ref h_t_sight, .ref h_t_shade, .ref h_t_slope, .ref h_t_box, .ref h_t_marked, .int v_t_back])), (h_t_mesh_corners, .inl (cI, 1152, .inl v_t_mesh_corners)), (h_t_mesh_normals, .inl (cI, 384, .inl v_t_mesh_normals)), (h_t_camera, .inr (1, [.ref h_t_camera_eye, .ref h_t_camera_axes, .ref h_t_camera_trial, .int v_t_camera_w, .int v_t_camera_h])), (h_t_camera_eye, .inl (cI, 3, .inl v_t_camera_eye)), (h_t_camera_axes, .inl (cI, 9, .inl v_t_camera_axes)), (h_t_crossings_triangles, .inl (cI, 128, .inl v_t_crossings_triangles)), (h_t_crossings_far, .inl (cL, 128, .inr (.inl v_t_crossings_far))), (h_t_crossings_over, .inl (cL, 128, .inr (.inl v_t_crossings_over))), (h_t_sight, .inr (7, [.ref h_t_sight_from, .ref h_t_sight_along, .long v_t_sight_turn, .long v_t_sight_far, .long v_t_sight_over, .long v_t_sight_weightA, .long v_t_sight_weightB, .long v_t_sight_weightC])), (h_t_sight_from, .inl (cL, 3, .inr (.inl v_t_sight_from))), (h_t_sight_along, .inl (cL, 3, .inr (.inl v_t_sight_along))), (h_t_mesh, .inr (5, [.ref h_t_mesh_corners, .ref h_t_mesh_normals, .ref h_t_mesh_tones, .ref h_t_mesh_trial, .ref h_t_mesh_trialNormal, .int v_t_mesh_many])), (h_t_crossings, .inr (2, [.ref h_t_crossings_triangles, .ref h_t_crossings_far, .ref h_t_crossings_over, .int v_t_crossings_many]))] := hD
          exact hret 97 ls _ _ r8 (v_t_crossings_many, v_t_crossings_triangles, v_t_crossings_far, v_t_crossings_over, v_t_sight_turn, v_t_sight_far, v_t_sight_over, v_t_sight_weightA, v_t_sight_weightB, v_t_sight_weightC, v_t_sight_from, v_t_sight_along) dX11_cross_97 rfl hF (hP.sub [0, 12, 1, 2, 3, 4, 5, 13, 6, 7, 8, 9, 10, 11] rfl) (hD.sub [0, 12, 1, 2, 3, 4, 5, 13, 6, 7, 8, 9, 10, 11] (by decide +kernel) rfl) hS
        · have hF := hF.2 c7
          refine lv_aload_n hx hb dX11_cross_47 rfl (lv_at hl 0 rfl) ?_
          refine va_get (D := G) (ci := 11) (v := .ref h_t_sight) (C := RX11) (T := TX11) (N := 14) hx hb hts (fun w h => List.mem_cons_of_mem _ (inG_11 w h)) hown hK hP 0 rfl rfl 8 (by decide) (hts _ (List.mem_cons_of_mem _ mw_2_49)) (fun _ h9 => h9) rfl dX11_cross_48 ?_
          refine lv_aload_n hx hb dX11_cross_51 rfl (lv_at hl 0 rfl) ?_
          refine va_get (D := G) (ci := 11) (v := .ref h_t_mesh) (C := RX11) (T := TX11) (N := 14) hx hb hts (fun w h => List.mem_cons_of_mem _ (inG_11 w h)) hown hK hP 0 rfl rfl 1 (by decide) (hts _ (List.mem_cons_of_mem _ mw_2_42)) (fun _ h9 => h9) rfl dX11_cross_52 ?_
          refine lv_iload_n hx hb dX11_cross_55 rfl (lv_at hl 1 rfl) ?_
          refine afterI (wr := [(h_t, .inr (11, [.ref h_t_points, .ref h_t_mesh, .ref h_t_camera, .ref h_t_lamps, .ref h_t_tree, .ref h_t_crossings, .ref h_t_atHand, .ref h_t_view, .ref h_t_sight, .ref h_t_shade, .ref h_t_slope, .ref h_t_box, .ref h_t_marked, .int v_t_back])), (h_t_camera, .inr (1, [.ref h_t_camera_eye, .ref h_t_camera_axes, .ref h_t_camera_trial, .int v_t_camera_w, .int v_t_camera_h])), (h_t_camera_eye, .inl (cI, 3, .inl v_t_camera_eye)), (h_t_camera_axes, .inl (cI, 9, .inl v_t_camera_axes)), (h_t_crossings, .inr (2, [.ref h_t_crossings_triangles, .ref h_t_crossings_far, .ref h_t_crossings_over, .int v_t_crossings_many])), (h_t_crossings_triangles, .inl (cI, 128, .inl v_t_crossings_triangles)), (h_t_crossings_far, .inl (cL, 128, .inr (.inl v_t_crossings_far))), (h_t_crossings_over, .inl (cL, 128, .inr (.inl v_t_crossings_over)))]) (va_runV (As := [.ref h_t_mesh, .int l3]) (rest := []) ⟨hx, hb, hml, hown, hts⟩ (c_X7_strikes l G cI cL cZ h_t_sight h_t_sight_from h_t_sight_along h_t_mesh h_t_mesh_corners h_t_mesh_normals h_t_mesh_tones h_t_mesh_trial h_t_mesh_trialNormal v_t_sight_turn v_t_sight_far v_t_sight_over v_t_sight_weightA v_t_sight_weightB v_t_sight_weightC v_t_sight_from v_t_sight_along v_t_mesh_corners v_t_mesh_normals v_t_mesh_many l3 _ _ hF) (cwV 2 hts (gV mw_3_97 mw_3_98 mw_3_99 mw_1_9 mw_3_100) rfl rfl rfl (by decide +kernel) ⟨Nat.le_of_ble_eq_true rfl, Nat.le_of_ble_eq_true rfl⟩) ⟨gP_blind, va_recv hK hP (ci := 7) (q0 := 10) rfl rfl, gP_of hK hnw hP hD [10, 11, 12, 13, 1, 2] (by decide +kernel) rfl rfl⟩ rfl rfl hl.1 rfl (lv_room (Nat.le_of_ble_eq_true rfl)) dX11_cross_56 ⟨Nat.le_of_ble_eq_true rfl, Nat.le_of_ble_eq_true rfl⟩) hP hD hS hA [10, 11, 12, 13, 1, 2] [0, 3, 4, 5, 6, 7, 8, 9] rfl rfl (by decide +kernel) (by decide +kernel) (fun r9 u H locs hF hP hD hS => ?_)
          obtain ⟨v10, v11, v12, v13, v14, v15⟩ := u
          try dsimp only at hF
          have hP : va_P G vwCl [(h_t, .inr (11, [.ref h_t_points, .ref h_t_mesh, .ref h_t_camera, .ref h_t_lamps, .ref h_t_tree, .ref h_t_crossings, .ref h_t_atHand, .ref h_t_view, .ref h_t_sight, .ref h_t_shade, .ref h_t_slope, .ref h_t_box, .ref h_t_marked, .int v_t_back])), (h_t_camera, .inr (1, [.ref h_t_camera_eye, .ref h_t_camera_axes, .ref h_t_camera_trial, .int v_t_camera_w, .int v_t_camera_h])), (h_t_camera_eye, .inl (cI, 3, .inl v_t_camera_eye)), (h_t_camera_axes, .inl (cI, 9, .inl v_t_camera_axes)), (h_t_crossings, .inr (2, [.ref h_t_crossings_triangles, .ref h_t_crossings_far, .ref h_t_crossings_over, .int v_t_crossings_many])), (h_t_crossings_triangles, .inl (cI, 128, .inl v_t_crossings_triangles)), (h_t_crossings_far, .inl (cL, 128, .inr (.inl v_t_crossings_far))), (h_t_crossings_over, .inl (cL, 128, .inr (.inl v_t_crossings_over))), (h_t_sight, .inr (7, [.ref h_t_sight_from, .ref h_t_sight_along, .long v10, .long v11, .long v12, .long v13, .long v14, .long v15])), (h_t_sight_from, .inl (cL, 3, .inr (.inl v_t_sight_from))), (h_t_sight_along, .inl (cL, 3, .inr (.inl v_t_sight_along))), (h_t_mesh, .inr (5, [.ref h_t_mesh_corners, .ref h_t_mesh_normals, .ref h_t_mesh_tones, .ref h_t_mesh_trial, .ref h_t_mesh_trialNormal, .int v_t_mesh_many])), (h_t_mesh_corners, .inl (cI, 1152, .inl v_t_mesh_corners)), (h_t_mesh_normals, .inl (cI, 384, .inl v_t_mesh_normals))] H := hP
          have hD : va_D A [(h_t, .inr (11, [.ref h_t_points, .ref h_t_mesh, .ref h_t_camera, .ref h_t_lamps, .ref h_t_tree, .ref h_t_crossings, .ref h_t_atHand, .ref h_t_view, .ref h_t_sight, .ref h_t_shade, .ref h_t_slope, .ref h_t_box, .ref h_t_marked, .int v_t_back])), (h_t_camera, .inr (1, [.ref h_t_camera_eye, .ref h_t_camera_axes, .ref h_t_camera_trial, .int v_t_camera_w, .int v_t_camera_h])), (h_t_camera_eye, .inl (cI, 3, .inl v_t_camera_eye)), (h_t_camera_axes, .inl (cI, 9, .inl v_t_camera_axes)), (h_t_crossings, .inr (2, [.ref h_t_crossings_triangles, .ref h_t_crossings_far, .ref h_t_crossings_over, .int v_t_crossings_many])), (h_t_crossings_triangles, .inl (cI, 128, .inl v_t_crossings_triangles)), (h_t_crossings_far, .inl (cL, 128, .inr (.inl v_t_crossings_far))), (h_t_crossings_over, .inl (cL, 128, .inr (.inl v_t_crossings_over))), (h_t_sight, .inr (7, [.ref h_t_sight_from, .ref h_t_sight_along, .long v10, .long v11, .long v12, .long v13, .long v14, .long v15])), (h_t_sight_from, .inl (cL, 3, .inr (.inl v_t_sight_from))), (h_t_sight_along, .inl (cL, 3, .inr (.inl v_t_sight_along))), (h_t_mesh, .inr (5, [.ref h_t_mesh_corners, .ref h_t_mesh_normals, .ref h_t_mesh_tones, .ref h_t_mesh_trial, .ref h_t_mesh_trialNormal, .int v_t_mesh_many])), (h_t_mesh_corners, .inl (cI, 1152, .inl v_t_mesh_corners)), (h_t_mesh_normals, .inl (cI, 384, .inl v_t_mesh_normals))] := hD
          refine lv_if_eq (tgt := 84) hx hb dX11_cross_59 (by decide) (fun c16 => ?_) (fun c16 => ?_)
          · have hF := hF.1 c16
            obtain ⟨x17, ex17⟩ : ∃ z : Int32, z = (l3 + 1) := ⟨_, rfl⟩
            have hF := hF x17 ex17
            refine lv_iinc (v := x17) (lv' := [(3, .int x17), (0, .ref h_t)]) hx hb dX11_cross_84 hl (k := 1) rfl (by rw [ex17]; rfl) (by decide) rfl (fun ls hl => ?_)
            refine lv_goto (tgt := 36) hx hb dX11_cross_87 (by decide) ?_
            exact k_36 x17 v_t_crossings_many v_t_crossings_triangles v_t_crossings_far v_t_crossings_over v10 v11 v12 v13 v14 v15 v_t_sight_from v_t_sight_along hF _ _ ls (hP.sub [0, 11, 12, 13, 1, 2, 3, 4, 5, 6, 7, 8, 9, 10] rfl) (hD.sub [0, 11, 12, 13, 1, 2, 3, 4, 5, 6, 7, 8, 9, 10] (by decide +kernel) rfl) hS (lv_sub hl [1, 0] rfl)
          · have hF := hF.2 c16
            refine lv_aload_n hx hb dX11_cross_62 rfl (lv_at hl 0 rfl) ?_
            refine va_get (D := G) (ci := 11) (v := .ref h_t_crossings) (C := RX11) (T := TX11) (N := 14) hx hb hts (fun w h => List.mem_cons_of_mem _ (inG_11 w h)) hown hK hP 0 rfl rfl 5 (by decide) (hts _ (List.mem_cons_of_mem _ mw_2_46)) (fun _ h9 => h9) rfl dX11_cross_63 ?_
            refine lv_iload_n hx hb dX11_cross_66 rfl (lv_at hl 1 rfl) ?_
            refine lv_aload_n hx hb dX11_cross_67 rfl (lv_at hl 0 rfl) ?_
            refine va_get (D := G) (ci := 11) (v := .ref h_t_sight) (C := RX11) (T := TX11) (N := 14) hx hb hts (fun w h => List.mem_cons_of_mem _ (inG_11 w h)) hown hK hP 0 rfl rfl 8 (by decide) (hts _ (List.mem_cons_of_mem _ mw_2_49)) (fun _ h9 => h9) rfl dX11_cross_68 ?_
            refine va_getN (D := G) (ci := 7) (v := .long v11) (C := RX7) (T := TX7) (N := 8) hx hb hts (fun w h => List.mem_cons_of_mem _ (inG_7 w h)) hown hK hP 8 rfl rfl 3 (by decide) (va_Nw.use rfl (hnw (.fieldLinkNest RX11 204 "RayRoom$Ray" "far" "J" "RayRoom") (by decide +kernel))) (fun _ h9 => h9) rfl dX11_cross_71 ?_
            refine lv_aload_n hx hb dX11_cross_74 rfl (lv_at hl 0 rfl) ?_
            refine va_get (D := G) (ci := 11) (v := .ref h_t_sight) (C := RX11) (T := TX11) (N := 14) hx hb hts (fun w h => List.mem_cons_of_mem _ (inG_11 w h)) hown hK hP 0 rfl rfl 8 (by decide) (hts _ (List.mem_cons_of_mem _ mw_2_49)) (fun _ h9 => h9) rfl dX11_cross_75 ?_
            refine va_getN (D := G) (ci := 7) (v := .long v12) (C := RX7) (T := TX7) (N := 8) hx hb hts (fun w h => List.mem_cons_of_mem _ (inG_7 w h)) hown hK hP 8 rfl rfl 4 (by decide) (va_Nw.use rfl (hnw (.fieldLinkNest RX11 208 "RayRoom$Ray" "over" "J" "RayRoom") (by decide +kernel))) (fun _ h9 => h9) rfl dX11_cross_78 ?_
            refine afterV (wr := [(h_t, .inr (11, [.ref h_t_points, .ref h_t_mesh, .ref h_t_camera, .ref h_t_lamps, .ref h_t_tree, .ref h_t_crossings, .ref h_t_atHand, .ref h_t_view, .ref h_t_sight, .ref h_t_shade, .ref h_t_slope, .ref h_t_box, .ref h_t_marked, .int v_t_back])), (h_t_camera, .inr (1, [.ref h_t_camera_eye, .ref h_t_camera_axes, .ref h_t_camera_trial, .int v_t_camera_w, .int v_t_camera_h])), (h_t_camera_eye, .inl (cI, 3, .inl v_t_camera_eye)), (h_t_camera_axes, .inl (cI, 9, .inl v_t_camera_axes)), (h_t_sight, .inr (7, [.ref h_t_sight_from, .ref h_t_sight_along, .long v10, .long v11, .long v12, .long v13, .long v14, .long v15])), (h_t_sight_from, .inl (cL, 3, .inr (.inl v_t_sight_from))), (h_t_sight_along, .inl (cL, 3, .inr (.inl v_t_sight_along))), (h_t_mesh, .inr (5, [.ref h_t_mesh_corners, .ref h_t_mesh_normals, .ref h_t_mesh_tones, .ref h_t_mesh_trial, .ref h_t_mesh_trialNormal, .int v_t_mesh_many])), (h_t_mesh_corners, .inl (cI, 1152, .inl v_t_mesh_corners)), (h_t_mesh_normals, .inl (cI, 384, .inl v_t_mesh_normals))]) (va_runV (As := [.int l3, .long v11, .long v12]) (rest := []) ⟨hx, hb, hml, hown, hts⟩ (c_X2_insert l G cI cL cZ h_t_crossings h_t_crossings_triangles h_t_crossings_far h_t_crossings_over v_t_crossings_many v_t_crossings_triangles v_t_crossings_far v_t_crossings_over l3 v11 v12 _ _ hF) (cwV 3 hts (gV mw_3_162 mw_3_163 mw_3_164 mw_1_7 mw_3_165) rfl rfl rfl (by decide +kernel) ⟨Nat.le_of_ble_eq_true rfl, Nat.le_of_ble_eq_true rfl⟩) ⟨gP_blind, va_recv hK hP (ci := 2) (q0 := 4) rfl rfl, gP_of hK hnw hP hD [4, 5, 6, 7] (by decide +kernel) rfl rfl⟩ rfl rfl hl.1 rfl (lv_room (Nat.le_of_ble_eq_true rfl)) dX11_cross_81 ⟨Nat.le_of_ble_eq_true rfl, Nat.le_of_ble_eq_true rfl⟩) hP hD hS hA [4, 5, 6, 7] [0, 1, 2, 3, 8, 9, 10, 11, 12, 13] rfl rfl (by decide +kernel) (by decide +kernel) (fun u H locs hF hP hD hS => ?_)
            obtain ⟨v18, v19, v20, v21⟩ := u
            try dsimp only at hF
            have hP : va_P G vwCl [(h_t, .inr (11, [.ref h_t_points, .ref h_t_mesh, .ref h_t_camera, .ref h_t_lamps, .ref h_t_tree, .ref h_t_crossings, .ref h_t_atHand, .ref h_t_view, .ref h_t_sight, .ref h_t_shade, .ref h_t_slope, .ref h_t_box, .ref h_t_marked, .int v_t_back])), (h_t_camera, .inr (1, [.ref h_t_camera_eye, .ref h_t_camera_axes, .ref h_t_camera_trial, .int v_t_camera_w, .int v_t_camera_h])), (h_t_camera_eye, .inl (cI, 3, .inl v_t_camera_eye)), (h_t_camera_axes, .inl (cI, 9, .inl v_t_camera_axes)), (h_t_sight, .inr (7, [.ref h_t_sight_from, .ref h_t_sight_along, .long v10, .long v11, .long v12, .long v13, .long v14, .long v15])), (h_t_sight_from, .inl (cL, 3, .inr (.inl v_t_sight_from))), (h_t_sight_along, .inl (cL, 3, .inr (.inl v_t_sight_along))), (h_t_mesh, .inr (5, [.ref h_t_mesh_corners, .ref h_t_mesh_normals, .ref h_t_mesh_tones, .ref h_t_mesh_trial, .ref h_t_mesh_trialNormal, .int v_t_mesh_many])), (h_t_mesh_corners, .inl (cI, 1152, .inl v_t_mesh_corners)), (h_t_mesh_normals, .inl (cI, 384, .inl v_t_mesh_normals)), (h_t_crossings, .inr (2, [.ref h_t_crossings_triangles, .ref h_t_crossings_far, .ref h_t_crossings_over, .int v18])), (h_t_crossings_triangles, .inl (cI, 128, .inl v19)), (h_t_crossings_far, .inl (cL, 128, .inr (.inl v20))), (h_t_crossings_over, .inl (cL, 128, .inr (.inl v21)))] H := hP
            have hD : va_D A [(h_t, .inr (11, [.ref h_t_points, .ref h_t_mesh, .ref h_t_camera, .ref h_t_lamps, .ref h_t_tree, .ref h_t_crossings, .ref h_t_atHand, .ref h_t_view, .ref h_t_sight, .ref h_t_shade, .ref h_t_slope, .ref h_t_box, .ref h_t_marked, .int v_t_back])), (h_t_camera, .inr (1, [.ref h_t_camera_eye, .ref h_t_camera_axes, .ref h_t_camera_trial, .int v_t_camera_w, .int v_t_camera_h])), (h_t_camera_eye, .inl (cI, 3, .inl v_t_camera_eye)), (h_t_camera_axes, .inl (cI, 9, .inl v_t_camera_axes)), (h_t_sight, .inr (7, [.ref h_t_sight_from, .ref h_t_sight_along, .long v10, .long v11, .long v12, .long v13, .long v14, .long v15])), (h_t_sight_from, .inl (cL, 3, .inr (.inl v_t_sight_from))), (h_t_sight_along, .inl (cL, 3, .inr (.inl v_t_sight_along))), (h_t_mesh, .inr (5, [.ref h_t_mesh_corners, .ref h_t_mesh_normals, .ref h_t_mesh_tones, .ref h_t_mesh_trial, .ref h_t_mesh_trialNormal, .int v_t_mesh_many])), (h_t_mesh_corners, .inl (cI, 1152, .inl v_t_mesh_corners)), (h_t_mesh_normals, .inl (cI, 384, .inl v_t_mesh_normals)), (h_t_crossings, .inr (2, [.ref h_t_crossings_triangles, .ref h_t_crossings_far, .ref h_t_crossings_over, .int v18])), (h_t_crossings_triangles, .inl (cI, 128, .inl v19)), (h_t_crossings_far, .inl (cL, 128, .inr (.inl v20))), (h_t_crossings_over, .inl (cL, 128, .inr (.inl v21)))] := hD
            obtain ⟨x22, ex22⟩ : ∃ z : Int32, z = (l3 + 1) := ⟨_, rfl⟩
            have hF := hF x22 ex22
            refine lv_iinc (v := x22) (lv' := [(3, .int x22), (0, .ref h_t)]) hx hb dX11_cross_84 hl (k := 1) rfl (by rw [ex22]; rfl) (by decide) rfl (fun ls hl => ?_)
            refine lv_goto (tgt := 36) hx hb dX11_cross_87 (by decide) ?_
            exact k_36 x22 v18 v19 v20 v21 v10 v11 v12 v13 v14 v15 v_t_sight_from v_t_sight_along hF _ _ ls (hP.sub [0, 7, 8, 9, 1, 2, 3, 10, 11, 12, 13, 4, 5, 6] rfl) (hD.sub [0, 7, 8, 9, 1, 2, 3, 10, 11, 12, 13, 4, 5, 6] (by decide +kernel) rfl) hS (lv_sub hl [1, 0] rfl)
    obtain ⟨n0, hF⟩ := hF
    exact k_36 n0 0 v3 v_t_crossings_triangles v_t_crossings_far v_t_crossings_over v_t_sight_turn v_t_sight_far v_t_sight_over v_t_sight_weightA v_t_sight_weightB v_t_sight_weightC v4 v5 hF _ _ ls (hP.sub [0, 1, 2, 3, 8, 9, 10, 7, 4, 5, 6, 11, 12, 13] rfl) (hD.sub [0, 1, 2, 3, 8, 9, 10, 7, 4, 5, 6, 11, 12, 13] (by decide +kernel) rfl) hS (lv_sub hl [1, 0] rfl)
  · have hF := hF.2 c2
    refine lv_iconst (v := (-1)) hx hb dX11_cross_12 (by decide) ?_
    exact hret 13 ls _ _ (-1) (v_t_crossings_many, v_t_crossings_triangles, v_t_crossings_far, v_t_crossings_over, v_t_sight_turn, v_t_sight_far, v_t_sight_over, v_t_sight_weightA, v_t_sight_weightB, v_t_sight_weightC, v_t_sight_from, v_t_sight_along) dX11_cross_13 rfl hF (hP.sub [0, 1, 2, 3, 13, 4, 5, 6, 7, 8, 9, 10, 11, 12] rfl) (hD.sub [0, 1, 2, 3, 13, 4, 5, 6, 7, 8, 9, 10, 11, 12] (by decide +kernel) rfl) hS

def rm_X2_has : Room := { frames := 0, cells := 0, slots := 0, locals := 0 }
def F_X2_has (p1 : Int32) (v_t_many : Int32) (post : Int32 → Prop) : Prop := ((p1 < 0 → post 0) ∧ (¬ p1 < 0 → ((v_t_many ≤ p1 → post 0) ∧ (¬ v_t_many ≤ p1 → post 1))))
set_option maxHeartbeats 8000000 in
set_option maxRecDepth 100000 in
theorem c_X2_has (l : Launch) (G : va_G) (cI cL cZ : ClassId) (h_t : Nat) (h_t_triangles : Nat) (h_t_far : Nat) (h_t_over : Nat) (v_t_many : Int32) (p1 : Int32) (sz : Nat) (post : Int32 → Prop) (hF : F_X2_has p1 v_t_many post) : MetI l G (gT cI cL cZ) yX2_has (gW yX2_has cX2_has 2 (some .boolean)) rm_X2_has 0 0 [.ref h_t, .int p1] sz [(h_t, .inr (2, [.ref h_t_triangles, .ref h_t_far, .ref h_t_over, .int v_t_many]))] (fun (u : Unit) => [(h_t, .inr (2, [.ref h_t_triangles, .ref h_t_far, .ref h_t_over, .int v_t_many]))]) (fun (r : Int32) (u : Unit) => post r) := by
  refine startI (cc := cX2_has) (maxL := 2) (ty9 := .boolean) (by decide +kernel) rfl (Nat.le_of_ble_eq_true rfl) ?_
  intro p e s m args below meth c Q ls A C0 hP hD hS hl hret
  obtain ⟨hx, hb, hml, hown, hts, hnw, hK, hA, hin⟩ := C0
  have hown : s.vm.findClass RX2 = some m.cls := hown
  have hl : lv_has ls 2 [(0, .ref h_t), (1, .int p1)] := hl
  refine lv_iload_n hx hb dX2_has_0 rfl (lv_at hl 1 rfl) ?_
  refine lv_if_lt (tgt := 16) hx hb dX2_has_1 (by decide) (fun c1 => ?_) (fun c1 => ?_)
  · have hF := hF.1 c1
    refine lv_iconst (v := 0) hx hb dX2_has_16 (by decide) ?_
    exact hret 17 ls _ _ 0 () dX2_has_17 (by decide) hF hP hD hS
  · have hF := hF.2 c1
    refine lv_iload_n hx hb dX2_has_4 rfl (lv_at hl 1 rfl) ?_
    refine lv_aload_n hx hb dX2_has_5 rfl (lv_at hl 0 rfl) ?_
    refine va_get (D := G) (ci := 2) (v := .int v_t_many) (C := RX2) (T := TX2) (N := 4) hx hb hts (fun w h => List.mem_cons_of_mem _ (inG_2 w h)) hown hK hP 0 rfl rfl 3 (by decide) (hts _ (List.mem_cons_of_mem _ mw_1_154)) (fun _ h9 => h9) rfl dX2_has_6 ?_
    refine lv_icmp_ge (tgt := 16) hx hb dX2_has_9 (by decide) (fun c2 => ?_) (fun c2 => ?_)
    · have hF := hF.1 c2
      refine lv_iconst (v := 0) hx hb dX2_has_16 (by decide) ?_
      exact hret 17 ls _ _ 0 () dX2_has_17 (by decide) hF hP hD hS
    · have hF := hF.2 c2
      refine lv_iconst (v := 1) hx hb dX2_has_12 (by decide) ?_
      refine lv_goto (tgt := 17) hx hb dX2_has_13 (by decide) ?_
      exact hret 17 ls _ _ 1 () dX2_has_17 (by decide) hF hP hD hS

def rm_X2_triangleAt : Room := { frames := 0, cells := 0, slots := 0, locals := 0 }
def F_X2_triangleAt (p1 : Int32) (v_t_triangles : Nat → Int32) (post : Int32 → Prop) : Prop := (vp_in p1 128 ∧ post (v_t_triangles p1.toNatClampNeg))
set_option maxHeartbeats 8000000 in
set_option maxRecDepth 100000 in
theorem c_X2_triangleAt (l : Launch) (G : va_G) (cI cL cZ : ClassId) (h_t : Nat) (h_t_triangles : Nat) (h_t_far : Nat) (h_t_over : Nat) (v_t_triangles : Nat → Int32) (v_t_many : Int32) (p1 : Int32) (sz : Nat) (post : Int32 → Prop) (hF : F_X2_triangleAt p1 v_t_triangles post) : MetI l G (gT cI cL cZ) yX2_triangleAt (gW yX2_triangleAt cX2_triangleAt 2 (some .int)) rm_X2_triangleAt 0 0 [.ref h_t, .int p1] sz [(h_t, .inr (2, [.ref h_t_triangles, .ref h_t_far, .ref h_t_over, .int v_t_many])), (h_t_triangles, .inl (cI, 128, .inl v_t_triangles))] (fun (u : Unit) => [(h_t, .inr (2, [.ref h_t_triangles, .ref h_t_far, .ref h_t_over, .int v_t_many])), (h_t_triangles, .inl (cI, 128, .inl v_t_triangles))]) (fun (r : Int32) (u : Unit) => post r) := by
  refine startI (cc := cX2_triangleAt) (maxL := 2) (ty9 := .int) (by decide +kernel) rfl (Nat.le_of_ble_eq_true rfl) ?_
  intro p e s m args below meth c Q ls A C0 hP hD hS hl hret
  obtain ⟨hx, hb, hml, hown, hts, hnw, hK, hA, hin⟩ := C0
  have hown : s.vm.findClass RX2 = some m.cls := hown
  have hl : lv_has ls 2 [(0, .ref h_t), (1, .int p1)] := hl
  refine lv_aload_n hx hb dX2_triangleAt_0 rfl (lv_at hl 0 rfl) ?_
  refine va_get (D := G) (ci := 2) (v := .ref h_t_triangles) (C := RX2) (T := TX2) (N := 4) hx hb hts (fun w h => List.mem_cons_of_mem _ (inG_2 w h)) hown hK hP 0 rfl rfl 0 (by decide) (hts _ (List.mem_cons_of_mem _ mw_1_151)) (fun _ h9 => h9) rfl dX2_triangleAt_1 ?_
  refine lv_iload_n hx hb dX2_triangleAt_4 rfl (lv_at hl 1 rfl) ?_
  obtain ⟨b1, hF⟩ := hF
  refine va_iald hx hb hK hP 1 0 rfl rfl b1 dX2_triangleAt_5 ?_
  exact hret 6 ls _ _ (v_t_triangles p1.toNatClampNeg) () dX2_triangleAt_6 rfl hF hP hD hS

def rm_X11_crossing : Room := { frames := 1, cells := 0, slots := 0, locals := 21 }
def F_X11_crossing (p1 : Int32) (v_t_crossings_many : Int32) (v_t_crossings_triangles : Nat → Int32) (post : Int32 → Prop) : Prop := (F_X2_has p1 v_t_crossings_many (fun r1 => ((r1 = 0 → post (-1)) ∧ (¬ r1 = 0 → (F_X2_triangleAt p1 v_t_crossings_triangles (fun r3 => post r3))))))
set_option maxHeartbeats 8000000 in
set_option maxRecDepth 100000 in
theorem c_X11_crossing (l : Launch) (G : va_G) (cI cL cZ : ClassId) (h_t : Nat) (h_t_points : Nat) (h_t_mesh : Nat) (h_t_camera : Nat) (h_t_lamps : Nat) (h_t_tree : Nat) (h_t_crossings : Nat) (h_t_atHand : Nat) (h_t_view : Nat) (h_t_sight : Nat) (h_t_shade : Nat) (h_t_slope : Nat) (h_t_box : Nat) (h_t_marked : Nat) (h_t_crossings_triangles : Nat) (h_t_crossings_far : Nat) (h_t_crossings_over : Nat) (v_t_crossings_many : Int32) (v_t_crossings_triangles : Nat → Int32) (v_t_back : Int32) (p1 : Int32) (sz : Nat) (post : Int32 → Prop) (hF : F_X11_crossing p1 v_t_crossings_many v_t_crossings_triangles post) : MetI l G (gT cI cL cZ) yX11_crossing (gW yX11_crossing cX11_crossing 2 (some .int)) rm_X11_crossing 0 0 [.ref h_t, .int p1] sz [(h_t, .inr (11, [.ref h_t_points, .ref h_t_mesh, .ref h_t_camera, .ref h_t_lamps, .ref h_t_tree, .ref h_t_crossings, .ref h_t_atHand, .ref h_t_view, .ref h_t_sight, .ref h_t_shade, .ref h_t_slope, .ref h_t_box, .ref h_t_marked, .int v_t_back])), (h_t_crossings, .inr (2, [.ref h_t_crossings_triangles, .ref h_t_crossings_far, .ref h_t_crossings_over, .int v_t_crossings_many])), (h_t_crossings_triangles, .inl (cI, 128, .inl v_t_crossings_triangles))] (fun (u : Unit) => [(h_t, .inr (11, [.ref h_t_points, .ref h_t_mesh, .ref h_t_camera, .ref h_t_lamps, .ref h_t_tree, .ref h_t_crossings, .ref h_t_atHand, .ref h_t_view, .ref h_t_sight, .ref h_t_shade, .ref h_t_slope, .ref h_t_box, .ref h_t_marked, .int v_t_back])), (h_t_crossings, .inr (2, [.ref h_t_crossings_triangles, .ref h_t_crossings_far, .ref h_t_crossings_over, .int v_t_crossings_many])), (h_t_crossings_triangles, .inl (cI, 128, .inl v_t_crossings_triangles))]) (fun (r : Int32) (u : Unit) => post r) := by
  refine startI (cc := cX11_crossing) (maxL := 2) (ty9 := .int) (by decide +kernel) rfl (Nat.le_of_ble_eq_true rfl) ?_
  intro p e s m args below meth c Q ls A C0 hP hD hS hl hret
  obtain ⟨hx, hb, hml, hown, hts, hnw, hK, hA, hin⟩ := C0
  have hown : s.vm.findClass RX11 = some m.cls := hown
  have hl : lv_has ls 2 [(0, .ref h_t), (1, .int p1)] := hl
  refine lv_aload_n hx hb dX11_crossing_0 rfl (lv_at hl 0 rfl) ?_
  refine va_get (D := G) (ci := 11) (v := .ref h_t_crossings) (C := RX11) (T := TX11) (N := 14) hx hb hts (fun w h => List.mem_cons_of_mem _ (inG_11 w h)) hown hK hP 0 rfl rfl 5 (by decide) (hts _ (List.mem_cons_of_mem _ mw_2_46)) (fun _ h9 => h9) rfl dX11_crossing_1 ?_
  refine lv_iload_n hx hb dX11_crossing_4 rfl (lv_at hl 1 rfl) ?_
  refine afterI (wr := [(h_t, .inr (11, [.ref h_t_points, .ref h_t_mesh, .ref h_t_camera, .ref h_t_lamps, .ref h_t_tree, .ref h_t_crossings, .ref h_t_atHand, .ref h_t_view, .ref h_t_sight, .ref h_t_shade, .ref h_t_slope, .ref h_t_box, .ref h_t_marked, .int v_t_back])), (h_t_crossings_triangles, .inl (cI, 128, .inl v_t_crossings_triangles))]) (va_runV (As := [.int p1]) (rest := []) ⟨hx, hb, hml, hown, hts⟩ (c_X2_has l G cI cL cZ h_t_crossings h_t_crossings_triangles h_t_crossings_far h_t_crossings_over v_t_crossings_many p1 _ _ hF) (cwV 1 hts (gV mw_3_174 mw_3_175 mw_3_176 mw_1_7 mw_3_177) rfl rfl rfl (by decide +kernel) ⟨Nat.le_of_ble_eq_true rfl, Nat.le_of_ble_eq_true rfl⟩) ⟨gP_blind, va_recv hK hP (ci := 2) (q0 := 1) rfl rfl, gP_of hK hnw hP hD [1] (by decide +kernel) rfl rfl⟩ rfl rfl hl.1 rfl (lv_room (Nat.le_of_ble_eq_true rfl)) dX11_crossing_5 ⟨Nat.le_of_ble_eq_true rfl, Nat.le_of_ble_eq_true rfl⟩) hP hD hS hA [1] [0, 2] rfl rfl (by decide +kernel) (by decide +kernel) (fun r1 u H locs hF hP hD hS => ?_)
  try dsimp only at hF
  have hP : va_P G vwCl [(h_t, .inr (11, [.ref h_t_points, .ref h_t_mesh, .ref h_t_camera, .ref h_t_lamps, .ref h_t_tree, .ref h_t_crossings, .ref h_t_atHand, .ref h_t_view, .ref h_t_sight, .ref h_t_shade, .ref h_t_slope, .ref h_t_box, .ref h_t_marked, .int v_t_back])), (h_t_crossings_triangles, .inl (cI, 128, .inl v_t_crossings_triangles)), (h_t_crossings, .inr (2, [.ref h_t_crossings_triangles, .ref h_t_crossings_far, .ref h_t_crossings_over, .int v_t_crossings_many]))] H := hP
  have hD : va_D A [(h_t, .inr (11, [.ref h_t_points, .ref h_t_mesh, .ref h_t_camera, .ref h_t_lamps, .ref h_t_tree, .ref h_t_crossings, .ref h_t_atHand, .ref h_t_view, .ref h_t_sight, .ref h_t_shade, .ref h_t_slope, .ref h_t_box, .ref h_t_marked, .int v_t_back])), (h_t_crossings_triangles, .inl (cI, 128, .inl v_t_crossings_triangles)), (h_t_crossings, .inr (2, [.ref h_t_crossings_triangles, .ref h_t_crossings_far, .ref h_t_crossings_over, .int v_t_crossings_many]))] := hD
  refine lv_if_eq (tgt := 22) hx hb dX11_crossing_8 (by decide) (fun c2 => ?_) (fun c2 => ?_)
  · have hF := hF.1 c2
    refine lv_iconst (v := (-1)) hx hb dX11_crossing_22 (by decide) ?_
    exact hret 23 ls _ _ (-1) () dX11_crossing_23 rfl hF (hP.sub [0, 2, 1] rfl) (hD.sub [0, 2, 1] (by decide +kernel) rfl) hS
  · have hF := hF.2 c2
    refine lv_aload_n hx hb dX11_crossing_11 rfl (lv_at hl 0 rfl) ?_
    refine va_get (D := G) (ci := 11) (v := .ref h_t_crossings) (C := RX11) (T := TX11) (N := 14) hx hb hts (fun w h => List.mem_cons_of_mem _ (inG_11 w h)) hown hK hP 0 rfl rfl 5 (by decide) (hts _ (List.mem_cons_of_mem _ mw_2_46)) (fun _ h9 => h9) rfl dX11_crossing_12 ?_
    refine lv_iload_n hx hb dX11_crossing_15 rfl (lv_at hl 1 rfl) ?_
    refine afterI (wr := [(h_t, .inr (11, [.ref h_t_points, .ref h_t_mesh, .ref h_t_camera, .ref h_t_lamps, .ref h_t_tree, .ref h_t_crossings, .ref h_t_atHand, .ref h_t_view, .ref h_t_sight, .ref h_t_shade, .ref h_t_slope, .ref h_t_box, .ref h_t_marked, .int v_t_back]))]) (va_runV (As := [.int p1]) (rest := []) ⟨hx, hb, hml, hown, hts⟩ (c_X2_triangleAt l G cI cL cZ h_t_crossings h_t_crossings_triangles h_t_crossings_far h_t_crossings_over v_t_crossings_triangles v_t_crossings_many p1 _ _ hF) (cwV 1 hts (gV mw_3_178 mw_3_179 mw_3_180 mw_1_7 mw_3_181) rfl rfl rfl (by decide +kernel) ⟨Nat.le_of_ble_eq_true rfl, Nat.le_of_ble_eq_true rfl⟩) ⟨gP_blind, va_recv hK hP (ci := 2) (q0 := 2) rfl rfl, gP_of hK hnw hP hD [2, 1] (by decide +kernel) rfl rfl⟩ rfl rfl hl.1 rfl (lv_room (Nat.le_of_ble_eq_true rfl)) dX11_crossing_16 ⟨Nat.le_of_ble_eq_true rfl, Nat.le_of_ble_eq_true rfl⟩) hP hD hS hA [2, 1] [0] rfl rfl (by decide +kernel) (by decide +kernel) (fun r3 u H locs hF hP hD hS => ?_)
    try dsimp only at hF
    have hP : va_P G vwCl [(h_t, .inr (11, [.ref h_t_points, .ref h_t_mesh, .ref h_t_camera, .ref h_t_lamps, .ref h_t_tree, .ref h_t_crossings, .ref h_t_atHand, .ref h_t_view, .ref h_t_sight, .ref h_t_shade, .ref h_t_slope, .ref h_t_box, .ref h_t_marked, .int v_t_back])), (h_t_crossings, .inr (2, [.ref h_t_crossings_triangles, .ref h_t_crossings_far, .ref h_t_crossings_over, .int v_t_crossings_many])), (h_t_crossings_triangles, .inl (cI, 128, .inl v_t_crossings_triangles))] H := hP
    have hD : va_D A [(h_t, .inr (11, [.ref h_t_points, .ref h_t_mesh, .ref h_t_camera, .ref h_t_lamps, .ref h_t_tree, .ref h_t_crossings, .ref h_t_atHand, .ref h_t_view, .ref h_t_sight, .ref h_t_shade, .ref h_t_slope, .ref h_t_box, .ref h_t_marked, .int v_t_back])), (h_t_crossings, .inr (2, [.ref h_t_crossings_triangles, .ref h_t_crossings_far, .ref h_t_crossings_over, .int v_t_crossings_many])), (h_t_crossings_triangles, .inl (cI, 128, .inl v_t_crossings_triangles))] := hD
    refine lv_goto (tgt := 23) hx hb dX11_crossing_19 (by decide) ?_
    exact hret 23 ls _ _ r3 () dX11_crossing_23 rfl hF hP hD hS

def rm_X9_reachesBox : Room := { frames := 1, cells := 0, slots := 0, locals := 32 }
def J_X9_reachesBox_161 (k_14 : Int32 → Int64 → Int64 → Int64 → Int64 → Int32 → Prop) (v_t_bounds : Nat → Int32) (v_p1_from : Nat → Int64) (v_p1_along : Nat → Int64) (l2 : Int32) (l3 : Int64) (l5 : Int64) (l7 : Int64) (l9 : Int64) (l11 : Int32) (l20 : Int64) (l22 : Int64) : Prop := ((0 ≤ (lg_cmp (l20 * l9) (l7 * l22)) → (∀ x14 : Int32, x14 = (l11 + 1) → k_14 l2 l3 l5 l7 l9 x14)) ∧ (¬ 0 ≤ (lg_cmp (l20 * l9) (l7 * l22)) → (∀ x15 : Int32, x15 = (l11 + 1) → k_14 l2 l3 l5 l20 l22 x15)))
def J_X9_reachesBox_132 (k_14 : Int32 → Int64 → Int64 → Int64 → Int64 → Int32 → Prop) (v_t_bounds : Nat → Int32) (v_p1_from : Nat → Int64) (v_p1_along : Nat → Int64) (l2 : Int32) (l3 : Int64) (l5 : Int64) (l7 : Int64) (l9 : Int64) (l11 : Int32) (l16 : Int64) (l18 : Int64) (s0 : Int64) : Prop := (∀ x12 : Int64, x12 = (jabsL l16) → (((lg_cmp (l18 * l5) (l3 * x12)) ≤ 0 → J_X9_reachesBox_161 k_14 v_t_bounds v_p1_from v_p1_along l2 l3 l5 l7 l9 l11 s0 x12) ∧ (¬ (lg_cmp (l18 * l5) (l3 * x12)) ≤ 0 → J_X9_reachesBox_161 k_14 v_t_bounds v_p1_from v_p1_along l2 l18 x12 l7 l9 l11 s0 x12)))
def J_X9_reachesBox_115 (k_14 : Int32 → Int64 → Int64 → Int64 → Int64 → Int32 → Prop) (v_t_bounds : Nat → Int32) (v_p1_from : Nat → Int64) (v_p1_along : Nat → Int64) (l2 : Int32) (l3 : Int64) (l5 : Int64) (l7 : Int64) (l9 : Int64) (l11 : Int32) (l12 : Int64) (l14 : Int64) (l16 : Int64) (s0 : Int64) : Prop := (((lg_cmp l16 0) ≤ 0 → J_X9_reachesBox_132 k_14 v_t_bounds v_p1_from v_p1_along l2 l3 l5 l7 l9 l11 l16 s0 (-l12)) ∧ (¬ (lg_cmp l16 0) ≤ 0 → J_X9_reachesBox_132 k_14 v_t_bounds v_p1_from v_p1_along l2 l3 l5 l7 l9 l11 l16 s0 l14))
def L_X9_reachesBox_14 (post : Int32 → Prop) (v_t_bounds : Nat → Int32) (v_p1_from : Nat → Int64) (v_p1_along : Nat → Int64) : Nat → Int32 → Int64 → Int64 → Int64 → Int64 → Int32 → Prop
  | 0, _, _, _, _, _, _ => False
  | n_14 + 1, l2, l3, l5, l7, l9, l11 => ((3 ≤ l11 → ((0 < (lg_cmp (l3 * l9) (l7 * l5)) → post 0) ∧ (¬ 0 < (lg_cmp (l3 * l9) (l7 * l5)) → post 1))) ∧ (¬ 3 ≤ l11 → (vp_in ((6 * l2) + l11) 1530 ∧ (vp_in l11 3 ∧ (∀ x5 : Int64, x5 = (((v_t_bounds ((6 * l2) + l11).toNatClampNeg).toInt64) - (v_p1_from l11.toNatClampNeg)) → (vp_in (((6 * l2) + 3) + l11) 1530 ∧ (vp_in l11 3 ∧ (∀ x8 : Int64, x8 = (((v_t_bounds (((6 * l2) + 3) + l11).toNatClampNeg).toInt64) - (v_p1_from l11.toNatClampNeg)) → (vp_in l11 3 ∧ (∀ x10 : Int64, x10 = (v_p1_along l11.toNatClampNeg) → ((¬ (lg_cmp x10 0) = 0 → (((lg_cmp x10 0) ≤ 0 → J_X9_reachesBox_115 (L_X9_reachesBox_14 post v_t_bounds v_p1_from v_p1_along n_14) v_t_bounds v_p1_from v_p1_along l2 l3 l5 l7 l9 l11 x5 x8 x10 (-x8)) ∧ (¬ (lg_cmp x10 0) ≤ 0 → J_X9_reachesBox_115 (L_X9_reachesBox_14 post v_t_bounds v_p1_from v_p1_along n_14) v_t_bounds v_p1_from v_p1_along l2 l3 l5 l7 l9 l11 x5 x8 x10 x5))) ∧ ((lg_cmp x10 0) = 0 → ((0 < (lg_cmp x5 0) → post 0) ∧ (¬ 0 < (lg_cmp x5 0) → ((0 ≤ (lg_cmp x8 0) → (∀ x21 : Int32, x21 = (l11 + 1) → L_X9_reachesBox_14 post v_t_bounds v_p1_from v_p1_along n_14 l2 l3 l5 l7 l9 x21)) ∧ (¬ 0 ≤ (lg_cmp x8 0) → post 0))))))))))))))))
def F_X9_reachesBox (p2 : Int32) (v_t_bounds : Nat → Int32) (v_p1_from : Nat → Int64) (v_p1_along : Nat → Int64) (post : Int32 → Prop) : Prop := (∃ n0 : Nat, L_X9_reachesBox_14 post v_t_bounds v_p1_from v_p1_along n0 p2 0 1 1 0 0)
set_option maxHeartbeats 8000000 in
set_option maxRecDepth 100000 in
theorem c_X9_reachesBox (l : Launch) (G : va_G) (cI cL cZ : ClassId) (h_t : Nat) (h_t_order : Nat) (h_t_first : Nat) (h_t_many : Nat) (h_t_lower : Nat) (h_t_upper : Nat) (h_t_above : Nat) (h_t_bounds : Nat) (h_t_met : Nat) (h_p1 : Nat) (h_p1_from : Nat) (h_p1_along : Nat) (v_t_bounds : Nat → Int32) (v_p1_from : Nat → Int64) (v_p1_along : Nat → Int64) (v_t_nodes : Int32) (v_t_deepest : Int32) (v_p1_turn : Int64) (v_p1_far : Int64) (v_p1_over : Int64) (v_p1_weightA : Int64) (v_p1_weightB : Int64) (v_p1_weightC : Int64) (p2 : Int32) (sz : Nat) (post : Int32 → Prop) (hF : F_X9_reachesBox p2 v_t_bounds v_p1_from v_p1_along post) : MetI l G (gT cI cL cZ) yX9_reachesBox (gW yX9_reachesBox cX9_reachesBox 24 (some .boolean)) rm_X9_reachesBox 0 0 [.ref h_t, .ref h_p1, .int p2] sz [(h_t, .inr (9, [.ref h_t_order, .ref h_t_first, .ref h_t_many, .ref h_t_lower, .ref h_t_upper, .ref h_t_above, .ref h_t_bounds, .ref h_t_met, .int v_t_nodes, .int v_t_deepest])), (h_t_bounds, .inl (cI, 1530, .inl v_t_bounds)), (h_p1, .inr (7, [.ref h_p1_from, .ref h_p1_along, .long v_p1_turn, .long v_p1_far, .long v_p1_over, .long v_p1_weightA, .long v_p1_weightB, .long v_p1_weightC])), (h_p1_from, .inl (cL, 3, .inr (.inl v_p1_from))), (h_p1_along, .inl (cL, 3, .inr (.inl v_p1_along)))] (fun (u : Unit) => [(h_t, .inr (9, [.ref h_t_order, .ref h_t_first, .ref h_t_many, .ref h_t_lower, .ref h_t_upper, .ref h_t_above, .ref h_t_bounds, .ref h_t_met, .int v_t_nodes, .int v_t_deepest])), (h_t_bounds, .inl (cI, 1530, .inl v_t_bounds)), (h_p1, .inr (7, [.ref h_p1_from, .ref h_p1_along, .long v_p1_turn, .long v_p1_far, .long v_p1_over, .long v_p1_weightA, .long v_p1_weightB, .long v_p1_weightC])), (h_p1_from, .inl (cL, 3, .inr (.inl v_p1_from))), (h_p1_along, .inl (cL, 3, .inr (.inl v_p1_along)))]) (fun (r : Int32) (u : Unit) => post r) := by
  refine startI (cc := cX9_reachesBox) (maxL := 24) (ty9 := .boolean) (by decide +kernel) rfl (Nat.le_of_ble_eq_true rfl) ?_
  intro p e s m args below meth c Q ls A C0 hP hD hS hl hret
  obtain ⟨hx, hb, hml, hown, hts, hnw, hK, hA, hin⟩ := C0
  have hown : s.vm.findClass RX9 = some m.cls := hown
  have hl : lv_has ls 24 [(0, .ref h_t), (1, .ref h_p1), (2, .int p2)] := hl
  refine lv_lconst (v := 0) hx hb dX9_reachesBox_0 (by decide) ?_
  refine lv_lstore_n (lv' := [(3, .long 0), (0, .ref h_t), (1, .ref h_p1), (2, .int p2)]) hx hb dX9_reachesBox_1 rfl hl (by decide) rfl (fun ls hl => ?_)
  refine lv_lconst (v := 1) hx hb dX9_reachesBox_2 (by decide) ?_
  refine lv_lstore (lv' := [(5, .long 1), (3, .long 0), (0, .ref h_t), (1, .ref h_p1), (2, .int p2)]) hx hb dX9_reachesBox_3 hl (by decide) rfl (fun ls hl => ?_)
  refine lv_lconst (v := 1) hx hb dX9_reachesBox_5 (by decide) ?_
  refine lv_lstore (lv' := [(7, .long 1), (5, .long 1), (3, .long 0), (0, .ref h_t), (1, .ref h_p1), (2, .int p2)]) hx hb dX9_reachesBox_6 hl (by decide) rfl (fun ls hl => ?_)
  refine lv_lconst (v := 0) hx hb dX9_reachesBox_8 (by decide) ?_
  refine lv_lstore (lv' := [(9, .long 0), (7, .long 1), (5, .long 1), (3, .long 0), (0, .ref h_t), (1, .ref h_p1), (2, .int p2)]) hx hb dX9_reachesBox_9 hl (by decide) rfl (fun ls hl => ?_)
  refine lv_iconst (v := 0) hx hb dX9_reachesBox_11 (by decide) ?_
  refine lv_istore (lv' := [(11, .int 0), (9, .long 0), (7, .long 1), (5, .long 1), (3, .long 0), (0, .ref h_t), (1, .ref h_p1), (2, .int p2)]) hx hb dX9_reachesBox_12 hl (by decide) rfl (fun ls hl => ?_)
  have k_14 : ∀ (n_14 : Nat) (l2 : Int32) (l3 : Int64) (l5 : Int64) (l7 : Int64) (l9 : Int64) (l11 : Int32), L_X9_reachesBox_14 post v_t_bounds v_p1_from v_p1_along n_14 l2 l3 l5 l7 l9 l11 → ∀ (H : Heap) (locs : List Loc) (ls : Array Slot), va_P G vwCl [(h_t, .inr (9, [.ref h_t_order, .ref h_t_first, .ref h_t_many, .ref h_t_lower, .ref h_t_upper, .ref h_t_above, .ref h_t_bounds, .ref h_t_met, .int v_t_nodes, .int v_t_deepest])), (h_t_bounds, .inl (cI, 1530, .inl v_t_bounds)), (h_p1, .inr (7, [.ref h_p1_from, .ref h_p1_along, .long v_p1_turn, .long v_p1_far, .long v_p1_over, .long v_p1_weightA, .long v_p1_weightB, .long v_p1_weightC])), (h_p1_from, .inl (cL, 3, .inr (.inl v_p1_from))), (h_p1_along, .inl (cL, 3, .inr (.inl v_p1_along)))] H → va_D A [(h_t, .inr (9, [.ref h_t_order, .ref h_t_first, .ref h_t_many, .ref h_t_lower, .ref h_t_upper, .ref h_t_above, .ref h_t_bounds, .ref h_t_met, .int v_t_nodes, .int v_t_deepest])), (h_t_bounds, .inl (cI, 1530, .inl v_t_bounds)), (h_p1, .inr (7, [.ref h_p1_from, .ref h_p1_along, .long v_p1_turn, .long v_p1_far, .long v_p1_over, .long v_p1_weightA, .long v_p1_weightB, .long v_p1_weightC])), (h_p1_from, .inl (cL, 3, .inr (.inl v_p1_from))), (h_p1_along, .inl (cL, 3, .inr (.inl v_p1_along)))] → va_S A s.heap H locs → lv_has ls 24 [(0, .ref h_t), (1, .ref h_p1), (2, .int l2), (3, .long l3), (5, .long l5), (7, .long l7), (9, .long l9), (11, .int l11)] → W p l e rm_X9_reachesBox s m args below meth c H locs 0 0 Q (F0 m 14 ls []) := by
    intro n_14
    induction n_14 with
    | zero =>
      intro l2 l3 l5 l7 l9 l11 hF
      exact (show False from hF).elim
    | succ n_14 k_14 =>
      intro l2 l3 l5 l7 l9 l11 hF H locs ls hP hD hS hl
      refine lv_iload hx hb dX9_reachesBox_14 (lv_at hl 7 rfl) ?_
      refine lv_iconst (v := 3) hx hb dX9_reachesBox_16 (by decide) ?_
      refine lv_icmp_ge (tgt := 189) hx hb dX9_reachesBox_17 (by decide) (fun c1 => ?_) (fun c1 => ?_)
      · have hF := hF.1 c1
        refine lv_lload_n hx hb dX9_reachesBox_189 rfl (lv_at hl 3 rfl) ?_
        refine lv_lload hx hb dX9_reachesBox_190 (lv_at hl 6 rfl) ?_
        refine lv_lmul hx hb dX9_reachesBox_192 ?_
        refine lv_lload hx hb dX9_reachesBox_193 (lv_at hl 5 rfl) ?_
        refine lv_lload hx hb dX9_reachesBox_195 (lv_at hl 4 rfl) ?_
        refine lv_lmul hx hb dX9_reachesBox_197 ?_
        refine W.lcmp hx hb dX9_reachesBox_198 ?_
        refine lv_if_gt (tgt := 206) hx hb dX9_reachesBox_199 (by decide) (fun c2 => ?_) (fun c2 => ?_)
        · have hF := hF.1 c2
          refine lv_iconst (v := 0) hx hb dX9_reachesBox_206 (by decide) ?_
          exact hret 207 ls _ _ 0 () dX9_reachesBox_207 (by decide) hF hP hD hS
        · have hF := hF.2 c2
          refine lv_iconst (v := 1) hx hb dX9_reachesBox_202 (by decide) ?_
          refine lv_goto (tgt := 207) hx hb dX9_reachesBox_203 (by decide) ?_
          exact hret 207 ls _ _ 1 () dX9_reachesBox_207 (by decide) hF hP hD hS
      · have hF := hF.2 c1
        refine lv_aload_n hx hb dX9_reachesBox_20 rfl (lv_at hl 0 rfl) ?_
        refine va_get (D := G) (ci := 9) (v := .ref h_t_bounds) (C := RX9) (T := TX9) (N := 10) hx hb hts (fun w h => List.mem_cons_of_mem _ (inG_9 w h)) hown hK hP 0 rfl rfl 6 (by decide) (hts _ (List.mem_cons_of_mem _ mw_1_119)) (fun _ h9 => h9) rfl dX9_reachesBox_21 ?_
        refine lv_bipush (v := 6) hx hb dX9_reachesBox_24 (by decide) ?_
        refine lv_iload_n hx hb dX9_reachesBox_26 rfl (lv_at hl 2 rfl) ?_
        refine lv_imul hx hb dX9_reachesBox_27 ?_
        refine lv_iload hx hb dX9_reachesBox_28 (lv_at hl 7 rfl) ?_
        refine lv_iadd hx hb dX9_reachesBox_30 ?_
        obtain ⟨b3, hF⟩ := hF
        refine va_iald hx hb hK hP 1 0 rfl rfl b3 dX9_reachesBox_31 ?_
        refine lv_i2l (v := (v_t_bounds ((6 * l2) + l11).toNatClampNeg).toInt64) hx hb dX9_reachesBox_32 rfl ?_
        refine lv_aload_n hx hb dX9_reachesBox_33 rfl (lv_at hl 1 rfl) ?_
        refine va_getN (D := G) (ci := 7) (v := .ref h_p1_from) (C := RX7) (T := TX7) (N := 8) hx hb hts (fun w h => List.mem_cons_of_mem _ (inG_7 w h)) hown hK hP 2 rfl rfl 0 (by decide) (va_Nw.use rfl (hnw (.fieldLinkNest RX9 108 "RayRoom$Ray" "from" "[J" "RayRoom") (by decide +kernel))) (fun _ h9 => h9) rfl dX9_reachesBox_34 ?_
        refine lv_iload hx hb dX9_reachesBox_37 (lv_at hl 7 rfl) ?_
        obtain ⟨b4, hF⟩ := hF
        refine va_lald hx hb hK hP 3 1 rfl rfl b4 dX9_reachesBox_39 ?_
        refine lv_lsub hx hb dX9_reachesBox_40 ?_
        refine lv_topl (fun x5 ex5 => ?_)
        have hF := hF x5 ex5
        refine lv_lstore (lv' := [(12, .long x5), (0, .ref h_t), (1, .ref h_p1), (2, .int l2), (3, .long l3), (5, .long l5), (7, .long l7), (9, .long l9), (11, .int l11)]) hx hb dX9_reachesBox_41 hl (by decide) rfl (fun ls hl => ?_)
        refine lv_aload_n hx hb dX9_reachesBox_43 rfl (lv_at hl 1 rfl) ?_
        refine va_get (D := G) (ci := 9) (v := .ref h_t_bounds) (C := RX9) (T := TX9) (N := 10) hx hb hts (fun w h => List.mem_cons_of_mem _ (inG_9 w h)) hown hK hP 0 rfl rfl 6 (by decide) (hts _ (List.mem_cons_of_mem _ mw_1_119)) (fun _ h9 => h9) rfl dX9_reachesBox_44 ?_
        refine lv_bipush (v := 6) hx hb dX9_reachesBox_47 (by decide) ?_
        refine lv_iload_n hx hb dX9_reachesBox_49 rfl (lv_at hl 3 rfl) ?_
        refine lv_imul hx hb dX9_reachesBox_50 ?_
        refine lv_iconst (v := 3) hx hb dX9_reachesBox_51 (by decide) ?_
        refine lv_iadd hx hb dX9_reachesBox_52 ?_
        refine lv_iload hx hb dX9_reachesBox_53 (lv_at hl 8 rfl) ?_
        refine lv_iadd hx hb dX9_reachesBox_55 ?_
        obtain ⟨b6, hF⟩ := hF
        refine va_iald hx hb hK hP 1 0 rfl rfl b6 dX9_reachesBox_56 ?_
        refine lv_i2l (v := (v_t_bounds (((6 * l2) + 3) + l11).toNatClampNeg).toInt64) hx hb dX9_reachesBox_57 rfl ?_
        refine lv_aload_n hx hb dX9_reachesBox_58 rfl (lv_at hl 2 rfl) ?_
        refine va_getN (D := G) (ci := 7) (v := .ref h_p1_from) (C := RX7) (T := TX7) (N := 8) hx hb hts (fun w h => List.mem_cons_of_mem _ (inG_7 w h)) hown hK hP 2 rfl rfl 0 (by decide) (va_Nw.use rfl (hnw (.fieldLinkNest RX9 108 "RayRoom$Ray" "from" "[J" "RayRoom") (by decide +kernel))) (fun _ h9 => h9) rfl dX9_reachesBox_59 ?_
        refine lv_iload hx hb dX9_reachesBox_62 (lv_at hl 8 rfl) ?_
        obtain ⟨b7, hF⟩ := hF
        refine va_lald hx hb hK hP 3 1 rfl rfl b7 dX9_reachesBox_64 ?_
        refine lv_lsub hx hb dX9_reachesBox_65 ?_
        refine lv_topl (fun x8 ex8 => ?_)
        have hF := hF x8 ex8
        refine lv_lstore (lv' := [(14, .long x8), (12, .long x5), (0, .ref h_t), (1, .ref h_p1), (2, .int l2), (3, .long l3), (5, .long l5), (7, .long l7), (9, .long l9), (11, .int l11)]) hx hb dX9_reachesBox_66 hl (by decide) rfl (fun ls hl => ?_)
        refine lv_aload_n hx hb dX9_reachesBox_68 rfl (lv_at hl 3 rfl) ?_
        refine va_getN (D := G) (ci := 7) (v := .ref h_p1_along) (C := RX7) (T := TX7) (N := 8) hx hb hts (fun w h => List.mem_cons_of_mem _ (inG_7 w h)) hown hK hP 2 rfl rfl 1 (by decide) (va_Nw.use rfl (hnw (.fieldLinkNest RX9 98 "RayRoom$Ray" "along" "[J" "RayRoom") (by decide +kernel))) (fun _ h9 => h9) rfl dX9_reachesBox_69 ?_
        refine lv_iload hx hb dX9_reachesBox_72 (lv_at hl 9 rfl) ?_
        obtain ⟨b9, hF⟩ := hF
        refine va_lald hx hb hK hP 4 1 rfl rfl b9 dX9_reachesBox_74 ?_
        refine lv_topl (fun x10 ex10 => ?_)
        have hF := hF x10 ex10
        refine lv_lstore (lv' := [(16, .long x10), (14, .long x8), (12, .long x5), (0, .ref h_t), (1, .ref h_p1), (2, .int l2), (3, .long l3), (5, .long l5), (7, .long l7), (9, .long l9), (11, .int l11)]) hx hb dX9_reachesBox_75 hl (by decide) rfl (fun ls hl => ?_)
        refine lv_lload hx hb dX9_reachesBox_77 (lv_at hl 0 rfl) ?_
        refine lv_lconst (v := 0) hx hb dX9_reachesBox_79 (by decide) ?_
        refine W.lcmp hx hb dX9_reachesBox_80 ?_
        refine lv_if_ne (tgt := 100) hx hb dX9_reachesBox_81 (by decide) (fun c11 => ?_) (fun c11 => ?_)
        · have hF := hF.1 c11
          refine lv_lload hx hb dX9_reachesBox_100 (lv_at hl 0 rfl) ?_
          refine lv_lconst (v := 0) hx hb dX9_reachesBox_102 (by decide) ?_
          refine W.lcmp hx hb dX9_reachesBox_103 ?_
          have k_115 : ∀ (l2 : Int32) (l3 : Int64) (l5 : Int64) (l7 : Int64) (l9 : Int64) (l11 : Int32) (l12 : Int64) (l14 : Int64) (l16 : Int64) (s0 : Int64), J_X9_reachesBox_115 (L_X9_reachesBox_14 post v_t_bounds v_p1_from v_p1_along n_14) v_t_bounds v_p1_from v_p1_along l2 l3 l5 l7 l9 l11 l12 l14 l16 s0 → ∀ (H : Heap) (locs : List Loc) (ls : Array Slot), va_P G vwCl [(h_t, .inr (9, [.ref h_t_order, .ref h_t_first, .ref h_t_many, .ref h_t_lower, .ref h_t_upper, .ref h_t_above, .ref h_t_bounds, .ref h_t_met, .int v_t_nodes, .int v_t_deepest])), (h_t_bounds, .inl (cI, 1530, .inl v_t_bounds)), (h_p1, .inr (7, [.ref h_p1_from, .ref h_p1_along, .long v_p1_turn, .long v_p1_far, .long v_p1_over, .long v_p1_weightA, .long v_p1_weightB, .long v_p1_weightC])), (h_p1_from, .inl (cL, 3, .inr (.inl v_p1_from))), (h_p1_along, .inl (cL, 3, .inr (.inl v_p1_along)))] H → va_D A [(h_t, .inr (9, [.ref h_t_order, .ref h_t_first, .ref h_t_many, .ref h_t_lower, .ref h_t_upper, .ref h_t_above, .ref h_t_bounds, .ref h_t_met, .int v_t_nodes, .int v_t_deepest])), (h_t_bounds, .inl (cI, 1530, .inl v_t_bounds)), (h_p1, .inr (7, [.ref h_p1_from, .ref h_p1_along, .long v_p1_turn, .long v_p1_far, .long v_p1_over, .long v_p1_weightA, .long v_p1_weightB, .long v_p1_weightC])), (h_p1_from, .inl (cL, 3, .inr (.inl v_p1_from))), (h_p1_along, .inl (cL, 3, .inr (.inl v_p1_along)))] → va_S A s.heap H locs → lv_has ls 24 [(0, .ref h_t), (1, .ref h_p1), (2, .int l2), (3, .long l3), (5, .long l5), (7, .long l7), (9, .long l9), (11, .int l11), (12, .long l12), (14, .long l14), (16, .long l16)] → W p l e rm_X9_reachesBox s m args below meth c H locs 0 0 Q (F0 m 115 ls [.long s0]) := by
            intro l2 l3 l5 l7 l9 l11 l12 l14 l16 s0 hF H locs ls hP hD hS hl
            refine lv_lstore (lv' := [(18, .long s0), (0, .ref h_t), (1, .ref h_p1), (2, .int l2), (3, .long l3), (5, .long l5), (7, .long l7), (9, .long l9), (11, .int l11), (12, .long l12), (14, .long l14), (16, .long l16)]) hx hb dX9_reachesBox_115 hl (by decide) rfl (fun ls hl => ?_)
            refine lv_lload hx hb dX9_reachesBox_117 (lv_at hl 11 rfl) ?_
            refine lv_lconst (v := 0) hx hb dX9_reachesBox_119 (by decide) ?_
            refine W.lcmp hx hb dX9_reachesBox_120 ?_
            have k_132 : ∀ (l2 : Int32) (l3 : Int64) (l5 : Int64) (l7 : Int64) (l9 : Int64) (l11 : Int32) (l16 : Int64) (l18 : Int64) (s0 : Int64), J_X9_reachesBox_132 (L_X9_reachesBox_14 post v_t_bounds v_p1_from v_p1_along n_14) v_t_bounds v_p1_from v_p1_along l2 l3 l5 l7 l9 l11 l16 l18 s0 → ∀ (H : Heap) (locs : List Loc) (ls : Array Slot), va_P G vwCl [(h_t, .inr (9, [.ref h_t_order, .ref h_t_first, .ref h_t_many, .ref h_t_lower, .ref h_t_upper, .ref h_t_above, .ref h_t_bounds, .ref h_t_met, .int v_t_nodes, .int v_t_deepest])), (h_t_bounds, .inl (cI, 1530, .inl v_t_bounds)), (h_p1, .inr (7, [.ref h_p1_from, .ref h_p1_along, .long v_p1_turn, .long v_p1_far, .long v_p1_over, .long v_p1_weightA, .long v_p1_weightB, .long v_p1_weightC])), (h_p1_from, .inl (cL, 3, .inr (.inl v_p1_from))), (h_p1_along, .inl (cL, 3, .inr (.inl v_p1_along)))] H → va_D A [(h_t, .inr (9, [.ref h_t_order, .ref h_t_first, .ref h_t_many, .ref h_t_lower, .ref h_t_upper, .ref h_t_above, .ref h_t_bounds, .ref h_t_met, .int v_t_nodes, .int v_t_deepest])), (h_t_bounds, .inl (cI, 1530, .inl v_t_bounds)), (h_p1, .inr (7, [.ref h_p1_from, .ref h_p1_along, .long v_p1_turn, .long v_p1_far, .long v_p1_over, .long v_p1_weightA, .long v_p1_weightB, .long v_p1_weightC])), (h_p1_from, .inl (cL, 3, .inr (.inl v_p1_from))), (h_p1_along, .inl (cL, 3, .inr (.inl v_p1_along)))] → va_S A s.heap H locs → lv_has ls 24 [(0, .ref h_t), (1, .ref h_p1), (2, .int l2), (3, .long l3), (5, .long l5), (7, .long l7), (9, .long l9), (11, .int l11), (16, .long l16), (18, .long l18)] → W p l e rm_X9_reachesBox s m args below meth c H locs 0 0 Q (F0 m 132 ls [.long s0]) := by
              intro l2 l3 l5 l7 l9 l11 l16 l18 s0 hF H locs ls hP hD hS hl
              refine lv_lstore (lv' := [(20, .long s0), (0, .ref h_t), (1, .ref h_p1), (2, .int l2), (3, .long l3), (5, .long l5), (7, .long l7), (9, .long l9), (11, .int l11), (16, .long l16), (18, .long l18)]) hx hb dX9_reachesBox_132 hl (by decide) rfl (fun ls hl => ?_)
              refine lv_lload hx hb dX9_reachesBox_134 (lv_at hl 9 rfl) ?_
              refine va_mabs_long hx hb (by rw [hml]; exact hl.1.symm) hown (hts _ (List.mem_cons_of_mem _ mw_3_194)) (hts _ (List.mem_cons_of_mem _ mw_2_175)) (hts _ (List.mem_cons_of_mem _ mw_1_15)) (hts _ (List.mem_cons_of_mem _ mw_2_176)) (Nat.le_of_ble_eq_true rfl) (Nat.le_of_ble_eq_true rfl) (Nat.le_of_ble_eq_true rfl) (Nat.le_of_ble_eq_true rfl) dX9_reachesBox_136 ?_
              refine W.eq (g2 := F0 m 139 ls (.long (jabsL l16) :: [])) rfl ?_
              refine lv_topl (fun x12 ex12 => ?_)
              have hF := hF x12 ex12
              refine lv_lstore (lv' := [(22, .long x12), (20, .long s0), (0, .ref h_t), (1, .ref h_p1), (2, .int l2), (3, .long l3), (5, .long l5), (7, .long l7), (9, .long l9), (11, .int l11), (16, .long l16), (18, .long l18)]) hx hb dX9_reachesBox_139 hl (by decide) rfl (fun ls hl => ?_)
              refine lv_lload hx hb dX9_reachesBox_141 (lv_at hl 11 rfl) ?_
              refine lv_lload hx hb dX9_reachesBox_143 (lv_at hl 6 rfl) ?_
              refine lv_lmul hx hb dX9_reachesBox_145 ?_
              refine lv_lload_n hx hb dX9_reachesBox_146 rfl (lv_at hl 5 rfl) ?_
              refine lv_lload hx hb dX9_reachesBox_147 (lv_at hl 0 rfl) ?_
              refine lv_lmul hx hb dX9_reachesBox_149 ?_
              refine W.lcmp hx hb dX9_reachesBox_150 ?_
              have k_161 : ∀ (l2 : Int32) (l3 : Int64) (l5 : Int64) (l7 : Int64) (l9 : Int64) (l11 : Int32) (l20 : Int64) (l22 : Int64), J_X9_reachesBox_161 (L_X9_reachesBox_14 post v_t_bounds v_p1_from v_p1_along n_14) v_t_bounds v_p1_from v_p1_along l2 l3 l5 l7 l9 l11 l20 l22 → ∀ (H : Heap) (locs : List Loc) (ls : Array Slot), va_P G vwCl [(h_t, .inr (9, [.ref h_t_order, .ref h_t_first, .ref h_t_many, .ref h_t_lower, .ref h_t_upper, .ref h_t_above, .ref h_t_bounds, .ref h_t_met, .int v_t_nodes, .int v_t_deepest])), (h_t_bounds, .inl (cI, 1530, .inl v_t_bounds)), (h_p1, .inr (7, [.ref h_p1_from, .ref h_p1_along, .long v_p1_turn, .long v_p1_far, .long v_p1_over, .long v_p1_weightA, .long v_p1_weightB, .long v_p1_weightC])), (h_p1_from, .inl (cL, 3, .inr (.inl v_p1_from))), (h_p1_along, .inl (cL, 3, .inr (.inl v_p1_along)))] H → va_D A [(h_t, .inr (9, [.ref h_t_order, .ref h_t_first, .ref h_t_many, .ref h_t_lower, .ref h_t_upper, .ref h_t_above, .ref h_t_bounds, .ref h_t_met, .int v_t_nodes, .int v_t_deepest])), (h_t_bounds, .inl (cI, 1530, .inl v_t_bounds)), (h_p1, .inr (7, [.ref h_p1_from, .ref h_p1_along, .long v_p1_turn, .long v_p1_far, .long v_p1_over, .long v_p1_weightA, .long v_p1_weightB, .long v_p1_weightC])), (h_p1_from, .inl (cL, 3, .inr (.inl v_p1_from))), (h_p1_along, .inl (cL, 3, .inr (.inl v_p1_along)))] → va_S A s.heap H locs → lv_has ls 24 [(0, .ref h_t), (1, .ref h_p1), (2, .int l2), (3, .long l3), (5, .long l5), (7, .long l7), (9, .long l9), (11, .int l11), (20, .long l20), (22, .long l22)] → W p l e rm_X9_reachesBox s m args below meth c H locs 0 0 Q (F0 m 161 ls []) := by
                intro l2 l3 l5 l7 l9 l11 l20 l22 hF H locs ls hP hD hS hl
                refine lv_lload hx hb dX9_reachesBox_161 (lv_at hl 8 rfl) ?_
                refine lv_lload hx hb dX9_reachesBox_163 (lv_at hl 6 rfl) ?_
                refine lv_lmul hx hb dX9_reachesBox_165 ?_
                refine lv_lload hx hb dX9_reachesBox_166 (lv_at hl 5 rfl) ?_
                refine lv_lload hx hb dX9_reachesBox_168 (lv_at hl 9 rfl) ?_
                refine lv_lmul hx hb dX9_reachesBox_170 ?_
                refine W.lcmp hx hb dX9_reachesBox_171 ?_
                refine lv_if_ge (tgt := 183) hx hb dX9_reachesBox_172 (by decide) (fun c13 => ?_) (fun c13 => ?_)
                · have hF := hF.1 c13
                  obtain ⟨x14, ex14⟩ : ∃ z : Int32, z = (l11 + 1) := ⟨_, rfl⟩
                  have hF := hF x14 ex14
                  refine lv_iinc (v := x14) (lv' := [(11, .int x14), (0, .ref h_t), (1, .ref h_p1), (2, .int l2), (3, .long l3), (5, .long l5), (7, .long l7), (9, .long l9), (20, .long l20), (22, .long l22)]) hx hb dX9_reachesBox_183 hl (k := 7) rfl (by rw [ex14]; rfl) (by decide) rfl (fun ls hl => ?_)
                  refine lv_goto (tgt := 14) hx hb dX9_reachesBox_186 (by decide) ?_
                  exact k_14 l2 l3 l5 l7 l9 x14 hF _ _ ls hP hD hS (lv_sub hl [1, 2, 3, 4, 5, 6, 7, 0] rfl)
                · have hF := hF.2 c13
                  refine lv_lload hx hb dX9_reachesBox_175 (lv_at hl 8 rfl) ?_
                  refine lv_lstore (lv' := [(7, .long l20), (0, .ref h_t), (1, .ref h_p1), (2, .int l2), (3, .long l3), (5, .long l5), (9, .long l9), (11, .int l11), (20, .long l20), (22, .long l22)]) hx hb dX9_reachesBox_177 hl (by decide) rfl (fun ls hl => ?_)
                  refine lv_lload hx hb dX9_reachesBox_179 (lv_at hl 9 rfl) ?_
                  refine lv_lstore (lv' := [(9, .long l22), (7, .long l20), (0, .ref h_t), (1, .ref h_p1), (2, .int l2), (3, .long l3), (5, .long l5), (11, .int l11), (20, .long l20), (22, .long l22)]) hx hb dX9_reachesBox_181 hl (by decide) rfl (fun ls hl => ?_)
                  obtain ⟨x15, ex15⟩ : ∃ z : Int32, z = (l11 + 1) := ⟨_, rfl⟩
                  have hF := hF x15 ex15
                  refine lv_iinc (v := x15) (lv' := [(11, .int x15), (9, .long l22), (7, .long l20), (0, .ref h_t), (1, .ref h_p1), (2, .int l2), (3, .long l3), (5, .long l5), (20, .long l20), (22, .long l22)]) hx hb dX9_reachesBox_183 hl (k := 7) rfl (by rw [ex15]; rfl) (by decide) rfl (fun ls hl => ?_)
                  refine lv_goto (tgt := 14) hx hb dX9_reachesBox_186 (by decide) ?_
                  exact k_14 l2 l3 l5 l20 l22 x15 hF _ _ ls hP hD hS (lv_sub hl [3, 4, 5, 6, 7, 2, 1, 0] rfl)
              refine lv_if_le (tgt := 161) hx hb dX9_reachesBox_151 (by decide) (fun c16 => ?_) (fun c16 => ?_)
              · have hF := hF.1 c16
                exact k_161 l2 l3 l5 l7 l9 l11 s0 x12 hF _ _ ls hP hD hS (lv_sub hl [2, 3, 4, 5, 6, 7, 8, 9, 1, 0] rfl)
              · have hF := hF.2 c16
                refine lv_lload hx hb dX9_reachesBox_154 (lv_at hl 11 rfl) ?_
                refine lv_lstore_n (lv' := [(3, .long l18), (22, .long x12), (20, .long s0), (0, .ref h_t), (1, .ref h_p1), (2, .int l2), (5, .long l5), (7, .long l7), (9, .long l9), (11, .int l11), (16, .long l16), (18, .long l18)]) hx hb dX9_reachesBox_156 rfl hl (by decide) rfl (fun ls hl => ?_)
                refine lv_lload hx hb dX9_reachesBox_157 (lv_at hl 1 rfl) ?_
                refine lv_lstore (lv' := [(5, .long x12), (3, .long l18), (22, .long x12), (20, .long s0), (0, .ref h_t), (1, .ref h_p1), (2, .int l2), (7, .long l7), (9, .long l9), (11, .int l11), (16, .long l16), (18, .long l18)]) hx hb dX9_reachesBox_159 hl (by decide) rfl (fun ls hl => ?_)
                exact k_161 l2 l18 x12 l7 l9 l11 s0 x12 hF _ _ ls hP hD hS (lv_sub hl [4, 5, 6, 1, 0, 7, 8, 9, 3, 2] rfl)
            refine lv_if_le (tgt := 129) hx hb dX9_reachesBox_121 (by decide) (fun c17 => ?_) (fun c17 => ?_)
            · have hF := hF.1 c17
              refine lv_lload hx hb dX9_reachesBox_129 (lv_at hl 9 rfl) ?_
              refine lv_lneg hx hb dX9_reachesBox_131 ?_
              exact k_132 l2 l3 l5 l7 l9 l11 l16 s0 (-l12) hF _ _ ls hP hD hS (lv_sub hl [1, 2, 3, 4, 5, 6, 7, 8, 11, 0] rfl)
            · have hF := hF.2 c17
              refine lv_lload hx hb dX9_reachesBox_124 (lv_at hl 10 rfl) ?_
              refine lv_goto (tgt := 132) hx hb dX9_reachesBox_126 (by decide) ?_
              exact k_132 l2 l3 l5 l7 l9 l11 l16 s0 l14 hF _ _ ls hP hD hS (lv_sub hl [1, 2, 3, 4, 5, 6, 7, 8, 11, 0] rfl)
          refine lv_if_le (tgt := 112) hx hb dX9_reachesBox_104 (by decide) (fun c18 => ?_) (fun c18 => ?_)
          · have hF := hF.1 c18
            refine lv_lload hx hb dX9_reachesBox_112 (lv_at hl 1 rfl) ?_
            refine lv_lneg hx hb dX9_reachesBox_114 ?_
            exact k_115 l2 l3 l5 l7 l9 l11 x5 x8 x10 (-x8) hF _ _ ls hP hD hS (lv_sub hl [3, 4, 5, 6, 7, 8, 9, 10, 2, 1, 0] rfl)
          · have hF := hF.2 c18
            refine lv_lload hx hb dX9_reachesBox_107 (lv_at hl 2 rfl) ?_
            refine lv_goto (tgt := 115) hx hb dX9_reachesBox_109 (by decide) ?_
            exact k_115 l2 l3 l5 l7 l9 l11 x5 x8 x10 x5 hF _ _ ls hP hD hS (lv_sub hl [3, 4, 5, 6, 7, 8, 9, 10, 2, 1, 0] rfl)
        · have hF := hF.2 c11
          refine lv_lload hx hb dX9_reachesBox_84 (lv_at hl 2 rfl) ?_
          refine lv_lconst (v := 0) hx hb dX9_reachesBox_86 (by decide) ?_
          refine W.lcmp hx hb dX9_reachesBox_87 ?_
          refine lv_if_gt (tgt := 98) hx hb dX9_reachesBox_88 (by decide) (fun c19 => ?_) (fun c19 => ?_)
          · have hF := hF.1 c19
            refine lv_iconst (v := 0) hx hb dX9_reachesBox_98 (by decide) ?_
            exact hret 99 ls _ _ 0 () dX9_reachesBox_99 (by decide) hF hP hD hS
          · have hF := hF.2 c19
            refine lv_lload hx hb dX9_reachesBox_91 (lv_at hl 1 rfl) ?_
            refine lv_lconst (v := 0) hx hb dX9_reachesBox_93 (by decide) ?_
            refine W.lcmp hx hb dX9_reachesBox_94 ?_
            refine lv_if_ge (tgt := 183) hx hb dX9_reachesBox_95 (by decide) (fun c20 => ?_) (fun c20 => ?_)
            · have hF := hF.1 c20
              obtain ⟨x21, ex21⟩ : ∃ z : Int32, z = (l11 + 1) := ⟨_, rfl⟩
              have hF := hF x21 ex21
              refine lv_iinc (v := x21) (lv' := [(11, .int x21), (16, .long x10), (14, .long x8), (12, .long x5), (0, .ref h_t), (1, .ref h_p1), (2, .int l2), (3, .long l3), (5, .long l5), (7, .long l7), (9, .long l9)]) hx hb dX9_reachesBox_183 hl (k := 10) rfl (by rw [ex21]; rfl) (by decide) rfl (fun ls hl => ?_)
              refine lv_goto (tgt := 14) hx hb dX9_reachesBox_186 (by decide) ?_
              exact k_14 l2 l3 l5 l7 l9 x21 hF _ _ ls hP hD hS (lv_sub hl [4, 5, 6, 7, 8, 9, 10, 0] rfl)
            · have hF := hF.2 c20
              refine lv_iconst (v := 0) hx hb dX9_reachesBox_98 (by decide) ?_
              exact hret 99 ls _ _ 0 () dX9_reachesBox_99 (by decide) hF hP hD hS
  obtain ⟨n0, hF⟩ := hF
  exact k_14 n0 p2 0 1 1 0 0 hF _ _ ls hP hD hS (lv_sub hl [5, 6, 7, 4, 3, 2, 1, 0] rfl)

def rm_X9_follow : Room := { frames := 2, cells := 0, slots := 0, locals := 75 }
def J_X9_follow_99 (k_41 : Int32 → Int32 → (Nat → Int32) → Prop) (v_t_nodes : Int32) (v_t_above : Nat → Int32) (v_t_bounds : Nat → Int32) (v_p1_from : Nat → Int64) (v_p1_along : Nat → Int64) (l2 : Int32) (l3 : Int32) (s1 : Int32) (s2 : Int32) (v_t_met : Nat → Int32) : Prop := (vp_in s1 255 ∧ (∀ g5 : Nat → Int32, g5 = upd v_t_met (s1.toNatClampNeg) (vp_nar .boolean s2) → (∀ x6 : Int32, x6 = (l3 + 1) → k_41 l2 x6 g5)))
def J_X9_follow_98 (k_99 : Int32 → Int32 → Int32 → Int32 → (Nat → Int32) → Prop) (v_t_nodes : Int32) (v_t_above : Nat → Int32) (v_t_bounds : Nat → Int32) (v_p1_from : Nat → Int64) (v_p1_along : Nat → Int64) (l2 : Int32) (l3 : Int32) (s1 : Int32) (v_t_met : Nat → Int32) : Prop := k_99 l2 l3 s1 0 v_t_met
def J_X9_follow_73 (k_41 : Int32 → Int32 → (Nat → Int32) → Prop) (v_t_nodes : Int32) (v_t_above : Nat → Int32) (v_t_bounds : Nat → Int32) (v_p1_from : Nat → Int64) (v_p1_along : Nat → Int64) (l2 : Int32) (l3 : Int32) (s0 : Int32) (v_t_met : Nat → Int32) : Prop := ((s0 = 0 → J_X9_follow_98 (J_X9_follow_99 k_41 v_t_nodes v_t_above v_t_bounds v_p1_from v_p1_along) v_t_nodes v_t_above v_t_bounds v_p1_from v_p1_along l2 l3 l3 v_t_met) ∧ (¬ s0 = 0 → (F_X9_reachesBox l3 v_t_bounds v_p1_from v_p1_along (fun r8 => ((r8 = 0 → J_X9_follow_98 (J_X9_follow_99 k_41 v_t_nodes v_t_above v_t_bounds v_p1_from v_p1_along) v_t_nodes v_t_above v_t_bounds v_p1_from v_p1_along l2 l3 l3 v_t_met) ∧ (¬ r8 = 0 → J_X9_follow_99 k_41 v_t_nodes v_t_above v_t_bounds v_p1_from v_p1_along l2 l3 l3 1 v_t_met))))))
def L_X9_follow_41 (post : (Nat → Int32) → Prop) (v_t_nodes : Int32) (v_t_above : Nat → Int32) (v_t_bounds : Nat → Int32) (v_p1_from : Nat → Int64) (v_p1_along : Nat → Int64) : Nat → Int32 → Int32 → (Nat → Int32) → Prop
  | 0, _, _, _ => False
  | n_41 + 1, l2, l3, v_t_met => ((v_t_nodes ≤ l3 → post v_t_met) ∧ (¬ v_t_nodes ≤ l3 → (vp_in l3 255 ∧ ((0 ≤ (v_t_above l3.toNatClampNeg) → (vp_in l3 255 ∧ (vp_in (v_t_above l3.toNatClampNeg) 255 ∧ J_X9_follow_73 (L_X9_follow_41 post v_t_nodes v_t_above v_t_bounds v_p1_from v_p1_along n_41) v_t_nodes v_t_above v_t_bounds v_p1_from v_p1_along l2 l3 (v_t_met (v_t_above l3.toNatClampNeg).toNatClampNeg) v_t_met))) ∧ (¬ 0 ≤ (v_t_above l3.toNatClampNeg) → J_X9_follow_73 (L_X9_follow_41 post v_t_nodes v_t_above v_t_bounds v_p1_from v_p1_along n_41) v_t_nodes v_t_above v_t_bounds v_p1_from v_p1_along l2 l3 l2 v_t_met)))))
def J_X9_follow_38 (post : (Nat → Int32) → Prop) (v_t_nodes : Int32) (v_t_above : Nat → Int32) (v_t_bounds : Nat → Int32) (v_p1_from : Nat → Int64) (v_p1_along : Nat → Int64) (s0 : Int32) (v_t_met : Nat → Int32) : Prop := (∃ n0 : Nat, L_X9_follow_41 post v_t_nodes v_t_above v_t_bounds v_p1_from v_p1_along n0 s0 0 v_t_met)
def J_X9_follow_33 (k_38 : Int32 → (Nat → Int32) → Prop) (v_t_nodes : Int32) (v_t_above : Nat → Int32) (v_t_bounds : Nat → Int32) (v_p1_from : Nat → Int64) (v_p1_along : Nat → Int64) (v_t_met : Nat → Int32) : Prop := k_38 1 v_t_met
def F_X9_follow (v_t_nodes : Int32) (v_t_above : Nat → Int32) (v_t_bounds : Nat → Int32) (v_t_met : Nat → Int32) (v_p1_from : Nat → Int64) (v_p1_along : Nat → Int64) (post : (Nat → Int32) → Prop) : Prop := (vp_in 0 3 ∧ ((¬ (lg_cmp (v_p1_along (0 : Int32).toNatClampNeg) 0) = 0 → J_X9_follow_33 (J_X9_follow_38 post v_t_nodes v_t_above v_t_bounds v_p1_from v_p1_along) v_t_nodes v_t_above v_t_bounds v_p1_from v_p1_along v_t_met) ∧ ((lg_cmp (v_p1_along (0 : Int32).toNatClampNeg) 0) = 0 → (vp_in 1 3 ∧ ((¬ (lg_cmp (v_p1_along (1 : Int32).toNatClampNeg) 0) = 0 → J_X9_follow_33 (J_X9_follow_38 post v_t_nodes v_t_above v_t_bounds v_p1_from v_p1_along) v_t_nodes v_t_above v_t_bounds v_p1_from v_p1_along v_t_met) ∧ ((lg_cmp (v_p1_along (1 : Int32).toNatClampNeg) 0) = 0 → (vp_in 2 3 ∧ (((lg_cmp (v_p1_along (2 : Int32).toNatClampNeg) 0) = 0 → J_X9_follow_38 post v_t_nodes v_t_above v_t_bounds v_p1_from v_p1_along 0 v_t_met) ∧ (¬ (lg_cmp (v_p1_along (2 : Int32).toNatClampNeg) 0) = 0 → J_X9_follow_33 (J_X9_follow_38 post v_t_nodes v_t_above v_t_bounds v_p1_from v_p1_along) v_t_nodes v_t_above v_t_bounds v_p1_from v_p1_along v_t_met)))))))))
set_option maxHeartbeats 8000000 in
set_option maxRecDepth 100000 in
theorem c_X9_follow (l : Launch) (G : va_G) (cI cL cZ : ClassId) (h_t : Nat) (h_t_order : Nat) (h_t_first : Nat) (h_t_many : Nat) (h_t_lower : Nat) (h_t_upper : Nat) (h_t_above : Nat) (h_t_bounds : Nat) (h_t_met : Nat) (h_p1 : Nat) (h_p1_from : Nat) (h_p1_along : Nat) (v_t_nodes : Int32) (v_t_above : Nat → Int32) (v_t_bounds : Nat → Int32) (v_t_met : Nat → Int32) (v_p1_from : Nat → Int64) (v_p1_along : Nat → Int64) (v_t_deepest : Int32) (v_p1_turn : Int64) (v_p1_far : Int64) (v_p1_over : Int64) (v_p1_weightA : Int64) (v_p1_weightB : Int64) (v_p1_weightC : Int64) (sz : Nat) (post : (Nat → Int32) → Prop) (hF : F_X9_follow v_t_nodes v_t_above v_t_bounds v_t_met v_p1_from v_p1_along post) : MetV l G (gT cI cL cZ) yX9_follow (gW yX9_follow cX9_follow 5 none) rm_X9_follow 0 0 [.ref h_t, .ref h_p1] sz [(h_t, .inr (9, [.ref h_t_order, .ref h_t_first, .ref h_t_many, .ref h_t_lower, .ref h_t_upper, .ref h_t_above, .ref h_t_bounds, .ref h_t_met, .int v_t_nodes, .int v_t_deepest])), (h_t_above, .inl (cI, 255, .inl v_t_above)), (h_t_bounds, .inl (cI, 1530, .inl v_t_bounds)), (h_t_met, .inl (cZ, 255, .inl v_t_met)), (h_p1, .inr (7, [.ref h_p1_from, .ref h_p1_along, .long v_p1_turn, .long v_p1_far, .long v_p1_over, .long v_p1_weightA, .long v_p1_weightB, .long v_p1_weightC])), (h_p1_from, .inl (cL, 3, .inr (.inl v_p1_from))), (h_p1_along, .inl (cL, 3, .inr (.inl v_p1_along)))] (fun (u : (Nat → Int32)) => [(h_t, .inr (9, [.ref h_t_order, .ref h_t_first, .ref h_t_many, .ref h_t_lower, .ref h_t_upper, .ref h_t_above, .ref h_t_bounds, .ref h_t_met, .int v_t_nodes, .int v_t_deepest])), (h_t_above, .inl (cI, 255, .inl v_t_above)), (h_t_bounds, .inl (cI, 1530, .inl v_t_bounds)), (h_t_met, .inl (cZ, 255, .inl u)), (h_p1, .inr (7, [.ref h_p1_from, .ref h_p1_along, .long v_p1_turn, .long v_p1_far, .long v_p1_over, .long v_p1_weightA, .long v_p1_weightB, .long v_p1_weightC])), (h_p1_from, .inl (cL, 3, .inr (.inl v_p1_from))), (h_p1_along, .inl (cL, 3, .inr (.inl v_p1_along)))]) (fun (u : (Nat → Int32)) => post u) := by
  refine startV (cc := cX9_follow) (maxL := 5) (by decide +kernel) rfl (Nat.le_of_ble_eq_true rfl) ?_
  intro p e s m args below meth c Q ls A C0 hP hD hS hl hret
  obtain ⟨hx, hb, hml, hown, hts, hnw, hK, hA, hin⟩ := C0
  have hown : s.vm.findClass RX9 = some m.cls := hown
  have hl : lv_has ls 5 [(0, .ref h_t), (1, .ref h_p1)] := hl
  refine lv_aload_n hx hb dX9_follow_0 rfl (lv_at hl 1 rfl) ?_
  refine va_getN (D := G) (ci := 7) (v := .ref h_p1_along) (C := RX7) (T := TX7) (N := 8) hx hb hts (fun w h => List.mem_cons_of_mem _ (inG_7 w h)) hown hK hP 4 rfl rfl 1 (by decide) (va_Nw.use rfl (hnw (.fieldLinkNest RX9 98 "RayRoom$Ray" "along" "[J" "RayRoom") (by decide +kernel))) (fun _ h9 => h9) rfl dX9_follow_1 ?_
  refine lv_iconst (v := 0) hx hb dX9_follow_4 (by decide) ?_
  obtain ⟨b1, hF⟩ := hF
  refine va_lald hx hb hK hP 6 1 rfl rfl b1 dX9_follow_5 ?_
  refine lv_lconst (v := 0) hx hb dX9_follow_6 (by decide) ?_
  refine W.lcmp hx hb dX9_follow_7 ?_
  have k_38 : ∀ (s0 : Int32) (v_t_met : Nat → Int32), J_X9_follow_38 post v_t_nodes v_t_above v_t_bounds v_p1_from v_p1_along s0 v_t_met → ∀ (H : Heap) (locs : List Loc) (ls : Array Slot), va_P G vwCl [(h_t, .inr (9, [.ref h_t_order, .ref h_t_first, .ref h_t_many, .ref h_t_lower, .ref h_t_upper, .ref h_t_above, .ref h_t_bounds, .ref h_t_met, .int v_t_nodes, .int v_t_deepest])), (h_t_above, .inl (cI, 255, .inl v_t_above)), (h_t_bounds, .inl (cI, 1530, .inl v_t_bounds)), (h_t_met, .inl (cZ, 255, .inl v_t_met)), (h_p1, .inr (7, [.ref h_p1_from, .ref h_p1_along, .long v_p1_turn, .long v_p1_far, .long v_p1_over, .long v_p1_weightA, .long v_p1_weightB, .long v_p1_weightC])), (h_p1_from, .inl (cL, 3, .inr (.inl v_p1_from))), (h_p1_along, .inl (cL, 3, .inr (.inl v_p1_along)))] H → va_D A [(h_t, .inr (9, [.ref h_t_order, .ref h_t_first, .ref h_t_many, .ref h_t_lower, .ref h_t_upper, .ref h_t_above, .ref h_t_bounds, .ref h_t_met, .int v_t_nodes, .int v_t_deepest])), (h_t_above, .inl (cI, 255, .inl v_t_above)), (h_t_bounds, .inl (cI, 1530, .inl v_t_bounds)), (h_t_met, .inl (cZ, 255, .inl v_t_met)), (h_p1, .inr (7, [.ref h_p1_from, .ref h_p1_along, .long v_p1_turn, .long v_p1_far, .long v_p1_over, .long v_p1_weightA, .long v_p1_weightB, .long v_p1_weightC])), (h_p1_from, .inl (cL, 3, .inr (.inl v_p1_from))), (h_p1_along, .inl (cL, 3, .inr (.inl v_p1_along)))] → va_S A s.heap H locs → lv_has ls 5 [(0, .ref h_t), (1, .ref h_p1)] → W p l e rm_X9_follow s m args below meth c H locs 0 0 Q (F0 m 38 ls [.int s0]) := by
    intro s0 v_t_met hF H locs ls hP hD hS hl
    refine lv_istore_n (lv' := [(2, .int s0), (0, .ref h_t), (1, .ref h_p1)]) hx hb dX9_follow_38 rfl hl (by decide) rfl (fun ls hl => ?_)
    refine lv_iconst (v := 0) hx hb dX9_follow_39 (by decide) ?_
    refine lv_istore_n (lv' := [(3, .int 0), (2, .int s0), (0, .ref h_t), (1, .ref h_p1)]) hx hb dX9_follow_40 rfl hl (by decide) rfl (fun ls hl => ?_)
    have k_41 : ∀ (n_41 : Nat) (l2 : Int32) (l3 : Int32) (v_t_met : Nat → Int32), L_X9_follow_41 post v_t_nodes v_t_above v_t_bounds v_p1_from v_p1_along n_41 l2 l3 v_t_met → ∀ (H : Heap) (locs : List Loc) (ls : Array Slot), va_P G vwCl [(h_t, .inr (9, [.ref h_t_order, .ref h_t_first, .ref h_t_many, .ref h_t_lower, .ref h_t_upper, .ref h_t_above, .ref h_t_bounds, .ref h_t_met, .int v_t_nodes, .int v_t_deepest])), (h_t_above, .inl (cI, 255, .inl v_t_above)), (h_t_bounds, .inl (cI, 1530, .inl v_t_bounds)), (h_t_met, .inl (cZ, 255, .inl v_t_met)), (h_p1, .inr (7, [.ref h_p1_from, .ref h_p1_along, .long v_p1_turn, .long v_p1_far, .long v_p1_over, .long v_p1_weightA, .long v_p1_weightB, .long v_p1_weightC])), (h_p1_from, .inl (cL, 3, .inr (.inl v_p1_from))), (h_p1_along, .inl (cL, 3, .inr (.inl v_p1_along)))] H → va_D A [(h_t, .inr (9, [.ref h_t_order, .ref h_t_first, .ref h_t_many, .ref h_t_lower, .ref h_t_upper, .ref h_t_above, .ref h_t_bounds, .ref h_t_met, .int v_t_nodes, .int v_t_deepest])), (h_t_above, .inl (cI, 255, .inl v_t_above)), (h_t_bounds, .inl (cI, 1530, .inl v_t_bounds)), (h_t_met, .inl (cZ, 255, .inl v_t_met)), (h_p1, .inr (7, [.ref h_p1_from, .ref h_p1_along, .long v_p1_turn, .long v_p1_far, .long v_p1_over, .long v_p1_weightA, .long v_p1_weightB, .long v_p1_weightC])), (h_p1_from, .inl (cL, 3, .inr (.inl v_p1_from))), (h_p1_along, .inl (cL, 3, .inr (.inl v_p1_along)))] → va_S A s.heap H locs → lv_has ls 5 [(0, .ref h_t), (1, .ref h_p1), (2, .int l2), (3, .int l3)] → W p l e rm_X9_follow s m args below meth c H locs 0 0 Q (F0 m 41 ls []) := by
      intro n_41
      induction n_41 with
      | zero =>
        intro l2 l3 v_t_met hF
        exact (show False from hF).elim
      | succ n_41 k_41 =>
        intro l2 l3 v_t_met hF H locs ls hP hD hS hl
        refine lv_iload_n hx hb dX9_follow_41 rfl (lv_at hl 3 rfl) ?_
        refine lv_aload_n hx hb dX9_follow_42 rfl (lv_at hl 0 rfl) ?_
        refine va_get (D := G) (ci := 9) (v := .int v_t_nodes) (C := RX9) (T := TX9) (N := 10) hx hb hts (fun w h => List.mem_cons_of_mem _ (inG_9 w h)) hown hK hP 0 rfl rfl 8 (by decide) (hts _ (List.mem_cons_of_mem _ mw_1_121)) (fun _ h9 => h9) rfl dX9_follow_43 ?_
        refine lv_icmp_ge (tgt := 106) hx hb dX9_follow_46 (by decide) (fun c2 => ?_) (fun c2 => ?_)
        · have hF := hF.1 c2
          exact hret 106 ls _ _ v_t_met dX9_follow_106  hF hP hD hS
        · have hF := hF.2 c2
          refine lv_aload_n hx hb dX9_follow_49 rfl (lv_at hl 0 rfl) ?_
          refine va_get (D := G) (ci := 9) (v := .ref h_t_above) (C := RX9) (T := TX9) (N := 10) hx hb hts (fun w h => List.mem_cons_of_mem _ (inG_9 w h)) hown hK hP 0 rfl rfl 5 (by decide) (hts _ (List.mem_cons_of_mem _ mw_1_118)) (fun _ h9 => h9) rfl dX9_follow_50 ?_
          refine lv_iload_n hx hb dX9_follow_53 rfl (lv_at hl 3 rfl) ?_
          obtain ⟨b3, hF⟩ := hF
          refine va_iald hx hb hK hP 1 0 rfl rfl b3 dX9_follow_54 ?_
          have k_73 : ∀ (l2 : Int32) (l3 : Int32) (s0 : Int32) (v_t_met : Nat → Int32), J_X9_follow_73 (L_X9_follow_41 post v_t_nodes v_t_above v_t_bounds v_p1_from v_p1_along n_41) v_t_nodes v_t_above v_t_bounds v_p1_from v_p1_along l2 l3 s0 v_t_met → ∀ (H : Heap) (locs : List Loc) (ls : Array Slot), va_P G vwCl [(h_t, .inr (9, [.ref h_t_order, .ref h_t_first, .ref h_t_many, .ref h_t_lower, .ref h_t_upper, .ref h_t_above, .ref h_t_bounds, .ref h_t_met, .int v_t_nodes, .int v_t_deepest])), (h_t_above, .inl (cI, 255, .inl v_t_above)), (h_t_bounds, .inl (cI, 1530, .inl v_t_bounds)), (h_t_met, .inl (cZ, 255, .inl v_t_met)), (h_p1, .inr (7, [.ref h_p1_from, .ref h_p1_along, .long v_p1_turn, .long v_p1_far, .long v_p1_over, .long v_p1_weightA, .long v_p1_weightB, .long v_p1_weightC])), (h_p1_from, .inl (cL, 3, .inr (.inl v_p1_from))), (h_p1_along, .inl (cL, 3, .inr (.inl v_p1_along)))] H → va_D A [(h_t, .inr (9, [.ref h_t_order, .ref h_t_first, .ref h_t_many, .ref h_t_lower, .ref h_t_upper, .ref h_t_above, .ref h_t_bounds, .ref h_t_met, .int v_t_nodes, .int v_t_deepest])), (h_t_above, .inl (cI, 255, .inl v_t_above)), (h_t_bounds, .inl (cI, 1530, .inl v_t_bounds)), (h_t_met, .inl (cZ, 255, .inl v_t_met)), (h_p1, .inr (7, [.ref h_p1_from, .ref h_p1_along, .long v_p1_turn, .long v_p1_far, .long v_p1_over, .long v_p1_weightA, .long v_p1_weightB, .long v_p1_weightC])), (h_p1_from, .inl (cL, 3, .inr (.inl v_p1_from))), (h_p1_along, .inl (cL, 3, .inr (.inl v_p1_along)))] → va_S A s.heap H locs → lv_has ls 5 [(0, .ref h_t), (1, .ref h_p1), (2, .int l2), (3, .int l3)] → W p l e rm_X9_follow s m args below meth c H locs 0 0 Q (F0 m 73 ls [.int s0]) := by
            intro l2 l3 s0 v_t_met hF H locs ls hP hD hS hl
            refine lv_istore (lv' := [(4, .int s0), (0, .ref h_t), (1, .ref h_p1), (2, .int l2), (3, .int l3)]) hx hb dX9_follow_73 hl (by decide) rfl (fun ls hl => ?_)
            refine lv_aload_n hx hb dX9_follow_75 rfl (lv_at hl 1 rfl) ?_
            refine va_get (D := G) (ci := 9) (v := .ref h_t_met) (C := RX9) (T := TX9) (N := 10) hx hb hts (fun w h => List.mem_cons_of_mem _ (inG_9 w h)) hown hK hP 0 rfl rfl 7 (by decide) (hts _ (List.mem_cons_of_mem _ mw_1_120)) (fun _ h9 => h9) rfl dX9_follow_76 ?_
            refine lv_iload_n hx hb dX9_follow_79 rfl (lv_at hl 4 rfl) ?_
            refine lv_iload hx hb dX9_follow_80 (lv_at hl 0 rfl) ?_
            have k_99 : ∀ (l2 : Int32) (l3 : Int32) (s1 : Int32) (s2 : Int32) (v_t_met : Nat → Int32), J_X9_follow_99 (L_X9_follow_41 post v_t_nodes v_t_above v_t_bounds v_p1_from v_p1_along n_41) v_t_nodes v_t_above v_t_bounds v_p1_from v_p1_along l2 l3 s1 s2 v_t_met → ∀ (H : Heap) (locs : List Loc) (ls : Array Slot), va_P G vwCl [(h_t, .inr (9, [.ref h_t_order, .ref h_t_first, .ref h_t_many, .ref h_t_lower, .ref h_t_upper, .ref h_t_above, .ref h_t_bounds, .ref h_t_met, .int v_t_nodes, .int v_t_deepest])), (h_t_above, .inl (cI, 255, .inl v_t_above)), (h_t_bounds, .inl (cI, 1530, .inl v_t_bounds)), (h_t_met, .inl (cZ, 255, .inl v_t_met)), (h_p1, .inr (7, [.ref h_p1_from, .ref h_p1_along, .long v_p1_turn, .long v_p1_far, .long v_p1_over, .long v_p1_weightA, .long v_p1_weightB, .long v_p1_weightC])), (h_p1_from, .inl (cL, 3, .inr (.inl v_p1_from))), (h_p1_along, .inl (cL, 3, .inr (.inl v_p1_along)))] H → va_D A [(h_t, .inr (9, [.ref h_t_order, .ref h_t_first, .ref h_t_many, .ref h_t_lower, .ref h_t_upper, .ref h_t_above, .ref h_t_bounds, .ref h_t_met, .int v_t_nodes, .int v_t_deepest])), (h_t_above, .inl (cI, 255, .inl v_t_above)), (h_t_bounds, .inl (cI, 1530, .inl v_t_bounds)), (h_t_met, .inl (cZ, 255, .inl v_t_met)), (h_p1, .inr (7, [.ref h_p1_from, .ref h_p1_along, .long v_p1_turn, .long v_p1_far, .long v_p1_over, .long v_p1_weightA, .long v_p1_weightB, .long v_p1_weightC])), (h_p1_from, .inl (cL, 3, .inr (.inl v_p1_from))), (h_p1_along, .inl (cL, 3, .inr (.inl v_p1_along)))] → va_S A s.heap H locs → lv_has ls 5 [(0, .ref h_t), (1, .ref h_p1), (2, .int l2), (3, .int l3)] → W p l e rm_X9_follow s m args below meth c H locs 0 0 Q (F0 m 99 ls [.int s2, .int s1, .ref h_t_met]) := by
              intro l2 l3 s1 s2 v_t_met hF H locs ls hP hD hS hl
              obtain ⟨b4, hF⟩ := hF
              refine g_zast (t0 := 2) hx hb hK hP hD hS 3 rfl rfl b4 dX9_follow_99 (fun g5 H locs eg5 hP hD hS => ?_)
              have hF := hF g5 eg5
              have hP : va_P G vwCl [(h_t, .inr (9, [.ref h_t_order, .ref h_t_first, .ref h_t_many, .ref h_t_lower, .ref h_t_upper, .ref h_t_above, .ref h_t_bounds, .ref h_t_met, .int v_t_nodes, .int v_t_deepest])), (h_t_above, .inl (cI, 255, .inl v_t_above)), (h_t_bounds, .inl (cI, 1530, .inl v_t_bounds)), (h_t_met, .inl (cZ, 255, .inl g5)), (h_p1, .inr (7, [.ref h_p1_from, .ref h_p1_along, .long v_p1_turn, .long v_p1_far, .long v_p1_over, .long v_p1_weightA, .long v_p1_weightB, .long v_p1_weightC])), (h_p1_from, .inl (cL, 3, .inr (.inl v_p1_from))), (h_p1_along, .inl (cL, 3, .inr (.inl v_p1_along)))] H := hP
              have hD : va_D A [(h_t, .inr (9, [.ref h_t_order, .ref h_t_first, .ref h_t_many, .ref h_t_lower, .ref h_t_upper, .ref h_t_above, .ref h_t_bounds, .ref h_t_met, .int v_t_nodes, .int v_t_deepest])), (h_t_above, .inl (cI, 255, .inl v_t_above)), (h_t_bounds, .inl (cI, 1530, .inl v_t_bounds)), (h_t_met, .inl (cZ, 255, .inl g5)), (h_p1, .inr (7, [.ref h_p1_from, .ref h_p1_along, .long v_p1_turn, .long v_p1_far, .long v_p1_over, .long v_p1_weightA, .long v_p1_weightB, .long v_p1_weightC])), (h_p1_from, .inl (cL, 3, .inr (.inl v_p1_from))), (h_p1_along, .inl (cL, 3, .inr (.inl v_p1_along)))] := hD
              obtain ⟨x6, ex6⟩ : ∃ z : Int32, z = (l3 + 1) := ⟨_, rfl⟩
              have hF := hF x6 ex6
              refine lv_iinc (v := x6) (lv' := [(3, .int x6), (0, .ref h_t), (1, .ref h_p1), (2, .int l2)]) hx hb dX9_follow_100 hl (k := 3) rfl (by rw [ex6]; rfl) (by decide) rfl (fun ls hl => ?_)
              refine lv_goto (tgt := 41) hx hb dX9_follow_103 (by decide) ?_
              exact k_41 l2 x6 g5 hF _ _ ls hP hD hS (lv_sub hl [1, 2, 3, 0] rfl)
            have k_98 : ∀ (l2 : Int32) (l3 : Int32) (s1 : Int32) (v_t_met : Nat → Int32), J_X9_follow_98 (J_X9_follow_99 (L_X9_follow_41 post v_t_nodes v_t_above v_t_bounds v_p1_from v_p1_along n_41) v_t_nodes v_t_above v_t_bounds v_p1_from v_p1_along) v_t_nodes v_t_above v_t_bounds v_p1_from v_p1_along l2 l3 s1 v_t_met → ∀ (H : Heap) (locs : List Loc) (ls : Array Slot), va_P G vwCl [(h_t, .inr (9, [.ref h_t_order, .ref h_t_first, .ref h_t_many, .ref h_t_lower, .ref h_t_upper, .ref h_t_above, .ref h_t_bounds, .ref h_t_met, .int v_t_nodes, .int v_t_deepest])), (h_t_above, .inl (cI, 255, .inl v_t_above)), (h_t_bounds, .inl (cI, 1530, .inl v_t_bounds)), (h_t_met, .inl (cZ, 255, .inl v_t_met)), (h_p1, .inr (7, [.ref h_p1_from, .ref h_p1_along, .long v_p1_turn, .long v_p1_far, .long v_p1_over, .long v_p1_weightA, .long v_p1_weightB, .long v_p1_weightC])), (h_p1_from, .inl (cL, 3, .inr (.inl v_p1_from))), (h_p1_along, .inl (cL, 3, .inr (.inl v_p1_along)))] H → va_D A [(h_t, .inr (9, [.ref h_t_order, .ref h_t_first, .ref h_t_many, .ref h_t_lower, .ref h_t_upper, .ref h_t_above, .ref h_t_bounds, .ref h_t_met, .int v_t_nodes, .int v_t_deepest])), (h_t_above, .inl (cI, 255, .inl v_t_above)), (h_t_bounds, .inl (cI, 1530, .inl v_t_bounds)), (h_t_met, .inl (cZ, 255, .inl v_t_met)), (h_p1, .inr (7, [.ref h_p1_from, .ref h_p1_along, .long v_p1_turn, .long v_p1_far, .long v_p1_over, .long v_p1_weightA, .long v_p1_weightB, .long v_p1_weightC])), (h_p1_from, .inl (cL, 3, .inr (.inl v_p1_from))), (h_p1_along, .inl (cL, 3, .inr (.inl v_p1_along)))] → va_S A s.heap H locs → lv_has ls 5 [(0, .ref h_t), (1, .ref h_p1), (2, .int l2), (3, .int l3)] → W p l e rm_X9_follow s m args below meth c H locs 0 0 Q (F0 m 98 ls [.int s1, .ref h_t_met]) := by
              intro l2 l3 s1 v_t_met hF H locs ls hP hD hS hl
              refine lv_iconst (v := 0) hx hb dX9_follow_98 (by decide) ?_
              exact k_99 l2 l3 s1 0 v_t_met hF _ _ ls hP hD hS (lv_sub hl [0, 1, 2, 3] rfl)
            refine lv_if_eq (tgt := 98) hx hb dX9_follow_82 (by decide) (fun c7 => ?_) (fun c7 => ?_)
            · have hF := hF.1 c7
              exact k_98 l2 l3 l3 v_t_met hF _ _ ls hP hD hS (lv_sub hl [1, 2, 3, 4] rfl)
            · have hF := hF.2 c7
              refine lv_aload_n hx hb dX9_follow_85 rfl (lv_at hl 1 rfl) ?_
              refine lv_aload_n hx hb dX9_follow_86 rfl (lv_at hl 2 rfl) ?_
              refine lv_iload_n hx hb dX9_follow_87 rfl (lv_at hl 4 rfl) ?_
              refine afterI (wr := [(h_t_above, .inl (cI, 255, .inl v_t_above)), (h_t_met, .inl (cZ, 255, .inl v_t_met))]) (va_runV (As := [.ref h_p1, .int l3]) (rest := [.int l3, .ref h_t_met]) ⟨hx, hb, hml, hown, hts⟩ (c_X9_reachesBox l G cI cL cZ h_t h_t_order h_t_first h_t_many h_t_lower h_t_upper h_t_above h_t_bounds h_t_met h_p1 h_p1_from h_p1_along v_t_bounds v_p1_from v_p1_along v_t_nodes v_t_deepest v_p1_turn v_p1_far v_p1_over v_p1_weightA v_p1_weightB v_p1_weightC l3 _ _ hF) (cwV 2 hts (gV mw_3_190 mw_3_192 mws_11 mw_1_6 mw_3_193) rfl rfl rfl (by decide +kernel) ⟨Nat.le_of_ble_eq_true rfl, Nat.le_of_ble_eq_true rfl⟩) ⟨gP_blind, va_recv hK hP (ci := 9) (q0 := 0) rfl rfl, gP_of hK hnw hP hD [0, 2, 4, 5, 6] (by decide +kernel) rfl rfl⟩ rfl rfl hl.1 rfl (lv_room (Nat.le_of_ble_eq_true rfl)) dX9_follow_88 ⟨Nat.le_of_ble_eq_true rfl, Nat.le_of_ble_eq_true rfl⟩) hP hD hS hA [0, 2, 4, 5, 6] [1, 3] rfl rfl (by decide +kernel) (by decide +kernel) (fun r8 u H locs hF hP hD hS => ?_)
              try dsimp only at hF
              have hP : va_P G vwCl [(h_t_above, .inl (cI, 255, .inl v_t_above)), (h_t_met, .inl (cZ, 255, .inl v_t_met)), (h_t, .inr (9, [.ref h_t_order, .ref h_t_first, .ref h_t_many, .ref h_t_lower, .ref h_t_upper, .ref h_t_above, .ref h_t_bounds, .ref h_t_met, .int v_t_nodes, .int v_t_deepest])), (h_t_bounds, .inl (cI, 1530, .inl v_t_bounds)), (h_p1, .inr (7, [.ref h_p1_from, .ref h_p1_along, .long v_p1_turn, .long v_p1_far, .long v_p1_over, .long v_p1_weightA, .long v_p1_weightB, .long v_p1_weightC])), (h_p1_from, .inl (cL, 3, .inr (.inl v_p1_from))), (h_p1_along, .inl (cL, 3, .inr (.inl v_p1_along)))] H := hP
              have hD : va_D A [(h_t_above, .inl (cI, 255, .inl v_t_above)), (h_t_met, .inl (cZ, 255, .inl v_t_met)), (h_t, .inr (9, [.ref h_t_order, .ref h_t_first, .ref h_t_many, .ref h_t_lower, .ref h_t_upper, .ref h_t_above, .ref h_t_bounds, .ref h_t_met, .int v_t_nodes, .int v_t_deepest])), (h_t_bounds, .inl (cI, 1530, .inl v_t_bounds)), (h_p1, .inr (7, [.ref h_p1_from, .ref h_p1_along, .long v_p1_turn, .long v_p1_far, .long v_p1_over, .long v_p1_weightA, .long v_p1_weightB, .long v_p1_weightC])), (h_p1_from, .inl (cL, 3, .inr (.inl v_p1_from))), (h_p1_along, .inl (cL, 3, .inr (.inl v_p1_along)))] := hD
              refine lv_if_eq (tgt := 98) hx hb dX9_follow_91 (by decide) (fun c9 => ?_) (fun c9 => ?_)
              · have hF := hF.1 c9
                exact k_98 l2 l3 l3 v_t_met hF _ _ ls (hP.sub [2, 0, 3, 1, 4, 5, 6] rfl) (hD.sub [2, 0, 3, 1, 4, 5, 6] (by decide +kernel) rfl) hS (lv_sub hl [1, 2, 3, 4] rfl)
              · have hF := hF.2 c9
                refine lv_iconst (v := 1) hx hb dX9_follow_94 (by decide) ?_
                refine lv_goto (tgt := 99) hx hb dX9_follow_95 (by decide) ?_
                exact k_99 l2 l3 l3 1 v_t_met hF _ _ ls (hP.sub [2, 0, 3, 1, 4, 5, 6] rfl) (hD.sub [2, 0, 3, 1, 4, 5, 6] (by decide +kernel) rfl) hS (lv_sub hl [1, 2, 3, 4] rfl)
          refine lv_if_ge (tgt := 62) hx hb dX9_follow_55 (by decide) (fun c10 => ?_) (fun c10 => ?_)
          · have hF := hF.1 c10
            refine lv_aload_n hx hb dX9_follow_62 rfl (lv_at hl 0 rfl) ?_
            refine va_get (D := G) (ci := 9) (v := .ref h_t_met) (C := RX9) (T := TX9) (N := 10) hx hb hts (fun w h => List.mem_cons_of_mem _ (inG_9 w h)) hown hK hP 0 rfl rfl 7 (by decide) (hts _ (List.mem_cons_of_mem _ mw_1_120)) (fun _ h9 => h9) rfl dX9_follow_63 ?_
            refine lv_aload_n hx hb dX9_follow_66 rfl (lv_at hl 0 rfl) ?_
            refine va_get (D := G) (ci := 9) (v := .ref h_t_above) (C := RX9) (T := TX9) (N := 10) hx hb hts (fun w h => List.mem_cons_of_mem _ (inG_9 w h)) hown hK hP 0 rfl rfl 5 (by decide) (hts _ (List.mem_cons_of_mem _ mw_1_118)) (fun _ h9 => h9) rfl dX9_follow_67 ?_
            refine lv_iload_n hx hb dX9_follow_70 rfl (lv_at hl 3 rfl) ?_
            obtain ⟨b11, hF⟩ := hF
            refine va_iald hx hb hK hP 1 0 rfl rfl b11 dX9_follow_71 ?_
            obtain ⟨b12, hF⟩ := hF
            refine va_zald hx hb hK hP 3 2 rfl rfl b12 dX9_follow_72 ?_
            exact k_73 l2 l3 (v_t_met (v_t_above l3.toNatClampNeg).toNatClampNeg) v_t_met hF _ _ ls hP hD hS (lv_sub hl [0, 1, 2, 3] rfl)
          · have hF := hF.2 c10
            refine lv_iload_n hx hb dX9_follow_58 rfl (lv_at hl 2 rfl) ?_
            refine lv_goto (tgt := 73) hx hb dX9_follow_59 (by decide) ?_
            exact k_73 l2 l3 l2 v_t_met hF _ _ ls hP hD hS (lv_sub hl [0, 1, 2, 3] rfl)
    obtain ⟨n0, hF⟩ := hF
    exact k_41 n0 s0 0 v_t_met hF _ _ ls hP hD hS (lv_sub hl [2, 3, 1, 0] rfl)
  have k_33 : ∀ (v_t_met : Nat → Int32), J_X9_follow_33 (J_X9_follow_38 post v_t_nodes v_t_above v_t_bounds v_p1_from v_p1_along) v_t_nodes v_t_above v_t_bounds v_p1_from v_p1_along v_t_met → ∀ (H : Heap) (locs : List Loc) (ls : Array Slot), va_P G vwCl [(h_t, .inr (9, [.ref h_t_order, .ref h_t_first, .ref h_t_many, .ref h_t_lower, .ref h_t_upper, .ref h_t_above, .ref h_t_bounds, .ref h_t_met, .int v_t_nodes, .int v_t_deepest])), (h_t_above, .inl (cI, 255, .inl v_t_above)), (h_t_bounds, .inl (cI, 1530, .inl v_t_bounds)), (h_t_met, .inl (cZ, 255, .inl v_t_met)), (h_p1, .inr (7, [.ref h_p1_from, .ref h_p1_along, .long v_p1_turn, .long v_p1_far, .long v_p1_over, .long v_p1_weightA, .long v_p1_weightB, .long v_p1_weightC])), (h_p1_from, .inl (cL, 3, .inr (.inl v_p1_from))), (h_p1_along, .inl (cL, 3, .inr (.inl v_p1_along)))] H → va_D A [(h_t, .inr (9, [.ref h_t_order, .ref h_t_first, .ref h_t_many, .ref h_t_lower, .ref h_t_upper, .ref h_t_above, .ref h_t_bounds, .ref h_t_met, .int v_t_nodes, .int v_t_deepest])), (h_t_above, .inl (cI, 255, .inl v_t_above)), (h_t_bounds, .inl (cI, 1530, .inl v_t_bounds)), (h_t_met, .inl (cZ, 255, .inl v_t_met)), (h_p1, .inr (7, [.ref h_p1_from, .ref h_p1_along, .long v_p1_turn, .long v_p1_far, .long v_p1_over, .long v_p1_weightA, .long v_p1_weightB, .long v_p1_weightC])), (h_p1_from, .inl (cL, 3, .inr (.inl v_p1_from))), (h_p1_along, .inl (cL, 3, .inr (.inl v_p1_along)))] → va_S A s.heap H locs → lv_has ls 5 [(0, .ref h_t), (1, .ref h_p1)] → W p l e rm_X9_follow s m args below meth c H locs 0 0 Q (F0 m 33 ls []) := by
    intro v_t_met hF H locs ls hP hD hS hl
    refine lv_iconst (v := 1) hx hb dX9_follow_33 (by decide) ?_
    refine lv_goto (tgt := 38) hx hb dX9_follow_34 (by decide) ?_
    exact k_38 1 v_t_met hF _ _ ls hP hD hS (lv_sub hl [0, 1] rfl)
  refine lv_if_ne (tgt := 33) hx hb dX9_follow_8 (by decide) (fun c13 => ?_) (fun c13 => ?_)
  · have hF := hF.1 c13
    exact k_33 v_t_met hF _ _ ls hP hD hS (lv_sub hl [0, 1] rfl)
  · have hF := hF.2 c13
    refine lv_aload_n hx hb dX9_follow_11 rfl (lv_at hl 1 rfl) ?_
    refine va_getN (D := G) (ci := 7) (v := .ref h_p1_along) (C := RX7) (T := TX7) (N := 8) hx hb hts (fun w h => List.mem_cons_of_mem _ (inG_7 w h)) hown hK hP 4 rfl rfl 1 (by decide) (va_Nw.use rfl (hnw (.fieldLinkNest RX9 98 "RayRoom$Ray" "along" "[J" "RayRoom") (by decide +kernel))) (fun _ h9 => h9) rfl dX9_follow_12 ?_
    refine lv_iconst (v := 1) hx hb dX9_follow_15 (by decide) ?_
    obtain ⟨b14, hF⟩ := hF
    refine va_lald hx hb hK hP 6 1 rfl rfl b14 dX9_follow_16 ?_
    refine lv_lconst (v := 0) hx hb dX9_follow_17 (by decide) ?_
    refine W.lcmp hx hb dX9_follow_18 ?_
    refine lv_if_ne (tgt := 33) hx hb dX9_follow_19 (by decide) (fun c15 => ?_) (fun c15 => ?_)
    · have hF := hF.1 c15
      exact k_33 v_t_met hF _ _ ls hP hD hS (lv_sub hl [0, 1] rfl)
    · have hF := hF.2 c15
      refine lv_aload_n hx hb dX9_follow_22 rfl (lv_at hl 1 rfl) ?_
      refine va_getN (D := G) (ci := 7) (v := .ref h_p1_along) (C := RX7) (T := TX7) (N := 8) hx hb hts (fun w h => List.mem_cons_of_mem _ (inG_7 w h)) hown hK hP 4 rfl rfl 1 (by decide) (va_Nw.use rfl (hnw (.fieldLinkNest RX9 98 "RayRoom$Ray" "along" "[J" "RayRoom") (by decide +kernel))) (fun _ h9 => h9) rfl dX9_follow_23 ?_
      refine lv_iconst (v := 2) hx hb dX9_follow_26 (by decide) ?_
      obtain ⟨b16, hF⟩ := hF
      refine va_lald hx hb hK hP 6 1 rfl rfl b16 dX9_follow_27 ?_
      refine lv_lconst (v := 0) hx hb dX9_follow_28 (by decide) ?_
      refine W.lcmp hx hb dX9_follow_29 ?_
      refine lv_if_eq (tgt := 37) hx hb dX9_follow_30 (by decide) (fun c17 => ?_) (fun c17 => ?_)
      · have hF := hF.1 c17
        refine lv_iconst (v := 0) hx hb dX9_follow_37 (by decide) ?_
        exact k_38 0 v_t_met hF _ _ ls hP hD hS (lv_sub hl [0, 1] rfl)
      · have hF := hF.2 c17
        exact k_33 v_t_met hF _ _ ls hP hD hS (lv_sub hl [0, 1] rfl)

def rm_X9_metNodes : Room := { frames := 0, cells := 0, slots := 0, locals := 0 }
def L_X9_metNodes_4 (post : Int32 → Prop) (v_t_nodes : Int32) (v_t_met : Nat → Int32) : Nat → Int32 → Int32 → Prop
  | 0, _, _ => False
  | n_4 + 1, l1, l2 => ((v_t_nodes ≤ l2 → post l1) ∧ (¬ v_t_nodes ≤ l2 → (vp_in l2 255 ∧ (((v_t_met l2.toNatClampNeg) = 0 → (∀ x4 : Int32, x4 = (l2 + 1) → L_X9_metNodes_4 post v_t_nodes v_t_met n_4 l1 x4)) ∧ (¬ (v_t_met l2.toNatClampNeg) = 0 → (∀ x5 : Int32, x5 = (l1 + 1) → (∀ x6 : Int32, x6 = (l2 + 1) → L_X9_metNodes_4 post v_t_nodes v_t_met n_4 x5 x6)))))))
def F_X9_metNodes (v_t_nodes : Int32) (v_t_met : Nat → Int32) (post : Int32 → Prop) : Prop := (∃ n0 : Nat, L_X9_metNodes_4 post v_t_nodes v_t_met n0 0 0)
set_option maxHeartbeats 8000000 in
set_option maxRecDepth 100000 in
theorem c_X9_metNodes (l : Launch) (G : va_G) (cI cL cZ : ClassId) (h_t : Nat) (h_t_order : Nat) (h_t_first : Nat) (h_t_many : Nat) (h_t_lower : Nat) (h_t_upper : Nat) (h_t_above : Nat) (h_t_bounds : Nat) (h_t_met : Nat) (v_t_nodes : Int32) (v_t_met : Nat → Int32) (v_t_deepest : Int32) (sz : Nat) (post : Int32 → Prop) (hF : F_X9_metNodes v_t_nodes v_t_met post) : MetI l G (gT cI cL cZ) yX9_metNodes (gW yX9_metNodes cX9_metNodes 3 (some .int)) rm_X9_metNodes 0 0 [.ref h_t] sz [(h_t, .inr (9, [.ref h_t_order, .ref h_t_first, .ref h_t_many, .ref h_t_lower, .ref h_t_upper, .ref h_t_above, .ref h_t_bounds, .ref h_t_met, .int v_t_nodes, .int v_t_deepest])), (h_t_met, .inl (cZ, 255, .inl v_t_met))] (fun (u : Unit) => [(h_t, .inr (9, [.ref h_t_order, .ref h_t_first, .ref h_t_many, .ref h_t_lower, .ref h_t_upper, .ref h_t_above, .ref h_t_bounds, .ref h_t_met, .int v_t_nodes, .int v_t_deepest])), (h_t_met, .inl (cZ, 255, .inl v_t_met))]) (fun (r : Int32) (u : Unit) => post r) := by
  refine startI (cc := cX9_metNodes) (maxL := 3) (ty9 := .int) (by decide +kernel) rfl (Nat.le_of_ble_eq_true rfl) ?_
  intro p e s m args below meth c Q ls A C0 hP hD hS hl hret
  obtain ⟨hx, hb, hml, hown, hts, hnw, hK, hA, hin⟩ := C0
  have hown : s.vm.findClass RX9 = some m.cls := hown
  have hl : lv_has ls 3 [(0, .ref h_t)] := hl
  refine lv_iconst (v := 0) hx hb dX9_metNodes_0 (by decide) ?_
  refine lv_istore_n (lv' := [(1, .int 0), (0, .ref h_t)]) hx hb dX9_metNodes_1 rfl hl (by decide) rfl (fun ls hl => ?_)
  refine lv_iconst (v := 0) hx hb dX9_metNodes_2 (by decide) ?_
  refine lv_istore_n (lv' := [(2, .int 0), (1, .int 0), (0, .ref h_t)]) hx hb dX9_metNodes_3 rfl hl (by decide) rfl (fun ls hl => ?_)
  have k_4 : ∀ (n_4 : Nat) (l1 : Int32) (l2 : Int32), L_X9_metNodes_4 post v_t_nodes v_t_met n_4 l1 l2 → ∀ (H : Heap) (locs : List Loc) (ls : Array Slot), va_P G vwCl [(h_t, .inr (9, [.ref h_t_order, .ref h_t_first, .ref h_t_many, .ref h_t_lower, .ref h_t_upper, .ref h_t_above, .ref h_t_bounds, .ref h_t_met, .int v_t_nodes, .int v_t_deepest])), (h_t_met, .inl (cZ, 255, .inl v_t_met))] H → va_D A [(h_t, .inr (9, [.ref h_t_order, .ref h_t_first, .ref h_t_many, .ref h_t_lower, .ref h_t_upper, .ref h_t_above, .ref h_t_bounds, .ref h_t_met, .int v_t_nodes, .int v_t_deepest])), (h_t_met, .inl (cZ, 255, .inl v_t_met))] → va_S A s.heap H locs → lv_has ls 3 [(0, .ref h_t), (1, .int l1), (2, .int l2)] → W p l e rm_X9_metNodes s m args below meth c H locs 0 0 Q (F0 m 4 ls []) := by
    intro n_4
    induction n_4 with
    | zero =>
      intro l1 l2 hF
      exact (show False from hF).elim
    | succ n_4 k_4 =>
      intro l1 l2 hF H locs ls hP hD hS hl
      refine lv_iload_n hx hb dX9_metNodes_4 rfl (lv_at hl 2 rfl) ?_
      refine lv_aload_n hx hb dX9_metNodes_5 rfl (lv_at hl 0 rfl) ?_
      refine va_get (D := G) (ci := 9) (v := .int v_t_nodes) (C := RX9) (T := TX9) (N := 10) hx hb hts (fun w h => List.mem_cons_of_mem _ (inG_9 w h)) hown hK hP 0 rfl rfl 8 (by decide) (hts _ (List.mem_cons_of_mem _ mw_1_121)) (fun _ h9 => h9) rfl dX9_metNodes_6 ?_
      refine lv_icmp_ge (tgt := 30) hx hb dX9_metNodes_9 (by decide) (fun c1 => ?_) (fun c1 => ?_)
      · have hF := hF.1 c1
        refine lv_iload_n hx hb dX9_metNodes_30 rfl (lv_at hl 1 rfl) ?_
        exact hret 31 ls _ _ l1 () dX9_metNodes_31 rfl hF hP hD hS
      · have hF := hF.2 c1
        refine lv_aload_n hx hb dX9_metNodes_12 rfl (lv_at hl 0 rfl) ?_
        refine va_get (D := G) (ci := 9) (v := .ref h_t_met) (C := RX9) (T := TX9) (N := 10) hx hb hts (fun w h => List.mem_cons_of_mem _ (inG_9 w h)) hown hK hP 0 rfl rfl 7 (by decide) (hts _ (List.mem_cons_of_mem _ mw_1_120)) (fun _ h9 => h9) rfl dX9_metNodes_13 ?_
        refine lv_iload_n hx hb dX9_metNodes_16 rfl (lv_at hl 2 rfl) ?_
        obtain ⟨b2, hF⟩ := hF
        refine va_zald hx hb hK hP 1 2 rfl rfl b2 dX9_metNodes_17 ?_
        refine lv_if_eq (tgt := 24) hx hb dX9_metNodes_18 (by decide) (fun c3 => ?_) (fun c3 => ?_)
        · have hF := hF.1 c3
          obtain ⟨x4, ex4⟩ : ∃ z : Int32, z = (l2 + 1) := ⟨_, rfl⟩
          have hF := hF x4 ex4
          refine lv_iinc (v := x4) (lv' := [(2, .int x4), (0, .ref h_t), (1, .int l1)]) hx hb dX9_metNodes_24 hl (k := 2) rfl (by rw [ex4]; rfl) (by decide) rfl (fun ls hl => ?_)
          refine lv_goto (tgt := 4) hx hb dX9_metNodes_27 (by decide) ?_
          exact k_4 l1 x4 hF _ _ ls hP hD hS (lv_sub hl [1, 2, 0] rfl)
        · have hF := hF.2 c3
          obtain ⟨x5, ex5⟩ : ∃ z : Int32, z = (l1 + 1) := ⟨_, rfl⟩
          have hF := hF x5 ex5
          refine lv_iinc (v := x5) (lv' := [(1, .int x5), (0, .ref h_t), (2, .int l2)]) hx hb dX9_metNodes_21 hl (k := 1) rfl (by rw [ex5]; rfl) (by decide) rfl (fun ls hl => ?_)
          obtain ⟨x6, ex6⟩ : ∃ z : Int32, z = (l2 + 1) := ⟨_, rfl⟩
          have hF := hF x6 ex6
          refine lv_iinc (v := x6) (lv' := [(2, .int x6), (1, .int x5), (0, .ref h_t)]) hx hb dX9_metNodes_24 hl (k := 2) rfl (by rw [ex6]; rfl) (by decide) rfl (fun ls hl => ?_)
          refine lv_goto (tgt := 4) hx hb dX9_metNodes_27 (by decide) ?_
          exact k_4 x5 x6 hF _ _ ls hP hD hS (lv_sub hl [2, 1, 0] rfl)
  obtain ⟨n0, hF⟩ := hF
  exact k_4 n0 0 0 hF _ _ ls hP hD hS (lv_sub hl [2, 1, 0] rfl)

def rm_X9_metTriangles : Room := { frames := 0, cells := 0, slots := 0, locals := 0 }
def L_X9_metTriangles_4 (post : Int32 → Prop) (v_t_nodes : Int32) (v_t_many : Nat → Int32) (v_t_lower : Nat → Int32) (v_t_met : Nat → Int32) : Nat → Int32 → Int32 → Prop
  | 0, _, _ => False
  | n_4 + 1, l1, l2 => ((v_t_nodes ≤ l2 → post l1) ∧ (¬ v_t_nodes ≤ l2 → (vp_in l2 255 ∧ (((v_t_met l2.toNatClampNeg) = 0 → (∀ x4 : Int32, x4 = (l2 + 1) → L_X9_metTriangles_4 post v_t_nodes v_t_many v_t_lower v_t_met n_4 l1 x4)) ∧ (¬ (v_t_met l2.toNatClampNeg) = 0 → (vp_in l2 255 ∧ ((0 ≤ (v_t_lower l2.toNatClampNeg) → (∀ x7 : Int32, x7 = (l2 + 1) → L_X9_metTriangles_4 post v_t_nodes v_t_many v_t_lower v_t_met n_4 l1 x7)) ∧ (¬ 0 ≤ (v_t_lower l2.toNatClampNeg) → (vp_in l2 255 ∧ (∀ x9 : Int32, x9 = (l1 + (v_t_many l2.toNatClampNeg)) → (∀ x10 : Int32, x10 = (l2 + 1) → L_X9_metTriangles_4 post v_t_nodes v_t_many v_t_lower v_t_met n_4 x9 x10)))))))))))
def F_X9_metTriangles (v_t_nodes : Int32) (v_t_many : Nat → Int32) (v_t_lower : Nat → Int32) (v_t_met : Nat → Int32) (post : Int32 → Prop) : Prop := (∃ n0 : Nat, L_X9_metTriangles_4 post v_t_nodes v_t_many v_t_lower v_t_met n0 0 0)
set_option maxHeartbeats 8000000 in
set_option maxRecDepth 100000 in
theorem c_X9_metTriangles (l : Launch) (G : va_G) (cI cL cZ : ClassId) (h_t : Nat) (h_t_order : Nat) (h_t_first : Nat) (h_t_many : Nat) (h_t_lower : Nat) (h_t_upper : Nat) (h_t_above : Nat) (h_t_bounds : Nat) (h_t_met : Nat) (v_t_nodes : Int32) (v_t_many : Nat → Int32) (v_t_lower : Nat → Int32) (v_t_met : Nat → Int32) (v_t_deepest : Int32) (sz : Nat) (post : Int32 → Prop) (hF : F_X9_metTriangles v_t_nodes v_t_many v_t_lower v_t_met post) : MetI l G (gT cI cL cZ) yX9_metTriangles (gW yX9_metTriangles cX9_metTriangles 3 (some .int)) rm_X9_metTriangles 0 0 [.ref h_t] sz [(h_t, .inr (9, [.ref h_t_order, .ref h_t_first, .ref h_t_many, .ref h_t_lower, .ref h_t_upper, .ref h_t_above, .ref h_t_bounds, .ref h_t_met, .int v_t_nodes, .int v_t_deepest])), (h_t_many, .inl (cI, 255, .inl v_t_many)), (h_t_lower, .inl (cI, 255, .inl v_t_lower)), (h_t_met, .inl (cZ, 255, .inl v_t_met))] (fun (u : Unit) => [(h_t, .inr (9, [.ref h_t_order, .ref h_t_first, .ref h_t_many, .ref h_t_lower, .ref h_t_upper, .ref h_t_above, .ref h_t_bounds, .ref h_t_met, .int v_t_nodes, .int v_t_deepest])), (h_t_many, .inl (cI, 255, .inl v_t_many)), (h_t_lower, .inl (cI, 255, .inl v_t_lower)), (h_t_met, .inl (cZ, 255, .inl v_t_met))]) (fun (r : Int32) (u : Unit) => post r) := by
  refine startI (cc := cX9_metTriangles) (maxL := 3) (ty9 := .int) (by decide +kernel) rfl (Nat.le_of_ble_eq_true rfl) ?_
  intro p e s m args below meth c Q ls A C0 hP hD hS hl hret
  obtain ⟨hx, hb, hml, hown, hts, hnw, hK, hA, hin⟩ := C0
  have hown : s.vm.findClass RX9 = some m.cls := hown
  have hl : lv_has ls 3 [(0, .ref h_t)] := hl
  refine lv_iconst (v := 0) hx hb dX9_metTriangles_0 (by decide) ?_
  refine lv_istore_n (lv' := [(1, .int 0), (0, .ref h_t)]) hx hb dX9_metTriangles_1 rfl hl (by decide) rfl (fun ls hl => ?_)
  refine lv_iconst (v := 0) hx hb dX9_metTriangles_2 (by decide) ?_
  refine lv_istore_n (lv' := [(2, .int 0), (1, .int 0), (0, .ref h_t)]) hx hb dX9_metTriangles_3 rfl hl (by decide) rfl (fun ls hl => ?_)
  have k_4 : ∀ (n_4 : Nat) (l1 : Int32) (l2 : Int32), L_X9_metTriangles_4 post v_t_nodes v_t_many v_t_lower v_t_met n_4 l1 l2 → ∀ (H : Heap) (locs : List Loc) (ls : Array Slot), va_P G vwCl [(h_t, .inr (9, [.ref h_t_order, .ref h_t_first, .ref h_t_many, .ref h_t_lower, .ref h_t_upper, .ref h_t_above, .ref h_t_bounds, .ref h_t_met, .int v_t_nodes, .int v_t_deepest])), (h_t_many, .inl (cI, 255, .inl v_t_many)), (h_t_lower, .inl (cI, 255, .inl v_t_lower)), (h_t_met, .inl (cZ, 255, .inl v_t_met))] H → va_D A [(h_t, .inr (9, [.ref h_t_order, .ref h_t_first, .ref h_t_many, .ref h_t_lower, .ref h_t_upper, .ref h_t_above, .ref h_t_bounds, .ref h_t_met, .int v_t_nodes, .int v_t_deepest])), (h_t_many, .inl (cI, 255, .inl v_t_many)), (h_t_lower, .inl (cI, 255, .inl v_t_lower)), (h_t_met, .inl (cZ, 255, .inl v_t_met))] → va_S A s.heap H locs → lv_has ls 3 [(0, .ref h_t), (1, .int l1), (2, .int l2)] → W p l e rm_X9_metTriangles s m args below meth c H locs 0 0 Q (F0 m 4 ls []) := by
    intro n_4
    induction n_4 with
    | zero =>
      intro l1 l2 hF
      exact (show False from hF).elim
    | succ n_4 k_4 =>
      intro l1 l2 hF H locs ls hP hD hS hl
      refine lv_iload_n hx hb dX9_metTriangles_4 rfl (lv_at hl 2 rfl) ?_
      refine lv_aload_n hx hb dX9_metTriangles_5 rfl (lv_at hl 0 rfl) ?_
      refine va_get (D := G) (ci := 9) (v := .int v_t_nodes) (C := RX9) (T := TX9) (N := 10) hx hb hts (fun w h => List.mem_cons_of_mem _ (inG_9 w h)) hown hK hP 0 rfl rfl 8 (by decide) (hts _ (List.mem_cons_of_mem _ mw_1_121)) (fun _ h9 => h9) rfl dX9_metTriangles_6 ?_
      refine lv_icmp_ge (tgt := 45) hx hb dX9_metTriangles_9 (by decide) (fun c1 => ?_) (fun c1 => ?_)
      · have hF := hF.1 c1
        refine lv_iload_n hx hb dX9_metTriangles_45 rfl (lv_at hl 1 rfl) ?_
        exact hret 46 ls _ _ l1 () dX9_metTriangles_46 rfl hF hP hD hS
      · have hF := hF.2 c1
        refine lv_aload_n hx hb dX9_metTriangles_12 rfl (lv_at hl 0 rfl) ?_
        refine va_get (D := G) (ci := 9) (v := .ref h_t_met) (C := RX9) (T := TX9) (N := 10) hx hb hts (fun w h => List.mem_cons_of_mem _ (inG_9 w h)) hown hK hP 0 rfl rfl 7 (by decide) (hts _ (List.mem_cons_of_mem _ mw_1_120)) (fun _ h9 => h9) rfl dX9_metTriangles_13 ?_
        refine lv_iload_n hx hb dX9_metTriangles_16 rfl (lv_at hl 2 rfl) ?_
        obtain ⟨b2, hF⟩ := hF
        refine va_zald hx hb hK hP 3 2 rfl rfl b2 dX9_metTriangles_17 ?_
        refine lv_if_eq (tgt := 39) hx hb dX9_metTriangles_18 (by decide) (fun c3 => ?_) (fun c3 => ?_)
        · have hF := hF.1 c3
          obtain ⟨x4, ex4⟩ : ∃ z : Int32, z = (l2 + 1) := ⟨_, rfl⟩
          have hF := hF x4 ex4
          refine lv_iinc (v := x4) (lv' := [(2, .int x4), (0, .ref h_t), (1, .int l1)]) hx hb dX9_metTriangles_39 hl (k := 2) rfl (by rw [ex4]; rfl) (by decide) rfl (fun ls hl => ?_)
          refine lv_goto (tgt := 4) hx hb dX9_metTriangles_42 (by decide) ?_
          exact k_4 l1 x4 hF _ _ ls hP hD hS (lv_sub hl [1, 2, 0] rfl)
        · have hF := hF.2 c3
          refine lv_aload_n hx hb dX9_metTriangles_21 rfl (lv_at hl 0 rfl) ?_
          refine va_get (D := G) (ci := 9) (v := .ref h_t_lower) (C := RX9) (T := TX9) (N := 10) hx hb hts (fun w h => List.mem_cons_of_mem _ (inG_9 w h)) hown hK hP 0 rfl rfl 3 (by decide) (hts _ (List.mem_cons_of_mem _ mw_1_116)) (fun _ h9 => h9) rfl dX9_metTriangles_22 ?_
          refine lv_iload_n hx hb dX9_metTriangles_25 rfl (lv_at hl 2 rfl) ?_
          obtain ⟨b5, hF⟩ := hF
          refine va_iald hx hb hK hP 2 0 rfl rfl b5 dX9_metTriangles_26 ?_
          refine lv_if_ge (tgt := 39) hx hb dX9_metTriangles_27 (by decide) (fun c6 => ?_) (fun c6 => ?_)
          · have hF := hF.1 c6
            obtain ⟨x7, ex7⟩ : ∃ z : Int32, z = (l2 + 1) := ⟨_, rfl⟩
            have hF := hF x7 ex7
            refine lv_iinc (v := x7) (lv' := [(2, .int x7), (0, .ref h_t), (1, .int l1)]) hx hb dX9_metTriangles_39 hl (k := 2) rfl (by rw [ex7]; rfl) (by decide) rfl (fun ls hl => ?_)
            refine lv_goto (tgt := 4) hx hb dX9_metTriangles_42 (by decide) ?_
            exact k_4 l1 x7 hF _ _ ls hP hD hS (lv_sub hl [1, 2, 0] rfl)
          · have hF := hF.2 c6
            refine lv_iload_n hx hb dX9_metTriangles_30 rfl (lv_at hl 1 rfl) ?_
            refine lv_aload_n hx hb dX9_metTriangles_31 rfl (lv_at hl 0 rfl) ?_
            refine va_get (D := G) (ci := 9) (v := .ref h_t_many) (C := RX9) (T := TX9) (N := 10) hx hb hts (fun w h => List.mem_cons_of_mem _ (inG_9 w h)) hown hK hP 0 rfl rfl 2 (by decide) (hts _ (List.mem_cons_of_mem _ mw_1_115)) (fun _ h9 => h9) rfl dX9_metTriangles_32 ?_
            refine lv_iload_n hx hb dX9_metTriangles_35 rfl (lv_at hl 2 rfl) ?_
            obtain ⟨b8, hF⟩ := hF
            refine va_iald hx hb hK hP 1 0 rfl rfl b8 dX9_metTriangles_36 ?_
            refine lv_iadd hx hb dX9_metTriangles_37 ?_
            refine lv_topi (fun x9 ex9 => ?_)
            have hF := hF x9 ex9
            refine lv_istore_n (lv' := [(1, .int x9), (0, .ref h_t), (2, .int l2)]) hx hb dX9_metTriangles_38 rfl hl (by decide) rfl (fun ls hl => ?_)
            obtain ⟨x10, ex10⟩ : ∃ z : Int32, z = (l2 + 1) := ⟨_, rfl⟩
            have hF := hF x10 ex10
            refine lv_iinc (v := x10) (lv' := [(2, .int x10), (1, .int x9), (0, .ref h_t)]) hx hb dX9_metTriangles_39 hl (k := 2) rfl (by rw [ex10]; rfl) (by decide) rfl (fun ls hl => ?_)
            refine lv_goto (tgt := 4) hx hb dX9_metTriangles_42 (by decide) ?_
            exact k_4 x9 x10 hF _ _ ls hP hD hS (lv_sub hl [2, 1, 0] rfl)
  obtain ⟨n0, hF⟩ := hF
  exact k_4 n0 0 0 hF _ _ ls hP hD hS (lv_sub hl [2, 1, 0] rfl)
