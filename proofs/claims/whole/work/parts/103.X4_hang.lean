def rm_X4_hang : Room := { frames := 1, cells := 0, slots := 0, locals := 22 }
def L_X4_hang_3 (post : (Nat → Int32) → (Nat → Int32) → Prop) (v_p3_coordinates : Nat → Int32) : Nat → Int32 → Int32 → Int32 → (Nat → Int32) → (Nat → Int32) → Prop
  | 0, _, _, _, _, _ => False
  | n_3 + 1, l1, l2, l4, v_t_places, v_t_strengths => ((3 ≤ l4 → (vp_in l1 4 ∧ (∀ g3 : Nat → Int32, g3 = upd v_t_strengths (l1.toNatClampNeg) l2 → post v_t_places g3))) ∧ (¬ 3 ≤ l4 → (F_X6_at 0 l4 v_p3_coordinates (fun r4 => (vp_in ((3 * l1) + l4) 12 ∧ (∀ g6 : Nat → Int32, g6 = upd v_t_places (((3 * l1) + l4).toNatClampNeg) r4 → (∀ x7 : Int32, x7 = (l4 + 1) → L_X4_hang_3 post v_p3_coordinates n_3 l1 l2 x7 g6 v_t_strengths)))))))
def F_X4_hang (p1 : Int32) (p2 : Int32) (v_t_places : Nat → Int32) (v_t_strengths : Nat → Int32) (v_p3_coordinates : Nat → Int32) (post : (Nat → Int32) → (Nat → Int32) → Prop) : Prop := (∃ n0 : Nat, L_X4_hang_3 post v_p3_coordinates n0 p1 p2 0 v_t_places v_t_strengths)
set_option maxHeartbeats 8000000 in
set_option maxRecDepth 100000 in
theorem c_X4_hang (l : Launch) (G : va_G) (cI cL cZ : ClassId) (h_t : Nat) (h_t_places : Nat) (h_t_strengths : Nat) (h_t_values : Nat) (h_p3 : Nat) (h_p3_coordinates : Nat) (v_t_places : Nat → Int32) (v_t_strengths : Nat → Int32) (v_p3_coordinates : Nat → Int32) (v_t_ambient : Int32) (v_p3_many : Int32) (p1 : Int32) (p2 : Int32) (sz : Nat) (post : (Nat → Int32) → (Nat → Int32) → Prop) (hF : F_X4_hang p1 p2 v_t_places v_t_strengths v_p3_coordinates post) : MetV l G (gT cI cL cZ) yX4_hang (gW yX4_hang cX4_hang 5 none) rm_X4_hang 0 0 [.ref h_t, .int p1, .int p2, .ref h_p3] sz [(h_t, .inr (4, [.ref h_t_places, .ref h_t_strengths, .ref h_t_values, .int v_t_ambient])), (h_t_places, .inl (cI, 12, .inl v_t_places)), (h_t_strengths, .inl (cI, 4, .inl v_t_strengths)), (h_p3, .inr (6, [.ref h_p3_coordinates, .int v_p3_many])), (h_p3_coordinates, .inl (cI, 9, .inl v_p3_coordinates))] (fun (u : (Nat → Int32) × (Nat → Int32)) => [(h_t, .inr (4, [.ref h_t_places, .ref h_t_strengths, .ref h_t_values, .int v_t_ambient])), (h_t_places, .inl (cI, 12, .inl u.1)), (h_t_strengths, .inl (cI, 4, .inl u.2)), (h_p3, .inr (6, [.ref h_p3_coordinates, .int v_p3_many])), (h_p3_coordinates, .inl (cI, 9, .inl v_p3_coordinates))]) (fun (u : (Nat → Int32) × (Nat → Int32)) => post u.1 u.2) := by
  refine startV (cc := cX4_hang) (maxL := 5) (by decide +kernel) rfl (Nat.le_of_ble_eq_true rfl) ?_
  intro p e s m args below meth c Q ls A C0 hP hD hS hl hret
  obtain ⟨hx, hb, hml, hown, hts, hnw, hK, hA, hin⟩ := C0
  have hown : s.vm.findClass RX4 = some m.cls := hown
  have hl : lv_has ls 5 [(0, .ref h_t), (1, .int p1), (2, .int p2), (3, .ref h_p3)] := hl
  refine lv_iconst (v := 0) hx hb dX4_hang_0 (by decide) ?_
  refine lv_istore (lv' := [(4, .int 0), (0, .ref h_t), (1, .int p1), (2, .int p2), (3, .ref h_p3)]) hx hb dX4_hang_1 hl (by decide) rfl (fun ls hl => ?_)
  have k_3 : ∀ (n_3 : Nat) (l1 : Int32) (l2 : Int32) (l4 : Int32) (v_t_places : Nat → Int32) (v_t_strengths : Nat → Int32), L_X4_hang_3 post v_p3_coordinates n_3 l1 l2 l4 v_t_places v_t_strengths → ∀ (H : Heap) (locs : List Loc) (ls : Array Slot), va_P G vwCl [(h_t, .inr (4, [.ref h_t_places, .ref h_t_strengths, .ref h_t_values, .int v_t_ambient])), (h_t_places, .inl (cI, 12, .inl v_t_places)), (h_t_strengths, .inl (cI, 4, .inl v_t_strengths)), (h_p3, .inr (6, [.ref h_p3_coordinates, .int v_p3_many])), (h_p3_coordinates, .inl (cI, 9, .inl v_p3_coordinates))] H → va_D A [(h_t, .inr (4, [.ref h_t_places, .ref h_t_strengths, .ref h_t_values, .int v_t_ambient])), (h_t_places, .inl (cI, 12, .inl v_t_places)), (h_t_strengths, .inl (cI, 4, .inl v_t_strengths)), (h_p3, .inr (6, [.ref h_p3_coordinates, .int v_p3_many])), (h_p3_coordinates, .inl (cI, 9, .inl v_p3_coordinates))] → va_S A s.heap H locs → lv_has ls 5 [(0, .ref h_t), (1, .int l1), (2, .int l2), (3, .ref h_p3), (4, .int l4)] → W p l e rm_X4_hang s m args below meth c H locs 0 0 Q (F0 m 3 ls []) := by
    intro n_3
    induction n_3 with
    | zero =>
      intro l1 l2 l4 v_t_places v_t_strengths hF
      exact (show False from hF).elim
    | succ n_3 k_3 =>
      intro l1 l2 l4 v_t_places v_t_strengths hF H locs ls hP hD hS hl
      refine lv_iload hx hb dX4_hang_3 (lv_at hl 4 rfl) ?_
      refine lv_iconst (v := 3) hx hb dX4_hang_5 (by decide) ?_
      refine lv_icmp_ge (tgt := 33) hx hb dX4_hang_6 (by decide) (fun c1 => ?_) (fun c1 => ?_)
      · have hF := hF.1 c1
        refine lv_aload_n hx hb dX4_hang_33 rfl (lv_at hl 0 rfl) ?_
        refine va_get (D := G) (ci := 4) (v := .ref h_t_strengths) (C := RX4) (T := TX4) (N := 4) hx hb hts (fun w h => List.mem_cons_of_mem _ (inG_4 w h)) hown hK hP 0 rfl rfl 1 (by decide) (hts _ (List.mem_cons_of_mem _ mw_1_95)) (fun _ h9 => h9) rfl dX4_hang_34 ?_
        refine lv_iload_n hx hb dX4_hang_37 rfl (lv_at hl 1 rfl) ?_
        refine lv_iload_n hx hb dX4_hang_38 rfl (lv_at hl 2 rfl) ?_
        obtain ⟨b2, hF⟩ := hF
        refine g_iast (t0 := 0) hx hb hK hP hD hS 2 rfl rfl b2 dX4_hang_39 (fun g3 H locs eg3 hP hD hS => ?_)
        have hF := hF g3 eg3
        have hP : va_P G vwCl [(h_t, .inr (4, [.ref h_t_places, .ref h_t_strengths, .ref h_t_values, .int v_t_ambient])), (h_t_places, .inl (cI, 12, .inl v_t_places)), (h_t_strengths, .inl (cI, 4, .inl g3)), (h_p3, .inr (6, [.ref h_p3_coordinates, .int v_p3_many])), (h_p3_coordinates, .inl (cI, 9, .inl v_p3_coordinates))] H := hP
        have hD : va_D A [(h_t, .inr (4, [.ref h_t_places, .ref h_t_strengths, .ref h_t_values, .int v_t_ambient])), (h_t_places, .inl (cI, 12, .inl v_t_places)), (h_t_strengths, .inl (cI, 4, .inl g3)), (h_p3, .inr (6, [.ref h_p3_coordinates, .int v_p3_many])), (h_p3_coordinates, .inl (cI, 9, .inl v_p3_coordinates))] := hD
        exact hret 40 ls _ _ (v_t_places, g3) dX4_hang_40  hF hP hD hS
      · have hF := hF.2 c1
        refine lv_aload_n hx hb dX4_hang_9 rfl (lv_at hl 0 rfl) ?_
        refine va_get (D := G) (ci := 4) (v := .ref h_t_places) (C := RX4) (T := TX4) (N := 4) hx hb hts (fun w h => List.mem_cons_of_mem _ (inG_4 w h)) hown hK hP 0 rfl rfl 0 (by decide) (hts _ (List.mem_cons_of_mem _ mw_1_94)) (fun _ h9 => h9) rfl dX4_hang_10 ?_
        refine lv_iconst (v := 3) hx hb dX4_hang_13 (by decide) ?_
        refine lv_iload_n hx hb dX4_hang_14 rfl (lv_at hl 1 rfl) ?_
        refine lv_imul hx hb dX4_hang_15 ?_
        refine lv_iload hx hb dX4_hang_16 (lv_at hl 4 rfl) ?_
        refine lv_iadd hx hb dX4_hang_18 ?_
        refine lv_aload_n hx hb dX4_hang_19 rfl (lv_at hl 3 rfl) ?_
        refine lv_iconst (v := 0) hx hb dX4_hang_20 (by decide) ?_
        refine lv_iload hx hb dX4_hang_21 (lv_at hl 4 rfl) ?_
        refine afterI (wr := [(h_t, .inr (4, [.ref h_t_places, .ref h_t_strengths, .ref h_t_values, .int v_t_ambient])), (h_t_places, .inl (cI, 12, .inl v_t_places)), (h_t_strengths, .inl (cI, 4, .inl v_t_strengths))]) (va_runV (As := [.int 0, .int l4]) (rest := [.int ((3 * l1) + l4), .ref h_t_places]) ⟨hx, hb, hml, hown, hts⟩ (c_X6_at l G cI cL cZ h_p3 h_p3_coordinates v_p3_coordinates v_p3_many 0 l4 _ _ hF) (cwV 2 hts (gV mw_2_198 mw_2_115 mw_2_116 mw_1_2 mw_2_117) rfl rfl rfl (by decide +kernel) ⟨Nat.le_of_ble_eq_true rfl, Nat.le_of_ble_eq_true rfl⟩) ⟨gP_blind, va_recv hK hP (ci := 6) (q0 := 3) rfl rfl, gP_of hK hnw hP hD [3, 4] (by decide +kernel) rfl rfl⟩ rfl rfl hl.1 rfl (lv_room (Nat.le_of_ble_eq_true rfl)) dX4_hang_23 ⟨Nat.le_of_ble_eq_true rfl, Nat.le_of_ble_eq_true rfl⟩) hP hD hS hA [3, 4] [0, 1, 2] rfl rfl (by decide +kernel) (by decide +kernel) (fun r4 u H locs hF hP hD hS => ?_)
        try dsimp only at hF
        have hP : va_P G vwCl [(h_t, .inr (4, [.ref h_t_places, .ref h_t_strengths, .ref h_t_values, .int v_t_ambient])), (h_t_places, .inl (cI, 12, .inl v_t_places)), (h_t_strengths, .inl (cI, 4, .inl v_t_strengths)), (h_p3, .inr (6, [.ref h_p3_coordinates, .int v_p3_many])), (h_p3_coordinates, .inl (cI, 9, .inl v_p3_coordinates))] H := hP
        have hD : va_D A [(h_t, .inr (4, [.ref h_t_places, .ref h_t_strengths, .ref h_t_values, .int v_t_ambient])), (h_t_places, .inl (cI, 12, .inl v_t_places)), (h_t_strengths, .inl (cI, 4, .inl v_t_strengths)), (h_p3, .inr (6, [.ref h_p3_coordinates, .int v_p3_many])), (h_p3_coordinates, .inl (cI, 9, .inl v_p3_coordinates))] := hD
        obtain ⟨b5, hF⟩ := hF
        refine g_iast (t0 := 0) hx hb hK hP hD hS 1 rfl rfl b5 dX4_hang_26 (fun g6 H locs eg6 hP hD hS => ?_)
        have hF := hF g6 eg6
        have hP : va_P G vwCl [(h_t, .inr (4, [.ref h_t_places, .ref h_t_strengths, .ref h_t_values, .int v_t_ambient])), (h_t_places, .inl (cI, 12, .inl g6)), (h_t_strengths, .inl (cI, 4, .inl v_t_strengths)), (h_p3, .inr (6, [.ref h_p3_coordinates, .int v_p3_many])), (h_p3_coordinates, .inl (cI, 9, .inl v_p3_coordinates))] H := hP
        have hD : va_D A [(h_t, .inr (4, [.ref h_t_places, .ref h_t_strengths, .ref h_t_values, .int v_t_ambient])), (h_t_places, .inl (cI, 12, .inl g6)), (h_t_strengths, .inl (cI, 4, .inl v_t_strengths)), (h_p3, .inr (6, [.ref h_p3_coordinates, .int v_p3_many])), (h_p3_coordinates, .inl (cI, 9, .inl v_p3_coordinates))] := hD
        obtain ⟨x7, ex7⟩ : ∃ z : Int32, z = (l4 + 1) := ⟨_, rfl⟩
        have hF := hF x7 ex7
        refine lv_iinc (v := x7) (lv' := [(4, .int x7), (0, .ref h_t), (1, .int l1), (2, .int l2), (3, .ref h_p3)]) hx hb dX4_hang_27 hl (k := 4) rfl (by rw [ex7]; rfl) (by decide) rfl (fun ls hl => ?_)
        refine lv_goto (tgt := 3) hx hb dX4_hang_30 (by decide) ?_
        exact k_3 l1 l2 x7 g6 v_t_strengths hF _ _ ls hP hD hS (lv_sub hl [1, 2, 3, 4, 0] rfl)
  obtain ⟨n0, hF⟩ := hF
  exact k_3 n0 p1 p2 0 v_t_places v_t_strengths hF _ _ ls hP hD hS (lv_sub hl [1, 2, 3, 4, 0] rfl)

def rm_X11_light : Room := { frames := 2, cells := 0, slots := 0, locals := 46 }
def F_X11_light (p1 : Int32) (p2 : Int32) (v_t_points_many : Int32) (v_t_points_coordinates : Nat → Int32) (v_t_lamps_places : Nat → Int32) (v_t_lamps_strengths : Nat → Int32) (post : Int32 → Int32 → (Nat → Int32) → (Nat → Int32) → Prop) : Prop := (F_X4_has p1 (fun r1 => ((r1 = 0 → post (-1) v_t_points_many v_t_lamps_places v_t_lamps_strengths) ∧ (¬ r1 = 0 → (F_X11_isByte p2 (fun r3 => ((r3 = 0 → post (-1) v_t_points_many v_t_lamps_places v_t_lamps_strengths) ∧ (¬ r3 = 0 → (F_X6_many v_t_points_many (fun r5 => ((r5 = 1 → (F_X4_hang p1 p2 v_t_lamps_places v_t_lamps_strengths v_t_points_coordinates (fun v7 v8 => (F_X6_clear v_t_points_many (fun v9 => post 0 v9 v7 v8))))) ∧ (¬ r5 = 1 → post (-1) v_t_points_many v_t_lamps_places v_t_lamps_strengths))))))))))))
set_option maxHeartbeats 8000000 in
set_option maxRecDepth 100000 in
theorem c_X11_light (l : Launch) (G : va_G) (cI cL cZ : ClassId) (h_t : Nat) (h_t_points : Nat) (h_t_mesh : Nat) (h_t_camera : Nat) (h_t_lamps : Nat) (h_t_tree : Nat) (h_t_crossings : Nat) (h_t_atHand : Nat) (h_t_view : Nat) (h_t_sight : Nat) (h_t_shade : Nat) (h_t_slope : Nat) (h_t_box : Nat) (h_t_marked : Nat) (h_t_points_coordinates : Nat) (h_t_lamps_places : Nat) (h_t_lamps_strengths : Nat) (h_t_lamps_values : Nat) (v_t_points_many : Int32) (v_t_points_coordinates : Nat → Int32) (v_t_lamps_places : Nat → Int32) (v_t_lamps_strengths : Nat → Int32) (v_t_back : Int32) (v_t_lamps_ambient : Int32) (p1 : Int32) (p2 : Int32) (sz : Nat) (post : Int32 → Int32 → (Nat → Int32) → (Nat → Int32) → Prop) (hF : F_X11_light p1 p2 v_t_points_many v_t_points_coordinates v_t_lamps_places v_t_lamps_strengths post) : MetI l G (gT cI cL cZ) yX11_light (gW yX11_light cX11_light 3 (some .int)) rm_X11_light 0 0 [.ref h_t, .int p1, .int p2] sz [(h_t, .inr (11, [.ref h_t_points, .ref h_t_mesh, .ref h_t_camera, .ref h_t_lamps, .ref h_t_tree, .ref h_t_crossings, .ref h_t_atHand, .ref h_t_view, .ref h_t_sight, .ref h_t_shade, .ref h_t_slope, .ref h_t_box, .ref h_t_marked, .int v_t_back])), (h_t_points, .inr (6, [.ref h_t_points_coordinates, .int v_t_points_many])), (h_t_points_coordinates, .inl (cI, 9, .inl v_t_points_coordinates)), (h_t_lamps, .inr (4, [.ref h_t_lamps_places, .ref h_t_lamps_strengths, .ref h_t_lamps_values, .int v_t_lamps_ambient])), (h_t_lamps_places, .inl (cI, 12, .inl v_t_lamps_places)), (h_t_lamps_strengths, .inl (cI, 4, .inl v_t_lamps_strengths))] (fun (u : Int32 × (Nat → Int32) × (Nat → Int32)) => [(h_t, .inr (11, [.ref h_t_points, .ref h_t_mesh, .ref h_t_camera, .ref h_t_lamps, .ref h_t_tree, .ref h_t_crossings, .ref h_t_atHand, .ref h_t_view, .ref h_t_sight, .ref h_t_shade, .ref h_t_slope, .ref h_t_box, .ref h_t_marked, .int v_t_back])), (h_t_points, .inr (6, [.ref h_t_points_coordinates, .int u.1])), (h_t_points_coordinates, .inl (cI, 9, .inl v_t_points_coordinates)), (h_t_lamps, .inr (4, [.ref h_t_lamps_places, .ref h_t_lamps_strengths, .ref h_t_lamps_values, .int v_t_lamps_ambient])), (h_t_lamps_places, .inl (cI, 12, .inl u.2.1)), (h_t_lamps_strengths, .inl (cI, 4, .inl u.2.2))]) (fun (r : Int32) (u : Int32 × (Nat → Int32) × (Nat → Int32)) => post r u.1 u.2.1 u.2.2) := by
  refine startI (cc := cX11_light) (maxL := 3) (ty9 := .int) (by decide +kernel) rfl (Nat.le_of_ble_eq_true rfl) ?_
  intro p e s m args below meth c Q ls A C0 hP hD hS hl hret
  obtain ⟨hx, hb, hml, hown, hts, hnw, hK, hA, hin⟩ := C0
  have hown : s.vm.findClass RX11 = some m.cls := hown
  have hl : lv_has ls 3 [(0, .ref h_t), (1, .int p1), (2, .int p2)] := hl
  refine lv_iload_n hx hb dX11_light_0 rfl (lv_at hl 1 rfl) ?_
  refine afterI (wr := [(h_t, .inr (11, [.ref h_t_points, .ref h_t_mesh, .ref h_t_camera, .ref h_t_lamps, .ref h_t_tree, .ref h_t_crossings, .ref h_t_atHand, .ref h_t_view, .ref h_t_sight, .ref h_t_shade, .ref h_t_slope, .ref h_t_box, .ref h_t_marked, .int v_t_back])), (h_t_points, .inr (6, [.ref h_t_points_coordinates, .int v_t_points_many])), (h_t_points_coordinates, .inl (cI, 9, .inl v_t_points_coordinates)), (h_t_lamps, .inr (4, [.ref h_t_lamps_places, .ref h_t_lamps_strengths, .ref h_t_lamps_values, .int v_t_lamps_ambient])), (h_t_lamps_places, .inl (cI, 12, .inl v_t_lamps_places)), (h_t_lamps_strengths, .inl (cI, 4, .inl v_t_lamps_strengths))]) (va_runS (As := [.int p1]) (rest := []) ⟨hx, hb, hml, hown, hts⟩ (c_X4_has l G cI cL cZ p1 _ _ hF) (va_cwS 1 hts (gS mw_2_191 mw_2_192 mw_1_5 mw_2_193) rfl rfl rfl (by decide +kernel) ⟨Nat.le_of_ble_eq_true rfl, Nat.le_of_ble_eq_true rfl⟩) ⟨gP_blind, gP_of hK hnw hP hD [] (by decide +kernel) rfl rfl⟩ rfl rfl hl.1 rfl (lv_room (Nat.le_of_ble_eq_true rfl)) dX11_light_1 ⟨Nat.le_of_ble_eq_true rfl, Nat.le_of_ble_eq_true rfl⟩) hP hD hS hA [] [0, 1, 2, 3, 4, 5] rfl rfl (by decide +kernel) (by decide +kernel) (fun r1 u H locs hF hP hD hS => ?_)
  try dsimp only at hF
  have hP : va_P G vwCl [(h_t, .inr (11, [.ref h_t_points, .ref h_t_mesh, .ref h_t_camera, .ref h_t_lamps, .ref h_t_tree, .ref h_t_crossings, .ref h_t_atHand, .ref h_t_view, .ref h_t_sight, .ref h_t_shade, .ref h_t_slope, .ref h_t_box, .ref h_t_marked, .int v_t_back])), (h_t_points, .inr (6, [.ref h_t_points_coordinates, .int v_t_points_many])), (h_t_points_coordinates, .inl (cI, 9, .inl v_t_points_coordinates)), (h_t_lamps, .inr (4, [.ref h_t_lamps_places, .ref h_t_lamps_strengths, .ref h_t_lamps_values, .int v_t_lamps_ambient])), (h_t_lamps_places, .inl (cI, 12, .inl v_t_lamps_places)), (h_t_lamps_strengths, .inl (cI, 4, .inl v_t_lamps_strengths))] H := hP
  have hD : va_D A [(h_t, .inr (11, [.ref h_t_points, .ref h_t_mesh, .ref h_t_camera, .ref h_t_lamps, .ref h_t_tree, .ref h_t_crossings, .ref h_t_atHand, .ref h_t_view, .ref h_t_sight, .ref h_t_shade, .ref h_t_slope, .ref h_t_box, .ref h_t_marked, .int v_t_back])), (h_t_points, .inr (6, [.ref h_t_points_coordinates, .int v_t_points_many])), (h_t_points_coordinates, .inl (cI, 9, .inl v_t_points_coordinates)), (h_t_lamps, .inr (4, [.ref h_t_lamps_places, .ref h_t_lamps_strengths, .ref h_t_lamps_values, .int v_t_lamps_ambient])), (h_t_lamps_places, .inl (cI, 12, .inl v_t_lamps_places)), (h_t_lamps_strengths, .inl (cI, 4, .inl v_t_lamps_strengths))] := hD
  refine lv_if_eq (tgt := 25) hx hb dX11_light_4 (by decide) (fun c2 => ?_) (fun c2 => ?_)
  · have hF := hF.1 c2
    refine lv_iconst (v := (-1)) hx hb dX11_light_25 (by decide) ?_
    exact hret 26 ls _ _ (-1) (v_t_points_many, v_t_lamps_places, v_t_lamps_strengths) dX11_light_26 rfl hF hP hD hS
  · have hF := hF.2 c2
    refine lv_iload_n hx hb dX11_light_7 rfl (lv_at hl 2 rfl) ?_
    refine afterI (wr := [(h_t, .inr (11, [.ref h_t_points, .ref h_t_mesh, .ref h_t_camera, .ref h_t_lamps, .ref h_t_tree, .ref h_t_crossings, .ref h_t_atHand, .ref h_t_view, .ref h_t_sight, .ref h_t_shade, .ref h_t_slope, .ref h_t_box, .ref h_t_marked, .int v_t_back])), (h_t_points, .inr (6, [.ref h_t_points_coordinates, .int v_t_points_many])), (h_t_points_coordinates, .inl (cI, 9, .inl v_t_points_coordinates)), (h_t_lamps, .inr (4, [.ref h_t_lamps_places, .ref h_t_lamps_strengths, .ref h_t_lamps_values, .int v_t_lamps_ambient])), (h_t_lamps_places, .inl (cI, 12, .inl v_t_lamps_places)), (h_t_lamps_strengths, .inl (cI, 4, .inl v_t_lamps_strengths))]) (va_runS (As := [.int p2]) (rest := []) ⟨hx, hb, hml, hown, hts⟩ (c_X11_isByte l G cI cL cZ p2 _ _ hF) (va_cwS 1 hts (gS mw_2_103 mw_2_104 mw_1_1 mw_2_105) rfl rfl rfl (by decide +kernel) ⟨Nat.le_of_ble_eq_true rfl, Nat.le_of_ble_eq_true rfl⟩) ⟨gP_blind, gP_of hK hnw hP hD [] (by decide +kernel) rfl rfl⟩ rfl rfl hl.1 rfl (lv_room (Nat.le_of_ble_eq_true rfl)) dX11_light_8 ⟨Nat.le_of_ble_eq_true rfl, Nat.le_of_ble_eq_true rfl⟩) hP hD hS hA [] [0, 1, 2, 3, 4, 5] rfl rfl (by decide +kernel) (by decide +kernel) (fun r3 u H locs hF hP hD hS => ?_)
    try dsimp only at hF
    have hP : va_P G vwCl [(h_t, .inr (11, [.ref h_t_points, .ref h_t_mesh, .ref h_t_camera, .ref h_t_lamps, .ref h_t_tree, .ref h_t_crossings, .ref h_t_atHand, .ref h_t_view, .ref h_t_sight, .ref h_t_shade, .ref h_t_slope, .ref h_t_box, .ref h_t_marked, .int v_t_back])), (h_t_points, .inr (6, [.ref h_t_points_coordinates, .int v_t_points_many])), (h_t_points_coordinates, .inl (cI, 9, .inl v_t_points_coordinates)), (h_t_lamps, .inr (4, [.ref h_t_lamps_places, .ref h_t_lamps_strengths, .ref h_t_lamps_values, .int v_t_lamps_ambient])), (h_t_lamps_places, .inl (cI, 12, .inl v_t_lamps_places)), (h_t_lamps_strengths, .inl (cI, 4, .inl v_t_lamps_strengths))] H := hP
    have hD : va_D A [(h_t, .inr (11, [.ref h_t_points, .ref h_t_mesh, .ref h_t_camera, .ref h_t_lamps, .ref h_t_tree, .ref h_t_crossings, .ref h_t_atHand, .ref h_t_view, .ref h_t_sight, .ref h_t_shade, .ref h_t_slope, .ref h_t_box, .ref h_t_marked, .int v_t_back])), (h_t_points, .inr (6, [.ref h_t_points_coordinates, .int v_t_points_many])), (h_t_points_coordinates, .inl (cI, 9, .inl v_t_points_coordinates)), (h_t_lamps, .inr (4, [.ref h_t_lamps_places, .ref h_t_lamps_strengths, .ref h_t_lamps_values, .int v_t_lamps_ambient])), (h_t_lamps_places, .inl (cI, 12, .inl v_t_lamps_places)), (h_t_lamps_strengths, .inl (cI, 4, .inl v_t_lamps_strengths))] := hD
    refine lv_if_eq (tgt := 25) hx hb dX11_light_11 (by decide) (fun c4 => ?_) (fun c4 => ?_)
    · have hF := hF.1 c4
      refine lv_iconst (v := (-1)) hx hb dX11_light_25 (by decide) ?_
      exact hret 26 ls _ _ (-1) (v_t_points_many, v_t_lamps_places, v_t_lamps_strengths) dX11_light_26 rfl hF hP hD hS
    · have hF := hF.2 c4
      refine lv_aload_n hx hb dX11_light_14 rfl (lv_at hl 0 rfl) ?_
      refine va_get (D := G) (ci := 11) (v := .ref h_t_points) (C := RX11) (T := TX11) (N := 14) hx hb hts (fun w h => List.mem_cons_of_mem _ (inG_11 w h)) hown hK hP 0 rfl rfl 0 (by decide) (hts _ (List.mem_cons_of_mem _ mw_2_41)) (fun _ h9 => h9) rfl dX11_light_15 ?_
      refine afterI (wr := [(h_t, .inr (11, [.ref h_t_points, .ref h_t_mesh, .ref h_t_camera, .ref h_t_lamps, .ref h_t_tree, .ref h_t_crossings, .ref h_t_atHand, .ref h_t_view, .ref h_t_sight, .ref h_t_shade, .ref h_t_slope, .ref h_t_box, .ref h_t_marked, .int v_t_back])), (h_t_points_coordinates, .inl (cI, 9, .inl v_t_points_coordinates)), (h_t_lamps, .inr (4, [.ref h_t_lamps_places, .ref h_t_lamps_strengths, .ref h_t_lamps_values, .int v_t_lamps_ambient])), (h_t_lamps_places, .inl (cI, 12, .inl v_t_lamps_places)), (h_t_lamps_strengths, .inl (cI, 4, .inl v_t_lamps_strengths))]) (va_runV (As := []) (rest := []) ⟨hx, hb, hml, hown, hts⟩ (c_X6_many l G cI cL cZ h_t_points h_t_points_coordinates v_t_points_many _ _ hF) (cwV 0 hts (gV mw_2_95 mw_2_96 mw_2_97 mw_1_2 mw_2_98) rfl rfl rfl (by decide +kernel) ⟨Nat.le_of_ble_eq_true rfl, Nat.le_of_ble_eq_true rfl⟩) ⟨gP_blind, va_recv hK hP (ci := 6) (q0 := 1) rfl rfl, gP_of hK hnw hP hD [1] (by decide +kernel) rfl rfl⟩ rfl rfl hl.1 rfl (lv_room (Nat.le_of_ble_eq_true rfl)) dX11_light_18 ⟨Nat.le_of_ble_eq_true rfl, Nat.le_of_ble_eq_true rfl⟩) hP hD hS hA [1] [0, 2, 3, 4, 5] rfl rfl (by decide +kernel) (by decide +kernel) (fun r5 u H locs hF hP hD hS => ?_)
      try dsimp only at hF
      have hP : va_P G vwCl [(h_t, .inr (11, [.ref h_t_points, .ref h_t_mesh, .ref h_t_camera, .ref h_t_lamps, .ref h_t_tree, .ref h_t_crossings, .ref h_t_atHand, .ref h_t_view, .ref h_t_sight, .ref h_t_shade, .ref h_t_slope, .ref h_t_box, .ref h_t_marked, .int v_t_back])), (h_t_points_coordinates, .inl (cI, 9, .inl v_t_points_coordinates)), (h_t_lamps, .inr (4, [.ref h_t_lamps_places, .ref h_t_lamps_strengths, .ref h_t_lamps_values, .int v_t_lamps_ambient])), (h_t_lamps_places, .inl (cI, 12, .inl v_t_lamps_places)), (h_t_lamps_strengths, .inl (cI, 4, .inl v_t_lamps_strengths)), (h_t_points, .inr (6, [.ref h_t_points_coordinates, .int v_t_points_many]))] H := hP
      have hD : va_D A [(h_t, .inr (11, [.ref h_t_points, .ref h_t_mesh, .ref h_t_camera, .ref h_t_lamps, .ref h_t_tree, .ref h_t_crossings, .ref h_t_atHand, .ref h_t_view, .ref h_t_sight, .ref h_t_shade, .ref h_t_slope, .ref h_t_box, .ref h_t_marked, .int v_t_back])), (h_t_points_coordinates, .inl (cI, 9, .inl v_t_points_coordinates)), (h_t_lamps, .inr (4, [.ref h_t_lamps_places, .ref h_t_lamps_strengths, .ref h_t_lamps_values, .int v_t_lamps_ambient])), (h_t_lamps_places, .inl (cI, 12, .inl v_t_lamps_places)), (h_t_lamps_strengths, .inl (cI, 4, .inl v_t_lamps_strengths)), (h_t_points, .inr (6, [.ref h_t_points_coordinates, .int v_t_points_many]))] := hD
      refine lv_iconst (v := 1) hx hb dX11_light_21 (by decide) ?_
      refine lv_icmp_eq (tgt := 27) hx hb dX11_light_22 (by decide) (fun c6 => ?_) (fun c6 => ?_)
      · have hF := hF.1 c6
        refine lv_aload_n hx hb dX11_light_27 rfl (lv_at hl 0 rfl) ?_
        refine va_get (D := G) (ci := 11) (v := .ref h_t_lamps) (C := RX11) (T := TX11) (N := 14) hx hb hts (fun w h => List.mem_cons_of_mem _ (inG_11 w h)) hown hK hP 0 rfl rfl 3 (by decide) (hts _ (List.mem_cons_of_mem _ mw_2_44)) (fun _ h9 => h9) rfl dX11_light_28 ?_
        refine lv_iload_n hx hb dX11_light_31 rfl (lv_at hl 1 rfl) ?_
        refine lv_iload_n hx hb dX11_light_32 rfl (lv_at hl 2 rfl) ?_
        refine lv_aload_n hx hb dX11_light_33 rfl (lv_at hl 0 rfl) ?_
        refine va_get (D := G) (ci := 11) (v := .ref h_t_points) (C := RX11) (T := TX11) (N := 14) hx hb hts (fun w h => List.mem_cons_of_mem _ (inG_11 w h)) hown hK hP 0 rfl rfl 0 (by decide) (hts _ (List.mem_cons_of_mem _ mw_2_41)) (fun _ h9 => h9) rfl dX11_light_34 ?_
        refine afterV (wr := [(h_t, .inr (11, [.ref h_t_points, .ref h_t_mesh, .ref h_t_camera, .ref h_t_lamps, .ref h_t_tree, .ref h_t_crossings, .ref h_t_atHand, .ref h_t_view, .ref h_t_sight, .ref h_t_shade, .ref h_t_slope, .ref h_t_box, .ref h_t_marked, .int v_t_back]))]) (va_runV (As := [.int p1, .int p2, .ref h_t_points]) (rest := []) ⟨hx, hb, hml, hown, hts⟩ (c_X4_hang l G cI cL cZ h_t_lamps h_t_lamps_places h_t_lamps_strengths h_t_lamps_values h_t_points h_t_points_coordinates v_t_lamps_places v_t_lamps_strengths v_t_points_coordinates v_t_lamps_ambient v_t_points_many p1 p2 _ _ hF) (cwV 3 hts (gV mw_2_194 mw_2_195 mw_2_196 mw_1_5 mw_2_197) rfl rfl rfl (by decide +kernel) ⟨Nat.le_of_ble_eq_true rfl, Nat.le_of_ble_eq_true rfl⟩) ⟨gP_blind, va_recv hK hP (ci := 4) (q0 := 2) rfl rfl, gP_of hK hnw hP hD [2, 3, 4, 5, 1] (by decide +kernel) rfl rfl⟩ rfl rfl hl.1 rfl (lv_room (Nat.le_of_ble_eq_true rfl)) dX11_light_37 ⟨Nat.le_of_ble_eq_true rfl, Nat.le_of_ble_eq_true rfl⟩) hP hD hS hA [2, 3, 4, 5, 1] [0] rfl rfl (by decide +kernel) (by decide +kernel) (fun u H locs hF hP hD hS => ?_)
        obtain ⟨v7, v8⟩ := u
        try dsimp only at hF
        have hP : va_P G vwCl [(h_t, .inr (11, [.ref h_t_points, .ref h_t_mesh, .ref h_t_camera, .ref h_t_lamps, .ref h_t_tree, .ref h_t_crossings, .ref h_t_atHand, .ref h_t_view, .ref h_t_sight, .ref h_t_shade, .ref h_t_slope, .ref h_t_box, .ref h_t_marked, .int v_t_back])), (h_t_lamps, .inr (4, [.ref h_t_lamps_places, .ref h_t_lamps_strengths, .ref h_t_lamps_values, .int v_t_lamps_ambient])), (h_t_lamps_places, .inl (cI, 12, .inl v7)), (h_t_lamps_strengths, .inl (cI, 4, .inl v8)), (h_t_points, .inr (6, [.ref h_t_points_coordinates, .int v_t_points_many])), (h_t_points_coordinates, .inl (cI, 9, .inl v_t_points_coordinates))] H := hP
        have hD : va_D A [(h_t, .inr (11, [.ref h_t_points, .ref h_t_mesh, .ref h_t_camera, .ref h_t_lamps, .ref h_t_tree, .ref h_t_crossings, .ref h_t_atHand, .ref h_t_view, .ref h_t_sight, .ref h_t_shade, .ref h_t_slope, .ref h_t_box, .ref h_t_marked, .int v_t_back])), (h_t_lamps, .inr (4, [.ref h_t_lamps_places, .ref h_t_lamps_strengths, .ref h_t_lamps_values, .int v_t_lamps_ambient])), (h_t_lamps_places, .inl (cI, 12, .inl v7)), (h_t_lamps_strengths, .inl (cI, 4, .inl v8)), (h_t_points, .inr (6, [.ref h_t_points_coordinates, .int v_t_points_many])), (h_t_points_coordinates, .inl (cI, 9, .inl v_t_points_coordinates))] := hD
        refine lv_aload_n hx hb dX11_light_40 rfl (lv_at hl 0 rfl) ?_
        refine va_get (D := G) (ci := 11) (v := .ref h_t_points) (C := RX11) (T := TX11) (N := 14) hx hb hts (fun w h => List.mem_cons_of_mem _ (inG_11 w h)) hown hK hP 0 rfl rfl 0 (by decide) (hts _ (List.mem_cons_of_mem _ mw_2_41)) (fun _ h9 => h9) rfl dX11_light_41 ?_
        refine afterV (wr := [(h_t, .inr (11, [.ref h_t_points, .ref h_t_mesh, .ref h_t_camera, .ref h_t_lamps, .ref h_t_tree, .ref h_t_crossings, .ref h_t_atHand, .ref h_t_view, .ref h_t_sight, .ref h_t_shade, .ref h_t_slope, .ref h_t_box, .ref h_t_marked, .int v_t_back])), (h_t_lamps, .inr (4, [.ref h_t_lamps_places, .ref h_t_lamps_strengths, .ref h_t_lamps_values, .int v_t_lamps_ambient])), (h_t_lamps_places, .inl (cI, 12, .inl v7)), (h_t_lamps_strengths, .inl (cI, 4, .inl v8)), (h_t_points_coordinates, .inl (cI, 9, .inl v_t_points_coordinates))]) (va_runV (As := []) (rest := []) ⟨hx, hb, hml, hown, hts⟩ (c_X6_clear l G cI cL cZ h_t_points h_t_points_coordinates v_t_points_many _ _ hF) (cwV 0 hts (gV mw_2_129 mw_2_130 mw_2_131 mw_1_2 mw_2_132) rfl rfl rfl (by decide +kernel) ⟨Nat.le_of_ble_eq_true rfl, Nat.le_of_ble_eq_true rfl⟩) ⟨gP_blind, va_recv hK hP (ci := 6) (q0 := 4) rfl rfl, gP_of hK hnw hP hD [4] (by decide +kernel) rfl rfl⟩ rfl rfl hl.1 rfl (lv_room (Nat.le_of_ble_eq_true rfl)) dX11_light_44 ⟨Nat.le_of_ble_eq_true rfl, Nat.le_of_ble_eq_true rfl⟩) hP hD hS hA [4] [0, 1, 2, 3, 5] rfl rfl (by decide +kernel) (by decide +kernel) (fun u H locs hF hP hD hS => ?_)
        obtain ⟨v9, rfl⟩ : ∃ z, z = u := ⟨_, rfl⟩
        try dsimp only at hF
        have hP : va_P G vwCl [(h_t, .inr (11, [.ref h_t_points, .ref h_t_mesh, .ref h_t_camera, .ref h_t_lamps, .ref h_t_tree, .ref h_t_crossings, .ref h_t_atHand, .ref h_t_view, .ref h_t_sight, .ref h_t_shade, .ref h_t_slope, .ref h_t_box, .ref h_t_marked, .int v_t_back])), (h_t_lamps, .inr (4, [.ref h_t_lamps_places, .ref h_t_lamps_strengths, .ref h_t_lamps_values, .int v_t_lamps_ambient])), (h_t_lamps_places, .inl (cI, 12, .inl v7)), (h_t_lamps_strengths, .inl (cI, 4, .inl v8)), (h_t_points_coordinates, .inl (cI, 9, .inl v_t_points_coordinates)), (h_t_points, .inr (6, [.ref h_t_points_coordinates, .int v9]))] H := hP
        have hD : va_D A [(h_t, .inr (11, [.ref h_t_points, .ref h_t_mesh, .ref h_t_camera, .ref h_t_lamps, .ref h_t_tree, .ref h_t_crossings, .ref h_t_atHand, .ref h_t_view, .ref h_t_sight, .ref h_t_shade, .ref h_t_slope, .ref h_t_box, .ref h_t_marked, .int v_t_back])), (h_t_lamps, .inr (4, [.ref h_t_lamps_places, .ref h_t_lamps_strengths, .ref h_t_lamps_values, .int v_t_lamps_ambient])), (h_t_lamps_places, .inl (cI, 12, .inl v7)), (h_t_lamps_strengths, .inl (cI, 4, .inl v8)), (h_t_points_coordinates, .inl (cI, 9, .inl v_t_points_coordinates)), (h_t_points, .inr (6, [.ref h_t_points_coordinates, .int v9]))] := hD
        refine lv_iconst (v := 0) hx hb dX11_light_47 (by decide) ?_
        exact hret 48 ls _ _ 0 (v9, v7, v8) dX11_light_48 rfl hF (hP.sub [0, 5, 4, 1, 2, 3] rfl) (hD.sub [0, 5, 4, 1, 2, 3] (by decide +kernel) rfl) hS
      · have hF := hF.2 c6
        refine lv_iconst (v := (-1)) hx hb dX11_light_25 (by decide) ?_
        exact hret 26 ls _ _ (-1) (v_t_points_many, v_t_lamps_places, v_t_lamps_strengths) dX11_light_26 rfl hF (hP.sub [0, 5, 1, 2, 3, 4] rfl) (hD.sub [0, 5, 1, 2, 3, 4] (by decide +kernel) rfl) hS

def rm_X5_changeTone : Room := { frames := 0, cells := 0, slots := 0, locals := 0 }
def F_X5_changeTone (p1 : Int32) (p2 : Int32) (v_t_tones : Nat → Int32) (post : Int32 → (Nat → Int32) → Prop) : Prop := (vp_in p1 128 ∧ (∀ x2 : Int32, x2 = (v_t_tones p1.toNatClampNeg) → (vp_in p1 128 ∧ (∀ g4 : Nat → Int32, g4 = upd v_t_tones (p1.toNatClampNeg) p2 → post x2 g4))))
set_option maxHeartbeats 8000000 in
set_option maxRecDepth 100000 in
theorem c_X5_changeTone (l : Launch) (G : va_G) (cI cL cZ : ClassId) (h_t : Nat) (h_t_corners : Nat) (h_t_normals : Nat) (h_t_tones : Nat) (h_t_trial : Nat) (h_t_trialNormal : Nat) (v_t_tones : Nat → Int32) (v_t_many : Int32) (p1 : Int32) (p2 : Int32) (sz : Nat) (post : Int32 → (Nat → Int32) → Prop) (hF : F_X5_changeTone p1 p2 v_t_tones post) : MetI l G (gT cI cL cZ) yX5_changeTone (gW yX5_changeTone cX5_changeTone 4 (some .int)) rm_X5_changeTone 0 0 [.ref h_t, .int p1, .int p2] sz [(h_t, .inr (5, [.ref h_t_corners, .ref h_t_normals, .ref h_t_tones, .ref h_t_trial, .ref h_t_trialNormal, .int v_t_many])), (h_t_tones, .inl (cI, 128, .inl v_t_tones))] (fun (u : (Nat → Int32)) => [(h_t, .inr (5, [.ref h_t_corners, .ref h_t_normals, .ref h_t_tones, .ref h_t_trial, .ref h_t_trialNormal, .int v_t_many])), (h_t_tones, .inl (cI, 128, .inl u))]) (fun (r : Int32) (u : (Nat → Int32)) => post r u) := by
  refine startI (cc := cX5_changeTone) (maxL := 4) (ty9 := .int) (by decide +kernel) rfl (Nat.le_of_ble_eq_true rfl) ?_
  intro p e s m args below meth c Q ls A C0 hP hD hS hl hret
  obtain ⟨hx, hb, hml, hown, hts, hnw, hK, hA, hin⟩ := C0
  have hown : s.vm.findClass RX5 = some m.cls := hown
  have hl : lv_has ls 4 [(0, .ref h_t), (1, .int p1), (2, .int p2)] := hl
  refine lv_aload_n hx hb dX5_changeTone_0 rfl (lv_at hl 0 rfl) ?_
  refine va_get (D := G) (ci := 5) (v := .ref h_t_tones) (C := RX5) (T := TX5) (N := 6) hx hb hts (fun w h => List.mem_cons_of_mem _ (inG_5 w h)) hown hK hP 0 rfl rfl 2 (by decide) (hts _ (List.mem_cons_of_mem _ mw_1_46)) (fun _ h9 => h9) rfl dX5_changeTone_1 ?_
  refine lv_iload_n hx hb dX5_changeTone_4 rfl (lv_at hl 1 rfl) ?_
  obtain ⟨b1, hF⟩ := hF
  refine va_iald hx hb hK hP 1 0 rfl rfl b1 dX5_changeTone_5 ?_
  refine lv_topi (fun x2 ex2 => ?_)
  have hF := hF x2 ex2
  refine lv_istore_n (lv' := [(3, .int x2), (0, .ref h_t), (1, .int p1), (2, .int p2)]) hx hb dX5_changeTone_6 rfl hl (by decide) rfl (fun ls hl => ?_)
  refine lv_aload_n hx hb dX5_changeTone_7 rfl (lv_at hl 1 rfl) ?_
  refine va_get (D := G) (ci := 5) (v := .ref h_t_tones) (C := RX5) (T := TX5) (N := 6) hx hb hts (fun w h => List.mem_cons_of_mem _ (inG_5 w h)) hown hK hP 0 rfl rfl 2 (by decide) (hts _ (List.mem_cons_of_mem _ mw_1_46)) (fun _ h9 => h9) rfl dX5_changeTone_8 ?_
  refine lv_iload_n hx hb dX5_changeTone_11 rfl (lv_at hl 2 rfl) ?_
  refine lv_iload_n hx hb dX5_changeTone_12 rfl (lv_at hl 3 rfl) ?_
  obtain ⟨b3, hF⟩ := hF
  refine g_iast (t0 := 0) hx hb hK hP hD hS 1 rfl rfl b3 dX5_changeTone_13 (fun g4 H locs eg4 hP hD hS => ?_)
  have hF := hF g4 eg4
  have hP : va_P G vwCl [(h_t, .inr (5, [.ref h_t_corners, .ref h_t_normals, .ref h_t_tones, .ref h_t_trial, .ref h_t_trialNormal, .int v_t_many])), (h_t_tones, .inl (cI, 128, .inl g4))] H := hP
  have hD : va_D A [(h_t, .inr (5, [.ref h_t_corners, .ref h_t_normals, .ref h_t_tones, .ref h_t_trial, .ref h_t_trialNormal, .int v_t_many])), (h_t_tones, .inl (cI, 128, .inl g4))] := hD
  refine lv_iload_n hx hb dX5_changeTone_14 rfl (lv_at hl 0 rfl) ?_
  exact hret 15 ls _ _ x2 g4 dX5_changeTone_15 rfl hF hP hD hS

def rm_X4_changeValue : Room := { frames := 0, cells := 0, slots := 0, locals := 0 }
def F_X4_changeValue (p1 : Int32) (p2 : Int32) (v_t_values : Nat → Int32) (post : Int32 → (Nat → Int32) → Prop) : Prop := (vp_in p1 16 ∧ (∀ x2 : Int32, x2 = (v_t_values p1.toNatClampNeg) → (vp_in p1 16 ∧ (∀ g4 : Nat → Int32, g4 = upd v_t_values (p1.toNatClampNeg) p2 → post x2 g4))))
set_option maxHeartbeats 8000000 in
set_option maxRecDepth 100000 in
theorem c_X4_changeValue (l : Launch) (G : va_G) (cI cL cZ : ClassId) (h_t : Nat) (h_t_places : Nat) (h_t_strengths : Nat) (h_t_values : Nat) (v_t_values : Nat → Int32) (v_t_ambient : Int32) (p1 : Int32) (p2 : Int32) (sz : Nat) (post : Int32 → (Nat → Int32) → Prop) (hF : F_X4_changeValue p1 p2 v_t_values post) : MetI l G (gT cI cL cZ) yX4_changeValue (gW yX4_changeValue cX4_changeValue 4 (some .int)) rm_X4_changeValue 0 0 [.ref h_t, .int p1, .int p2] sz [(h_t, .inr (4, [.ref h_t_places, .ref h_t_strengths, .ref h_t_values, .int v_t_ambient])), (h_t_values, .inl (cI, 16, .inl v_t_values))] (fun (u : (Nat → Int32)) => [(h_t, .inr (4, [.ref h_t_places, .ref h_t_strengths, .ref h_t_values, .int v_t_ambient])), (h_t_values, .inl (cI, 16, .inl u))]) (fun (r : Int32) (u : (Nat → Int32)) => post r u) := by
  refine startI (cc := cX4_changeValue) (maxL := 4) (ty9 := .int) (by decide +kernel) rfl (Nat.le_of_ble_eq_true rfl) ?_
  intro p e s m args below meth c Q ls A C0 hP hD hS hl hret
  obtain ⟨hx, hb, hml, hown, hts, hnw, hK, hA, hin⟩ := C0
  have hown : s.vm.findClass RX4 = some m.cls := hown
  have hl : lv_has ls 4 [(0, .ref h_t), (1, .int p1), (2, .int p2)] := hl
  refine lv_aload_n hx hb dX4_changeValue_0 rfl (lv_at hl 0 rfl) ?_
  refine va_get (D := G) (ci := 4) (v := .ref h_t_values) (C := RX4) (T := TX4) (N := 4) hx hb hts (fun w h => List.mem_cons_of_mem _ (inG_4 w h)) hown hK hP 0 rfl rfl 2 (by decide) (hts _ (List.mem_cons_of_mem _ mw_1_96)) (fun _ h9 => h9) rfl dX4_changeValue_1 ?_
  refine lv_iload_n hx hb dX4_changeValue_4 rfl (lv_at hl 1 rfl) ?_
  obtain ⟨b1, hF⟩ := hF
  refine va_iald hx hb hK hP 1 0 rfl rfl b1 dX4_changeValue_5 ?_
  refine lv_topi (fun x2 ex2 => ?_)
  have hF := hF x2 ex2
  refine lv_istore_n (lv' := [(3, .int x2), (0, .ref h_t), (1, .int p1), (2, .int p2)]) hx hb dX4_changeValue_6 rfl hl (by decide) rfl (fun ls hl => ?_)
  refine lv_aload_n hx hb dX4_changeValue_7 rfl (lv_at hl 1 rfl) ?_
  refine va_get (D := G) (ci := 4) (v := .ref h_t_values) (C := RX4) (T := TX4) (N := 4) hx hb hts (fun w h => List.mem_cons_of_mem _ (inG_4 w h)) hown hK hP 0 rfl rfl 2 (by decide) (hts _ (List.mem_cons_of_mem _ mw_1_96)) (fun _ h9 => h9) rfl dX4_changeValue_8 ?_
  refine lv_iload_n hx hb dX4_changeValue_11 rfl (lv_at hl 2 rfl) ?_
  refine lv_iload_n hx hb dX4_changeValue_12 rfl (lv_at hl 3 rfl) ?_
  obtain ⟨b3, hF⟩ := hF
  refine g_iast (t0 := 0) hx hb hK hP hD hS 1 rfl rfl b3 dX4_changeValue_13 (fun g4 H locs eg4 hP hD hS => ?_)
  have hF := hF g4 eg4
  have hP : va_P G vwCl [(h_t, .inr (4, [.ref h_t_places, .ref h_t_strengths, .ref h_t_values, .int v_t_ambient])), (h_t_values, .inl (cI, 16, .inl g4))] H := hP
  have hD : va_D A [(h_t, .inr (4, [.ref h_t_places, .ref h_t_strengths, .ref h_t_values, .int v_t_ambient])), (h_t_values, .inl (cI, 16, .inl g4))] := hD
  refine lv_iload_n hx hb dX4_changeValue_14 rfl (lv_at hl 0 rfl) ?_
  exact hret 15 ls _ _ x2 g4 dX4_changeValue_15 rfl hF hP hD hS

def rm_X4_changeAmbient : Room := { frames := 0, cells := 0, slots := 0, locals := 0 }
def F_X4_changeAmbient (p1 : Int32) (v_t_ambient : Int32) (post : Int32 → Int32 → Prop) : Prop := post v_t_ambient p1
set_option maxHeartbeats 8000000 in
set_option maxRecDepth 100000 in
theorem c_X4_changeAmbient (l : Launch) (G : va_G) (cI cL cZ : ClassId) (h_t : Nat) (h_t_places : Nat) (h_t_strengths : Nat) (h_t_values : Nat) (v_t_ambient : Int32) (p1 : Int32) (sz : Nat) (post : Int32 → Int32 → Prop) (hF : F_X4_changeAmbient p1 v_t_ambient post) : MetI l G (gT cI cL cZ) yX4_changeAmbient (gW yX4_changeAmbient cX4_changeAmbient 3 (some .int)) rm_X4_changeAmbient 0 0 [.ref h_t, .int p1] sz [(h_t, .inr (4, [.ref h_t_places, .ref h_t_strengths, .ref h_t_values, .int v_t_ambient]))] (fun (u : Int32) => [(h_t, .inr (4, [.ref h_t_places, .ref h_t_strengths, .ref h_t_values, .int u]))]) (fun (r : Int32) (u : Int32) => post r u) := by
  refine startI (cc := cX4_changeAmbient) (maxL := 3) (ty9 := .int) (by decide +kernel) rfl (Nat.le_of_ble_eq_true rfl) ?_
  intro p e s m args below meth c Q ls A C0 hP hD hS hl hret
  obtain ⟨hx, hb, hml, hown, hts, hnw, hK, hA, hin⟩ := C0
  have hown : s.vm.findClass RX4 = some m.cls := hown
  have hl : lv_has ls 3 [(0, .ref h_t), (1, .int p1)] := hl
  refine lv_aload_n hx hb dX4_changeAmbient_0 rfl (lv_at hl 0 rfl) ?_
  refine va_get (D := G) (ci := 4) (v := .int v_t_ambient) (C := RX4) (T := TX4) (N := 4) hx hb hts (fun w h => List.mem_cons_of_mem _ (inG_4 w h)) hown hK hP 0 rfl rfl 3 (by decide) (hts _ (List.mem_cons_of_mem _ mw_1_97)) (fun _ h9 => h9) rfl dX4_changeAmbient_1 ?_
  refine lv_istore_n (lv' := [(2, .int v_t_ambient), (0, .ref h_t), (1, .int p1)]) hx hb dX4_changeAmbient_4 rfl hl (by decide) rfl (fun ls hl => ?_)
  refine lv_aload_n hx hb dX4_changeAmbient_5 rfl (lv_at hl 1 rfl) ?_
  refine lv_iload_n hx hb dX4_changeAmbient_6 rfl (lv_at hl 2 rfl) ?_
  refine va_put (D := G) (ci := 4) (v := .int p1) (ty := .int) (C := RX4) (T := TX4) (N := 4) hx hb hts (fun w h => List.mem_cons_of_mem _ (inG_4 w h)) tyX4 tyX4_ok nmX4 hown hK hP hD hS 0 rfl rfl 3 (by decide) (hts _ (List.mem_cons_of_mem _ mw_1_97)) (fun _ h9 => h9) rfl (by decide +kernel) rfl rfl (Nat.le_of_ble_eq_true rfl) dX4_changeAmbient_7 (fun H locs hP hD hS => ?_)
  have hP : va_P G vwCl [(h_t, .inr (4, [.ref h_t_places, .ref h_t_strengths, .ref h_t_values, .int p1]))] H := hP
  have hD : va_D A [(h_t, .inr (4, [.ref h_t_places, .ref h_t_strengths, .ref h_t_values, .int p1]))] := hD
  refine lv_iload_n hx hb dX4_changeAmbient_10 rfl (lv_at hl 0 rfl) ?_
  exact hret 11 ls _ _ v_t_ambient p1 dX4_changeAmbient_11 rfl hF hP hD hS

def rm_X11_set : Room := { frames := 1, cells := 0, slots := 0, locals := 23 }
def F_X11_set (p1 : Int32) (p2 : Int32) (p3 : Int32) (v_t_back : Int32) (v_t_mesh_many : Int32) (v_t_mesh_tones : Nat → Int32) (v_t_lamps_ambient : Int32) (v_t_lamps_values : Nat → Int32) (post : Int32 → Int32 → (Nat → Int32) → Int32 → (Nat → Int32) → Prop) : Prop := (F_X11_isByte p3 (fun r1 => ((¬ r1 = 0 → ((p1.toInt = 0 → ((p2 < 0 → post (-1) v_t_back v_t_mesh_tones v_t_lamps_ambient v_t_lamps_values) ∧ (¬ p2 < 0 → ((16 ≤ p2 → post (-1) v_t_back v_t_mesh_tones v_t_lamps_ambient v_t_lamps_values) ∧ (¬ 16 ≤ p2 → (F_X4_changeValue p2 p3 v_t_lamps_values (fun r6 v7 => post r6 v_t_back v_t_mesh_tones v_t_lamps_ambient v7))))))) ∧ (p1.toInt = 1 → (F_X4_changeAmbient p3 v_t_lamps_ambient (fun r8 v9 => post r8 v_t_back v_t_mesh_tones v9 v_t_lamps_values))) ∧ (p1.toInt = 2 → post v_t_back p3 v_t_mesh_tones v_t_lamps_ambient v_t_lamps_values) ∧ (p1.toInt = 3 → (F_X5_has p2 v_t_mesh_many (fun r10 => ((r10 = 0 → post (-1) v_t_back v_t_mesh_tones v_t_lamps_ambient v_t_lamps_values) ∧ (¬ r10 = 0 → (F_X5_changeTone p2 p3 v_t_mesh_tones (fun r12 v13 => post r12 v_t_back v13 v_t_lamps_ambient v_t_lamps_values))))))) ∧ (p1.toInt < 0 ∨ 3 < p1.toInt → post (-1) v_t_back v_t_mesh_tones v_t_lamps_ambient v_t_lamps_values))) ∧ (r1 = 0 → post (-1) v_t_back v_t_mesh_tones v_t_lamps_ambient v_t_lamps_values))))
set_option maxHeartbeats 8000000 in
set_option maxRecDepth 100000 in
theorem c_X11_set (l : Launch) (G : va_G) (cI cL cZ : ClassId) (h_t : Nat) (h_t_points : Nat) (h_t_mesh : Nat) (h_t_camera : Nat) (h_t_lamps : Nat) (h_t_tree : Nat) (h_t_crossings : Nat) (h_t_atHand : Nat) (h_t_view : Nat) (h_t_sight : Nat) (h_t_shade : Nat) (h_t_slope : Nat) (h_t_box : Nat) (h_t_marked : Nat) (h_t_mesh_corners : Nat) (h_t_mesh_normals : Nat) (h_t_mesh_tones : Nat) (h_t_mesh_trial : Nat) (h_t_mesh_trialNormal : Nat) (h_t_lamps_places : Nat) (h_t_lamps_strengths : Nat) (h_t_lamps_values : Nat) (v_t_back : Int32) (v_t_mesh_many : Int32) (v_t_mesh_tones : Nat → Int32) (v_t_lamps_ambient : Int32) (v_t_lamps_values : Nat → Int32) (p1 : Int32) (p2 : Int32) (p3 : Int32) (sz : Nat) (post : Int32 → Int32 → (Nat → Int32) → Int32 → (Nat → Int32) → Prop) (hF : F_X11_set p1 p2 p3 v_t_back v_t_mesh_many v_t_mesh_tones v_t_lamps_ambient v_t_lamps_values post) : MetI l G (gT cI cL cZ) yX11_set (gW yX11_set cX11_set 5 (some .int)) rm_X11_set 0 0 [.ref h_t, .int p1, .int p2, .int p3] sz [(h_t, .inr (11, [.ref h_t_points, .ref h_t_mesh, .ref h_t_camera, .ref h_t_lamps, .ref h_t_tree, .ref h_t_crossings, .ref h_t_atHand, .ref h_t_view, .ref h_t_sight, .ref h_t_shade, .ref h_t_slope, .ref h_t_box, .ref h_t_marked, .int v_t_back])), (h_t_mesh, .inr (5, [.ref h_t_mesh_corners, .ref h_t_mesh_normals, .ref h_t_mesh_tones, .ref h_t_mesh_trial, .ref h_t_mesh_trialNormal, .int v_t_mesh_many])), (h_t_mesh_tones, .inl (cI, 128, .inl v_t_mesh_tones)), (h_t_lamps, .inr (4, [.ref h_t_lamps_places, .ref h_t_lamps_strengths, .ref h_t_lamps_values, .int v_t_lamps_ambient])), (h_t_lamps_values, .inl (cI, 16, .inl v_t_lamps_values))] (fun (u : Int32 × (Nat → Int32) × Int32 × (Nat → Int32)) => [(h_t, .inr (11, [.ref h_t_points, .ref h_t_mesh, .ref h_t_camera, .ref h_t_lamps, .ref h_t_tree, .ref h_t_crossings, .ref h_t_atHand, .ref h_t_view, .ref h_t_sight, .ref h_t_shade, .ref h_t_slope, .ref h_t_box, .ref h_t_marked, .int u.1])), (h_t_mesh, .inr (5, [.ref h_t_mesh_corners, .ref h_t_mesh_normals, .ref h_t_mesh_tones, .ref h_t_mesh_trial, .ref h_t_mesh_trialNormal, .int v_t_mesh_many])), (h_t_mesh_tones, .inl (cI, 128, .inl u.2.1)), (h_t_lamps, .inr (4, [.ref h_t_lamps_places, .ref h_t_lamps_strengths, .ref h_t_lamps_values, .int u.2.2.1])), (h_t_lamps_values, .inl (cI, 16, .inl u.2.2.2))]) (fun (r : Int32) (u : Int32 × (Nat → Int32) × Int32 × (Nat → Int32)) => post r u.1 u.2.1 u.2.2.1 u.2.2.2) := by
  refine startI (cc := cX11_set) (maxL := 5) (ty9 := .int) (by decide +kernel) rfl (Nat.le_of_ble_eq_true rfl) ?_
  intro p e s m args below meth c Q ls A C0 hP hD hS hl hret
  obtain ⟨hx, hb, hml, hown, hts, hnw, hK, hA, hin⟩ := C0
  have hown : s.vm.findClass RX11 = some m.cls := hown
  have hl : lv_has ls 5 [(0, .ref h_t), (1, .int p1), (2, .int p2), (3, .int p3)] := hl
  refine lv_iload_n hx hb dX11_set_0 rfl (lv_at hl 3 rfl) ?_
  refine afterI (wr := [(h_t, .inr (11, [.ref h_t_points, .ref h_t_mesh, .ref h_t_camera, .ref h_t_lamps, .ref h_t_tree, .ref h_t_crossings, .ref h_t_atHand, .ref h_t_view, .ref h_t_sight, .ref h_t_shade, .ref h_t_slope, .ref h_t_box, .ref h_t_marked, .int v_t_back])), (h_t_mesh, .inr (5, [.ref h_t_mesh_corners, .ref h_t_mesh_normals, .ref h_t_mesh_tones, .ref h_t_mesh_trial, .ref h_t_mesh_trialNormal, .int v_t_mesh_many])), (h_t_mesh_tones, .inl (cI, 128, .inl v_t_mesh_tones)), (h_t_lamps, .inr (4, [.ref h_t_lamps_places, .ref h_t_lamps_strengths, .ref h_t_lamps_values, .int v_t_lamps_ambient])), (h_t_lamps_values, .inl (cI, 16, .inl v_t_lamps_values))]) (va_runS (As := [.int p3]) (rest := []) ⟨hx, hb, hml, hown, hts⟩ (c_X11_isByte l G cI cL cZ p3 _ _ hF) (va_cwS 1 hts (gS mw_2_103 mw_2_104 mw_1_1 mw_2_105) rfl rfl rfl (by decide +kernel) ⟨Nat.le_of_ble_eq_true rfl, Nat.le_of_ble_eq_true rfl⟩) ⟨gP_blind, gP_of hK hnw hP hD [] (by decide +kernel) rfl rfl⟩ rfl rfl hl.1 rfl (lv_room (Nat.le_of_ble_eq_true rfl)) dX11_set_1 ⟨Nat.le_of_ble_eq_true rfl, Nat.le_of_ble_eq_true rfl⟩) hP hD hS hA [] [0, 1, 2, 3, 4] rfl rfl (by decide +kernel) (by decide +kernel) (fun r1 u H locs hF hP hD hS => ?_)
  try dsimp only at hF
  have hP : va_P G vwCl [(h_t, .inr (11, [.ref h_t_points, .ref h_t_mesh, .ref h_t_camera, .ref h_t_lamps, .ref h_t_tree, .ref h_t_crossings, .ref h_t_atHand, .ref h_t_view, .ref h_t_sight, .ref h_t_shade, .ref h_t_slope, .ref h_t_box, .ref h_t_marked, .int v_t_back])), (h_t_mesh, .inr (5, [.ref h_t_mesh_corners, .ref h_t_mesh_normals, .ref h_t_mesh_tones, .ref h_t_mesh_trial, .ref h_t_mesh_trialNormal, .int v_t_mesh_many])), (h_t_mesh_tones, .inl (cI, 128, .inl v_t_mesh_tones)), (h_t_lamps, .inr (4, [.ref h_t_lamps_places, .ref h_t_lamps_strengths, .ref h_t_lamps_values, .int v_t_lamps_ambient])), (h_t_lamps_values, .inl (cI, 16, .inl v_t_lamps_values))] H := hP
  have hD : va_D A [(h_t, .inr (11, [.ref h_t_points, .ref h_t_mesh, .ref h_t_camera, .ref h_t_lamps, .ref h_t_tree, .ref h_t_crossings, .ref h_t_atHand, .ref h_t_view, .ref h_t_sight, .ref h_t_shade, .ref h_t_slope, .ref h_t_box, .ref h_t_marked, .int v_t_back])), (h_t_mesh, .inr (5, [.ref h_t_mesh_corners, .ref h_t_mesh_normals, .ref h_t_mesh_tones, .ref h_t_mesh_trial, .ref h_t_mesh_trialNormal, .int v_t_mesh_many])), (h_t_mesh_tones, .inl (cI, 128, .inl v_t_mesh_tones)), (h_t_lamps, .inr (4, [.ref h_t_lamps_places, .ref h_t_lamps_strengths, .ref h_t_lamps_values, .int v_t_lamps_ambient])), (h_t_lamps_values, .inl (cI, 16, .inl v_t_lamps_values))] := hD
  refine lv_if_ne (tgt := 9) hx hb dX11_set_4 (by decide) (fun c2 => ?_) (fun c2 => ?_)
  · have hF := hF.1 c2
    refine lv_iload_n hx hb dX11_set_9 rfl (lv_at hl 1 rfl) ?_
    have c3 : p1.toInt = 0 ∨ p1.toInt = 1 ∨ p1.toInt = 2 ∨ p1.toInt = 3 ∨ (p1.toInt < 0 ∨ 3 < p1.toInt) := by omega
    rcases c3 with c3 | c3 | c3 | c3 | c3
    · have hF := hF.1 c3
      refine lv_tableIn (off := 30) (tgt := 40) hx hb dX11_set_10 (by omega) (by omega) (by rw [c3]; rfl) (by decide) ?_
      refine lv_iload_n hx hb dX11_set_40 rfl (lv_at hl 2 rfl) ?_
      refine lv_if_lt (tgt := 62) hx hb dX11_set_41 (by decide) (fun c4 => ?_) (fun c4 => ?_)
      · have hF := hF.1 c4
        refine lv_iconst (v := (-1)) hx hb dX11_set_62 (by decide) ?_
        exact hret 63 ls _ _ (-1) (v_t_back, v_t_mesh_tones, v_t_lamps_ambient, v_t_lamps_values) dX11_set_63 rfl hF hP hD hS
      · have hF := hF.2 c4
        refine lv_iload_n hx hb dX11_set_44 rfl (lv_at hl 2 rfl) ?_
        refine lv_bipush (v := 16) hx hb dX11_set_45 (by decide) ?_
        refine lv_icmp_ge (tgt := 62) hx hb dX11_set_47 (by decide) (fun c5 => ?_) (fun c5 => ?_)
        · have hF := hF.1 c5
          refine lv_iconst (v := (-1)) hx hb dX11_set_62 (by decide) ?_
          exact hret 63 ls _ _ (-1) (v_t_back, v_t_mesh_tones, v_t_lamps_ambient, v_t_lamps_values) dX11_set_63 rfl hF hP hD hS
        · have hF := hF.2 c5
          refine lv_aload_n hx hb dX11_set_50 rfl (lv_at hl 0 rfl) ?_
          refine va_get (D := G) (ci := 11) (v := .ref h_t_lamps) (C := RX11) (T := TX11) (N := 14) hx hb hts (fun w h => List.mem_cons_of_mem _ (inG_11 w h)) hown hK hP 0 rfl rfl 3 (by decide) (hts _ (List.mem_cons_of_mem _ mw_2_44)) (fun _ h9 => h9) rfl dX11_set_51 ?_
          refine lv_iload_n hx hb dX11_set_54 rfl (lv_at hl 2 rfl) ?_
          refine lv_iload_n hx hb dX11_set_55 rfl (lv_at hl 3 rfl) ?_
          refine afterI (wr := [(h_t, .inr (11, [.ref h_t_points, .ref h_t_mesh, .ref h_t_camera, .ref h_t_lamps, .ref h_t_tree, .ref h_t_crossings, .ref h_t_atHand, .ref h_t_view, .ref h_t_sight, .ref h_t_shade, .ref h_t_slope, .ref h_t_box, .ref h_t_marked, .int v_t_back])), (h_t_mesh, .inr (5, [.ref h_t_mesh_corners, .ref h_t_mesh_normals, .ref h_t_mesh_tones, .ref h_t_mesh_trial, .ref h_t_mesh_trialNormal, .int v_t_mesh_many])), (h_t_mesh_tones, .inl (cI, 128, .inl v_t_mesh_tones))]) (va_runV (As := [.int p2, .int p3]) (rest := []) ⟨hx, hb, hml, hown, hts⟩ (c_X4_changeValue l G cI cL cZ h_t_lamps h_t_lamps_places h_t_lamps_strengths h_t_lamps_values v_t_lamps_values v_t_lamps_ambient p2 p3 _ _ hF) (cwV 2 hts (gV mw_2_203 mw_2_204 mw_2_205 mw_1_5 mw_2_206) rfl rfl rfl (by decide +kernel) ⟨Nat.le_of_ble_eq_true rfl, Nat.le_of_ble_eq_true rfl⟩) ⟨gP_blind, va_recv hK hP (ci := 4) (q0 := 3) rfl rfl, gP_of hK hnw hP hD [3, 4] (by decide +kernel) rfl rfl⟩ rfl rfl hl.1 rfl (lv_room (Nat.le_of_ble_eq_true rfl)) dX11_set_56 ⟨Nat.le_of_ble_eq_true rfl, Nat.le_of_ble_eq_true rfl⟩) hP hD hS hA [3, 4] [0, 1, 2] rfl rfl (by decide +kernel) (by decide +kernel) (fun r6 u H locs hF hP hD hS => ?_)
          obtain ⟨v7, rfl⟩ : ∃ z, z = u := ⟨_, rfl⟩
          try dsimp only at hF
          have hP : va_P G vwCl [(h_t, .inr (11, [.ref h_t_points, .ref h_t_mesh, .ref h_t_camera, .ref h_t_lamps, .ref h_t_tree, .ref h_t_crossings, .ref h_t_atHand, .ref h_t_view, .ref h_t_sight, .ref h_t_shade, .ref h_t_slope, .ref h_t_box, .ref h_t_marked, .int v_t_back])), (h_t_mesh, .inr (5, [.ref h_t_mesh_corners, .ref h_t_mesh_normals, .ref h_t_mesh_tones, .ref h_t_mesh_trial, .ref h_t_mesh_trialNormal, .int v_t_mesh_many])), (h_t_mesh_tones, .inl (cI, 128, .inl v_t_mesh_tones)), (h_t_lamps, .inr (4, [.ref h_t_lamps_places, .ref h_t_lamps_strengths, .ref h_t_lamps_values, .int v_t_lamps_ambient])), (h_t_lamps_values, .inl (cI, 16, .inl v7))] H := hP
          have hD : va_D A [(h_t, .inr (11, [.ref h_t_points, .ref h_t_mesh, .ref h_t_camera, .ref h_t_lamps, .ref h_t_tree, .ref h_t_crossings, .ref h_t_atHand, .ref h_t_view, .ref h_t_sight, .ref h_t_shade, .ref h_t_slope, .ref h_t_box, .ref h_t_marked, .int v_t_back])), (h_t_mesh, .inr (5, [.ref h_t_mesh_corners, .ref h_t_mesh_normals, .ref h_t_mesh_tones, .ref h_t_mesh_trial, .ref h_t_mesh_trialNormal, .int v_t_mesh_many])), (h_t_mesh_tones, .inl (cI, 128, .inl v_t_mesh_tones)), (h_t_lamps, .inr (4, [.ref h_t_lamps_places, .ref h_t_lamps_strengths, .ref h_t_lamps_values, .int v_t_lamps_ambient])), (h_t_lamps_values, .inl (cI, 16, .inl v7))] := hD
          refine lv_goto (tgt := 63) hx hb dX11_set_59 (by decide) ?_
          exact hret 63 ls _ _ r6 (v_t_back, v_t_mesh_tones, v_t_lamps_ambient, v7) dX11_set_63 rfl hF hP hD hS
    · have hF := hF.2.1 c3
      refine lv_tableIn (off := 54) (tgt := 64) hx hb dX11_set_10 (by omega) (by omega) (by rw [c3]; rfl) (by decide) ?_
      refine lv_aload_n hx hb dX11_set_64 rfl (lv_at hl 0 rfl) ?_
      refine va_get (D := G) (ci := 11) (v := .ref h_t_lamps) (C := RX11) (T := TX11) (N := 14) hx hb hts (fun w h => List.mem_cons_of_mem _ (inG_11 w h)) hown hK hP 0 rfl rfl 3 (by decide) (hts _ (List.mem_cons_of_mem _ mw_2_44)) (fun _ h9 => h9) rfl dX11_set_65 ?_
      refine lv_iload_n hx hb dX11_set_68 rfl (lv_at hl 3 rfl) ?_
      refine afterI (wr := [(h_t, .inr (11, [.ref h_t_points, .ref h_t_mesh, .ref h_t_camera, .ref h_t_lamps, .ref h_t_tree, .ref h_t_crossings, .ref h_t_atHand, .ref h_t_view, .ref h_t_sight, .ref h_t_shade, .ref h_t_slope, .ref h_t_box, .ref h_t_marked, .int v_t_back])), (h_t_mesh, .inr (5, [.ref h_t_mesh_corners, .ref h_t_mesh_normals, .ref h_t_mesh_tones, .ref h_t_mesh_trial, .ref h_t_mesh_trialNormal, .int v_t_mesh_many])), (h_t_mesh_tones, .inl (cI, 128, .inl v_t_mesh_tones)), (h_t_lamps_values, .inl (cI, 16, .inl v_t_lamps_values))]) (va_runV (As := [.int p3]) (rest := []) ⟨hx, hb, hml, hown, hts⟩ (c_X4_changeAmbient l G cI cL cZ h_t_lamps h_t_lamps_places h_t_lamps_strengths h_t_lamps_values v_t_lamps_ambient p3 _ _ hF) (cwV 1 hts (gV mw_2_207 mw_2_208 mw_2_209 mw_1_5 mw_2_210) rfl rfl rfl (by decide +kernel) ⟨Nat.le_of_ble_eq_true rfl, Nat.le_of_ble_eq_true rfl⟩) ⟨gP_blind, va_recv hK hP (ci := 4) (q0 := 3) rfl rfl, gP_of hK hnw hP hD [3] (by decide +kernel) rfl rfl⟩ rfl rfl hl.1 rfl (lv_room (Nat.le_of_ble_eq_true rfl)) dX11_set_69 ⟨Nat.le_of_ble_eq_true rfl, Nat.le_of_ble_eq_true rfl⟩) hP hD hS hA [3] [0, 1, 2, 4] rfl rfl (by decide +kernel) (by decide +kernel) (fun r8 u H locs hF hP hD hS => ?_)
      obtain ⟨v9, rfl⟩ : ∃ z, z = u := ⟨_, rfl⟩
      try dsimp only at hF
      have hP : va_P G vwCl [(h_t, .inr (11, [.ref h_t_points, .ref h_t_mesh, .ref h_t_camera, .ref h_t_lamps, .ref h_t_tree, .ref h_t_crossings, .ref h_t_atHand, .ref h_t_view, .ref h_t_sight, .ref h_t_shade, .ref h_t_slope, .ref h_t_box, .ref h_t_marked, .int v_t_back])), (h_t_mesh, .inr (5, [.ref h_t_mesh_corners, .ref h_t_mesh_normals, .ref h_t_mesh_tones, .ref h_t_mesh_trial, .ref h_t_mesh_trialNormal, .int v_t_mesh_many])), (h_t_mesh_tones, .inl (cI, 128, .inl v_t_mesh_tones)), (h_t_lamps_values, .inl (cI, 16, .inl v_t_lamps_values)), (h_t_lamps, .inr (4, [.ref h_t_lamps_places, .ref h_t_lamps_strengths, .ref h_t_lamps_values, .int v9]))] H := hP
      have hD : va_D A [(h_t, .inr (11, [.ref h_t_points, .ref h_t_mesh, .ref h_t_camera, .ref h_t_lamps, .ref h_t_tree, .ref h_t_crossings, .ref h_t_atHand, .ref h_t_view, .ref h_t_sight, .ref h_t_shade, .ref h_t_slope, .ref h_t_box, .ref h_t_marked, .int v_t_back])), (h_t_mesh, .inr (5, [.ref h_t_mesh_corners, .ref h_t_mesh_normals, .ref h_t_mesh_tones, .ref h_t_mesh_trial, .ref h_t_mesh_trialNormal, .int v_t_mesh_many])), (h_t_mesh_tones, .inl (cI, 128, .inl v_t_mesh_tones)), (h_t_lamps_values, .inl (cI, 16, .inl v_t_lamps_values)), (h_t_lamps, .inr (4, [.ref h_t_lamps_places, .ref h_t_lamps_strengths, .ref h_t_lamps_values, .int v9]))] := hD
      exact hret 72 ls _ _ r8 (v_t_back, v_t_mesh_tones, v9, v_t_lamps_values) dX11_set_72 rfl hF (hP.sub [0, 1, 2, 4, 3] rfl) (hD.sub [0, 1, 2, 4, 3] (by decide +kernel) rfl) hS
    · have hF := hF.2.2.1 c3
      refine lv_tableIn (off := 63) (tgt := 73) hx hb dX11_set_10 (by omega) (by omega) (by rw [c3]; rfl) (by decide) ?_
      refine lv_aload_n hx hb dX11_set_73 rfl (lv_at hl 0 rfl) ?_
      refine va_get (D := G) (ci := 11) (v := .int v_t_back) (C := RX11) (T := TX11) (N := 14) hx hb hts (fun w h => List.mem_cons_of_mem _ (inG_11 w h)) hown hK hP 0 rfl rfl 13 (by decide) (hts _ (List.mem_cons_of_mem _ mw_2_54)) (fun _ h9 => h9) rfl dX11_set_74 ?_
      refine lv_istore (lv' := [(4, .int v_t_back), (0, .ref h_t), (1, .int p1), (2, .int p2), (3, .int p3)]) hx hb dX11_set_77 hl (by decide) rfl (fun ls hl => ?_)
      refine lv_aload_n hx hb dX11_set_79 rfl (lv_at hl 1 rfl) ?_
      refine lv_iload_n hx hb dX11_set_80 rfl (lv_at hl 4 rfl) ?_
      refine va_put (D := G) (ci := 11) (v := .int p3) (ty := .int) (C := RX11) (T := TX11) (N := 14) hx hb hts (fun w h => List.mem_cons_of_mem _ (inG_11 w h)) tyX11 tyX11_ok nmX11 hown hK hP hD hS 0 rfl rfl 13 (by decide) (hts _ (List.mem_cons_of_mem _ mw_2_54)) (fun _ h9 => h9) rfl (by decide +kernel) rfl rfl (Nat.le_of_ble_eq_true rfl) dX11_set_81 (fun H locs hP hD hS => ?_)
      have hP : va_P G vwCl [(h_t, .inr (11, [.ref h_t_points, .ref h_t_mesh, .ref h_t_camera, .ref h_t_lamps, .ref h_t_tree, .ref h_t_crossings, .ref h_t_atHand, .ref h_t_view, .ref h_t_sight, .ref h_t_shade, .ref h_t_slope, .ref h_t_box, .ref h_t_marked, .int p3])), (h_t_mesh, .inr (5, [.ref h_t_mesh_corners, .ref h_t_mesh_normals, .ref h_t_mesh_tones, .ref h_t_mesh_trial, .ref h_t_mesh_trialNormal, .int v_t_mesh_many])), (h_t_mesh_tones, .inl (cI, 128, .inl v_t_mesh_tones)), (h_t_lamps, .inr (4, [.ref h_t_lamps_places, .ref h_t_lamps_strengths, .ref h_t_lamps_values, .int v_t_lamps_ambient])), (h_t_lamps_values, .inl (cI, 16, .inl v_t_lamps_values))] H := hP
      have hD : va_D A [(h_t, .inr (11, [.ref h_t_points, .ref h_t_mesh, .ref h_t_camera, .ref h_t_lamps, .ref h_t_tree, .ref h_t_crossings, .ref h_t_atHand, .ref h_t_view, .ref h_t_sight, .ref h_t_shade, .ref h_t_slope, .ref h_t_box, .ref h_t_marked, .int p3])), (h_t_mesh, .inr (5, [.ref h_t_mesh_corners, .ref h_t_mesh_normals, .ref h_t_mesh_tones, .ref h_t_mesh_trial, .ref h_t_mesh_trialNormal, .int v_t_mesh_many])), (h_t_mesh_tones, .inl (cI, 128, .inl v_t_mesh_tones)), (h_t_lamps, .inr (4, [.ref h_t_lamps_places, .ref h_t_lamps_strengths, .ref h_t_lamps_values, .int v_t_lamps_ambient])), (h_t_lamps_values, .inl (cI, 16, .inl v_t_lamps_values))] := hD
      refine lv_iload hx hb dX11_set_84 (lv_at hl 0 rfl) ?_
      exact hret 86 ls _ _ v_t_back (p3, v_t_mesh_tones, v_t_lamps_ambient, v_t_lamps_values) dX11_set_86 rfl hF hP hD hS
    · have hF := hF.2.2.2.1 c3
      refine lv_tableIn (off := 77) (tgt := 87) hx hb dX11_set_10 (by omega) (by omega) (by rw [c3]; rfl) (by decide) ?_
      refine lv_aload_n hx hb dX11_set_87 rfl (lv_at hl 0 rfl) ?_
      refine va_get (D := G) (ci := 11) (v := .ref h_t_mesh) (C := RX11) (T := TX11) (N := 14) hx hb hts (fun w h => List.mem_cons_of_mem _ (inG_11 w h)) hown hK hP 0 rfl rfl 1 (by decide) (hts _ (List.mem_cons_of_mem _ mw_2_42)) (fun _ h9 => h9) rfl dX11_set_88 ?_
      refine lv_iload_n hx hb dX11_set_91 rfl (lv_at hl 2 rfl) ?_
      refine afterI (wr := [(h_t, .inr (11, [.ref h_t_points, .ref h_t_mesh, .ref h_t_camera, .ref h_t_lamps, .ref h_t_tree, .ref h_t_crossings, .ref h_t_atHand, .ref h_t_view, .ref h_t_sight, .ref h_t_shade, .ref h_t_slope, .ref h_t_box, .ref h_t_marked, .int v_t_back])), (h_t_mesh_tones, .inl (cI, 128, .inl v_t_mesh_tones)), (h_t_lamps, .inr (4, [.ref h_t_lamps_places, .ref h_t_lamps_strengths, .ref h_t_lamps_values, .int v_t_lamps_ambient])), (h_t_lamps_values, .inl (cI, 16, .inl v_t_lamps_values))]) (va_runV (As := [.int p2]) (rest := []) ⟨hx, hb, hml, hown, hts⟩ (c_X5_has l G cI cL cZ h_t_mesh h_t_mesh_corners h_t_mesh_normals h_t_mesh_tones h_t_mesh_trial h_t_mesh_trialNormal v_t_mesh_many p2 _ _ hF) (cwV 1 hts (gV mw_2_141 mw_2_142 mw_2_143 mw_1_3 mw_2_144) rfl rfl rfl (by decide +kernel) ⟨Nat.le_of_ble_eq_true rfl, Nat.le_of_ble_eq_true rfl⟩) ⟨gP_blind, va_recv hK hP (ci := 5) (q0 := 1) rfl rfl, gP_of hK hnw hP hD [1] (by decide +kernel) rfl rfl⟩ rfl rfl hl.1 rfl (lv_room (Nat.le_of_ble_eq_true rfl)) dX11_set_92 ⟨Nat.le_of_ble_eq_true rfl, Nat.le_of_ble_eq_true rfl⟩) hP hD hS hA [1] [0, 2, 3, 4] rfl rfl (by decide +kernel) (by decide +kernel) (fun r10 u H locs hF hP hD hS => ?_)
      try dsimp only at hF
      have hP : va_P G vwCl [(h_t, .inr (11, [.ref h_t_points, .ref h_t_mesh, .ref h_t_camera, .ref h_t_lamps, .ref h_t_tree, .ref h_t_crossings, .ref h_t_atHand, .ref h_t_view, .ref h_t_sight, .ref h_t_shade, .ref h_t_slope, .ref h_t_box, .ref h_t_marked, .int v_t_back])), (h_t_mesh_tones, .inl (cI, 128, .inl v_t_mesh_tones)), (h_t_lamps, .inr (4, [.ref h_t_lamps_places, .ref h_t_lamps_strengths, .ref h_t_lamps_values, .int v_t_lamps_ambient])), (h_t_lamps_values, .inl (cI, 16, .inl v_t_lamps_values)), (h_t_mesh, .inr (5, [.ref h_t_mesh_corners, .ref h_t_mesh_normals, .ref h_t_mesh_tones, .ref h_t_mesh_trial, .ref h_t_mesh_trialNormal, .int v_t_mesh_many]))] H := hP
      have hD : va_D A [(h_t, .inr (11, [.ref h_t_points, .ref h_t_mesh, .ref h_t_camera, .ref h_t_lamps, .ref h_t_tree, .ref h_t_crossings, .ref h_t_atHand, .ref h_t_view, .ref h_t_sight, .ref h_t_shade, .ref h_t_slope, .ref h_t_box, .ref h_t_marked, .int v_t_back])), (h_t_mesh_tones, .inl (cI, 128, .inl v_t_mesh_tones)), (h_t_lamps, .inr (4, [.ref h_t_lamps_places, .ref h_t_lamps_strengths, .ref h_t_lamps_values, .int v_t_lamps_ambient])), (h_t_lamps_values, .inl (cI, 16, .inl v_t_lamps_values)), (h_t_mesh, .inr (5, [.ref h_t_mesh_corners, .ref h_t_mesh_normals, .ref h_t_mesh_tones, .ref h_t_mesh_trial, .ref h_t_mesh_trialNormal, .int v_t_mesh_many]))] := hD
      refine lv_if_eq (tgt := 110) hx hb dX11_set_95 (by decide) (fun c11 => ?_) (fun c11 => ?_)
      · have hF := hF.1 c11
        refine lv_iconst (v := (-1)) hx hb dX11_set_110 (by decide) ?_
        exact hret 111 ls _ _ (-1) (v_t_back, v_t_mesh_tones, v_t_lamps_ambient, v_t_lamps_values) dX11_set_111 rfl hF (hP.sub [0, 4, 1, 2, 3] rfl) (hD.sub [0, 4, 1, 2, 3] (by decide +kernel) rfl) hS
      · have hF := hF.2 c11
        refine lv_aload_n hx hb dX11_set_98 rfl (lv_at hl 0 rfl) ?_
        refine va_get (D := G) (ci := 11) (v := .ref h_t_mesh) (C := RX11) (T := TX11) (N := 14) hx hb hts (fun w h => List.mem_cons_of_mem _ (inG_11 w h)) hown hK hP 0 rfl rfl 1 (by decide) (hts _ (List.mem_cons_of_mem _ mw_2_42)) (fun _ h9 => h9) rfl dX11_set_99 ?_
        refine lv_iload_n hx hb dX11_set_102 rfl (lv_at hl 2 rfl) ?_
        refine lv_iload_n hx hb dX11_set_103 rfl (lv_at hl 3 rfl) ?_
        refine afterI (wr := [(h_t, .inr (11, [.ref h_t_points, .ref h_t_mesh, .ref h_t_camera, .ref h_t_lamps, .ref h_t_tree, .ref h_t_crossings, .ref h_t_atHand, .ref h_t_view, .ref h_t_sight, .ref h_t_shade, .ref h_t_slope, .ref h_t_box, .ref h_t_marked, .int v_t_back])), (h_t_lamps, .inr (4, [.ref h_t_lamps_places, .ref h_t_lamps_strengths, .ref h_t_lamps_values, .int v_t_lamps_ambient])), (h_t_lamps_values, .inl (cI, 16, .inl v_t_lamps_values))]) (va_runV (As := [.int p2, .int p3]) (rest := []) ⟨hx, hb, hml, hown, hts⟩ (c_X5_changeTone l G cI cL cZ h_t_mesh h_t_mesh_corners h_t_mesh_normals h_t_mesh_tones h_t_mesh_trial h_t_mesh_trialNormal v_t_mesh_tones v_t_mesh_many p2 p3 _ _ hF) (cwV 2 hts (gV mw_2_211 mw_2_212 mw_2_213 mw_1_3 mw_2_214) rfl rfl rfl (by decide +kernel) ⟨Nat.le_of_ble_eq_true rfl, Nat.le_of_ble_eq_true rfl⟩) ⟨gP_blind, va_recv hK hP (ci := 5) (q0 := 4) rfl rfl, gP_of hK hnw hP hD [4, 1] (by decide +kernel) rfl rfl⟩ rfl rfl hl.1 rfl (lv_room (Nat.le_of_ble_eq_true rfl)) dX11_set_104 ⟨Nat.le_of_ble_eq_true rfl, Nat.le_of_ble_eq_true rfl⟩) hP hD hS hA [4, 1] [0, 2, 3] rfl rfl (by decide +kernel) (by decide +kernel) (fun r12 u H locs hF hP hD hS => ?_)
        obtain ⟨v13, rfl⟩ : ∃ z, z = u := ⟨_, rfl⟩
        try dsimp only at hF
        have hP : va_P G vwCl [(h_t, .inr (11, [.ref h_t_points, .ref h_t_mesh, .ref h_t_camera, .ref h_t_lamps, .ref h_t_tree, .ref h_t_crossings, .ref h_t_atHand, .ref h_t_view, .ref h_t_sight, .ref h_t_shade, .ref h_t_slope, .ref h_t_box, .ref h_t_marked, .int v_t_back])), (h_t_lamps, .inr (4, [.ref h_t_lamps_places, .ref h_t_lamps_strengths, .ref h_t_lamps_values, .int v_t_lamps_ambient])), (h_t_lamps_values, .inl (cI, 16, .inl v_t_lamps_values)), (h_t_mesh, .inr (5, [.ref h_t_mesh_corners, .ref h_t_mesh_normals, .ref h_t_mesh_tones, .ref h_t_mesh_trial, .ref h_t_mesh_trialNormal, .int v_t_mesh_many])), (h_t_mesh_tones, .inl (cI, 128, .inl v13))] H := hP
        have hD : va_D A [(h_t, .inr (11, [.ref h_t_points, .ref h_t_mesh, .ref h_t_camera, .ref h_t_lamps, .ref h_t_tree, .ref h_t_crossings, .ref h_t_atHand, .ref h_t_view, .ref h_t_sight, .ref h_t_shade, .ref h_t_slope, .ref h_t_box, .ref h_t_marked, .int v_t_back])), (h_t_lamps, .inr (4, [.ref h_t_lamps_places, .ref h_t_lamps_strengths, .ref h_t_lamps_values, .int v_t_lamps_ambient])), (h_t_lamps_values, .inl (cI, 16, .inl v_t_lamps_values)), (h_t_mesh, .inr (5, [.ref h_t_mesh_corners, .ref h_t_mesh_normals, .ref h_t_mesh_tones, .ref h_t_mesh_trial, .ref h_t_mesh_trialNormal, .int v_t_mesh_many])), (h_t_mesh_tones, .inl (cI, 128, .inl v13))] := hD
        refine lv_goto (tgt := 111) hx hb dX11_set_107 (by decide) ?_
        exact hret 111 ls _ _ r12 (v_t_back, v13, v_t_lamps_ambient, v_t_lamps_values) dX11_set_111 rfl hF (hP.sub [0, 3, 4, 1, 2] rfl) (hD.sub [0, 3, 4, 1, 2] (by decide +kernel) rfl) hS
    · have hF := hF.2.2.2.2 c3
      refine lv_tableOut (tgt := 112) hx hb dX11_set_10 c3 (by decide) ?_
      refine lv_iconst (v := (-1)) hx hb dX11_set_112 (by decide) ?_
      exact hret 113 ls _ _ (-1) (v_t_back, v_t_mesh_tones, v_t_lamps_ambient, v_t_lamps_values) dX11_set_113 rfl hF hP hD hS
  · have hF := hF.2 c2
    refine lv_iconst (v := (-1)) hx hb dX11_set_7 (by decide) ?_
    exact hret 8 ls _ _ (-1) (v_t_back, v_t_mesh_tones, v_t_lamps_ambient, v_t_lamps_values) dX11_set_8 rfl hF hP hD hS

def rm_X5_many : Room := { frames := 0, cells := 0, slots := 0, locals := 0 }
def F_X5_many (v_t_many : Int32) (post : Int32 → Prop) : Prop := post v_t_many
set_option maxHeartbeats 8000000 in
set_option maxRecDepth 100000 in
theorem c_X5_many (l : Launch) (G : va_G) (cI cL cZ : ClassId) (h_t : Nat) (h_t_corners : Nat) (h_t_normals : Nat) (h_t_tones : Nat) (h_t_trial : Nat) (h_t_trialNormal : Nat) (v_t_many : Int32) (sz : Nat) (post : Int32 → Prop) (hF : F_X5_many v_t_many post) : MetI l G (gT cI cL cZ) yX5_many (gW yX5_many cX5_many 1 (some .int)) rm_X5_many 0 0 [.ref h_t] sz [(h_t, .inr (5, [.ref h_t_corners, .ref h_t_normals, .ref h_t_tones, .ref h_t_trial, .ref h_t_trialNormal, .int v_t_many]))] (fun (u : Unit) => [(h_t, .inr (5, [.ref h_t_corners, .ref h_t_normals, .ref h_t_tones, .ref h_t_trial, .ref h_t_trialNormal, .int v_t_many]))]) (fun (r : Int32) (u : Unit) => post r) := by
  refine startI (cc := cX5_many) (maxL := 1) (ty9 := .int) (by decide +kernel) rfl (Nat.le_of_ble_eq_true rfl) ?_
  intro p e s m args below meth c Q ls A C0 hP hD hS hl hret
  obtain ⟨hx, hb, hml, hown, hts, hnw, hK, hA, hin⟩ := C0
  have hown : s.vm.findClass RX5 = some m.cls := hown
  have hl : lv_has ls 1 [(0, .ref h_t)] := hl
  refine lv_aload_n hx hb dX5_many_0 rfl (lv_at hl 0 rfl) ?_
  refine va_get (D := G) (ci := 5) (v := .int v_t_many) (C := RX5) (T := TX5) (N := 6) hx hb hts (fun w h => List.mem_cons_of_mem _ (inG_5 w h)) hown hK hP 0 rfl rfl 5 (by decide) (hts _ (List.mem_cons_of_mem _ mw_1_49)) (fun _ h9 => h9) rfl dX5_many_1 ?_
  exact hret 4 ls _ _ v_t_many () dX5_many_4 rfl hF hP hD hS

def rm_X5_at : Room := { frames := 0, cells := 0, slots := 0, locals := 0 }
def F_X5_at (p1 : Int32) (p2 : Int32) (p3 : Int32) (v_t_corners : Nat → Int32) (post : Int32 → Prop) : Prop := (vp_in (((9 * p1) + (3 * p2)) + p3) 1152 ∧ post (v_t_corners (((9 * p1) + (3 * p2)) + p3).toNatClampNeg))
set_option maxHeartbeats 8000000 in
set_option maxRecDepth 100000 in
theorem c_X5_at (l : Launch) (G : va_G) (cI cL cZ : ClassId) (h_t : Nat) (h_t_corners : Nat) (h_t_normals : Nat) (h_t_tones : Nat) (h_t_trial : Nat) (h_t_trialNormal : Nat) (v_t_corners : Nat → Int32) (v_t_many : Int32) (p1 : Int32) (p2 : Int32) (p3 : Int32) (sz : Nat) (post : Int32 → Prop) (hF : F_X5_at p1 p2 p3 v_t_corners post) : MetI l G (gT cI cL cZ) yX5_at (gW yX5_at cX5_at 4 (some .int)) rm_X5_at 0 0 [.ref h_t, .int p1, .int p2, .int p3] sz [(h_t, .inr (5, [.ref h_t_corners, .ref h_t_normals, .ref h_t_tones, .ref h_t_trial, .ref h_t_trialNormal, .int v_t_many])), (h_t_corners, .inl (cI, 1152, .inl v_t_corners))] (fun (u : Unit) => [(h_t, .inr (5, [.ref h_t_corners, .ref h_t_normals, .ref h_t_tones, .ref h_t_trial, .ref h_t_trialNormal, .int v_t_many])), (h_t_corners, .inl (cI, 1152, .inl v_t_corners))]) (fun (r : Int32) (u : Unit) => post r) := by
  refine startI (cc := cX5_at) (maxL := 4) (ty9 := .int) (by decide +kernel) rfl (Nat.le_of_ble_eq_true rfl) ?_
  intro p e s m args below meth c Q ls A C0 hP hD hS hl hret
  obtain ⟨hx, hb, hml, hown, hts, hnw, hK, hA, hin⟩ := C0
  have hown : s.vm.findClass RX5 = some m.cls := hown
  have hl : lv_has ls 4 [(0, .ref h_t), (1, .int p1), (2, .int p2), (3, .int p3)] := hl
  refine lv_aload_n hx hb dX5_at_0 rfl (lv_at hl 0 rfl) ?_
  refine va_get (D := G) (ci := 5) (v := .ref h_t_corners) (C := RX5) (T := TX5) (N := 6) hx hb hts (fun w h => List.mem_cons_of_mem _ (inG_5 w h)) hown hK hP 0 rfl rfl 0 (by decide) (hts _ (List.mem_cons_of_mem _ mw_1_44)) (fun _ h9 => h9) rfl dX5_at_1 ?_
  refine lv_bipush (v := 9) hx hb dX5_at_4 (by decide) ?_
  refine lv_iload_n hx hb dX5_at_6 rfl (lv_at hl 1 rfl) ?_
  refine lv_imul hx hb dX5_at_7 ?_
  refine lv_iconst (v := 3) hx hb dX5_at_8 (by decide) ?_
  refine lv_iload_n hx hb dX5_at_9 rfl (lv_at hl 2 rfl) ?_
  refine lv_imul hx hb dX5_at_10 ?_
  refine lv_iadd hx hb dX5_at_11 ?_
  refine lv_iload_n hx hb dX5_at_12 rfl (lv_at hl 3 rfl) ?_
  refine lv_iadd hx hb dX5_at_13 ?_
  obtain ⟨b1, hF⟩ := hF
  refine va_iald hx hb hK hP 1 0 rfl rfl b1 dX5_at_14 ?_
  exact hret 15 ls _ _ (v_t_corners (((9 * p1) + (3 * p2)) + p3).toNatClampNeg) () dX5_at_15 rfl hF hP hD hS

def rm_X5_least : Room := { frames := 1, cells := 0, slots := 0, locals := 32 }
def F_X5_least (p1 : Int32) (p2 : Int32) (v_t_corners : Nat → Int32) (post : Int32 → Prop) : Prop := (F_X5_at p1 0 p2 v_t_corners (fun r1 => (F_X5_at p1 1 p2 v_t_corners (fun r2 => (F_X5_at p1 2 p2 v_t_corners (fun r3 => post (jminI r1 (jminI r2 r3))))))))
set_option maxHeartbeats 8000000 in
set_option maxRecDepth 100000 in
theorem c_X5_least (l : Launch) (G : va_G) (cI cL cZ : ClassId) (h_t : Nat) (h_t_corners : Nat) (h_t_normals : Nat) (h_t_tones : Nat) (h_t_trial : Nat) (h_t_trialNormal : Nat) (v_t_corners : Nat → Int32) (v_t_many : Int32) (p1 : Int32) (p2 : Int32) (sz : Nat) (post : Int32 → Prop) (hF : F_X5_least p1 p2 v_t_corners post) : MetI l G (gT cI cL cZ) yX5_least (gW yX5_least cX5_least 3 (some .int)) rm_X5_least 0 0 [.ref h_t, .int p1, .int p2] sz [(h_t, .inr (5, [.ref h_t_corners, .ref h_t_normals, .ref h_t_tones, .ref h_t_trial, .ref h_t_trialNormal, .int v_t_many])), (h_t_corners, .inl (cI, 1152, .inl v_t_corners))] (fun (u : Unit) => [(h_t, .inr (5, [.ref h_t_corners, .ref h_t_normals, .ref h_t_tones, .ref h_t_trial, .ref h_t_trialNormal, .int v_t_many])), (h_t_corners, .inl (cI, 1152, .inl v_t_corners))]) (fun (r : Int32) (u : Unit) => post r) := by
  refine startI (cc := cX5_least) (maxL := 3) (ty9 := .int) (by decide +kernel) rfl (Nat.le_of_ble_eq_true rfl) ?_
  intro p e s m args below meth c Q ls A C0 hP hD hS hl hret
  obtain ⟨hx, hb, hml, hown, hts, hnw, hK, hA, hin⟩ := C0
  have hown : s.vm.findClass RX5 = some m.cls := hown
  have hl : lv_has ls 3 [(0, .ref h_t), (1, .int p1), (2, .int p2)] := hl
  refine lv_aload_n hx hb dX5_least_0 rfl (lv_at hl 0 rfl) ?_
  refine lv_iload_n hx hb dX5_least_1 rfl (lv_at hl 1 rfl) ?_
  refine lv_iconst (v := 0) hx hb dX5_least_2 (by decide) ?_
  refine lv_iload_n hx hb dX5_least_3 rfl (lv_at hl 2 rfl) ?_
  refine afterI (wr := []) (va_runV (As := [.int p1, .int 0, .int p2]) (rest := []) ⟨hx, hb, hml, hown, hts⟩ (c_X5_at l G cI cL cZ h_t h_t_corners h_t_normals h_t_tones h_t_trial h_t_trialNormal v_t_corners v_t_many p1 0 p2 _ _ hF) (cwV 3 hts (gV mw_3_3 mw_3_4 mw_3_5 mw_1_3 mw_3_6) rfl rfl rfl (by decide +kernel) ⟨Nat.le_of_ble_eq_true rfl, Nat.le_of_ble_eq_true rfl⟩) ⟨gP_blind, va_recv hK hP (ci := 5) (q0 := 0) rfl rfl, gP_of hK hnw hP hD [0, 1] (by decide +kernel) rfl rfl⟩ rfl rfl hl.1 rfl (lv_room (Nat.le_of_ble_eq_true rfl)) dX5_least_4 ⟨Nat.le_of_ble_eq_true rfl, Nat.le_of_ble_eq_true rfl⟩) hP hD hS hA [0, 1] [] rfl rfl (by decide +kernel) (by decide +kernel) (fun r1 u H locs hF hP hD hS => ?_)
  try dsimp only at hF
  have hP : va_P G vwCl [(h_t, .inr (5, [.ref h_t_corners, .ref h_t_normals, .ref h_t_tones, .ref h_t_trial, .ref h_t_trialNormal, .int v_t_many])), (h_t_corners, .inl (cI, 1152, .inl v_t_corners))] H := hP
  have hD : va_D A [(h_t, .inr (5, [.ref h_t_corners, .ref h_t_normals, .ref h_t_tones, .ref h_t_trial, .ref h_t_trialNormal, .int v_t_many])), (h_t_corners, .inl (cI, 1152, .inl v_t_corners))] := hD
  refine lv_aload_n hx hb dX5_least_7 rfl (lv_at hl 0 rfl) ?_
  refine lv_iload_n hx hb dX5_least_8 rfl (lv_at hl 1 rfl) ?_
  refine lv_iconst (v := 1) hx hb dX5_least_9 (by decide) ?_
  refine lv_iload_n hx hb dX5_least_10 rfl (lv_at hl 2 rfl) ?_
  refine afterI (wr := []) (va_runV (As := [.int p1, .int 1, .int p2]) (rest := [.int r1]) ⟨hx, hb, hml, hown, hts⟩ (c_X5_at l G cI cL cZ h_t h_t_corners h_t_normals h_t_tones h_t_trial h_t_trialNormal v_t_corners v_t_many p1 1 p2 _ _ hF) (cwV 3 hts (gV mw_3_3 mw_3_4 mw_3_5 mw_1_3 mw_3_6) rfl rfl rfl (by decide +kernel) ⟨Nat.le_of_ble_eq_true rfl, Nat.le_of_ble_eq_true rfl⟩) ⟨gP_blind, va_recv hK hP (ci := 5) (q0 := 0) rfl rfl, gP_of hK hnw hP hD [0, 1] (by decide +kernel) rfl rfl⟩ rfl rfl hl.1 rfl (lv_room (Nat.le_of_ble_eq_true rfl)) dX5_least_11 ⟨Nat.le_of_ble_eq_true rfl, Nat.le_of_ble_eq_true rfl⟩) hP hD hS hA [0, 1] [] rfl rfl (by decide +kernel) (by decide +kernel) (fun r2 u H locs hF hP hD hS => ?_)
  try dsimp only at hF
  have hP : va_P G vwCl [(h_t, .inr (5, [.ref h_t_corners, .ref h_t_normals, .ref h_t_tones, .ref h_t_trial, .ref h_t_trialNormal, .int v_t_many])), (h_t_corners, .inl (cI, 1152, .inl v_t_corners))] H := hP
  have hD : va_D A [(h_t, .inr (5, [.ref h_t_corners, .ref h_t_normals, .ref h_t_tones, .ref h_t_trial, .ref h_t_trialNormal, .int v_t_many])), (h_t_corners, .inl (cI, 1152, .inl v_t_corners))] := hD
  refine lv_aload_n hx hb dX5_least_14 rfl (lv_at hl 0 rfl) ?_
  refine lv_iload_n hx hb dX5_least_15 rfl (lv_at hl 1 rfl) ?_
  refine lv_iconst (v := 2) hx hb dX5_least_16 (by decide) ?_
  refine lv_iload_n hx hb dX5_least_17 rfl (lv_at hl 2 rfl) ?_
  refine afterI (wr := []) (va_runV (As := [.int p1, .int 2, .int p2]) (rest := [.int r2, .int r1]) ⟨hx, hb, hml, hown, hts⟩ (c_X5_at l G cI cL cZ h_t h_t_corners h_t_normals h_t_tones h_t_trial h_t_trialNormal v_t_corners v_t_many p1 2 p2 _ _ hF) (cwV 3 hts (gV mw_3_3 mw_3_4 mw_3_5 mw_1_3 mw_3_6) rfl rfl rfl (by decide +kernel) ⟨Nat.le_of_ble_eq_true rfl, Nat.le_of_ble_eq_true rfl⟩) ⟨gP_blind, va_recv hK hP (ci := 5) (q0 := 0) rfl rfl, gP_of hK hnw hP hD [0, 1] (by decide +kernel) rfl rfl⟩ rfl rfl hl.1 rfl (lv_room (Nat.le_of_ble_eq_true rfl)) dX5_least_18 ⟨Nat.le_of_ble_eq_true rfl, Nat.le_of_ble_eq_true rfl⟩) hP hD hS hA [0, 1] [] rfl rfl (by decide +kernel) (by decide +kernel) (fun r3 u H locs hF hP hD hS => ?_)
  try dsimp only at hF
  have hP : va_P G vwCl [(h_t, .inr (5, [.ref h_t_corners, .ref h_t_normals, .ref h_t_tones, .ref h_t_trial, .ref h_t_trialNormal, .int v_t_many])), (h_t_corners, .inl (cI, 1152, .inl v_t_corners))] H := hP
  have hD : va_D A [(h_t, .inr (5, [.ref h_t_corners, .ref h_t_normals, .ref h_t_tones, .ref h_t_trial, .ref h_t_trialNormal, .int v_t_many])), (h_t_corners, .inl (cI, 1152, .inl v_t_corners))] := hD
  refine va_mmin hx hb (by rw [hml]; exact hl.1.symm) hown (hts _ (List.mem_cons_of_mem _ mw_3_7)) (hts _ (List.mem_cons_of_mem _ mw_3_8)) (hts _ (List.mem_cons_of_mem _ mw_1_15)) (hts _ (List.mem_cons_of_mem _ mw_3_9)) (Nat.le_of_ble_eq_true rfl) (Nat.le_of_ble_eq_true rfl) (Nat.le_of_ble_eq_true rfl) (Nat.le_of_ble_eq_true rfl) dX5_least_21 ?_
  refine W.eq (g2 := F0 m 24 ls (.int (jminI r2 r3) :: [.int r1])) rfl ?_
  refine va_mmin hx hb (by rw [hml]; exact hl.1.symm) hown (hts _ (List.mem_cons_of_mem _ mw_3_7)) (hts _ (List.mem_cons_of_mem _ mw_3_8)) (hts _ (List.mem_cons_of_mem _ mw_1_15)) (hts _ (List.mem_cons_of_mem _ mw_3_9)) (Nat.le_of_ble_eq_true rfl) (Nat.le_of_ble_eq_true rfl) (Nat.le_of_ble_eq_true rfl) (Nat.le_of_ble_eq_true rfl) dX5_least_24 ?_
  refine W.eq (g2 := F0 m 27 ls (.int (jminI r1 (jminI r2 r3)) :: [])) rfl ?_
  exact hret 27 ls _ _ (jminI r1 (jminI r2 r3)) () dX5_least_27 rfl hF hP hD hS

def rm_X5_greatest : Room := { frames := 1, cells := 0, slots := 0, locals := 32 }
def F_X5_greatest (p1 : Int32) (p2 : Int32) (v_t_corners : Nat → Int32) (post : Int32 → Prop) : Prop := (F_X5_at p1 0 p2 v_t_corners (fun r1 => (F_X5_at p1 1 p2 v_t_corners (fun r2 => (F_X5_at p1 2 p2 v_t_corners (fun r3 => post (jmaxI r1 (jmaxI r2 r3))))))))
set_option maxHeartbeats 8000000 in
set_option maxRecDepth 100000 in
theorem c_X5_greatest (l : Launch) (G : va_G) (cI cL cZ : ClassId) (h_t : Nat) (h_t_corners : Nat) (h_t_normals : Nat) (h_t_tones : Nat) (h_t_trial : Nat) (h_t_trialNormal : Nat) (v_t_corners : Nat → Int32) (v_t_many : Int32) (p1 : Int32) (p2 : Int32) (sz : Nat) (post : Int32 → Prop) (hF : F_X5_greatest p1 p2 v_t_corners post) : MetI l G (gT cI cL cZ) yX5_greatest (gW yX5_greatest cX5_greatest 3 (some .int)) rm_X5_greatest 0 0 [.ref h_t, .int p1, .int p2] sz [(h_t, .inr (5, [.ref h_t_corners, .ref h_t_normals, .ref h_t_tones, .ref h_t_trial, .ref h_t_trialNormal, .int v_t_many])), (h_t_corners, .inl (cI, 1152, .inl v_t_corners))] (fun (u : Unit) => [(h_t, .inr (5, [.ref h_t_corners, .ref h_t_normals, .ref h_t_tones, .ref h_t_trial, .ref h_t_trialNormal, .int v_t_many])), (h_t_corners, .inl (cI, 1152, .inl v_t_corners))]) (fun (r : Int32) (u : Unit) => post r) := by
  refine startI (cc := cX5_greatest) (maxL := 3) (ty9 := .int) (by decide +kernel) rfl (Nat.le_of_ble_eq_true rfl) ?_
  intro p e s m args below meth c Q ls A C0 hP hD hS hl hret
  obtain ⟨hx, hb, hml, hown, hts, hnw, hK, hA, hin⟩ := C0
  have hown : s.vm.findClass RX5 = some m.cls := hown
  have hl : lv_has ls 3 [(0, .ref h_t), (1, .int p1), (2, .int p2)] := hl
  refine lv_aload_n hx hb dX5_greatest_0 rfl (lv_at hl 0 rfl) ?_
  refine lv_iload_n hx hb dX5_greatest_1 rfl (lv_at hl 1 rfl) ?_
  refine lv_iconst (v := 0) hx hb dX5_greatest_2 (by decide) ?_
  refine lv_iload_n hx hb dX5_greatest_3 rfl (lv_at hl 2 rfl) ?_
  refine afterI (wr := []) (va_runV (As := [.int p1, .int 0, .int p2]) (rest := []) ⟨hx, hb, hml, hown, hts⟩ (c_X5_at l G cI cL cZ h_t h_t_corners h_t_normals h_t_tones h_t_trial h_t_trialNormal v_t_corners v_t_many p1 0 p2 _ _ hF) (cwV 3 hts (gV mw_3_3 mw_3_4 mw_3_5 mw_1_3 mw_3_6) rfl rfl rfl (by decide +kernel) ⟨Nat.le_of_ble_eq_true rfl, Nat.le_of_ble_eq_true rfl⟩) ⟨gP_blind, va_recv hK hP (ci := 5) (q0 := 0) rfl rfl, gP_of hK hnw hP hD [0, 1] (by decide +kernel) rfl rfl⟩ rfl rfl hl.1 rfl (lv_room (Nat.le_of_ble_eq_true rfl)) dX5_greatest_4 ⟨Nat.le_of_ble_eq_true rfl, Nat.le_of_ble_eq_true rfl⟩) hP hD hS hA [0, 1] [] rfl rfl (by decide +kernel) (by decide +kernel) (fun r1 u H locs hF hP hD hS => ?_)
  try dsimp only at hF
  have hP : va_P G vwCl [(h_t, .inr (5, [.ref h_t_corners, .ref h_t_normals, .ref h_t_tones, .ref h_t_trial, .ref h_t_trialNormal, .int v_t_many])), (h_t_corners, .inl (cI, 1152, .inl v_t_corners))] H := hP
  have hD : va_D A [(h_t, .inr (5, [.ref h_t_corners, .ref h_t_normals, .ref h_t_tones, .ref h_t_trial, .ref h_t_trialNormal, .int v_t_many])), (h_t_corners, .inl (cI, 1152, .inl v_t_corners))] := hD
  refine lv_aload_n hx hb dX5_greatest_7 rfl (lv_at hl 0 rfl) ?_
  refine lv_iload_n hx hb dX5_greatest_8 rfl (lv_at hl 1 rfl) ?_
  refine lv_iconst (v := 1) hx hb dX5_greatest_9 (by decide) ?_
  refine lv_iload_n hx hb dX5_greatest_10 rfl (lv_at hl 2 rfl) ?_
  refine afterI (wr := []) (va_runV (As := [.int p1, .int 1, .int p2]) (rest := [.int r1]) ⟨hx, hb, hml, hown, hts⟩ (c_X5_at l G cI cL cZ h_t h_t_corners h_t_normals h_t_tones h_t_trial h_t_trialNormal v_t_corners v_t_many p1 1 p2 _ _ hF) (cwV 3 hts (gV mw_3_3 mw_3_4 mw_3_5 mw_1_3 mw_3_6) rfl rfl rfl (by decide +kernel) ⟨Nat.le_of_ble_eq_true rfl, Nat.le_of_ble_eq_true rfl⟩) ⟨gP_blind, va_recv hK hP (ci := 5) (q0 := 0) rfl rfl, gP_of hK hnw hP hD [0, 1] (by decide +kernel) rfl rfl⟩ rfl rfl hl.1 rfl (lv_room (Nat.le_of_ble_eq_true rfl)) dX5_greatest_11 ⟨Nat.le_of_ble_eq_true rfl, Nat.le_of_ble_eq_true rfl⟩) hP hD hS hA [0, 1] [] rfl rfl (by decide +kernel) (by decide +kernel) (fun r2 u H locs hF hP hD hS => ?_)
  try dsimp only at hF
  have hP : va_P G vwCl [(h_t, .inr (5, [.ref h_t_corners, .ref h_t_normals, .ref h_t_tones, .ref h_t_trial, .ref h_t_trialNormal, .int v_t_many])), (h_t_corners, .inl (cI, 1152, .inl v_t_corners))] H := hP
  have hD : va_D A [(h_t, .inr (5, [.ref h_t_corners, .ref h_t_normals, .ref h_t_tones, .ref h_t_trial, .ref h_t_trialNormal, .int v_t_many])), (h_t_corners, .inl (cI, 1152, .inl v_t_corners))] := hD
  refine lv_aload_n hx hb dX5_greatest_14 rfl (lv_at hl 0 rfl) ?_
  refine lv_iload_n hx hb dX5_greatest_15 rfl (lv_at hl 1 rfl) ?_
  refine lv_iconst (v := 2) hx hb dX5_greatest_16 (by decide) ?_
  refine lv_iload_n hx hb dX5_greatest_17 rfl (lv_at hl 2 rfl) ?_
  refine afterI (wr := []) (va_runV (As := [.int p1, .int 2, .int p2]) (rest := [.int r2, .int r1]) ⟨hx, hb, hml, hown, hts⟩ (c_X5_at l G cI cL cZ h_t h_t_corners h_t_normals h_t_tones h_t_trial h_t_trialNormal v_t_corners v_t_many p1 2 p2 _ _ hF) (cwV 3 hts (gV mw_3_3 mw_3_4 mw_3_5 mw_1_3 mw_3_6) rfl rfl rfl (by decide +kernel) ⟨Nat.le_of_ble_eq_true rfl, Nat.le_of_ble_eq_true rfl⟩) ⟨gP_blind, va_recv hK hP (ci := 5) (q0 := 0) rfl rfl, gP_of hK hnw hP hD [0, 1] (by decide +kernel) rfl rfl⟩ rfl rfl hl.1 rfl (lv_room (Nat.le_of_ble_eq_true rfl)) dX5_greatest_18 ⟨Nat.le_of_ble_eq_true rfl, Nat.le_of_ble_eq_true rfl⟩) hP hD hS hA [0, 1] [] rfl rfl (by decide +kernel) (by decide +kernel) (fun r3 u H locs hF hP hD hS => ?_)
  try dsimp only at hF
  have hP : va_P G vwCl [(h_t, .inr (5, [.ref h_t_corners, .ref h_t_normals, .ref h_t_tones, .ref h_t_trial, .ref h_t_trialNormal, .int v_t_many])), (h_t_corners, .inl (cI, 1152, .inl v_t_corners))] H := hP
  have hD : va_D A [(h_t, .inr (5, [.ref h_t_corners, .ref h_t_normals, .ref h_t_tones, .ref h_t_trial, .ref h_t_trialNormal, .int v_t_many])), (h_t_corners, .inl (cI, 1152, .inl v_t_corners))] := hD
  refine va_mmax hx hb (by rw [hml]; exact hl.1.symm) hown (hts _ (List.mem_cons_of_mem _ mw_3_14)) (hts _ (List.mem_cons_of_mem _ mw_2_233)) (hts _ (List.mem_cons_of_mem _ mw_1_15)) (hts _ (List.mem_cons_of_mem _ mw_2_234)) (Nat.le_of_ble_eq_true rfl) (Nat.le_of_ble_eq_true rfl) (Nat.le_of_ble_eq_true rfl) (Nat.le_of_ble_eq_true rfl) dX5_greatest_21 ?_
  refine W.eq (g2 := F0 m 24 ls (.int (jmaxI r2 r3) :: [.int r1])) rfl ?_
  refine va_mmax hx hb (by rw [hml]; exact hl.1.symm) hown (hts _ (List.mem_cons_of_mem _ mw_3_14)) (hts _ (List.mem_cons_of_mem _ mw_2_233)) (hts _ (List.mem_cons_of_mem _ mw_1_15)) (hts _ (List.mem_cons_of_mem _ mw_2_234)) (Nat.le_of_ble_eq_true rfl) (Nat.le_of_ble_eq_true rfl) (Nat.le_of_ble_eq_true rfl) (Nat.le_of_ble_eq_true rfl) dX5_greatest_24 ?_
  refine W.eq (g2 := F0 m 27 ls (.int (jmaxI r1 (jmaxI r2 r3)) :: [])) rfl ?_
  exact hret 27 ls _ _ (jmaxI r1 (jmaxI r2 r3)) () dX5_greatest_27 rfl hF hP hD hS

def rm_X9_fitBox : Room := { frames := 2, cells := 0, slots := 0, locals := 54 }
def J_X9_fitBox_168 (k_5 : Int32 → Int32 → Int32 → (Nat → Int32) → Prop) (v_t_order : Nat → Int32) (v_t_first : Nat → Int32) (v_t_many : Nat → Int32) (v_p1_corners : Nat → Int32) (l2 : Int32) (l4 : Int32) (l5 : Int32) (l6 : Int32) (s0 : Int32) (v_t_bounds : Nat → Int32) : Prop := (vp_in ((6 * l2) + l4) 1530 ∧ (∀ g15 : Nat → Int32, g15 = upd v_t_bounds (((6 * l2) + l4).toNatClampNeg) l5 → (vp_in (((6 * l2) + 3) + l4) 1530 ∧ (∀ g17 : Nat → Int32, g17 = upd g15 ((((6 * l2) + 3) + l4).toNatClampNeg) l6 → (∀ x18 : Int32, x18 = (l4 + 1) → k_5 l2 s0 x18 g17)))))
def J_X9_fitBox_163 (k_168 : Int32 → Int32 → Int32 → Int32 → Int32 → (Nat → Int32) → Prop) (v_t_order : Nat → Int32) (v_t_first : Nat → Int32) (v_t_many : Nat → Int32) (v_p1_corners : Nat → Int32) (l2 : Int32) (l4 : Int32) (l5 : Int32) (l6 : Int32) (v_t_bounds : Nat → Int32) : Prop := k_168 l2 l4 l5 l6 1 v_t_bounds
def L_X9_fitBox_59 (k_5 : Int32 → Int32 → Int32 → (Nat → Int32) → Prop) (v_t_order : Nat → Int32) (v_t_first : Nat → Int32) (v_t_many : Nat → Int32) (v_p1_corners : Nat → Int32) : Nat → Int32 → Int32 → Int32 → Int32 → Int32 → Int32 → (Nat → Int32) → Prop
  | 0, _, _, _, _, _, _, _ => False
  | n_59 + 1, l2, l3, l4, l5, l6, l7, v_t_bounds => (vp_in l2 255 ∧ (vp_in l2 255 ∧ ((((v_t_first l2.toNatClampNeg) + (v_t_many l2.toNatClampNeg)) ≤ l7 → ((¬ l3 = 0 → J_X9_fitBox_163 (J_X9_fitBox_168 k_5 v_t_order v_t_first v_t_many v_p1_corners) v_t_order v_t_first v_t_many v_p1_corners l2 l4 l5 l6 v_t_bounds) ∧ (l3 = 0 → (vp_in ((6 * l2) + l4) 1530 ∧ ((¬ (v_t_bounds ((6 * l2) + l4).toNatClampNeg) = l5 → J_X9_fitBox_163 (J_X9_fitBox_168 k_5 v_t_order v_t_first v_t_many v_p1_corners) v_t_order v_t_first v_t_many v_p1_corners l2 l4 l5 l6 v_t_bounds) ∧ ((v_t_bounds ((6 * l2) + l4).toNatClampNeg) = l5 → (vp_in (((6 * l2) + 3) + l4) 1530 ∧ (((v_t_bounds (((6 * l2) + 3) + l4).toNatClampNeg) = l6 → J_X9_fitBox_168 k_5 v_t_order v_t_first v_t_many v_p1_corners l2 l4 l5 l6 0 v_t_bounds) ∧ (¬ (v_t_bounds (((6 * l2) + 3) + l4).toNatClampNeg) = l6 → J_X9_fitBox_163 (J_X9_fitBox_168 k_5 v_t_order v_t_first v_t_many v_p1_corners) v_t_order v_t_first v_t_many v_p1_corners l2 l4 l5 l6 v_t_bounds))))))))) ∧ (¬ ((v_t_first l2.toNatClampNeg) + (v_t_many l2.toNatClampNeg)) ≤ l7 → (vp_in l7 128 ∧ (F_X5_least (v_t_order l7.toNatClampNeg) l4 v_p1_corners (fun r25 => (∀ x26 : Int32, x26 = (jminI l5 r25) → (vp_in l7 128 ∧ (F_X5_greatest (v_t_order l7.toNatClampNeg) l4 v_p1_corners (fun r28 => (∀ x29 : Int32, x29 = (jmaxI l6 r28) → (∀ x30 : Int32, x30 = (l7 + 1) → L_X9_fitBox_59 k_5 v_t_order v_t_first v_t_many v_p1_corners n_59 l2 l3 l4 x26 x29 x30 v_t_bounds)))))))))))))
def L_X9_fitBox_5 (post : Int32 → (Nat → Int32) → Prop) (v_t_order : Nat → Int32) (v_t_first : Nat → Int32) (v_t_many : Nat → Int32) (v_p1_corners : Nat → Int32) : Nat → Int32 → Int32 → Int32 → (Nat → Int32) → Prop
  | 0, _, _, _, _ => False
  | n_5 + 1, l2, l3, l4, v_t_bounds => ((3 ≤ l4 → (bz l3 ∧ post l3 v_t_bounds)) ∧ (¬ 3 ≤ l4 → (vp_in l2 255 ∧ (vp_in (v_t_first l2.toNatClampNeg) 128 ∧ (F_X5_least (v_t_order (v_t_first l2.toNatClampNeg).toNatClampNeg) l4 v_p1_corners (fun r5 => (vp_in l2 255 ∧ (vp_in (v_t_first l2.toNatClampNeg) 128 ∧ (F_X5_greatest (v_t_order (v_t_first l2.toNatClampNeg).toNatClampNeg) l4 v_p1_corners (fun r8 => (vp_in l2 255 ∧ (∀ x10 : Int32, x10 = ((v_t_first l2.toNatClampNeg) + 1) → (∃ n0 : Nat, L_X9_fitBox_59 (L_X9_fitBox_5 post v_t_order v_t_first v_t_many v_p1_corners n_5) v_t_order v_t_first v_t_many v_p1_corners n0 l2 l3 l4 r5 r8 x10 v_t_bounds)))))))))))))
def F_X9_fitBox (p2 : Int32) (v_t_order : Nat → Int32) (v_t_first : Nat → Int32) (v_t_many : Nat → Int32) (v_t_bounds : Nat → Int32) (v_p1_corners : Nat → Int32) (post : Int32 → (Nat → Int32) → Prop) : Prop := (∃ n0 : Nat, L_X9_fitBox_5 post v_t_order v_t_first v_t_many v_p1_corners n0 p2 0 0 v_t_bounds)
set_option maxHeartbeats 8000000 in
set_option maxRecDepth 100000 in
theorem c_X9_fitBox (l : Launch) (G : va_G) (cI cL cZ : ClassId) (h_t : Nat) (h_t_order : Nat) (h_t_first : Nat) (h_t_many : Nat) (h_t_lower : Nat) (h_t_upper : Nat) (h_t_above : Nat) (h_t_bounds : Nat) (h_t_met : Nat) (h_p1 : Nat) (h_p1_corners : Nat) (h_p1_normals : Nat) (h_p1_tones : Nat) (h_p1_trial : Nat) (h_p1_trialNormal : Nat) (v_t_order : Nat → Int32) (v_t_first : Nat → Int32) (v_t_many : Nat → Int32) (v_t_bounds : Nat → Int32) (v_p1_corners : Nat → Int32) (v_t_nodes : Int32) (v_t_deepest : Int32) (v_p1_many : Int32) (p2 : Int32) (sz : Nat) (post : Int32 → (Nat → Int32) → Prop) (hF : F_X9_fitBox p2 v_t_order v_t_first v_t_many v_t_bounds v_p1_corners post) : MetI l G (gT cI cL cZ) yX9_fitBox (gW yX9_fitBox cX9_fitBox 8 (some .boolean)) rm_X9_fitBox 0 0 [.ref h_t, .ref h_p1, .int p2] sz [(h_t, .inr (9, [.ref h_t_order, .ref h_t_first, .ref h_t_many, .ref h_t_lower, .ref h_t_upper, .ref h_t_above, .ref h_t_bounds, .ref h_t_met, .int v_t_nodes, .int v_t_deepest])), (h_t_order, .inl (cI, 128, .inl v_t_order)), (h_t_first, .inl (cI, 255, .inl v_t_first)), (h_t_many, .inl (cI, 255, .inl v_t_many)), (h_t_bounds, .inl (cI, 1530, .inl v_t_bounds)), (h_p1, .inr (5, [.ref h_p1_corners, .ref h_p1_normals, .ref h_p1_tones, .ref h_p1_trial, .ref h_p1_trialNormal, .int v_p1_many])), (h_p1_corners, .inl (cI, 1152, .inl v_p1_corners))] (fun (u : (Nat → Int32)) => [(h_t, .inr (9, [.ref h_t_order, .ref h_t_first, .ref h_t_many, .ref h_t_lower, .ref h_t_upper, .ref h_t_above, .ref h_t_bounds, .ref h_t_met, .int v_t_nodes, .int v_t_deepest])), (h_t_order, .inl (cI, 128, .inl v_t_order)), (h_t_first, .inl (cI, 255, .inl v_t_first)), (h_t_many, .inl (cI, 255, .inl v_t_many)), (h_t_bounds, .inl (cI, 1530, .inl u)), (h_p1, .inr (5, [.ref h_p1_corners, .ref h_p1_normals, .ref h_p1_tones, .ref h_p1_trial, .ref h_p1_trialNormal, .int v_p1_many])), (h_p1_corners, .inl (cI, 1152, .inl v_p1_corners))]) (fun (r : Int32) (u : (Nat → Int32)) => post r u) := by
  refine startI (cc := cX9_fitBox) (maxL := 8) (ty9 := .boolean) (by decide +kernel) rfl (Nat.le_of_ble_eq_true rfl) ?_
  intro p e s m args below meth c Q ls A C0 hP hD hS hl hret
  obtain ⟨hx, hb, hml, hown, hts, hnw, hK, hA, hin⟩ := C0
  have hown : s.vm.findClass RX9 = some m.cls := hown
  have hl : lv_has ls 8 [(0, .ref h_t), (1, .ref h_p1), (2, .int p2)] := hl
  refine lv_iconst (v := 0) hx hb dX9_fitBox_0 (by decide) ?_
  refine lv_istore_n (lv' := [(3, .int 0), (0, .ref h_t), (1, .ref h_p1), (2, .int p2)]) hx hb dX9_fitBox_1 rfl hl (by decide) rfl (fun ls hl => ?_)
  refine lv_iconst (v := 0) hx hb dX9_fitBox_2 (by decide) ?_
  refine lv_istore (lv' := [(4, .int 0), (3, .int 0), (0, .ref h_t), (1, .ref h_p1), (2, .int p2)]) hx hb dX9_fitBox_3 hl (by decide) rfl (fun ls hl => ?_)
  have k_5 : ∀ (n_5 : Nat) (l2 : Int32) (l3 : Int32) (l4 : Int32) (v_t_bounds : Nat → Int32), L_X9_fitBox_5 post v_t_order v_t_first v_t_many v_p1_corners n_5 l2 l3 l4 v_t_bounds → ∀ (H : Heap) (locs : List Loc) (ls : Array Slot), va_P G vwCl [(h_t, .inr (9, [.ref h_t_order, .ref h_t_first, .ref h_t_many, .ref h_t_lower, .ref h_t_upper, .ref h_t_above, .ref h_t_bounds, .ref h_t_met, .int v_t_nodes, .int v_t_deepest])), (h_t_order, .inl (cI, 128, .inl v_t_order)), (h_t_first, .inl (cI, 255, .inl v_t_first)), (h_t_many, .inl (cI, 255, .inl v_t_many)), (h_t_bounds, .inl (cI, 1530, .inl v_t_bounds)), (h_p1, .inr (5, [.ref h_p1_corners, .ref h_p1_normals, .ref h_p1_tones, .ref h_p1_trial, .ref h_p1_trialNormal, .int v_p1_many])), (h_p1_corners, .inl (cI, 1152, .inl v_p1_corners))] H → va_D A [(h_t, .inr (9, [.ref h_t_order, .ref h_t_first, .ref h_t_many, .ref h_t_lower, .ref h_t_upper, .ref h_t_above, .ref h_t_bounds, .ref h_t_met, .int v_t_nodes, .int v_t_deepest])), (h_t_order, .inl (cI, 128, .inl v_t_order)), (h_t_first, .inl (cI, 255, .inl v_t_first)), (h_t_many, .inl (cI, 255, .inl v_t_many)), (h_t_bounds, .inl (cI, 1530, .inl v_t_bounds)), (h_p1, .inr (5, [.ref h_p1_corners, .ref h_p1_normals, .ref h_p1_tones, .ref h_p1_trial, .ref h_p1_trialNormal, .int v_p1_many])), (h_p1_corners, .inl (cI, 1152, .inl v_p1_corners))] → va_S A s.heap H locs → lv_has ls 8 [(0, .ref h_t), (1, .ref h_p1), (2, .int l2), (3, .int l3), (4, .int l4)] → W p l e rm_X9_fitBox s m args below meth c H locs 0 0 Q (F0 m 5 ls []) := by
    intro n_5
    induction n_5 with
    | zero =>
      intro l2 l3 l4 v_t_bounds hF
      exact (show False from hF).elim
    | succ n_5 k_5 =>
      intro l2 l3 l4 v_t_bounds hF H locs ls hP hD hS hl
      refine lv_iload hx hb dX9_fitBox_5 (lv_at hl 4 rfl) ?_
      refine lv_iconst (v := 3) hx hb dX9_fitBox_7 (by decide) ?_
      refine lv_icmp_ge (tgt := 205) hx hb dX9_fitBox_8 (by decide) (fun c1 => ?_) (fun c1 => ?_)
      · have hF := hF.1 c1
        refine lv_iload_n hx hb dX9_fitBox_205 rfl (lv_at hl 3 rfl) ?_
        obtain ⟨b2, hF⟩ := hF
        exact hret 206 ls _ _ l3 v_t_bounds dX9_fitBox_206 b2.1 hF hP hD hS
      · have hF := hF.2 c1
        refine lv_aload_n hx hb dX9_fitBox_11 rfl (lv_at hl 1 rfl) ?_
        refine lv_aload_n hx hb dX9_fitBox_12 rfl (lv_at hl 0 rfl) ?_
        refine va_get (D := G) (ci := 9) (v := .ref h_t_order) (C := RX9) (T := TX9) (N := 10) hx hb hts (fun w h => List.mem_cons_of_mem _ (inG_9 w h)) hown hK hP 0 rfl rfl 0 (by decide) (hts _ (List.mem_cons_of_mem _ mw_1_113)) (fun _ h9 => h9) rfl dX9_fitBox_13 ?_
        refine lv_aload_n hx hb dX9_fitBox_16 rfl (lv_at hl 0 rfl) ?_
        refine va_get (D := G) (ci := 9) (v := .ref h_t_first) (C := RX9) (T := TX9) (N := 10) hx hb hts (fun w h => List.mem_cons_of_mem _ (inG_9 w h)) hown hK hP 0 rfl rfl 1 (by decide) (hts _ (List.mem_cons_of_mem _ mw_1_114)) (fun _ h9 => h9) rfl dX9_fitBox_17 ?_
        refine lv_iload_n hx hb dX9_fitBox_20 rfl (lv_at hl 2 rfl) ?_
        obtain ⟨b3, hF⟩ := hF
        refine va_iald hx hb hK hP 2 0 rfl rfl b3 dX9_fitBox_21 ?_
        obtain ⟨b4, hF⟩ := hF
        refine va_iald hx hb hK hP 1 0 rfl rfl b4 dX9_fitBox_22 ?_
        refine lv_iload hx hb dX9_fitBox_23 (lv_at hl 4 rfl) ?_
        refine afterI (wr := [(h_t, .inr (9, [.ref h_t_order, .ref h_t_first, .ref h_t_many, .ref h_t_lower, .ref h_t_upper, .ref h_t_above, .ref h_t_bounds, .ref h_t_met, .int v_t_nodes, .int v_t_deepest])), (h_t_order, .inl (cI, 128, .inl v_t_order)), (h_t_first, .inl (cI, 255, .inl v_t_first)), (h_t_many, .inl (cI, 255, .inl v_t_many)), (h_t_bounds, .inl (cI, 1530, .inl v_t_bounds))]) (va_runV (As := [.int (v_t_order (v_t_first l2.toNatClampNeg).toNatClampNeg), .int l4]) (rest := []) ⟨hx, hb, hml, hown, hts⟩ (c_X5_least l G cI cL cZ h_p1 h_p1_corners h_p1_normals h_p1_tones h_p1_trial h_p1_trialNormal v_p1_corners v_p1_many (v_t_order (v_t_first l2.toNatClampNeg).toNatClampNeg) l4 _ _ hF) (cwV 2 hts (gV mw_2_239 mw_3_0 mw_3_1 mw_1_3 mw_3_2) rfl rfl rfl (by decide +kernel) ⟨Nat.le_of_ble_eq_true rfl, Nat.le_of_ble_eq_true rfl⟩) ⟨gP_blind, va_recv hK hP (ci := 5) (q0 := 5) rfl rfl, gP_of hK hnw hP hD [5, 6] (by decide +kernel) rfl rfl⟩ rfl rfl hl.1 rfl (lv_room (Nat.le_of_ble_eq_true rfl)) dX9_fitBox_25 ⟨Nat.le_of_ble_eq_true rfl, Nat.le_of_ble_eq_true rfl⟩) hP hD hS hA [5, 6] [0, 1, 2, 3, 4] rfl rfl (by decide +kernel) (by decide +kernel) (fun r5 u H locs hF hP hD hS => ?_)
        try dsimp only at hF
        have hP : va_P G vwCl [(h_t, .inr (9, [.ref h_t_order, .ref h_t_first, .ref h_t_many, .ref h_t_lower, .ref h_t_upper, .ref h_t_above, .ref h_t_bounds, .ref h_t_met, .int v_t_nodes, .int v_t_deepest])), (h_t_order, .inl (cI, 128, .inl v_t_order)), (h_t_first, .inl (cI, 255, .inl v_t_first)), (h_t_many, .inl (cI, 255, .inl v_t_many)), (h_t_bounds, .inl (cI, 1530, .inl v_t_bounds)), (h_p1, .inr (5, [.ref h_p1_corners, .ref h_p1_normals, .ref h_p1_tones, .ref h_p1_trial, .ref h_p1_trialNormal, .int v_p1_many])), (h_p1_corners, .inl (cI, 1152, .inl v_p1_corners))] H := hP
        have hD : va_D A [(h_t, .inr (9, [.ref h_t_order, .ref h_t_first, .ref h_t_many, .ref h_t_lower, .ref h_t_upper, .ref h_t_above, .ref h_t_bounds, .ref h_t_met, .int v_t_nodes, .int v_t_deepest])), (h_t_order, .inl (cI, 128, .inl v_t_order)), (h_t_first, .inl (cI, 255, .inl v_t_first)), (h_t_many, .inl (cI, 255, .inl v_t_many)), (h_t_bounds, .inl (cI, 1530, .inl v_t_bounds)), (h_p1, .inr (5, [.ref h_p1_corners, .ref h_p1_normals, .ref h_p1_tones, .ref h_p1_trial, .ref h_p1_trialNormal, .int v_p1_many])), (h_p1_corners, .inl (cI, 1152, .inl v_p1_corners))] := hD
        refine lv_istore (lv' := [(5, .int r5), (0, .ref h_t), (1, .ref h_p1), (2, .int l2), (3, .int l3), (4, .int l4)]) hx hb dX9_fitBox_28 hl (by decide) rfl (fun ls hl => ?_)
        refine lv_aload_n hx hb dX9_fitBox_30 rfl (lv_at hl 2 rfl) ?_
        refine lv_aload_n hx hb dX9_fitBox_31 rfl (lv_at hl 1 rfl) ?_
        refine va_get (D := G) (ci := 9) (v := .ref h_t_order) (C := RX9) (T := TX9) (N := 10) hx hb hts (fun w h => List.mem_cons_of_mem _ (inG_9 w h)) hown hK hP 0 rfl rfl 0 (by decide) (hts _ (List.mem_cons_of_mem _ mw_1_113)) (fun _ h9 => h9) rfl dX9_fitBox_32 ?_
        refine lv_aload_n hx hb dX9_fitBox_35 rfl (lv_at hl 1 rfl) ?_
        refine va_get (D := G) (ci := 9) (v := .ref h_t_first) (C := RX9) (T := TX9) (N := 10) hx hb hts (fun w h => List.mem_cons_of_mem _ (inG_9 w h)) hown hK hP 0 rfl rfl 1 (by decide) (hts _ (List.mem_cons_of_mem _ mw_1_114)) (fun _ h9 => h9) rfl dX9_fitBox_36 ?_
        refine lv_iload_n hx hb dX9_fitBox_39 rfl (lv_at hl 3 rfl) ?_
        obtain ⟨b6, hF⟩ := hF
        refine va_iald hx hb hK hP 2 0 rfl rfl b6 dX9_fitBox_40 ?_
        obtain ⟨b7, hF⟩ := hF
        refine va_iald hx hb hK hP 1 0 rfl rfl b7 dX9_fitBox_41 ?_
        refine lv_iload hx hb dX9_fitBox_42 (lv_at hl 5 rfl) ?_
        refine afterI (wr := [(h_t, .inr (9, [.ref h_t_order, .ref h_t_first, .ref h_t_many, .ref h_t_lower, .ref h_t_upper, .ref h_t_above, .ref h_t_bounds, .ref h_t_met, .int v_t_nodes, .int v_t_deepest])), (h_t_order, .inl (cI, 128, .inl v_t_order)), (h_t_first, .inl (cI, 255, .inl v_t_first)), (h_t_many, .inl (cI, 255, .inl v_t_many)), (h_t_bounds, .inl (cI, 1530, .inl v_t_bounds))]) (va_runV (As := [.int (v_t_order (v_t_first l2.toNatClampNeg).toNatClampNeg), .int l4]) (rest := []) ⟨hx, hb, hml, hown, hts⟩ (c_X5_greatest l G cI cL cZ h_p1 h_p1_corners h_p1_normals h_p1_tones h_p1_trial h_p1_trialNormal v_p1_corners v_p1_many (v_t_order (v_t_first l2.toNatClampNeg).toNatClampNeg) l4 _ _ hF) (cwV 2 hts (gV mw_3_10 mw_3_11 mw_3_12 mw_1_3 mw_3_13) rfl rfl rfl (by decide +kernel) ⟨Nat.le_of_ble_eq_true rfl, Nat.le_of_ble_eq_true rfl⟩) ⟨gP_blind, va_recv hK hP (ci := 5) (q0 := 5) rfl rfl, gP_of hK hnw hP hD [5, 6] (by decide +kernel) rfl rfl⟩ rfl rfl hl.1 rfl (lv_room (Nat.le_of_ble_eq_true rfl)) dX9_fitBox_44 ⟨Nat.le_of_ble_eq_true rfl, Nat.le_of_ble_eq_true rfl⟩) hP hD hS hA [5, 6] [0, 1, 2, 3, 4] rfl rfl (by decide +kernel) (by decide +kernel) (fun r8 u H locs hF hP hD hS => ?_)
        try dsimp only at hF
        have hP : va_P G vwCl [(h_t, .inr (9, [.ref h_t_order, .ref h_t_first, .ref h_t_many, .ref h_t_lower, .ref h_t_upper, .ref h_t_above, .ref h_t_bounds, .ref h_t_met, .int v_t_nodes, .int v_t_deepest])), (h_t_order, .inl (cI, 128, .inl v_t_order)), (h_t_first, .inl (cI, 255, .inl v_t_first)), (h_t_many, .inl (cI, 255, .inl v_t_many)), (h_t_bounds, .inl (cI, 1530, .inl v_t_bounds)), (h_p1, .inr (5, [.ref h_p1_corners, .ref h_p1_normals, .ref h_p1_tones, .ref h_p1_trial, .ref h_p1_trialNormal, .int v_p1_many])), (h_p1_corners, .inl (cI, 1152, .inl v_p1_corners))] H := hP
        have hD : va_D A [(h_t, .inr (9, [.ref h_t_order, .ref h_t_first, .ref h_t_many, .ref h_t_lower, .ref h_t_upper, .ref h_t_above, .ref h_t_bounds, .ref h_t_met, .int v_t_nodes, .int v_t_deepest])), (h_t_order, .inl (cI, 128, .inl v_t_order)), (h_t_first, .inl (cI, 255, .inl v_t_first)), (h_t_many, .inl (cI, 255, .inl v_t_many)), (h_t_bounds, .inl (cI, 1530, .inl v_t_bounds)), (h_p1, .inr (5, [.ref h_p1_corners, .ref h_p1_normals, .ref h_p1_tones, .ref h_p1_trial, .ref h_p1_trialNormal, .int v_p1_many])), (h_p1_corners, .inl (cI, 1152, .inl v_p1_corners))] := hD
        refine lv_istore (lv' := [(6, .int r8), (5, .int r5), (0, .ref h_t), (1, .ref h_p1), (2, .int l2), (3, .int l3), (4, .int l4)]) hx hb dX9_fitBox_47 hl (by decide) rfl (fun ls hl => ?_)
        refine lv_aload_n hx hb dX9_fitBox_49 rfl (lv_at hl 2 rfl) ?_
        refine va_get (D := G) (ci := 9) (v := .ref h_t_first) (C := RX9) (T := TX9) (N := 10) hx hb hts (fun w h => List.mem_cons_of_mem _ (inG_9 w h)) hown hK hP 0 rfl rfl 1 (by decide) (hts _ (List.mem_cons_of_mem _ mw_1_114)) (fun _ h9 => h9) rfl dX9_fitBox_50 ?_
        refine lv_iload_n hx hb dX9_fitBox_53 rfl (lv_at hl 4 rfl) ?_
        obtain ⟨b9, hF⟩ := hF
        refine va_iald hx hb hK hP 2 0 rfl rfl b9 dX9_fitBox_54 ?_
        refine lv_iconst (v := 1) hx hb dX9_fitBox_55 (by decide) ?_
        refine lv_iadd hx hb dX9_fitBox_56 ?_
        refine lv_topi (fun x10 ex10 => ?_)
        have hF := hF x10 ex10
        refine lv_istore (lv' := [(7, .int x10), (6, .int r8), (5, .int r5), (0, .ref h_t), (1, .ref h_p1), (2, .int l2), (3, .int l3), (4, .int l4)]) hx hb dX9_fitBox_57 hl (by decide) rfl (fun ls hl => ?_)
        have k_59 : ∀ (n_59 : Nat) (l2 : Int32) (l3 : Int32) (l4 : Int32) (l5 : Int32) (l6 : Int32) (l7 : Int32) (v_t_bounds : Nat → Int32), L_X9_fitBox_59 (L_X9_fitBox_5 post v_t_order v_t_first v_t_many v_p1_corners n_5) v_t_order v_t_first v_t_many v_p1_corners n_59 l2 l3 l4 l5 l6 l7 v_t_bounds → ∀ (H : Heap) (locs : List Loc) (ls : Array Slot), va_P G vwCl [(h_t, .inr (9, [.ref h_t_order, .ref h_t_first, .ref h_t_many, .ref h_t_lower, .ref h_t_upper, .ref h_t_above, .ref h_t_bounds, .ref h_t_met, .int v_t_nodes, .int v_t_deepest])), (h_t_order, .inl (cI, 128, .inl v_t_order)), (h_t_first, .inl (cI, 255, .inl v_t_first)), (h_t_many, .inl (cI, 255, .inl v_t_many)), (h_t_bounds, .inl (cI, 1530, .inl v_t_bounds)), (h_p1, .inr (5, [.ref h_p1_corners, .ref h_p1_normals, .ref h_p1_tones, .ref h_p1_trial, .ref h_p1_trialNormal, .int v_p1_many])), (h_p1_corners, .inl (cI, 1152, .inl v_p1_corners))] H → va_D A [(h_t, .inr (9, [.ref h_t_order, .ref h_t_first, .ref h_t_many, .ref h_t_lower, .ref h_t_upper, .ref h_t_above, .ref h_t_bounds, .ref h_t_met, .int v_t_nodes, .int v_t_deepest])), (h_t_order, .inl (cI, 128, .inl v_t_order)), (h_t_first, .inl (cI, 255, .inl v_t_first)), (h_t_many, .inl (cI, 255, .inl v_t_many)), (h_t_bounds, .inl (cI, 1530, .inl v_t_bounds)), (h_p1, .inr (5, [.ref h_p1_corners, .ref h_p1_normals, .ref h_p1_tones, .ref h_p1_trial, .ref h_p1_trialNormal, .int v_p1_many])), (h_p1_corners, .inl (cI, 1152, .inl v_p1_corners))] → va_S A s.heap H locs → lv_has ls 8 [(0, .ref h_t), (1, .ref h_p1), (2, .int l2), (3, .int l3), (4, .int l4), (5, .int l5), (6, .int l6), (7, .int l7)] → W p l e rm_X9_fitBox s m args below meth c H locs 0 0 Q (F0 m 59 ls []) := by
          intro n_59
          induction n_59 with
          | zero =>
            intro l2 l3 l4 l5 l6 l7 v_t_bounds hF
            exact (show False from hF).elim
          | succ n_59 k_59 =>
            intro l2 l3 l4 l5 l6 l7 v_t_bounds hF H locs ls hP hD hS hl
            refine lv_iload hx hb dX9_fitBox_59 (lv_at hl 7 rfl) ?_
            refine lv_aload_n hx hb dX9_fitBox_61 rfl (lv_at hl 0 rfl) ?_
            refine va_get (D := G) (ci := 9) (v := .ref h_t_first) (C := RX9) (T := TX9) (N := 10) hx hb hts (fun w h => List.mem_cons_of_mem _ (inG_9 w h)) hown hK hP 0 rfl rfl 1 (by decide) (hts _ (List.mem_cons_of_mem _ mw_1_114)) (fun _ h9 => h9) rfl dX9_fitBox_62 ?_
            refine lv_iload_n hx hb dX9_fitBox_65 rfl (lv_at hl 2 rfl) ?_
            obtain ⟨b11, hF⟩ := hF
            refine va_iald hx hb hK hP 2 0 rfl rfl b11 dX9_fitBox_66 ?_
            refine lv_aload_n hx hb dX9_fitBox_67 rfl (lv_at hl 0 rfl) ?_
            refine va_get (D := G) (ci := 9) (v := .ref h_t_many) (C := RX9) (T := TX9) (N := 10) hx hb hts (fun w h => List.mem_cons_of_mem _ (inG_9 w h)) hown hK hP 0 rfl rfl 2 (by decide) (hts _ (List.mem_cons_of_mem _ mw_1_115)) (fun _ h9 => h9) rfl dX9_fitBox_68 ?_
            refine lv_iload_n hx hb dX9_fitBox_71 rfl (lv_at hl 2 rfl) ?_
            obtain ⟨b12, hF⟩ := hF
            refine va_iald hx hb hK hP 3 0 rfl rfl b12 dX9_fitBox_72 ?_
            refine lv_iadd hx hb dX9_fitBox_73 ?_
            refine lv_icmp_ge (tgt := 123) hx hb dX9_fitBox_74 (by decide) (fun c13 => ?_) (fun c13 => ?_)
            · have hF := hF.1 c13
              refine lv_iload_n hx hb dX9_fitBox_123 rfl (lv_at hl 3 rfl) ?_
              have k_168 : ∀ (l2 : Int32) (l4 : Int32) (l5 : Int32) (l6 : Int32) (s0 : Int32) (v_t_bounds : Nat → Int32), J_X9_fitBox_168 (L_X9_fitBox_5 post v_t_order v_t_first v_t_many v_p1_corners n_5) v_t_order v_t_first v_t_many v_p1_corners l2 l4 l5 l6 s0 v_t_bounds → ∀ (H : Heap) (locs : List Loc) (ls : Array Slot), va_P G vwCl [(h_t, .inr (9, [.ref h_t_order, .ref h_t_first, .ref h_t_many, .ref h_t_lower, .ref h_t_upper, .ref h_t_above, .ref h_t_bounds, .ref h_t_met, .int v_t_nodes, .int v_t_deepest])), (h_t_order, .inl (cI, 128, .inl v_t_order)), (h_t_first, .inl (cI, 255, .inl v_t_first)), (h_t_many, .inl (cI, 255, .inl v_t_many)), (h_t_bounds, .inl (cI, 1530, .inl v_t_bounds)), (h_p1, .inr (5, [.ref h_p1_corners, .ref h_p1_normals, .ref h_p1_tones, .ref h_p1_trial, .ref h_p1_trialNormal, .int v_p1_many])), (h_p1_corners, .inl (cI, 1152, .inl v_p1_corners))] H → va_D A [(h_t, .inr (9, [.ref h_t_order, .ref h_t_first, .ref h_t_many, .ref h_t_lower, .ref h_t_upper, .ref h_t_above, .ref h_t_bounds, .ref h_t_met, .int v_t_nodes, .int v_t_deepest])), (h_t_order, .inl (cI, 128, .inl v_t_order)), (h_t_first, .inl (cI, 255, .inl v_t_first)), (h_t_many, .inl (cI, 255, .inl v_t_many)), (h_t_bounds, .inl (cI, 1530, .inl v_t_bounds)), (h_p1, .inr (5, [.ref h_p1_corners, .ref h_p1_normals, .ref h_p1_tones, .ref h_p1_trial, .ref h_p1_trialNormal, .int v_p1_many])), (h_p1_corners, .inl (cI, 1152, .inl v_p1_corners))] → va_S A s.heap H locs → lv_has ls 8 [(0, .ref h_t), (1, .ref h_p1), (2, .int l2), (4, .int l4), (5, .int l5), (6, .int l6)] → W p l e rm_X9_fitBox s m args below meth c H locs 0 0 Q (F0 m 168 ls [.int s0]) := by
                intro l2 l4 l5 l6 s0 v_t_bounds hF H locs ls hP hD hS hl
                refine lv_istore_n (lv' := [(3, .int s0), (0, .ref h_t), (1, .ref h_p1), (2, .int l2), (4, .int l4), (5, .int l5), (6, .int l6)]) hx hb dX9_fitBox_168 rfl hl (by decide) rfl (fun ls hl => ?_)
                refine lv_aload_n hx hb dX9_fitBox_169 rfl (lv_at hl 1 rfl) ?_
                refine va_get (D := G) (ci := 9) (v := .ref h_t_bounds) (C := RX9) (T := TX9) (N := 10) hx hb hts (fun w h => List.mem_cons_of_mem _ (inG_9 w h)) hown hK hP 0 rfl rfl 6 (by decide) (hts _ (List.mem_cons_of_mem _ mw_1_119)) (fun _ h9 => h9) rfl dX9_fitBox_170 ?_
                refine lv_bipush (v := 6) hx hb dX9_fitBox_173 (by decide) ?_
                refine lv_iload_n hx hb dX9_fitBox_175 rfl (lv_at hl 3 rfl) ?_
                refine lv_imul hx hb dX9_fitBox_176 ?_
                refine lv_iload hx hb dX9_fitBox_177 (lv_at hl 4 rfl) ?_
                refine lv_iadd hx hb dX9_fitBox_179 ?_
                refine lv_iload hx hb dX9_fitBox_180 (lv_at hl 5 rfl) ?_
                obtain ⟨b14, hF⟩ := hF
                refine g_iast (t0 := 0) hx hb hK hP hD hS 4 rfl rfl b14 dX9_fitBox_182 (fun g15 H locs eg15 hP hD hS => ?_)
                have hF := hF g15 eg15
                have hP : va_P G vwCl [(h_t, .inr (9, [.ref h_t_order, .ref h_t_first, .ref h_t_many, .ref h_t_lower, .ref h_t_upper, .ref h_t_above, .ref h_t_bounds, .ref h_t_met, .int v_t_nodes, .int v_t_deepest])), (h_t_order, .inl (cI, 128, .inl v_t_order)), (h_t_first, .inl (cI, 255, .inl v_t_first)), (h_t_many, .inl (cI, 255, .inl v_t_many)), (h_t_bounds, .inl (cI, 1530, .inl g15)), (h_p1, .inr (5, [.ref h_p1_corners, .ref h_p1_normals, .ref h_p1_tones, .ref h_p1_trial, .ref h_p1_trialNormal, .int v_p1_many])), (h_p1_corners, .inl (cI, 1152, .inl v_p1_corners))] H := hP
                have hD : va_D A [(h_t, .inr (9, [.ref h_t_order, .ref h_t_first, .ref h_t_many, .ref h_t_lower, .ref h_t_upper, .ref h_t_above, .ref h_t_bounds, .ref h_t_met, .int v_t_nodes, .int v_t_deepest])), (h_t_order, .inl (cI, 128, .inl v_t_order)), (h_t_first, .inl (cI, 255, .inl v_t_first)), (h_t_many, .inl (cI, 255, .inl v_t_many)), (h_t_bounds, .inl (cI, 1530, .inl g15)), (h_p1, .inr (5, [.ref h_p1_corners, .ref h_p1_normals, .ref h_p1_tones, .ref h_p1_trial, .ref h_p1_trialNormal, .int v_p1_many])), (h_p1_corners, .inl (cI, 1152, .inl v_p1_corners))] := hD
                refine lv_aload_n hx hb dX9_fitBox_183 rfl (lv_at hl 1 rfl) ?_
                refine va_get (D := G) (ci := 9) (v := .ref h_t_bounds) (C := RX9) (T := TX9) (N := 10) hx hb hts (fun w h => List.mem_cons_of_mem _ (inG_9 w h)) hown hK hP 0 rfl rfl 6 (by decide) (hts _ (List.mem_cons_of_mem _ mw_1_119)) (fun _ h9 => h9) rfl dX9_fitBox_184 ?_
                refine lv_bipush (v := 6) hx hb dX9_fitBox_187 (by decide) ?_
                refine lv_iload_n hx hb dX9_fitBox_189 rfl (lv_at hl 3 rfl) ?_
                refine lv_imul hx hb dX9_fitBox_190 ?_
                refine lv_iconst (v := 3) hx hb dX9_fitBox_191 (by decide) ?_
                refine lv_iadd hx hb dX9_fitBox_192 ?_
                refine lv_iload hx hb dX9_fitBox_193 (lv_at hl 4 rfl) ?_
                refine lv_iadd hx hb dX9_fitBox_195 ?_
                refine lv_iload hx hb dX9_fitBox_196 (lv_at hl 6 rfl) ?_
                obtain ⟨b16, hF⟩ := hF
                refine g_iast (t0 := 0) hx hb hK hP hD hS 4 rfl rfl b16 dX9_fitBox_198 (fun g17 H locs eg17 hP hD hS => ?_)
                have hF := hF g17 eg17
                have hP : va_P G vwCl [(h_t, .inr (9, [.ref h_t_order, .ref h_t_first, .ref h_t_many, .ref h_t_lower, .ref h_t_upper, .ref h_t_above, .ref h_t_bounds, .ref h_t_met, .int v_t_nodes, .int v_t_deepest])), (h_t_order, .inl (cI, 128, .inl v_t_order)), (h_t_first, .inl (cI, 255, .inl v_t_first)), (h_t_many, .inl (cI, 255, .inl v_t_many)), (h_t_bounds, .inl (cI, 1530, .inl g17)), (h_p1, .inr (5, [.ref h_p1_corners, .ref h_p1_normals, .ref h_p1_tones, .ref h_p1_trial, .ref h_p1_trialNormal, .int v_p1_many])), (h_p1_corners, .inl (cI, 1152, .inl v_p1_corners))] H := hP
                have hD : va_D A [(h_t, .inr (9, [.ref h_t_order, .ref h_t_first, .ref h_t_many, .ref h_t_lower, .ref h_t_upper, .ref h_t_above, .ref h_t_bounds, .ref h_t_met, .int v_t_nodes, .int v_t_deepest])), (h_t_order, .inl (cI, 128, .inl v_t_order)), (h_t_first, .inl (cI, 255, .inl v_t_first)), (h_t_many, .inl (cI, 255, .inl v_t_many)), (h_t_bounds, .inl (cI, 1530, .inl g17)), (h_p1, .inr (5, [.ref h_p1_corners, .ref h_p1_normals, .ref h_p1_tones, .ref h_p1_trial, .ref h_p1_trialNormal, .int v_p1_many])), (h_p1_corners, .inl (cI, 1152, .inl v_p1_corners))] := hD
                obtain ⟨x18, ex18⟩ : ∃ z : Int32, z = (l4 + 1) := ⟨_, rfl⟩
                have hF := hF x18 ex18
                refine lv_iinc (v := x18) (lv' := [(4, .int x18), (3, .int s0), (0, .ref h_t), (1, .ref h_p1), (2, .int l2), (5, .int l5), (6, .int l6)]) hx hb dX9_fitBox_199 hl (k := 4) rfl (by rw [ex18]; rfl) (by decide) rfl (fun ls hl => ?_)
                refine lv_goto (tgt := 5) hx hb dX9_fitBox_202 (by decide) ?_
                exact k_5 l2 s0 x18 g17 hF _ _ ls hP hD hS (lv_sub hl [2, 3, 4, 1, 0] rfl)
              have k_163 : ∀ (l2 : Int32) (l4 : Int32) (l5 : Int32) (l6 : Int32) (v_t_bounds : Nat → Int32), J_X9_fitBox_163 (J_X9_fitBox_168 (L_X9_fitBox_5 post v_t_order v_t_first v_t_many v_p1_corners n_5) v_t_order v_t_first v_t_many v_p1_corners) v_t_order v_t_first v_t_many v_p1_corners l2 l4 l5 l6 v_t_bounds → ∀ (H : Heap) (locs : List Loc) (ls : Array Slot), va_P G vwCl [(h_t, .inr (9, [.ref h_t_order, .ref h_t_first, .ref h_t_many, .ref h_t_lower, .ref h_t_upper, .ref h_t_above, .ref h_t_bounds, .ref h_t_met, .int v_t_nodes, .int v_t_deepest])), (h_t_order, .inl (cI, 128, .inl v_t_order)), (h_t_first, .inl (cI, 255, .inl v_t_first)), (h_t_many, .inl (cI, 255, .inl v_t_many)), (h_t_bounds, .inl (cI, 1530, .inl v_t_bounds)), (h_p1, .inr (5, [.ref h_p1_corners, .ref h_p1_normals, .ref h_p1_tones, .ref h_p1_trial, .ref h_p1_trialNormal, .int v_p1_many])), (h_p1_corners, .inl (cI, 1152, .inl v_p1_corners))] H → va_D A [(h_t, .inr (9, [.ref h_t_order, .ref h_t_first, .ref h_t_many, .ref h_t_lower, .ref h_t_upper, .ref h_t_above, .ref h_t_bounds, .ref h_t_met, .int v_t_nodes, .int v_t_deepest])), (h_t_order, .inl (cI, 128, .inl v_t_order)), (h_t_first, .inl (cI, 255, .inl v_t_first)), (h_t_many, .inl (cI, 255, .inl v_t_many)), (h_t_bounds, .inl (cI, 1530, .inl v_t_bounds)), (h_p1, .inr (5, [.ref h_p1_corners, .ref h_p1_normals, .ref h_p1_tones, .ref h_p1_trial, .ref h_p1_trialNormal, .int v_p1_many])), (h_p1_corners, .inl (cI, 1152, .inl v_p1_corners))] → va_S A s.heap H locs → lv_has ls 8 [(0, .ref h_t), (1, .ref h_p1), (2, .int l2), (4, .int l4), (5, .int l5), (6, .int l6)] → W p l e rm_X9_fitBox s m args below meth c H locs 0 0 Q (F0 m 163 ls []) := by
                intro l2 l4 l5 l6 v_t_bounds hF H locs ls hP hD hS hl
                refine lv_iconst (v := 1) hx hb dX9_fitBox_163 (by decide) ?_
                refine lv_goto (tgt := 168) hx hb dX9_fitBox_164 (by decide) ?_
                exact k_168 l2 l4 l5 l6 1 v_t_bounds hF _ _ ls hP hD hS (lv_sub hl [0, 1, 2, 3, 4, 5] rfl)
              refine lv_if_ne (tgt := 163) hx hb dX9_fitBox_124 (by decide) (fun c19 => ?_) (fun c19 => ?_)
              · have hF := hF.1 c19
                exact k_163 l2 l4 l5 l6 v_t_bounds hF _ _ ls hP hD hS (lv_sub hl [0, 1, 2, 4, 5, 6] rfl)
              · have hF := hF.2 c19
                refine lv_aload_n hx hb dX9_fitBox_127 rfl (lv_at hl 0 rfl) ?_
                refine va_get (D := G) (ci := 9) (v := .ref h_t_bounds) (C := RX9) (T := TX9) (N := 10) hx hb hts (fun w h => List.mem_cons_of_mem _ (inG_9 w h)) hown hK hP 0 rfl rfl 6 (by decide) (hts _ (List.mem_cons_of_mem _ mw_1_119)) (fun _ h9 => h9) rfl dX9_fitBox_128 ?_
                refine lv_bipush (v := 6) hx hb dX9_fitBox_131 (by decide) ?_
                refine lv_iload_n hx hb dX9_fitBox_133 rfl (lv_at hl 2 rfl) ?_
                refine lv_imul hx hb dX9_fitBox_134 ?_
                refine lv_iload hx hb dX9_fitBox_135 (lv_at hl 4 rfl) ?_
                refine lv_iadd hx hb dX9_fitBox_137 ?_
                obtain ⟨b20, hF⟩ := hF
                refine va_iald hx hb hK hP 4 0 rfl rfl b20 dX9_fitBox_138 ?_
                refine lv_iload hx hb dX9_fitBox_139 (lv_at hl 5 rfl) ?_
                refine lv_icmp_ne (tgt := 163) hx hb dX9_fitBox_141 (by decide) (fun c21 => ?_) (fun c21 => ?_)
                · have hF := hF.1 c21
                  exact k_163 l2 l4 l5 l6 v_t_bounds hF _ _ ls hP hD hS (lv_sub hl [0, 1, 2, 4, 5, 6] rfl)
                · have hF := hF.2 c21
                  refine lv_aload_n hx hb dX9_fitBox_144 rfl (lv_at hl 0 rfl) ?_
                  refine va_get (D := G) (ci := 9) (v := .ref h_t_bounds) (C := RX9) (T := TX9) (N := 10) hx hb hts (fun w h => List.mem_cons_of_mem _ (inG_9 w h)) hown hK hP 0 rfl rfl 6 (by decide) (hts _ (List.mem_cons_of_mem _ mw_1_119)) (fun _ h9 => h9) rfl dX9_fitBox_145 ?_
                  refine lv_bipush (v := 6) hx hb dX9_fitBox_148 (by decide) ?_
                  refine lv_iload_n hx hb dX9_fitBox_150 rfl (lv_at hl 2 rfl) ?_
                  refine lv_imul hx hb dX9_fitBox_151 ?_
                  refine lv_iconst (v := 3) hx hb dX9_fitBox_152 (by decide) ?_
                  refine lv_iadd hx hb dX9_fitBox_153 ?_
                  refine lv_iload hx hb dX9_fitBox_154 (lv_at hl 4 rfl) ?_
                  refine lv_iadd hx hb dX9_fitBox_156 ?_
                  obtain ⟨b22, hF⟩ := hF
                  refine va_iald hx hb hK hP 4 0 rfl rfl b22 dX9_fitBox_157 ?_
                  refine lv_iload hx hb dX9_fitBox_158 (lv_at hl 6 rfl) ?_
                  refine lv_icmp_eq (tgt := 167) hx hb dX9_fitBox_160 (by decide) (fun c23 => ?_) (fun c23 => ?_)
                  · have hF := hF.1 c23
                    refine lv_iconst (v := 0) hx hb dX9_fitBox_167 (by decide) ?_
                    exact k_168 l2 l4 l5 l6 0 v_t_bounds hF _ _ ls hP hD hS (lv_sub hl [0, 1, 2, 4, 5, 6] rfl)
                  · have hF := hF.2 c23
                    exact k_163 l2 l4 l5 l6 v_t_bounds hF _ _ ls hP hD hS (lv_sub hl [0, 1, 2, 4, 5, 6] rfl)
            · have hF := hF.2 c13
              refine lv_iload hx hb dX9_fitBox_77 (lv_at hl 5 rfl) ?_
              refine lv_aload_n hx hb dX9_fitBox_79 rfl (lv_at hl 1 rfl) ?_
              refine lv_aload_n hx hb dX9_fitBox_80 rfl (lv_at hl 0 rfl) ?_
              refine va_get (D := G) (ci := 9) (v := .ref h_t_order) (C := RX9) (T := TX9) (N := 10) hx hb hts (fun w h => List.mem_cons_of_mem _ (inG_9 w h)) hown hK hP 0 rfl rfl 0 (by decide) (hts _ (List.mem_cons_of_mem _ mw_1_113)) (fun _ h9 => h9) rfl dX9_fitBox_81 ?_
              refine lv_iload hx hb dX9_fitBox_84 (lv_at hl 7 rfl) ?_
              obtain ⟨b24, hF⟩ := hF
              refine va_iald hx hb hK hP 1 0 rfl rfl b24 dX9_fitBox_86 ?_
              refine lv_iload hx hb dX9_fitBox_87 (lv_at hl 4 rfl) ?_
              refine afterI (wr := [(h_t, .inr (9, [.ref h_t_order, .ref h_t_first, .ref h_t_many, .ref h_t_lower, .ref h_t_upper, .ref h_t_above, .ref h_t_bounds, .ref h_t_met, .int v_t_nodes, .int v_t_deepest])), (h_t_order, .inl (cI, 128, .inl v_t_order)), (h_t_first, .inl (cI, 255, .inl v_t_first)), (h_t_many, .inl (cI, 255, .inl v_t_many)), (h_t_bounds, .inl (cI, 1530, .inl v_t_bounds))]) (va_runV (As := [.int (v_t_order l7.toNatClampNeg), .int l4]) (rest := [.int l5]) ⟨hx, hb, hml, hown, hts⟩ (c_X5_least l G cI cL cZ h_p1 h_p1_corners h_p1_normals h_p1_tones h_p1_trial h_p1_trialNormal v_p1_corners v_p1_many (v_t_order l7.toNatClampNeg) l4 _ _ hF) (cwV 2 hts (gV mw_2_239 mw_3_0 mw_3_1 mw_1_3 mw_3_2) rfl rfl rfl (by decide +kernel) ⟨Nat.le_of_ble_eq_true rfl, Nat.le_of_ble_eq_true rfl⟩) ⟨gP_blind, va_recv hK hP (ci := 5) (q0 := 5) rfl rfl, gP_of hK hnw hP hD [5, 6] (by decide +kernel) rfl rfl⟩ rfl rfl hl.1 rfl (lv_room (Nat.le_of_ble_eq_true rfl)) dX9_fitBox_89 ⟨Nat.le_of_ble_eq_true rfl, Nat.le_of_ble_eq_true rfl⟩) hP hD hS hA [5, 6] [0, 1, 2, 3, 4] rfl rfl (by decide +kernel) (by decide +kernel) (fun r25 u H locs hF hP hD hS => ?_)
              try dsimp only at hF
              have hP : va_P G vwCl [(h_t, .inr (9, [.ref h_t_order, .ref h_t_first, .ref h_t_many, .ref h_t_lower, .ref h_t_upper, .ref h_t_above, .ref h_t_bounds, .ref h_t_met, .int v_t_nodes, .int v_t_deepest])), (h_t_order, .inl (cI, 128, .inl v_t_order)), (h_t_first, .inl (cI, 255, .inl v_t_first)), (h_t_many, .inl (cI, 255, .inl v_t_many)), (h_t_bounds, .inl (cI, 1530, .inl v_t_bounds)), (h_p1, .inr (5, [.ref h_p1_corners, .ref h_p1_normals, .ref h_p1_tones, .ref h_p1_trial, .ref h_p1_trialNormal, .int v_p1_many])), (h_p1_corners, .inl (cI, 1152, .inl v_p1_corners))] H := hP
              have hD : va_D A [(h_t, .inr (9, [.ref h_t_order, .ref h_t_first, .ref h_t_many, .ref h_t_lower, .ref h_t_upper, .ref h_t_above, .ref h_t_bounds, .ref h_t_met, .int v_t_nodes, .int v_t_deepest])), (h_t_order, .inl (cI, 128, .inl v_t_order)), (h_t_first, .inl (cI, 255, .inl v_t_first)), (h_t_many, .inl (cI, 255, .inl v_t_many)), (h_t_bounds, .inl (cI, 1530, .inl v_t_bounds)), (h_p1, .inr (5, [.ref h_p1_corners, .ref h_p1_normals, .ref h_p1_tones, .ref h_p1_trial, .ref h_p1_trialNormal, .int v_p1_many])), (h_p1_corners, .inl (cI, 1152, .inl v_p1_corners))] := hD
              refine va_mmin hx hb (by rw [hml]; exact hl.1.symm) hown (hts _ (List.mem_cons_of_mem _ mw_3_15)) (hts _ (List.mem_cons_of_mem _ mw_3_8)) (hts _ (List.mem_cons_of_mem _ mw_1_15)) (hts _ (List.mem_cons_of_mem _ mw_3_9)) (Nat.le_of_ble_eq_true rfl) (Nat.le_of_ble_eq_true rfl) (Nat.le_of_ble_eq_true rfl) (Nat.le_of_ble_eq_true rfl) dX9_fitBox_92 ?_
              refine W.eq (g2 := F0 m 95 ls (.int (jminI l5 r25) :: [])) rfl ?_
              refine lv_topi (fun x26 ex26 => ?_)
              have hF := hF x26 ex26
              refine lv_istore (lv' := [(5, .int x26), (0, .ref h_t), (1, .ref h_p1), (2, .int l2), (3, .int l3), (4, .int l4), (6, .int l6), (7, .int l7)]) hx hb dX9_fitBox_95 hl (by decide) rfl (fun ls hl => ?_)
              refine lv_iload hx hb dX9_fitBox_97 (lv_at hl 6 rfl) ?_
              refine lv_aload_n hx hb dX9_fitBox_99 rfl (lv_at hl 2 rfl) ?_
              refine lv_aload_n hx hb dX9_fitBox_100 rfl (lv_at hl 1 rfl) ?_
              refine va_get (D := G) (ci := 9) (v := .ref h_t_order) (C := RX9) (T := TX9) (N := 10) hx hb hts (fun w h => List.mem_cons_of_mem _ (inG_9 w h)) hown hK hP 0 rfl rfl 0 (by decide) (hts _ (List.mem_cons_of_mem _ mw_1_113)) (fun _ h9 => h9) rfl dX9_fitBox_101 ?_
              refine lv_iload hx hb dX9_fitBox_104 (lv_at hl 7 rfl) ?_
              obtain ⟨b27, hF⟩ := hF
              refine va_iald hx hb hK hP 1 0 rfl rfl b27 dX9_fitBox_106 ?_
              refine lv_iload hx hb dX9_fitBox_107 (lv_at hl 5 rfl) ?_
              refine afterI (wr := [(h_t, .inr (9, [.ref h_t_order, .ref h_t_first, .ref h_t_many, .ref h_t_lower, .ref h_t_upper, .ref h_t_above, .ref h_t_bounds, .ref h_t_met, .int v_t_nodes, .int v_t_deepest])), (h_t_order, .inl (cI, 128, .inl v_t_order)), (h_t_first, .inl (cI, 255, .inl v_t_first)), (h_t_many, .inl (cI, 255, .inl v_t_many)), (h_t_bounds, .inl (cI, 1530, .inl v_t_bounds))]) (va_runV (As := [.int (v_t_order l7.toNatClampNeg), .int l4]) (rest := [.int l6]) ⟨hx, hb, hml, hown, hts⟩ (c_X5_greatest l G cI cL cZ h_p1 h_p1_corners h_p1_normals h_p1_tones h_p1_trial h_p1_trialNormal v_p1_corners v_p1_many (v_t_order l7.toNatClampNeg) l4 _ _ hF) (cwV 2 hts (gV mw_3_10 mw_3_11 mw_3_12 mw_1_3 mw_3_13) rfl rfl rfl (by decide +kernel) ⟨Nat.le_of_ble_eq_true rfl, Nat.le_of_ble_eq_true rfl⟩) ⟨gP_blind, va_recv hK hP (ci := 5) (q0 := 5) rfl rfl, gP_of hK hnw hP hD [5, 6] (by decide +kernel) rfl rfl⟩ rfl rfl hl.1 rfl (lv_room (Nat.le_of_ble_eq_true rfl)) dX9_fitBox_109 ⟨Nat.le_of_ble_eq_true rfl, Nat.le_of_ble_eq_true rfl⟩) hP hD hS hA [5, 6] [0, 1, 2, 3, 4] rfl rfl (by decide +kernel) (by decide +kernel) (fun r28 u H locs hF hP hD hS => ?_)
              try dsimp only at hF
              have hP : va_P G vwCl [(h_t, .inr (9, [.ref h_t_order, .ref h_t_first, .ref h_t_many, .ref h_t_lower, .ref h_t_upper, .ref h_t_above, .ref h_t_bounds, .ref h_t_met, .int v_t_nodes, .int v_t_deepest])), (h_t_order, .inl (cI, 128, .inl v_t_order)), (h_t_first, .inl (cI, 255, .inl v_t_first)), (h_t_many, .inl (cI, 255, .inl v_t_many)), (h_t_bounds, .inl (cI, 1530, .inl v_t_bounds)), (h_p1, .inr (5, [.ref h_p1_corners, .ref h_p1_normals, .ref h_p1_tones, .ref h_p1_trial, .ref h_p1_trialNormal, .int v_p1_many])), (h_p1_corners, .inl (cI, 1152, .inl v_p1_corners))] H := hP
              have hD : va_D A [(h_t, .inr (9, [.ref h_t_order, .ref h_t_first, .ref h_t_many, .ref h_t_lower, .ref h_t_upper, .ref h_t_above, .ref h_t_bounds, .ref h_t_met, .int v_t_nodes, .int v_t_deepest])), (h_t_order, .inl (cI, 128, .inl v_t_order)), (h_t_first, .inl (cI, 255, .inl v_t_first)), (h_t_many, .inl (cI, 255, .inl v_t_many)), (h_t_bounds, .inl (cI, 1530, .inl v_t_bounds)), (h_p1, .inr (5, [.ref h_p1_corners, .ref h_p1_normals, .ref h_p1_tones, .ref h_p1_trial, .ref h_p1_trialNormal, .int v_p1_many])), (h_p1_corners, .inl (cI, 1152, .inl v_p1_corners))] := hD
              refine va_mmax hx hb (by rw [hml]; exact hl.1.symm) hown (hts _ (List.mem_cons_of_mem _ mw_2_232)) (hts _ (List.mem_cons_of_mem _ mw_2_233)) (hts _ (List.mem_cons_of_mem _ mw_1_15)) (hts _ (List.mem_cons_of_mem _ mw_2_234)) (Nat.le_of_ble_eq_true rfl) (Nat.le_of_ble_eq_true rfl) (Nat.le_of_ble_eq_true rfl) (Nat.le_of_ble_eq_true rfl) dX9_fitBox_112 ?_
              refine W.eq (g2 := F0 m 115 ls (.int (jmaxI l6 r28) :: [])) rfl ?_
              refine lv_topi (fun x29 ex29 => ?_)
              have hF := hF x29 ex29
              refine lv_istore (lv' := [(6, .int x29), (5, .int x26), (0, .ref h_t), (1, .ref h_p1), (2, .int l2), (3, .int l3), (4, .int l4), (7, .int l7)]) hx hb dX9_fitBox_115 hl (by decide) rfl (fun ls hl => ?_)
              obtain ⟨x30, ex30⟩ : ∃ z : Int32, z = (l7 + 1) := ⟨_, rfl⟩
              have hF := hF x30 ex30
              refine lv_iinc (v := x30) (lv' := [(7, .int x30), (6, .int x29), (5, .int x26), (0, .ref h_t), (1, .ref h_p1), (2, .int l2), (3, .int l3), (4, .int l4)]) hx hb dX9_fitBox_117 hl (k := 7) rfl (by rw [ex30]; rfl) (by decide) rfl (fun ls hl => ?_)
              refine lv_goto (tgt := 59) hx hb dX9_fitBox_120 (by decide) ?_
              exact k_59 l2 l3 l4 x26 x29 x30 v_t_bounds hF _ _ ls hP hD hS (lv_sub hl [3, 4, 5, 6, 7, 2, 1, 0] rfl)
        obtain ⟨n0, hF⟩ := hF
        exact k_59 n0 l2 l3 l4 r5 r8 x10 v_t_bounds hF _ _ ls hP hD hS (lv_sub hl [3, 4, 5, 6, 7, 2, 1, 0] rfl)
  obtain ⟨n0, hF⟩ := hF
  exact k_5 n0 p2 0 0 v_t_bounds hF _ _ ls hP hD hS (lv_sub hl [2, 3, 4, 1, 0] rfl)

def rm_X5_middle : Room := { frames := 1, cells := 0, slots := 0, locals := 23 }
def F_X5_middle (p1 : Int32) (p2 : Int32) (v_t_corners : Nat → Int32) (post : Int32 → Prop) : Prop := (F_X5_at p1 0 p2 v_t_corners (fun r1 => (F_X5_at p1 1 p2 v_t_corners (fun r2 => (F_X5_at p1 2 p2 v_t_corners (fun r3 => post ((r1 + r2) + r3)))))))
set_option maxHeartbeats 8000000 in
set_option maxRecDepth 100000 in
theorem c_X5_middle (l : Launch) (G : va_G) (cI cL cZ : ClassId) (h_t : Nat) (h_t_corners : Nat) (h_t_normals : Nat) (h_t_tones : Nat) (h_t_trial : Nat) (h_t_trialNormal : Nat) (v_t_corners : Nat → Int32) (v_t_many : Int32) (p1 : Int32) (p2 : Int32) (sz : Nat) (post : Int32 → Prop) (hF : F_X5_middle p1 p2 v_t_corners post) : MetI l G (gT cI cL cZ) yX5_middle (gW yX5_middle cX5_middle 3 (some .int)) rm_X5_middle 0 0 [.ref h_t, .int p1, .int p2] sz [(h_t, .inr (5, [.ref h_t_corners, .ref h_t_normals, .ref h_t_tones, .ref h_t_trial, .ref h_t_trialNormal, .int v_t_many])), (h_t_corners, .inl (cI, 1152, .inl v_t_corners))] (fun (u : Unit) => [(h_t, .inr (5, [.ref h_t_corners, .ref h_t_normals, .ref h_t_tones, .ref h_t_trial, .ref h_t_trialNormal, .int v_t_many])), (h_t_corners, .inl (cI, 1152, .inl v_t_corners))]) (fun (r : Int32) (u : Unit) => post r) := by
  refine startI (cc := cX5_middle) (maxL := 3) (ty9 := .int) (by decide +kernel) rfl (Nat.le_of_ble_eq_true rfl) ?_
  intro p e s m args below meth c Q ls A C0 hP hD hS hl hret
  obtain ⟨hx, hb, hml, hown, hts, hnw, hK, hA, hin⟩ := C0
  have hown : s.vm.findClass RX5 = some m.cls := hown
  have hl : lv_has ls 3 [(0, .ref h_t), (1, .int p1), (2, .int p2)] := hl
  refine lv_aload_n hx hb dX5_middle_0 rfl (lv_at hl 0 rfl) ?_
  refine lv_iload_n hx hb dX5_middle_1 rfl (lv_at hl 1 rfl) ?_
  refine lv_iconst (v := 0) hx hb dX5_middle_2 (by decide) ?_
  refine lv_iload_n hx hb dX5_middle_3 rfl (lv_at hl 2 rfl) ?_
  refine afterI (wr := []) (va_runV (As := [.int p1, .int 0, .int p2]) (rest := []) ⟨hx, hb, hml, hown, hts⟩ (c_X5_at l G cI cL cZ h_t h_t_corners h_t_normals h_t_tones h_t_trial h_t_trialNormal v_t_corners v_t_many p1 0 p2 _ _ hF) (cwV 3 hts (gV mw_3_3 mw_3_4 mw_3_5 mw_1_3 mw_3_6) rfl rfl rfl (by decide +kernel) ⟨Nat.le_of_ble_eq_true rfl, Nat.le_of_ble_eq_true rfl⟩) ⟨gP_blind, va_recv hK hP (ci := 5) (q0 := 0) rfl rfl, gP_of hK hnw hP hD [0, 1] (by decide +kernel) rfl rfl⟩ rfl rfl hl.1 rfl (lv_room (Nat.le_of_ble_eq_true rfl)) dX5_middle_4 ⟨Nat.le_of_ble_eq_true rfl, Nat.le_of_ble_eq_true rfl⟩) hP hD hS hA [0, 1] [] rfl rfl (by decide +kernel) (by decide +kernel) (fun r1 u H locs hF hP hD hS => ?_)
  try dsimp only at hF
  have hP : va_P G vwCl [(h_t, .inr (5, [.ref h_t_corners, .ref h_t_normals, .ref h_t_tones, .ref h_t_trial, .ref h_t_trialNormal, .int v_t_many])), (h_t_corners, .inl (cI, 1152, .inl v_t_corners))] H := hP
  have hD : va_D A [(h_t, .inr (5, [.ref h_t_corners, .ref h_t_normals, .ref h_t_tones, .ref h_t_trial, .ref h_t_trialNormal, .int v_t_many])), (h_t_corners, .inl (cI, 1152, .inl v_t_corners))] := hD
  refine lv_aload_n hx hb dX5_middle_7 rfl (lv_at hl 0 rfl) ?_
  refine lv_iload_n hx hb dX5_middle_8 rfl (lv_at hl 1 rfl) ?_
  refine lv_iconst (v := 1) hx hb dX5_middle_9 (by decide) ?_
  refine lv_iload_n hx hb dX5_middle_10 rfl (lv_at hl 2 rfl) ?_
  refine afterI (wr := []) (va_runV (As := [.int p1, .int 1, .int p2]) (rest := [.int r1]) ⟨hx, hb, hml, hown, hts⟩ (c_X5_at l G cI cL cZ h_t h_t_corners h_t_normals h_t_tones h_t_trial h_t_trialNormal v_t_corners v_t_many p1 1 p2 _ _ hF) (cwV 3 hts (gV mw_3_3 mw_3_4 mw_3_5 mw_1_3 mw_3_6) rfl rfl rfl (by decide +kernel) ⟨Nat.le_of_ble_eq_true rfl, Nat.le_of_ble_eq_true rfl⟩) ⟨gP_blind, va_recv hK hP (ci := 5) (q0 := 0) rfl rfl, gP_of hK hnw hP hD [0, 1] (by decide +kernel) rfl rfl⟩ rfl rfl hl.1 rfl (lv_room (Nat.le_of_ble_eq_true rfl)) dX5_middle_11 ⟨Nat.le_of_ble_eq_true rfl, Nat.le_of_ble_eq_true rfl⟩) hP hD hS hA [0, 1] [] rfl rfl (by decide +kernel) (by decide +kernel) (fun r2 u H locs hF hP hD hS => ?_)
  try dsimp only at hF
  have hP : va_P G vwCl [(h_t, .inr (5, [.ref h_t_corners, .ref h_t_normals, .ref h_t_tones, .ref h_t_trial, .ref h_t_trialNormal, .int v_t_many])), (h_t_corners, .inl (cI, 1152, .inl v_t_corners))] H := hP
  have hD : va_D A [(h_t, .inr (5, [.ref h_t_corners, .ref h_t_normals, .ref h_t_tones, .ref h_t_trial, .ref h_t_trialNormal, .int v_t_many])), (h_t_corners, .inl (cI, 1152, .inl v_t_corners))] := hD
  refine lv_iadd hx hb dX5_middle_14 ?_
  refine lv_aload_n hx hb dX5_middle_15 rfl (lv_at hl 0 rfl) ?_
  refine lv_iload_n hx hb dX5_middle_16 rfl (lv_at hl 1 rfl) ?_
  refine lv_iconst (v := 2) hx hb dX5_middle_17 (by decide) ?_
  refine lv_iload_n hx hb dX5_middle_18 rfl (lv_at hl 2 rfl) ?_
  refine afterI (wr := []) (va_runV (As := [.int p1, .int 2, .int p2]) (rest := [.int (r1 + r2)]) ⟨hx, hb, hml, hown, hts⟩ (c_X5_at l G cI cL cZ h_t h_t_corners h_t_normals h_t_tones h_t_trial h_t_trialNormal v_t_corners v_t_many p1 2 p2 _ _ hF) (cwV 3 hts (gV mw_3_3 mw_3_4 mw_3_5 mw_1_3 mw_3_6) rfl rfl rfl (by decide +kernel) ⟨Nat.le_of_ble_eq_true rfl, Nat.le_of_ble_eq_true rfl⟩) ⟨gP_blind, va_recv hK hP (ci := 5) (q0 := 0) rfl rfl, gP_of hK hnw hP hD [0, 1] (by decide +kernel) rfl rfl⟩ rfl rfl hl.1 rfl (lv_room (Nat.le_of_ble_eq_true rfl)) dX5_middle_19 ⟨Nat.le_of_ble_eq_true rfl, Nat.le_of_ble_eq_true rfl⟩) hP hD hS hA [0, 1] [] rfl rfl (by decide +kernel) (by decide +kernel) (fun r3 u H locs hF hP hD hS => ?_)
  try dsimp only at hF
  have hP : va_P G vwCl [(h_t, .inr (5, [.ref h_t_corners, .ref h_t_normals, .ref h_t_tones, .ref h_t_trial, .ref h_t_trialNormal, .int v_t_many])), (h_t_corners, .inl (cI, 1152, .inl v_t_corners))] H := hP
  have hD : va_D A [(h_t, .inr (5, [.ref h_t_corners, .ref h_t_normals, .ref h_t_tones, .ref h_t_trial, .ref h_t_trialNormal, .int v_t_many])), (h_t_corners, .inl (cI, 1152, .inl v_t_corners))] := hD
  refine lv_iadd hx hb dX5_middle_22 ?_
  exact hret 23 ls _ _ ((r1 + r2) + r3) () dX5_middle_23 rfl hF hP hD hS

def rm_X9_spreadAlong : Room := { frames := 2, cells := 0, slots := 0, locals := 45 }
def L_X9_spreadAlong_23 (post : Int32 → Prop) (v_t_order : Nat → Int32) (v_p1_corners : Nat → Int32) : Nat → Int32 → Int32 → Int32 → Int32 → Int32 → Int32 → Prop
  | 0, _, _, _, _, _, _ => False
  | n_23 + 1, l2, l3, l4, l5, l6, l7 => (((l2 + l3) ≤ l7 → post (l6 - l5)) ∧ (¬ (l2 + l3) ≤ l7 → (vp_in l7 128 ∧ (F_X5_middle (v_t_order l7.toNatClampNeg) l4 v_p1_corners (fun r6 => (∀ x7 : Int32, x7 = (jminI l5 r6) → (∀ x8 : Int32, x8 = (jmaxI l6 r6) → (∀ x9 : Int32, x9 = (l7 + 1) → L_X9_spreadAlong_23 post v_t_order v_p1_corners n_23 l2 l3 l4 x7 x8 x9))))))))
def F_X9_spreadAlong (p2 : Int32) (p3 : Int32) (p4 : Int32) (v_t_order : Nat → Int32) (v_p1_corners : Nat → Int32) (post : Int32 → Prop) : Prop := (vp_in p2 128 ∧ (F_X5_middle (v_t_order p2.toNatClampNeg) p4 v_p1_corners (fun r2 => (∀ x3 : Int32, x3 = (p2 + 1) → (∃ n0 : Nat, L_X9_spreadAlong_23 post v_t_order v_p1_corners n0 p2 p3 p4 r2 r2 x3)))))
set_option maxHeartbeats 8000000 in
set_option maxRecDepth 100000 in
theorem c_X9_spreadAlong (l : Launch) (G : va_G) (cI cL cZ : ClassId) (h_t : Nat) (h_t_order : Nat) (h_t_first : Nat) (h_t_many : Nat) (h_t_lower : Nat) (h_t_upper : Nat) (h_t_above : Nat) (h_t_bounds : Nat) (h_t_met : Nat) (h_p1 : Nat) (h_p1_corners : Nat) (h_p1_normals : Nat) (h_p1_tones : Nat) (h_p1_trial : Nat) (h_p1_trialNormal : Nat) (v_t_order : Nat → Int32) (v_p1_corners : Nat → Int32) (v_t_nodes : Int32) (v_t_deepest : Int32) (v_p1_many : Int32) (p2 : Int32) (p3 : Int32) (p4 : Int32) (sz : Nat) (post : Int32 → Prop) (hF : F_X9_spreadAlong p2 p3 p4 v_t_order v_p1_corners post) : MetI l G (gT cI cL cZ) yX9_spreadAlong (gW yX9_spreadAlong cX9_spreadAlong 9 (some .int)) rm_X9_spreadAlong 0 0 [.ref h_t, .ref h_p1, .int p2, .int p3, .int p4] sz [(h_t, .inr (9, [.ref h_t_order, .ref h_t_first, .ref h_t_many, .ref h_t_lower, .ref h_t_upper, .ref h_t_above, .ref h_t_bounds, .ref h_t_met, .int v_t_nodes, .int v_t_deepest])), (h_t_order, .inl (cI, 128, .inl v_t_order)), (h_p1, .inr (5, [.ref h_p1_corners, .ref h_p1_normals, .ref h_p1_tones, .ref h_p1_trial, .ref h_p1_trialNormal, .int v_p1_many])), (h_p1_corners, .inl (cI, 1152, .inl v_p1_corners))] (fun (u : Unit) => [(h_t, .inr (9, [.ref h_t_order, .ref h_t_first, .ref h_t_many, .ref h_t_lower, .ref h_t_upper, .ref h_t_above, .ref h_t_bounds, .ref h_t_met, .int v_t_nodes, .int v_t_deepest])), (h_t_order, .inl (cI, 128, .inl v_t_order)), (h_p1, .inr (5, [.ref h_p1_corners, .ref h_p1_normals, .ref h_p1_tones, .ref h_p1_trial, .ref h_p1_trialNormal, .int v_p1_many])), (h_p1_corners, .inl (cI, 1152, .inl v_p1_corners))]) (fun (r : Int32) (u : Unit) => post r) := by
  refine startI (cc := cX9_spreadAlong) (maxL := 9) (ty9 := .int) (by decide +kernel) rfl (Nat.le_of_ble_eq_true rfl) ?_
  intro p e s m args below meth c Q ls A C0 hP hD hS hl hret
  obtain ⟨hx, hb, hml, hown, hts, hnw, hK, hA, hin⟩ := C0
  have hown : s.vm.findClass RX9 = some m.cls := hown
  have hl : lv_has ls 9 [(0, .ref h_t), (1, .ref h_p1), (2, .int p2), (3, .int p3), (4, .int p4)] := hl
  refine lv_aload_n hx hb dX9_spreadAlong_0 rfl (lv_at hl 1 rfl) ?_
  refine lv_aload_n hx hb dX9_spreadAlong_1 rfl (lv_at hl 0 rfl) ?_
  refine va_get (D := G) (ci := 9) (v := .ref h_t_order) (C := RX9) (T := TX9) (N := 10) hx hb hts (fun w h => List.mem_cons_of_mem _ (inG_9 w h)) hown hK hP 0 rfl rfl 0 (by decide) (hts _ (List.mem_cons_of_mem _ mw_1_113)) (fun _ h9 => h9) rfl dX9_spreadAlong_2 ?_
  refine lv_iload_n hx hb dX9_spreadAlong_5 rfl (lv_at hl 2 rfl) ?_
  obtain ⟨b1, hF⟩ := hF
  refine va_iald hx hb hK hP 1 0 rfl rfl b1 dX9_spreadAlong_6 ?_
  refine lv_iload hx hb dX9_spreadAlong_7 (lv_at hl 4 rfl) ?_
  refine afterI (wr := [(h_t, .inr (9, [.ref h_t_order, .ref h_t_first, .ref h_t_many, .ref h_t_lower, .ref h_t_upper, .ref h_t_above, .ref h_t_bounds, .ref h_t_met, .int v_t_nodes, .int v_t_deepest])), (h_t_order, .inl (cI, 128, .inl v_t_order))]) (va_runV (As := [.int (v_t_order p2.toNatClampNeg), .int p4]) (rest := []) ⟨hx, hb, hml, hown, hts⟩ (c_X5_middle l G cI cL cZ h_p1 h_p1_corners h_p1_normals h_p1_tones h_p1_trial h_p1_trialNormal v_p1_corners v_p1_many (v_t_order p2.toNatClampNeg) p4 _ _ hF) (cwV 2 hts (gV mw_3_24 mw_3_25 mw_3_26 mw_1_3 mw_3_27) rfl rfl rfl (by decide +kernel) ⟨Nat.le_of_ble_eq_true rfl, Nat.le_of_ble_eq_true rfl⟩) ⟨gP_blind, va_recv hK hP (ci := 5) (q0 := 2) rfl rfl, gP_of hK hnw hP hD [2, 3] (by decide +kernel) rfl rfl⟩ rfl rfl hl.1 rfl (lv_room (Nat.le_of_ble_eq_true rfl)) dX9_spreadAlong_9 ⟨Nat.le_of_ble_eq_true rfl, Nat.le_of_ble_eq_true rfl⟩) hP hD hS hA [2, 3] [0, 1] rfl rfl (by decide +kernel) (by decide +kernel) (fun r2 u H locs hF hP hD hS => ?_)
  try dsimp only at hF
  have hP : va_P G vwCl [(h_t, .inr (9, [.ref h_t_order, .ref h_t_first, .ref h_t_many, .ref h_t_lower, .ref h_t_upper, .ref h_t_above, .ref h_t_bounds, .ref h_t_met, .int v_t_nodes, .int v_t_deepest])), (h_t_order, .inl (cI, 128, .inl v_t_order)), (h_p1, .inr (5, [.ref h_p1_corners, .ref h_p1_normals, .ref h_p1_tones, .ref h_p1_trial, .ref h_p1_trialNormal, .int v_p1_many])), (h_p1_corners, .inl (cI, 1152, .inl v_p1_corners))] H := hP
  have hD : va_D A [(h_t, .inr (9, [.ref h_t_order, .ref h_t_first, .ref h_t_many, .ref h_t_lower, .ref h_t_upper, .ref h_t_above, .ref h_t_bounds, .ref h_t_met, .int v_t_nodes, .int v_t_deepest])), (h_t_order, .inl (cI, 128, .inl v_t_order)), (h_p1, .inr (5, [.ref h_p1_corners, .ref h_p1_normals, .ref h_p1_tones, .ref h_p1_trial, .ref h_p1_trialNormal, .int v_p1_many])), (h_p1_corners, .inl (cI, 1152, .inl v_p1_corners))] := hD
  refine lv_istore (lv' := [(5, .int r2), (0, .ref h_t), (1, .ref h_p1), (2, .int p2), (3, .int p3), (4, .int p4)]) hx hb dX9_spreadAlong_12 hl (by decide) rfl (fun ls hl => ?_)
  refine lv_iload hx hb dX9_spreadAlong_14 (lv_at hl 0 rfl) ?_
  refine lv_istore (lv' := [(6, .int r2), (5, .int r2), (0, .ref h_t), (1, .ref h_p1), (2, .int p2), (3, .int p3), (4, .int p4)]) hx hb dX9_spreadAlong_16 hl (by decide) rfl (fun ls hl => ?_)
  refine lv_iload_n hx hb dX9_spreadAlong_18 rfl (lv_at hl 4 rfl) ?_
  refine lv_iconst (v := 1) hx hb dX9_spreadAlong_19 (by decide) ?_
  refine lv_iadd hx hb dX9_spreadAlong_20 ?_
  refine lv_topi (fun x3 ex3 => ?_)
  have hF := hF x3 ex3
  refine lv_istore (lv' := [(7, .int x3), (6, .int r2), (5, .int r2), (0, .ref h_t), (1, .ref h_p1), (2, .int p2), (3, .int p3), (4, .int p4)]) hx hb dX9_spreadAlong_21 hl (by decide) rfl (fun ls hl => ?_)
  have k_23 : ∀ (n_23 : Nat) (l2 : Int32) (l3 : Int32) (l4 : Int32) (l5 : Int32) (l6 : Int32) (l7 : Int32), L_X9_spreadAlong_23 post v_t_order v_p1_corners n_23 l2 l3 l4 l5 l6 l7 → ∀ (H : Heap) (locs : List Loc) (ls : Array Slot), va_P G vwCl [(h_t, .inr (9, [.ref h_t_order, .ref h_t_first, .ref h_t_many, .ref h_t_lower, .ref h_t_upper, .ref h_t_above, .ref h_t_bounds, .ref h_t_met, .int v_t_nodes, .int v_t_deepest])), (h_t_order, .inl (cI, 128, .inl v_t_order)), (h_p1, .inr (5, [.ref h_p1_corners, .ref h_p1_normals, .ref h_p1_tones, .ref h_p1_trial, .ref h_p1_trialNormal, .int v_p1_many])), (h_p1_corners, .inl (cI, 1152, .inl v_p1_corners))] H → va_D A [(h_t, .inr (9, [.ref h_t_order, .ref h_t_first, .ref h_t_many, .ref h_t_lower, .ref h_t_upper, .ref h_t_above, .ref h_t_bounds, .ref h_t_met, .int v_t_nodes, .int v_t_deepest])), (h_t_order, .inl (cI, 128, .inl v_t_order)), (h_p1, .inr (5, [.ref h_p1_corners, .ref h_p1_normals, .ref h_p1_tones, .ref h_p1_trial, .ref h_p1_trialNormal, .int v_p1_many])), (h_p1_corners, .inl (cI, 1152, .inl v_p1_corners))] → va_S A s.heap H locs → lv_has ls 9 [(0, .ref h_t), (1, .ref h_p1), (2, .int l2), (3, .int l3), (4, .int l4), (5, .int l5), (6, .int l6), (7, .int l7)] → W p l e rm_X9_spreadAlong s m args below meth c H locs 0 0 Q (F0 m 23 ls []) := by
    intro n_23
    induction n_23 with
    | zero =>
      intro l2 l3 l4 l5 l6 l7 hF
      exact (show False from hF).elim
    | succ n_23 k_23 =>
      intro l2 l3 l4 l5 l6 l7 hF H locs ls hP hD hS hl
      refine lv_iload hx hb dX9_spreadAlong_23 (lv_at hl 7 rfl) ?_
      refine lv_iload_n hx hb dX9_spreadAlong_25 rfl (lv_at hl 2 rfl) ?_
      refine lv_iload_n hx hb dX9_spreadAlong_26 rfl (lv_at hl 3 rfl) ?_
      refine lv_iadd hx hb dX9_spreadAlong_27 ?_
      refine lv_icmp_ge (tgt := 70) hx hb dX9_spreadAlong_28 (by decide) (fun c4 => ?_) (fun c4 => ?_)
      · have hF := hF.1 c4
        refine lv_iload hx hb dX9_spreadAlong_70 (lv_at hl 6 rfl) ?_
        refine lv_iload hx hb dX9_spreadAlong_72 (lv_at hl 5 rfl) ?_
        refine lv_isub hx hb dX9_spreadAlong_74 ?_
        exact hret 75 ls _ _ (l6 - l5) () dX9_spreadAlong_75 rfl hF hP hD hS
      · have hF := hF.2 c4
        refine lv_aload_n hx hb dX9_spreadAlong_31 rfl (lv_at hl 1 rfl) ?_
        refine lv_aload_n hx hb dX9_spreadAlong_32 rfl (lv_at hl 0 rfl) ?_
        refine va_get (D := G) (ci := 9) (v := .ref h_t_order) (C := RX9) (T := TX9) (N := 10) hx hb hts (fun w h => List.mem_cons_of_mem _ (inG_9 w h)) hown hK hP 0 rfl rfl 0 (by decide) (hts _ (List.mem_cons_of_mem _ mw_1_113)) (fun _ h9 => h9) rfl dX9_spreadAlong_33 ?_
        refine lv_iload hx hb dX9_spreadAlong_36 (lv_at hl 7 rfl) ?_
        obtain ⟨b5, hF⟩ := hF
        refine va_iald hx hb hK hP 1 0 rfl rfl b5 dX9_spreadAlong_38 ?_
        refine lv_iload hx hb dX9_spreadAlong_39 (lv_at hl 4 rfl) ?_
        refine afterI (wr := [(h_t, .inr (9, [.ref h_t_order, .ref h_t_first, .ref h_t_many, .ref h_t_lower, .ref h_t_upper, .ref h_t_above, .ref h_t_bounds, .ref h_t_met, .int v_t_nodes, .int v_t_deepest])), (h_t_order, .inl (cI, 128, .inl v_t_order))]) (va_runV (As := [.int (v_t_order l7.toNatClampNeg), .int l4]) (rest := []) ⟨hx, hb, hml, hown, hts⟩ (c_X5_middle l G cI cL cZ h_p1 h_p1_corners h_p1_normals h_p1_tones h_p1_trial h_p1_trialNormal v_p1_corners v_p1_many (v_t_order l7.toNatClampNeg) l4 _ _ hF) (cwV 2 hts (gV mw_3_24 mw_3_25 mw_3_26 mw_1_3 mw_3_27) rfl rfl rfl (by decide +kernel) ⟨Nat.le_of_ble_eq_true rfl, Nat.le_of_ble_eq_true rfl⟩) ⟨gP_blind, va_recv hK hP (ci := 5) (q0 := 2) rfl rfl, gP_of hK hnw hP hD [2, 3] (by decide +kernel) rfl rfl⟩ rfl rfl hl.1 rfl (lv_room (Nat.le_of_ble_eq_true rfl)) dX9_spreadAlong_41 ⟨Nat.le_of_ble_eq_true rfl, Nat.le_of_ble_eq_true rfl⟩) hP hD hS hA [2, 3] [0, 1] rfl rfl (by decide +kernel) (by decide +kernel) (fun r6 u H locs hF hP hD hS => ?_)
        try dsimp only at hF
        have hP : va_P G vwCl [(h_t, .inr (9, [.ref h_t_order, .ref h_t_first, .ref h_t_many, .ref h_t_lower, .ref h_t_upper, .ref h_t_above, .ref h_t_bounds, .ref h_t_met, .int v_t_nodes, .int v_t_deepest])), (h_t_order, .inl (cI, 128, .inl v_t_order)), (h_p1, .inr (5, [.ref h_p1_corners, .ref h_p1_normals, .ref h_p1_tones, .ref h_p1_trial, .ref h_p1_trialNormal, .int v_p1_many])), (h_p1_corners, .inl (cI, 1152, .inl v_p1_corners))] H := hP
        have hD : va_D A [(h_t, .inr (9, [.ref h_t_order, .ref h_t_first, .ref h_t_many, .ref h_t_lower, .ref h_t_upper, .ref h_t_above, .ref h_t_bounds, .ref h_t_met, .int v_t_nodes, .int v_t_deepest])), (h_t_order, .inl (cI, 128, .inl v_t_order)), (h_p1, .inr (5, [.ref h_p1_corners, .ref h_p1_normals, .ref h_p1_tones, .ref h_p1_trial, .ref h_p1_trialNormal, .int v_p1_many])), (h_p1_corners, .inl (cI, 1152, .inl v_p1_corners))] := hD
        refine lv_istore (lv' := [(8, .int r6), (0, .ref h_t), (1, .ref h_p1), (2, .int l2), (3, .int l3), (4, .int l4), (5, .int l5), (6, .int l6), (7, .int l7)]) hx hb dX9_spreadAlong_44 hl (by decide) rfl (fun ls hl => ?_)
        refine lv_iload hx hb dX9_spreadAlong_46 (lv_at hl 6 rfl) ?_
        refine lv_iload hx hb dX9_spreadAlong_48 (lv_at hl 0 rfl) ?_
        refine va_mmin hx hb (by rw [hml]; exact hl.1.symm) hown (hts _ (List.mem_cons_of_mem _ mw_3_15)) (hts _ (List.mem_cons_of_mem _ mw_3_8)) (hts _ (List.mem_cons_of_mem _ mw_1_15)) (hts _ (List.mem_cons_of_mem _ mw_3_9)) (Nat.le_of_ble_eq_true rfl) (Nat.le_of_ble_eq_true rfl) (Nat.le_of_ble_eq_true rfl) (Nat.le_of_ble_eq_true rfl) dX9_spreadAlong_50 ?_
        refine W.eq (g2 := F0 m 53 ls (.int (jminI l5 r6) :: [])) rfl ?_
        refine lv_topi (fun x7 ex7 => ?_)
        have hF := hF x7 ex7
        refine lv_istore (lv' := [(5, .int x7), (8, .int r6), (0, .ref h_t), (1, .ref h_p1), (2, .int l2), (3, .int l3), (4, .int l4), (6, .int l6), (7, .int l7)]) hx hb dX9_spreadAlong_53 hl (by decide) rfl (fun ls hl => ?_)
        refine lv_iload hx hb dX9_spreadAlong_55 (lv_at hl 7 rfl) ?_
        refine lv_iload hx hb dX9_spreadAlong_57 (lv_at hl 1 rfl) ?_
        refine va_mmax hx hb (by rw [hml]; exact hl.1.symm) hown (hts _ (List.mem_cons_of_mem _ mw_2_232)) (hts _ (List.mem_cons_of_mem _ mw_2_233)) (hts _ (List.mem_cons_of_mem _ mw_1_15)) (hts _ (List.mem_cons_of_mem _ mw_2_234)) (Nat.le_of_ble_eq_true rfl) (Nat.le_of_ble_eq_true rfl) (Nat.le_of_ble_eq_true rfl) (Nat.le_of_ble_eq_true rfl) dX9_spreadAlong_59 ?_
        refine W.eq (g2 := F0 m 62 ls (.int (jmaxI l6 r6) :: [])) rfl ?_
        refine lv_topi (fun x8 ex8 => ?_)
        have hF := hF x8 ex8
        refine lv_istore (lv' := [(6, .int x8), (5, .int x7), (8, .int r6), (0, .ref h_t), (1, .ref h_p1), (2, .int l2), (3, .int l3), (4, .int l4), (7, .int l7)]) hx hb dX9_spreadAlong_62 hl (by decide) rfl (fun ls hl => ?_)
        obtain ⟨x9, ex9⟩ : ∃ z : Int32, z = (l7 + 1) := ⟨_, rfl⟩
        have hF := hF x9 ex9
        refine lv_iinc (v := x9) (lv' := [(7, .int x9), (6, .int x8), (5, .int x7), (8, .int r6), (0, .ref h_t), (1, .ref h_p1), (2, .int l2), (3, .int l3), (4, .int l4)]) hx hb dX9_spreadAlong_64 hl (k := 8) rfl (by rw [ex9]; rfl) (by decide) rfl (fun ls hl => ?_)
        refine lv_goto (tgt := 23) hx hb dX9_spreadAlong_67 (by decide) ?_
        exact k_23 l2 l3 l4 x7 x8 x9 hF _ _ ls hP hD hS (lv_sub hl [4, 5, 6, 7, 8, 2, 1, 0] rfl)
  obtain ⟨n0, hF⟩ := hF
  exact k_23 n0 p2 p3 p4 r2 r2 x3 hF _ _ ls hP hD hS (lv_sub hl [3, 4, 5, 6, 7, 2, 1, 0] rfl)

def rm_X9_widestAxis : Room := { frames := 3, cells := 0, slots := 0, locals := 73 }
def L_X9_widestAxis_9 (post : Int32 → Prop) (v_t_order : Nat → Int32) (v_p1_corners : Nat → Int32) : Nat → Int32 → Int32 → Int32 → Int32 → Int32 → Prop
  | 0, _, _, _, _, _ => False
  | n_9 + 1, l2, l3, l4, l5, l6 => ((3 ≤ l6 → post l4) ∧ (¬ 3 ≤ l6 → (F_X9_spreadAlong l2 l3 l6 v_t_order v_p1_corners (fun r2 => ((r2 ≤ l5 → (∀ x4 : Int32, x4 = (l6 + 1) → L_X9_widestAxis_9 post v_t_order v_p1_corners n_9 l2 l3 l4 l5 x4)) ∧ (¬ r2 ≤ l5 → (∀ x5 : Int32, x5 = (l6 + 1) → L_X9_widestAxis_9 post v_t_order v_p1_corners n_9 l2 l3 l6 r2 x5)))))))
def F_X9_widestAxis (p2 : Int32) (p3 : Int32) (v_t_order : Nat → Int32) (v_p1_corners : Nat → Int32) (post : Int32 → Prop) : Prop := (∃ n0 : Nat, L_X9_widestAxis_9 post v_t_order v_p1_corners n0 p2 p3 0 (-1) 0)
set_option maxHeartbeats 8000000 in
set_option maxRecDepth 100000 in
theorem c_X9_widestAxis (l : Launch) (G : va_G) (cI cL cZ : ClassId) (h_t : Nat) (h_t_order : Nat) (h_t_first : Nat) (h_t_many : Nat) (h_t_lower : Nat) (h_t_upper : Nat) (h_t_above : Nat) (h_t_bounds : Nat) (h_t_met : Nat) (h_p1 : Nat) (h_p1_corners : Nat) (h_p1_normals : Nat) (h_p1_tones : Nat) (h_p1_trial : Nat) (h_p1_trialNormal : Nat) (v_t_order : Nat → Int32) (v_p1_corners : Nat → Int32) (v_t_nodes : Int32) (v_t_deepest : Int32) (v_p1_many : Int32) (p2 : Int32) (p3 : Int32) (sz : Nat) (post : Int32 → Prop) (hF : F_X9_widestAxis p2 p3 v_t_order v_p1_corners post) : MetI l G (gT cI cL cZ) yX9_widestAxis (gW yX9_widestAxis cX9_widestAxis 8 (some .int)) rm_X9_widestAxis 0 0 [.ref h_t, .ref h_p1, .int p2, .int p3] sz [(h_t, .inr (9, [.ref h_t_order, .ref h_t_first, .ref h_t_many, .ref h_t_lower, .ref h_t_upper, .ref h_t_above, .ref h_t_bounds, .ref h_t_met, .int v_t_nodes, .int v_t_deepest])), (h_t_order, .inl (cI, 128, .inl v_t_order)), (h_p1, .inr (5, [.ref h_p1_corners, .ref h_p1_normals, .ref h_p1_tones, .ref h_p1_trial, .ref h_p1_trialNormal, .int v_p1_many])), (h_p1_corners, .inl (cI, 1152, .inl v_p1_corners))] (fun (u : Unit) => [(h_t, .inr (9, [.ref h_t_order, .ref h_t_first, .ref h_t_many, .ref h_t_lower, .ref h_t_upper, .ref h_t_above, .ref h_t_bounds, .ref h_t_met, .int v_t_nodes, .int v_t_deepest])), (h_t_order, .inl (cI, 128, .inl v_t_order)), (h_p1, .inr (5, [.ref h_p1_corners, .ref h_p1_normals, .ref h_p1_tones, .ref h_p1_trial, .ref h_p1_trialNormal, .int v_p1_many])), (h_p1_corners, .inl (cI, 1152, .inl v_p1_corners))]) (fun (r : Int32) (u : Unit) => post r) := by
  refine startI (cc := cX9_widestAxis) (maxL := 8) (ty9 := .int) (by decide +kernel) rfl (Nat.le_of_ble_eq_true rfl) ?_
  intro p e s m args below meth c Q ls A C0 hP hD hS hl hret
  obtain ⟨hx, hb, hml, hown, hts, hnw, hK, hA, hin⟩ := C0
  have hown : s.vm.findClass RX9 = some m.cls := hown
  have hl : lv_has ls 8 [(0, .ref h_t), (1, .ref h_p1), (2, .int p2), (3, .int p3)] := hl
  refine lv_iconst (v := 0) hx hb dX9_widestAxis_0 (by decide) ?_
  refine lv_istore (lv' := [(4, .int 0), (0, .ref h_t), (1, .ref h_p1), (2, .int p2), (3, .int p3)]) hx hb dX9_widestAxis_1 hl (by decide) rfl (fun ls hl => ?_)
  refine lv_iconst (v := (-1)) hx hb dX9_widestAxis_3 (by decide) ?_
  refine lv_istore (lv' := [(5, .int (-1)), (4, .int 0), (0, .ref h_t), (1, .ref h_p1), (2, .int p2), (3, .int p3)]) hx hb dX9_widestAxis_4 hl (by decide) rfl (fun ls hl => ?_)
  refine lv_iconst (v := 0) hx hb dX9_widestAxis_6 (by decide) ?_
  refine lv_istore (lv' := [(6, .int 0), (5, .int (-1)), (4, .int 0), (0, .ref h_t), (1, .ref h_p1), (2, .int p2), (3, .int p3)]) hx hb dX9_widestAxis_7 hl (by decide) rfl (fun ls hl => ?_)
  have k_9 : ∀ (n_9 : Nat) (l2 : Int32) (l3 : Int32) (l4 : Int32) (l5 : Int32) (l6 : Int32), L_X9_widestAxis_9 post v_t_order v_p1_corners n_9 l2 l3 l4 l5 l6 → ∀ (H : Heap) (locs : List Loc) (ls : Array Slot), va_P G vwCl [(h_t, .inr (9, [.ref h_t_order, .ref h_t_first, .ref h_t_many, .ref h_t_lower, .ref h_t_upper, .ref h_t_above, .ref h_t_bounds, .ref h_t_met, .int v_t_nodes, .int v_t_deepest])), (h_t_order, .inl (cI, 128, .inl v_t_order)), (h_p1, .inr (5, [.ref h_p1_corners, .ref h_p1_normals, .ref h_p1_tones, .ref h_p1_trial, .ref h_p1_trialNormal, .int v_p1_many])), (h_p1_corners, .inl (cI, 1152, .inl v_p1_corners))] H → va_D A [(h_t, .inr (9, [.ref h_t_order, .ref h_t_first, .ref h_t_many, .ref h_t_lower, .ref h_t_upper, .ref h_t_above, .ref h_t_bounds, .ref h_t_met, .int v_t_nodes, .int v_t_deepest])), (h_t_order, .inl (cI, 128, .inl v_t_order)), (h_p1, .inr (5, [.ref h_p1_corners, .ref h_p1_normals, .ref h_p1_tones, .ref h_p1_trial, .ref h_p1_trialNormal, .int v_p1_many])), (h_p1_corners, .inl (cI, 1152, .inl v_p1_corners))] → va_S A s.heap H locs → lv_has ls 8 [(0, .ref h_t), (1, .ref h_p1), (2, .int l2), (3, .int l3), (4, .int l4), (5, .int l5), (6, .int l6)] → W p l e rm_X9_widestAxis s m args below meth c H locs 0 0 Q (F0 m 9 ls []) := by
    intro n_9
    induction n_9 with
    | zero =>
      intro l2 l3 l4 l5 l6 hF
      exact (show False from hF).elim
    | succ n_9 k_9 =>
      intro l2 l3 l4 l5 l6 hF H locs ls hP hD hS hl
      refine lv_iload hx hb dX9_widestAxis_9 (lv_at hl 6 rfl) ?_
      refine lv_iconst (v := 3) hx hb dX9_widestAxis_11 (by decide) ?_
      refine lv_icmp_ge (tgt := 47) hx hb dX9_widestAxis_12 (by decide) (fun c1 => ?_) (fun c1 => ?_)
      · have hF := hF.1 c1
        refine lv_iload hx hb dX9_widestAxis_47 (lv_at hl 4 rfl) ?_
        exact hret 49 ls _ _ l4 () dX9_widestAxis_49 rfl hF hP hD hS
      · have hF := hF.2 c1
        refine lv_aload_n hx hb dX9_widestAxis_15 rfl (lv_at hl 0 rfl) ?_
        refine lv_aload_n hx hb dX9_widestAxis_16 rfl (lv_at hl 1 rfl) ?_
        refine lv_iload_n hx hb dX9_widestAxis_17 rfl (lv_at hl 2 rfl) ?_
        refine lv_iload_n hx hb dX9_widestAxis_18 rfl (lv_at hl 3 rfl) ?_
        refine lv_iload hx hb dX9_widestAxis_19 (lv_at hl 6 rfl) ?_
        refine afterI (wr := []) (va_runV (As := [.ref h_p1, .int l2, .int l3, .int l6]) (rest := []) ⟨hx, hb, hml, hown, hts⟩ (c_X9_spreadAlong l G cI cL cZ h_t h_t_order h_t_first h_t_many h_t_lower h_t_upper h_t_above h_t_bounds h_t_met h_p1 h_p1_corners h_p1_normals h_p1_tones h_p1_trial h_p1_trialNormal v_t_order v_p1_corners v_t_nodes v_t_deepest v_p1_many l2 l3 l6 _ _ hF) (cwV 4 hts (gV mw_3_20 mw_3_22 mws_6 mw_1_6 mw_3_23) rfl rfl rfl (by decide +kernel) ⟨Nat.le_of_ble_eq_true rfl, Nat.le_of_ble_eq_true rfl⟩) ⟨gP_blind, va_recv hK hP (ci := 9) (q0 := 0) rfl rfl, gP_of hK hnw hP hD [0, 1, 2, 3] (by decide +kernel) rfl rfl⟩ rfl rfl hl.1 rfl (lv_room (Nat.le_of_ble_eq_true rfl)) dX9_widestAxis_21 ⟨Nat.le_of_ble_eq_true rfl, Nat.le_of_ble_eq_true rfl⟩) hP hD hS hA [0, 1, 2, 3] [] rfl rfl (by decide +kernel) (by decide +kernel) (fun r2 u H locs hF hP hD hS => ?_)
        try dsimp only at hF
        have hP : va_P G vwCl [(h_t, .inr (9, [.ref h_t_order, .ref h_t_first, .ref h_t_many, .ref h_t_lower, .ref h_t_upper, .ref h_t_above, .ref h_t_bounds, .ref h_t_met, .int v_t_nodes, .int v_t_deepest])), (h_t_order, .inl (cI, 128, .inl v_t_order)), (h_p1, .inr (5, [.ref h_p1_corners, .ref h_p1_normals, .ref h_p1_tones, .ref h_p1_trial, .ref h_p1_trialNormal, .int v_p1_many])), (h_p1_corners, .inl (cI, 1152, .inl v_p1_corners))] H := hP
        have hD : va_D A [(h_t, .inr (9, [.ref h_t_order, .ref h_t_first, .ref h_t_many, .ref h_t_lower, .ref h_t_upper, .ref h_t_above, .ref h_t_bounds, .ref h_t_met, .int v_t_nodes, .int v_t_deepest])), (h_t_order, .inl (cI, 128, .inl v_t_order)), (h_p1, .inr (5, [.ref h_p1_corners, .ref h_p1_normals, .ref h_p1_tones, .ref h_p1_trial, .ref h_p1_trialNormal, .int v_p1_many])), (h_p1_corners, .inl (cI, 1152, .inl v_p1_corners))] := hD
        refine lv_istore (lv' := [(7, .int r2), (0, .ref h_t), (1, .ref h_p1), (2, .int l2), (3, .int l3), (4, .int l4), (5, .int l5), (6, .int l6)]) hx hb dX9_widestAxis_24 hl (by decide) rfl (fun ls hl => ?_)
        refine lv_iload hx hb dX9_widestAxis_26 (lv_at hl 0 rfl) ?_
        refine lv_iload hx hb dX9_widestAxis_28 (lv_at hl 6 rfl) ?_
        refine lv_icmp_le (tgt := 41) hx hb dX9_widestAxis_30 (by decide) (fun c3 => ?_) (fun c3 => ?_)
        · have hF := hF.1 c3
          obtain ⟨x4, ex4⟩ : ∃ z : Int32, z = (l6 + 1) := ⟨_, rfl⟩
          have hF := hF x4 ex4
          refine lv_iinc (v := x4) (lv' := [(6, .int x4), (7, .int r2), (0, .ref h_t), (1, .ref h_p1), (2, .int l2), (3, .int l3), (4, .int l4), (5, .int l5)]) hx hb dX9_widestAxis_41 hl (k := 7) rfl (by rw [ex4]; rfl) (by decide) rfl (fun ls hl => ?_)
          refine lv_goto (tgt := 9) hx hb dX9_widestAxis_44 (by decide) ?_
          exact k_9 l2 l3 l4 l5 x4 hF _ _ ls hP hD hS (lv_sub hl [2, 3, 4, 5, 6, 7, 0] rfl)
        · have hF := hF.2 c3
          refine lv_iload hx hb dX9_widestAxis_33 (lv_at hl 0 rfl) ?_
          refine lv_istore (lv' := [(5, .int r2), (7, .int r2), (0, .ref h_t), (1, .ref h_p1), (2, .int l2), (3, .int l3), (4, .int l4), (6, .int l6)]) hx hb dX9_widestAxis_35 hl (by decide) rfl (fun ls hl => ?_)
          refine lv_iload hx hb dX9_widestAxis_37 (lv_at hl 7 rfl) ?_
          refine lv_istore (lv' := [(4, .int l6), (5, .int r2), (7, .int r2), (0, .ref h_t), (1, .ref h_p1), (2, .int l2), (3, .int l3), (6, .int l6)]) hx hb dX9_widestAxis_39 hl (by decide) rfl (fun ls hl => ?_)
          obtain ⟨x5, ex5⟩ : ∃ z : Int32, z = (l6 + 1) := ⟨_, rfl⟩
          have hF := hF x5 ex5
          refine lv_iinc (v := x5) (lv' := [(6, .int x5), (4, .int l6), (5, .int r2), (7, .int r2), (0, .ref h_t), (1, .ref h_p1), (2, .int l2), (3, .int l3)]) hx hb dX9_widestAxis_41 hl (k := 7) rfl (by rw [ex5]; rfl) (by decide) rfl (fun ls hl => ?_)
          refine lv_goto (tgt := 9) hx hb dX9_widestAxis_44 (by decide) ?_
          exact k_9 l2 l3 l6 r2 x5 hF _ _ ls hP hD hS (lv_sub hl [4, 5, 6, 7, 1, 2, 0] rfl)
  obtain ⟨n0, hF⟩ := hF
  exact k_9 n0 p2 p3 0 (-1) 0 hF _ _ ls hP hD hS (lv_sub hl [3, 4, 5, 6, 2, 1, 0] rfl)

def rm_X9_comesBefore : Room := { frames := 2, cells := 0, slots := 0, locals := 45 }
def F_X9_comesBefore (p1 : Int32) (p2 : Int32) (p3 : Int32) (v_p0_corners : Nat → Int32) (post : Int32 → Prop) : Prop := (F_X5_middle p1 p3 v_p0_corners (fun r1 => (F_X5_middle p2 p3 v_p0_corners (fun r2 => (∀ x3 : Int32, x3 = (r1 - r2) → ((x3 < 0 → post 1) ∧ (¬ x3 < 0 → ((¬ x3 = 0 → post 0) ∧ (x3 = 0 → ((p2 ≤ p1 → post 0) ∧ (¬ p2 ≤ p1 → post 1)))))))))))
set_option maxHeartbeats 8000000 in
set_option maxRecDepth 100000 in
theorem c_X9_comesBefore (l : Launch) (G : va_G) (cI cL cZ : ClassId) (h_p0 : Nat) (h_p0_corners : Nat) (h_p0_normals : Nat) (h_p0_tones : Nat) (h_p0_trial : Nat) (h_p0_trialNormal : Nat) (v_p0_corners : Nat → Int32) (v_p0_many : Int32) (p1 : Int32) (p2 : Int32) (p3 : Int32) (sz : Nat) (post : Int32 → Prop) (hF : F_X9_comesBefore p1 p2 p3 v_p0_corners post) : MetI l G (gT cI cL cZ) yX9_comesBefore (gW yX9_comesBefore cX9_comesBefore 5 (some .boolean)) rm_X9_comesBefore 0 0 [.ref h_p0, .int p1, .int p2, .int p3] sz [(h_p0, .inr (5, [.ref h_p0_corners, .ref h_p0_normals, .ref h_p0_tones, .ref h_p0_trial, .ref h_p0_trialNormal, .int v_p0_many])), (h_p0_corners, .inl (cI, 1152, .inl v_p0_corners))] (fun (u : Unit) => [(h_p0, .inr (5, [.ref h_p0_corners, .ref h_p0_normals, .ref h_p0_tones, .ref h_p0_trial, .ref h_p0_trialNormal, .int v_p0_many])), (h_p0_corners, .inl (cI, 1152, .inl v_p0_corners))]) (fun (r : Int32) (u : Unit) => post r) := by
  refine startI (cc := cX9_comesBefore) (maxL := 5) (ty9 := .boolean) (by decide +kernel) rfl (Nat.le_of_ble_eq_true rfl) ?_
  intro p e s m args below meth c Q ls A C0 hP hD hS hl hret
  obtain ⟨hx, hb, hml, hown, hts, hnw, hK, hA, hin⟩ := C0
  have hown : s.vm.findClass RX9 = some m.cls := hown
  have hl : lv_has ls 5 [(0, .ref h_p0), (1, .int p1), (2, .int p2), (3, .int p3)] := hl
  refine lv_aload_n hx hb dX9_comesBefore_0 rfl (lv_at hl 0 rfl) ?_
  refine lv_iload_n hx hb dX9_comesBefore_1 rfl (lv_at hl 1 rfl) ?_
  refine lv_iload_n hx hb dX9_comesBefore_2 rfl (lv_at hl 3 rfl) ?_
  refine afterI (wr := []) (va_runV (As := [.int p1, .int p3]) (rest := []) ⟨hx, hb, hml, hown, hts⟩ (c_X5_middle l G cI cL cZ h_p0 h_p0_corners h_p0_normals h_p0_tones h_p0_trial h_p0_trialNormal v_p0_corners v_p0_many p1 p3 _ _ hF) (cwV 2 hts (gV mw_3_24 mw_3_25 mw_3_26 mw_1_3 mw_3_27) rfl rfl rfl (by decide +kernel) ⟨Nat.le_of_ble_eq_true rfl, Nat.le_of_ble_eq_true rfl⟩) ⟨gP_blind, va_recv hK hP (ci := 5) (q0 := 0) rfl rfl, gP_of hK hnw hP hD [0, 1] (by decide +kernel) rfl rfl⟩ rfl rfl hl.1 rfl (lv_room (Nat.le_of_ble_eq_true rfl)) dX9_comesBefore_3 ⟨Nat.le_of_ble_eq_true rfl, Nat.le_of_ble_eq_true rfl⟩) hP hD hS hA [0, 1] [] rfl rfl (by decide +kernel) (by decide +kernel) (fun r1 u H locs hF hP hD hS => ?_)
  try dsimp only at hF
  have hP : va_P G vwCl [(h_p0, .inr (5, [.ref h_p0_corners, .ref h_p0_normals, .ref h_p0_tones, .ref h_p0_trial, .ref h_p0_trialNormal, .int v_p0_many])), (h_p0_corners, .inl (cI, 1152, .inl v_p0_corners))] H := hP
  have hD : va_D A [(h_p0, .inr (5, [.ref h_p0_corners, .ref h_p0_normals, .ref h_p0_tones, .ref h_p0_trial, .ref h_p0_trialNormal, .int v_p0_many])), (h_p0_corners, .inl (cI, 1152, .inl v_p0_corners))] := hD
  refine lv_aload_n hx hb dX9_comesBefore_6 rfl (lv_at hl 0 rfl) ?_
  refine lv_iload_n hx hb dX9_comesBefore_7 rfl (lv_at hl 2 rfl) ?_
  refine lv_iload_n hx hb dX9_comesBefore_8 rfl (lv_at hl 3 rfl) ?_
  refine afterI (wr := []) (va_runV (As := [.int p2, .int p3]) (rest := [.int r1]) ⟨hx, hb, hml, hown, hts⟩ (c_X5_middle l G cI cL cZ h_p0 h_p0_corners h_p0_normals h_p0_tones h_p0_trial h_p0_trialNormal v_p0_corners v_p0_many p2 p3 _ _ hF) (cwV 2 hts (gV mw_3_24 mw_3_25 mw_3_26 mw_1_3 mw_3_27) rfl rfl rfl (by decide +kernel) ⟨Nat.le_of_ble_eq_true rfl, Nat.le_of_ble_eq_true rfl⟩) ⟨gP_blind, va_recv hK hP (ci := 5) (q0 := 0) rfl rfl, gP_of hK hnw hP hD [0, 1] (by decide +kernel) rfl rfl⟩ rfl rfl hl.1 rfl (lv_room (Nat.le_of_ble_eq_true rfl)) dX9_comesBefore_9 ⟨Nat.le_of_ble_eq_true rfl, Nat.le_of_ble_eq_true rfl⟩) hP hD hS hA [0, 1] [] rfl rfl (by decide +kernel) (by decide +kernel) (fun r2 u H locs hF hP hD hS => ?_)
  try dsimp only at hF
  have hP : va_P G vwCl [(h_p0, .inr (5, [.ref h_p0_corners, .ref h_p0_normals, .ref h_p0_tones, .ref h_p0_trial, .ref h_p0_trialNormal, .int v_p0_many])), (h_p0_corners, .inl (cI, 1152, .inl v_p0_corners))] H := hP
  have hD : va_D A [(h_p0, .inr (5, [.ref h_p0_corners, .ref h_p0_normals, .ref h_p0_tones, .ref h_p0_trial, .ref h_p0_trialNormal, .int v_p0_many])), (h_p0_corners, .inl (cI, 1152, .inl v_p0_corners))] := hD
  refine lv_isub hx hb dX9_comesBefore_12 ?_
  refine lv_topi (fun x3 ex3 => ?_)
  have hF := hF x3 ex3
  refine lv_istore (lv' := [(4, .int x3), (0, .ref h_p0), (1, .int p1), (2, .int p2), (3, .int p3)]) hx hb dX9_comesBefore_13 hl (by decide) rfl (fun ls hl => ?_)
  refine lv_iload hx hb dX9_comesBefore_15 (lv_at hl 0 rfl) ?_
  refine lv_if_lt (tgt := 30) hx hb dX9_comesBefore_17 (by decide) (fun c4 => ?_) (fun c4 => ?_)
  · have hF := hF.1 c4
    refine lv_iconst (v := 1) hx hb dX9_comesBefore_30 (by decide) ?_
    refine lv_goto (tgt := 35) hx hb dX9_comesBefore_31 (by decide) ?_
    exact hret 35 ls _ _ 1 () dX9_comesBefore_35 (by decide) hF hP hD hS
  · have hF := hF.2 c4
    refine lv_iload hx hb dX9_comesBefore_20 (lv_at hl 0 rfl) ?_
    refine lv_if_ne (tgt := 34) hx hb dX9_comesBefore_22 (by decide) (fun c5 => ?_) (fun c5 => ?_)
    · have hF := hF.1 c5
      refine lv_iconst (v := 0) hx hb dX9_comesBefore_34 (by decide) ?_
      exact hret 35 ls _ _ 0 () dX9_comesBefore_35 (by decide) hF hP hD hS
    · have hF := hF.2 c5
      refine lv_iload_n hx hb dX9_comesBefore_25 rfl (lv_at hl 2 rfl) ?_
      refine lv_iload_n hx hb dX9_comesBefore_26 rfl (lv_at hl 3 rfl) ?_
      refine lv_icmp_ge (tgt := 34) hx hb dX9_comesBefore_27 (by decide) (fun c6 => ?_) (fun c6 => ?_)
      · have hF := hF.1 c6
        refine lv_iconst (v := 0) hx hb dX9_comesBefore_34 (by decide) ?_
        exact hret 35 ls _ _ 0 () dX9_comesBefore_35 (by decide) hF hP hD hS
      · have hF := hF.2 c6
        refine lv_iconst (v := 1) hx hb dX9_comesBefore_30 (by decide) ?_
        refine lv_goto (tgt := 35) hx hb dX9_comesBefore_31 (by decide) ?_
        exact hret 35 ls _ _ 1 () dX9_comesBefore_35 (by decide) hF hP hD hS

def rm_X9_sortAlong : Room := { frames := 3, cells := 0, slots := 0, locals := 69 }
def J_X9_sortAlong_74 (k_5 : Int32 → Int32 → Int32 → Int32 → (Nat → Int32) → Prop) (v_p1_corners : Nat → Int32) (l2 : Int32) (l3 : Int32) (l4 : Int32) (l5 : Int32) (l6 : Int32) (l7 : Int32) (v_t_order : Nat → Int32) : Prop := (vp_in l7 128 ∧ (∀ g6 : Nat → Int32, g6 = upd v_t_order (l7.toNatClampNeg) l6 → (∀ x7 : Int32, x7 = (l5 + 1) → k_5 l2 l3 l4 x7 g6)))
def L_X9_sortAlong_26 (k_5 : Int32 → Int32 → Int32 → Int32 → (Nat → Int32) → Prop) (v_p1_corners : Nat → Int32) : Nat → Int32 → Int32 → Int32 → Int32 → Int32 → Int32 → (Nat → Int32) → Prop
  | 0, _, _, _, _, _, _, _ => False
  | n_26 + 1, l2, l3, l4, l5, l6, l7, v_t_order => ((l7 ≤ l2 → J_X9_sortAlong_74 k_5 v_p1_corners l2 l3 l4 l5 l6 l7 v_t_order) ∧ (¬ l7 ≤ l2 → (vp_in (l7 - 1) 128 ∧ (F_X9_comesBefore l6 (v_t_order (l7 - 1).toNatClampNeg) l4 v_p1_corners (fun r10 => ((r10 = 0 → J_X9_sortAlong_74 k_5 v_p1_corners l2 l3 l4 l5 l6 l7 v_t_order) ∧ (¬ r10 = 0 → (vp_in (l7 - 1) 128 ∧ (vp_in l7 128 ∧ (∀ g14 : Nat → Int32, g14 = upd v_t_order (l7.toNatClampNeg) (v_t_order (l7 - 1).toNatClampNeg) → (∀ x15 : Int32, x15 = (l7 + (-1)) → L_X9_sortAlong_26 k_5 v_p1_corners n_26 l2 l3 l4 l5 l6 x15 g14)))))))))))
def L_X9_sortAlong_5 (post : (Nat → Int32) → Prop) (v_p1_corners : Nat → Int32) : Nat → Int32 → Int32 → Int32 → Int32 → (Nat → Int32) → Prop
  | 0, _, _, _, _, _ => False
  | n_5 + 1, l2, l3, l4, l5, v_t_order => (((l2 + l3) ≤ l5 → post v_t_order) ∧ (¬ (l2 + l3) ≤ l5 → (vp_in l5 128 ∧ (∀ x4 : Int32, x4 = (v_t_order l5.toNatClampNeg) → (∃ n0 : Nat, L_X9_sortAlong_26 (L_X9_sortAlong_5 post v_p1_corners n_5) v_p1_corners n0 l2 l3 l4 l5 x4 l5 v_t_order)))))
def F_X9_sortAlong (p2 : Int32) (p3 : Int32) (p4 : Int32) (v_t_order : Nat → Int32) (v_p1_corners : Nat → Int32) (post : (Nat → Int32) → Prop) : Prop := (∀ x1 : Int32, x1 = (p2 + 1) → (∃ n0 : Nat, L_X9_sortAlong_5 post v_p1_corners n0 p2 p3 p4 x1 v_t_order))
set_option maxHeartbeats 8000000 in
set_option maxRecDepth 100000 in
theorem c_X9_sortAlong (l : Launch) (G : va_G) (cI cL cZ : ClassId) (h_t : Nat) (h_t_order : Nat) (h_t_first : Nat) (h_t_many : Nat) (h_t_lower : Nat) (h_t_upper : Nat) (h_t_above : Nat) (h_t_bounds : Nat) (h_t_met : Nat) (h_p1 : Nat) (h_p1_corners : Nat) (h_p1_normals : Nat) (h_p1_tones : Nat) (h_p1_trial : Nat) (h_p1_trialNormal : Nat) (v_t_order : Nat → Int32) (v_p1_corners : Nat → Int32) (v_t_nodes : Int32) (v_t_deepest : Int32) (v_p1_many : Int32) (p2 : Int32) (p3 : Int32) (p4 : Int32) (sz : Nat) (post : (Nat → Int32) → Prop) (hF : F_X9_sortAlong p2 p3 p4 v_t_order v_p1_corners post) : MetV l G (gT cI cL cZ) yX9_sortAlong (gW yX9_sortAlong cX9_sortAlong 8 none) rm_X9_sortAlong 0 0 [.ref h_t, .ref h_p1, .int p2, .int p3, .int p4] sz [(h_t, .inr (9, [.ref h_t_order, .ref h_t_first, .ref h_t_many, .ref h_t_lower, .ref h_t_upper, .ref h_t_above, .ref h_t_bounds, .ref h_t_met, .int v_t_nodes, .int v_t_deepest])), (h_t_order, .inl (cI, 128, .inl v_t_order)), (h_p1, .inr (5, [.ref h_p1_corners, .ref h_p1_normals, .ref h_p1_tones, .ref h_p1_trial, .ref h_p1_trialNormal, .int v_p1_many])), (h_p1_corners, .inl (cI, 1152, .inl v_p1_corners))] (fun (u : (Nat → Int32)) => [(h_t, .inr (9, [.ref h_t_order, .ref h_t_first, .ref h_t_many, .ref h_t_lower, .ref h_t_upper, .ref h_t_above, .ref h_t_bounds, .ref h_t_met, .int v_t_nodes, .int v_t_deepest])), (h_t_order, .inl (cI, 128, .inl u)), (h_p1, .inr (5, [.ref h_p1_corners, .ref h_p1_normals, .ref h_p1_tones, .ref h_p1_trial, .ref h_p1_trialNormal, .int v_p1_many])), (h_p1_corners, .inl (cI, 1152, .inl v_p1_corners))]) (fun (u : (Nat → Int32)) => post u) := by
  refine startV (cc := cX9_sortAlong) (maxL := 8) (by decide +kernel) rfl (Nat.le_of_ble_eq_true rfl) ?_
  intro p e s m args below meth c Q ls A C0 hP hD hS hl hret
  obtain ⟨hx, hb, hml, hown, hts, hnw, hK, hA, hin⟩ := C0
  have hown : s.vm.findClass RX9 = some m.cls := hown
  have hl : lv_has ls 8 [(0, .ref h_t), (1, .ref h_p1), (2, .int p2), (3, .int p3), (4, .int p4)] := hl
  refine lv_iload_n hx hb dX9_sortAlong_0 rfl (lv_at hl 2 rfl) ?_
  refine lv_iconst (v := 1) hx hb dX9_sortAlong_1 (by decide) ?_
  refine lv_iadd hx hb dX9_sortAlong_2 ?_
  refine lv_topi (fun x1 ex1 => ?_)
  have hF := hF x1 ex1
  refine lv_istore (lv' := [(5, .int x1), (0, .ref h_t), (1, .ref h_p1), (2, .int p2), (3, .int p3), (4, .int p4)]) hx hb dX9_sortAlong_3 hl (by decide) rfl (fun ls hl => ?_)
  have k_5 : ∀ (n_5 : Nat) (l2 : Int32) (l3 : Int32) (l4 : Int32) (l5 : Int32) (v_t_order : Nat → Int32), L_X9_sortAlong_5 post v_p1_corners n_5 l2 l3 l4 l5 v_t_order → ∀ (H : Heap) (locs : List Loc) (ls : Array Slot), va_P G vwCl [(h_t, .inr (9, [.ref h_t_order, .ref h_t_first, .ref h_t_many, .ref h_t_lower, .ref h_t_upper, .ref h_t_above, .ref h_t_bounds, .ref h_t_met, .int v_t_nodes, .int v_t_deepest])), (h_t_order, .inl (cI, 128, .inl v_t_order)), (h_p1, .inr (5, [.ref h_p1_corners, .ref h_p1_normals, .ref h_p1_tones, .ref h_p1_trial, .ref h_p1_trialNormal, .int v_p1_many])), (h_p1_corners, .inl (cI, 1152, .inl v_p1_corners))] H → va_D A [(h_t, .inr (9, [.ref h_t_order, .ref h_t_first, .ref h_t_many, .ref h_t_lower, .ref h_t_upper, .ref h_t_above, .ref h_t_bounds, .ref h_t_met, .int v_t_nodes, .int v_t_deepest])), (h_t_order, .inl (cI, 128, .inl v_t_order)), (h_p1, .inr (5, [.ref h_p1_corners, .ref h_p1_normals, .ref h_p1_tones, .ref h_p1_trial, .ref h_p1_trialNormal, .int v_p1_many])), (h_p1_corners, .inl (cI, 1152, .inl v_p1_corners))] → va_S A s.heap H locs → lv_has ls 8 [(0, .ref h_t), (1, .ref h_p1), (2, .int l2), (3, .int l3), (4, .int l4), (5, .int l5)] → W p l e rm_X9_sortAlong s m args below meth c H locs 0 0 Q (F0 m 5 ls []) := by
    intro n_5
    induction n_5 with
    | zero =>
      intro l2 l3 l4 l5 v_t_order hF
      exact (show False from hF).elim
    | succ n_5 k_5 =>
      intro l2 l3 l4 l5 v_t_order hF H locs ls hP hD hS hl
      refine lv_iload hx hb dX9_sortAlong_5 (lv_at hl 5 rfl) ?_
      refine lv_iload_n hx hb dX9_sortAlong_7 rfl (lv_at hl 2 rfl) ?_
      refine lv_iload_n hx hb dX9_sortAlong_8 rfl (lv_at hl 3 rfl) ?_
      refine lv_iadd hx hb dX9_sortAlong_9 ?_
      refine lv_icmp_ge (tgt := 89) hx hb dX9_sortAlong_10 (by decide) (fun c2 => ?_) (fun c2 => ?_)
      · have hF := hF.1 c2
        exact hret 89 ls _ _ v_t_order dX9_sortAlong_89  hF hP hD hS
      · have hF := hF.2 c2
        refine lv_aload_n hx hb dX9_sortAlong_13 rfl (lv_at hl 0 rfl) ?_
        refine va_get (D := G) (ci := 9) (v := .ref h_t_order) (C := RX9) (T := TX9) (N := 10) hx hb hts (fun w h => List.mem_cons_of_mem _ (inG_9 w h)) hown hK hP 0 rfl rfl 0 (by decide) (hts _ (List.mem_cons_of_mem _ mw_1_113)) (fun _ h9 => h9) rfl dX9_sortAlong_14 ?_
        refine lv_iload hx hb dX9_sortAlong_17 (lv_at hl 5 rfl) ?_
        obtain ⟨b3, hF⟩ := hF
        refine va_iald hx hb hK hP 1 0 rfl rfl b3 dX9_sortAlong_19 ?_
        refine lv_topi (fun x4 ex4 => ?_)
        have hF := hF x4 ex4
        refine lv_istore (lv' := [(6, .int x4), (0, .ref h_t), (1, .ref h_p1), (2, .int l2), (3, .int l3), (4, .int l4), (5, .int l5)]) hx hb dX9_sortAlong_20 hl (by decide) rfl (fun ls hl => ?_)
        refine lv_iload hx hb dX9_sortAlong_22 (lv_at hl 6 rfl) ?_
        refine lv_istore (lv' := [(7, .int l5), (6, .int x4), (0, .ref h_t), (1, .ref h_p1), (2, .int l2), (3, .int l3), (4, .int l4), (5, .int l5)]) hx hb dX9_sortAlong_24 hl (by decide) rfl (fun ls hl => ?_)
        have k_26 : ∀ (n_26 : Nat) (l2 : Int32) (l3 : Int32) (l4 : Int32) (l5 : Int32) (l6 : Int32) (l7 : Int32) (v_t_order : Nat → Int32), L_X9_sortAlong_26 (L_X9_sortAlong_5 post v_p1_corners n_5) v_p1_corners n_26 l2 l3 l4 l5 l6 l7 v_t_order → ∀ (H : Heap) (locs : List Loc) (ls : Array Slot), va_P G vwCl [(h_t, .inr (9, [.ref h_t_order, .ref h_t_first, .ref h_t_many, .ref h_t_lower, .ref h_t_upper, .ref h_t_above, .ref h_t_bounds, .ref h_t_met, .int v_t_nodes, .int v_t_deepest])), (h_t_order, .inl (cI, 128, .inl v_t_order)), (h_p1, .inr (5, [.ref h_p1_corners, .ref h_p1_normals, .ref h_p1_tones, .ref h_p1_trial, .ref h_p1_trialNormal, .int v_p1_many])), (h_p1_corners, .inl (cI, 1152, .inl v_p1_corners))] H → va_D A [(h_t, .inr (9, [.ref h_t_order, .ref h_t_first, .ref h_t_many, .ref h_t_lower, .ref h_t_upper, .ref h_t_above, .ref h_t_bounds, .ref h_t_met, .int v_t_nodes, .int v_t_deepest])), (h_t_order, .inl (cI, 128, .inl v_t_order)), (h_p1, .inr (5, [.ref h_p1_corners, .ref h_p1_normals, .ref h_p1_tones, .ref h_p1_trial, .ref h_p1_trialNormal, .int v_p1_many])), (h_p1_corners, .inl (cI, 1152, .inl v_p1_corners))] → va_S A s.heap H locs → lv_has ls 8 [(0, .ref h_t), (1, .ref h_p1), (2, .int l2), (3, .int l3), (4, .int l4), (5, .int l5), (6, .int l6), (7, .int l7)] → W p l e rm_X9_sortAlong s m args below meth c H locs 0 0 Q (F0 m 26 ls []) := by
          intro n_26
          induction n_26 with
          | zero =>
            intro l2 l3 l4 l5 l6 l7 v_t_order hF
            exact (show False from hF).elim
          | succ n_26 k_26 =>
            intro l2 l3 l4 l5 l6 l7 v_t_order hF H locs ls hP hD hS hl
            refine lv_iload hx hb dX9_sortAlong_26 (lv_at hl 7 rfl) ?_
            refine lv_iload_n hx hb dX9_sortAlong_28 rfl (lv_at hl 2 rfl) ?_
            have k_74 : ∀ (l2 : Int32) (l3 : Int32) (l4 : Int32) (l5 : Int32) (l6 : Int32) (l7 : Int32) (v_t_order : Nat → Int32), J_X9_sortAlong_74 (L_X9_sortAlong_5 post v_p1_corners n_5) v_p1_corners l2 l3 l4 l5 l6 l7 v_t_order → ∀ (H : Heap) (locs : List Loc) (ls : Array Slot), va_P G vwCl [(h_t, .inr (9, [.ref h_t_order, .ref h_t_first, .ref h_t_many, .ref h_t_lower, .ref h_t_upper, .ref h_t_above, .ref h_t_bounds, .ref h_t_met, .int v_t_nodes, .int v_t_deepest])), (h_t_order, .inl (cI, 128, .inl v_t_order)), (h_p1, .inr (5, [.ref h_p1_corners, .ref h_p1_normals, .ref h_p1_tones, .ref h_p1_trial, .ref h_p1_trialNormal, .int v_p1_many])), (h_p1_corners, .inl (cI, 1152, .inl v_p1_corners))] H → va_D A [(h_t, .inr (9, [.ref h_t_order, .ref h_t_first, .ref h_t_many, .ref h_t_lower, .ref h_t_upper, .ref h_t_above, .ref h_t_bounds, .ref h_t_met, .int v_t_nodes, .int v_t_deepest])), (h_t_order, .inl (cI, 128, .inl v_t_order)), (h_p1, .inr (5, [.ref h_p1_corners, .ref h_p1_normals, .ref h_p1_tones, .ref h_p1_trial, .ref h_p1_trialNormal, .int v_p1_many])), (h_p1_corners, .inl (cI, 1152, .inl v_p1_corners))] → va_S A s.heap H locs → lv_has ls 8 [(0, .ref h_t), (1, .ref h_p1), (2, .int l2), (3, .int l3), (4, .int l4), (5, .int l5), (6, .int l6), (7, .int l7)] → W p l e rm_X9_sortAlong s m args below meth c H locs 0 0 Q (F0 m 74 ls []) := by
              intro l2 l3 l4 l5 l6 l7 v_t_order hF H locs ls hP hD hS hl
              refine lv_aload_n hx hb dX9_sortAlong_74 rfl (lv_at hl 0 rfl) ?_
              refine va_get (D := G) (ci := 9) (v := .ref h_t_order) (C := RX9) (T := TX9) (N := 10) hx hb hts (fun w h => List.mem_cons_of_mem _ (inG_9 w h)) hown hK hP 0 rfl rfl 0 (by decide) (hts _ (List.mem_cons_of_mem _ mw_1_113)) (fun _ h9 => h9) rfl dX9_sortAlong_75 ?_
              refine lv_iload hx hb dX9_sortAlong_78 (lv_at hl 7 rfl) ?_
              refine lv_iload hx hb dX9_sortAlong_80 (lv_at hl 6 rfl) ?_
              obtain ⟨b5, hF⟩ := hF
              refine g_iast (t0 := 0) hx hb hK hP hD hS 1 rfl rfl b5 dX9_sortAlong_82 (fun g6 H locs eg6 hP hD hS => ?_)
              have hF := hF g6 eg6
              have hP : va_P G vwCl [(h_t, .inr (9, [.ref h_t_order, .ref h_t_first, .ref h_t_many, .ref h_t_lower, .ref h_t_upper, .ref h_t_above, .ref h_t_bounds, .ref h_t_met, .int v_t_nodes, .int v_t_deepest])), (h_t_order, .inl (cI, 128, .inl g6)), (h_p1, .inr (5, [.ref h_p1_corners, .ref h_p1_normals, .ref h_p1_tones, .ref h_p1_trial, .ref h_p1_trialNormal, .int v_p1_many])), (h_p1_corners, .inl (cI, 1152, .inl v_p1_corners))] H := hP
              have hD : va_D A [(h_t, .inr (9, [.ref h_t_order, .ref h_t_first, .ref h_t_many, .ref h_t_lower, .ref h_t_upper, .ref h_t_above, .ref h_t_bounds, .ref h_t_met, .int v_t_nodes, .int v_t_deepest])), (h_t_order, .inl (cI, 128, .inl g6)), (h_p1, .inr (5, [.ref h_p1_corners, .ref h_p1_normals, .ref h_p1_tones, .ref h_p1_trial, .ref h_p1_trialNormal, .int v_p1_many])), (h_p1_corners, .inl (cI, 1152, .inl v_p1_corners))] := hD
              obtain ⟨x7, ex7⟩ : ∃ z : Int32, z = (l5 + 1) := ⟨_, rfl⟩
              have hF := hF x7 ex7
              refine lv_iinc (v := x7) (lv' := [(5, .int x7), (0, .ref h_t), (1, .ref h_p1), (2, .int l2), (3, .int l3), (4, .int l4), (6, .int l6), (7, .int l7)]) hx hb dX9_sortAlong_83 hl (k := 5) rfl (by rw [ex7]; rfl) (by decide) rfl (fun ls hl => ?_)
              refine lv_goto (tgt := 5) hx hb dX9_sortAlong_86 (by decide) ?_
              exact k_5 l2 l3 l4 x7 g6 hF _ _ ls hP hD hS (lv_sub hl [1, 2, 3, 4, 5, 0] rfl)
            refine lv_icmp_le (tgt := 74) hx hb dX9_sortAlong_29 (by decide) (fun c8 => ?_) (fun c8 => ?_)
            · have hF := hF.1 c8
              exact k_74 l2 l3 l4 l5 l6 l7 v_t_order hF _ _ ls hP hD hS (lv_sub hl [0, 1, 2, 3, 4, 5, 6, 7] rfl)
            · have hF := hF.2 c8
              refine lv_aload_n hx hb dX9_sortAlong_32 rfl (lv_at hl 1 rfl) ?_
              refine lv_iload hx hb dX9_sortAlong_33 (lv_at hl 6 rfl) ?_
              refine lv_aload_n hx hb dX9_sortAlong_35 rfl (lv_at hl 0 rfl) ?_
              refine va_get (D := G) (ci := 9) (v := .ref h_t_order) (C := RX9) (T := TX9) (N := 10) hx hb hts (fun w h => List.mem_cons_of_mem _ (inG_9 w h)) hown hK hP 0 rfl rfl 0 (by decide) (hts _ (List.mem_cons_of_mem _ mw_1_113)) (fun _ h9 => h9) rfl dX9_sortAlong_36 ?_
              refine lv_iload hx hb dX9_sortAlong_39 (lv_at hl 7 rfl) ?_
              refine lv_iconst (v := 1) hx hb dX9_sortAlong_41 (by decide) ?_
              refine lv_isub hx hb dX9_sortAlong_42 ?_
              obtain ⟨b9, hF⟩ := hF
              refine va_iald hx hb hK hP 1 0 rfl rfl b9 dX9_sortAlong_43 ?_
              refine lv_iload hx hb dX9_sortAlong_44 (lv_at hl 4 rfl) ?_
              refine afterI (wr := [(h_t, .inr (9, [.ref h_t_order, .ref h_t_first, .ref h_t_many, .ref h_t_lower, .ref h_t_upper, .ref h_t_above, .ref h_t_bounds, .ref h_t_met, .int v_t_nodes, .int v_t_deepest])), (h_t_order, .inl (cI, 128, .inl v_t_order))]) (va_runS (As := [.ref h_p1, .int l6, .int (v_t_order (l7 - 1).toNatClampNeg), .int l4]) (rest := []) ⟨hx, hb, hml, hown, hts⟩ (c_X9_comesBefore l G cI cL cZ h_p1 h_p1_corners h_p1_normals h_p1_tones h_p1_trial h_p1_trialNormal v_p1_corners v_p1_many l6 (v_t_order (l7 - 1).toNatClampNeg) l4 _ _ hF) (va_cwS 4 hts (gS mw_3_32 mw_3_33 mw_1_6 mw_3_34) rfl rfl rfl (by decide +kernel) ⟨Nat.le_of_ble_eq_true rfl, Nat.le_of_ble_eq_true rfl⟩) ⟨gP_blind, gP_of hK hnw hP hD [2, 3] (by decide +kernel) rfl rfl⟩ rfl rfl hl.1 rfl (lv_room (Nat.le_of_ble_eq_true rfl)) dX9_sortAlong_46 ⟨Nat.le_of_ble_eq_true rfl, Nat.le_of_ble_eq_true rfl⟩) hP hD hS hA [2, 3] [0, 1] rfl rfl (by decide +kernel) (by decide +kernel) (fun r10 u H locs hF hP hD hS => ?_)
              try dsimp only at hF
              have hP : va_P G vwCl [(h_t, .inr (9, [.ref h_t_order, .ref h_t_first, .ref h_t_many, .ref h_t_lower, .ref h_t_upper, .ref h_t_above, .ref h_t_bounds, .ref h_t_met, .int v_t_nodes, .int v_t_deepest])), (h_t_order, .inl (cI, 128, .inl v_t_order)), (h_p1, .inr (5, [.ref h_p1_corners, .ref h_p1_normals, .ref h_p1_tones, .ref h_p1_trial, .ref h_p1_trialNormal, .int v_p1_many])), (h_p1_corners, .inl (cI, 1152, .inl v_p1_corners))] H := hP
              have hD : va_D A [(h_t, .inr (9, [.ref h_t_order, .ref h_t_first, .ref h_t_many, .ref h_t_lower, .ref h_t_upper, .ref h_t_above, .ref h_t_bounds, .ref h_t_met, .int v_t_nodes, .int v_t_deepest])), (h_t_order, .inl (cI, 128, .inl v_t_order)), (h_p1, .inr (5, [.ref h_p1_corners, .ref h_p1_normals, .ref h_p1_tones, .ref h_p1_trial, .ref h_p1_trialNormal, .int v_p1_many])), (h_p1_corners, .inl (cI, 1152, .inl v_p1_corners))] := hD
              refine lv_if_eq (tgt := 74) hx hb dX9_sortAlong_49 (by decide) (fun c11 => ?_) (fun c11 => ?_)
              · have hF := hF.1 c11
                exact k_74 l2 l3 l4 l5 l6 l7 v_t_order hF _ _ ls hP hD hS (lv_sub hl [0, 1, 2, 3, 4, 5, 6, 7] rfl)
              · have hF := hF.2 c11
                refine lv_aload_n hx hb dX9_sortAlong_52 rfl (lv_at hl 0 rfl) ?_
                refine va_get (D := G) (ci := 9) (v := .ref h_t_order) (C := RX9) (T := TX9) (N := 10) hx hb hts (fun w h => List.mem_cons_of_mem _ (inG_9 w h)) hown hK hP 0 rfl rfl 0 (by decide) (hts _ (List.mem_cons_of_mem _ mw_1_113)) (fun _ h9 => h9) rfl dX9_sortAlong_53 ?_
                refine lv_iload hx hb dX9_sortAlong_56 (lv_at hl 7 rfl) ?_
                refine lv_aload_n hx hb dX9_sortAlong_58 rfl (lv_at hl 0 rfl) ?_
                refine va_get (D := G) (ci := 9) (v := .ref h_t_order) (C := RX9) (T := TX9) (N := 10) hx hb hts (fun w h => List.mem_cons_of_mem _ (inG_9 w h)) hown hK hP 0 rfl rfl 0 (by decide) (hts _ (List.mem_cons_of_mem _ mw_1_113)) (fun _ h9 => h9) rfl dX9_sortAlong_59 ?_
                refine lv_iload hx hb dX9_sortAlong_62 (lv_at hl 7 rfl) ?_
                refine lv_iconst (v := 1) hx hb dX9_sortAlong_64 (by decide) ?_
                refine lv_isub hx hb dX9_sortAlong_65 ?_
                obtain ⟨b12, hF⟩ := hF
                refine va_iald hx hb hK hP 1 0 rfl rfl b12 dX9_sortAlong_66 ?_
                obtain ⟨b13, hF⟩ := hF
                refine g_iast (t0 := 0) hx hb hK hP hD hS 1 rfl rfl b13 dX9_sortAlong_67 (fun g14 H locs eg14 hP hD hS => ?_)
                have hF := hF g14 eg14
                have hP : va_P G vwCl [(h_t, .inr (9, [.ref h_t_order, .ref h_t_first, .ref h_t_many, .ref h_t_lower, .ref h_t_upper, .ref h_t_above, .ref h_t_bounds, .ref h_t_met, .int v_t_nodes, .int v_t_deepest])), (h_t_order, .inl (cI, 128, .inl g14)), (h_p1, .inr (5, [.ref h_p1_corners, .ref h_p1_normals, .ref h_p1_tones, .ref h_p1_trial, .ref h_p1_trialNormal, .int v_p1_many])), (h_p1_corners, .inl (cI, 1152, .inl v_p1_corners))] H := hP
                have hD : va_D A [(h_t, .inr (9, [.ref h_t_order, .ref h_t_first, .ref h_t_many, .ref h_t_lower, .ref h_t_upper, .ref h_t_above, .ref h_t_bounds, .ref h_t_met, .int v_t_nodes, .int v_t_deepest])), (h_t_order, .inl (cI, 128, .inl g14)), (h_p1, .inr (5, [.ref h_p1_corners, .ref h_p1_normals, .ref h_p1_tones, .ref h_p1_trial, .ref h_p1_trialNormal, .int v_p1_many])), (h_p1_corners, .inl (cI, 1152, .inl v_p1_corners))] := hD
                obtain ⟨x15, ex15⟩ : ∃ z : Int32, z = (l7 + (-1)) := ⟨_, rfl⟩
                have hF := hF x15 ex15
                refine lv_iinc (v := x15) (lv' := [(7, .int x15), (0, .ref h_t), (1, .ref h_p1), (2, .int l2), (3, .int l3), (4, .int l4), (5, .int l5), (6, .int l6)]) hx hb dX9_sortAlong_68 hl (k := 7) rfl (by rw [ex15]; rfl) (by decide) rfl (fun ls hl => ?_)
                refine lv_goto (tgt := 26) hx hb dX9_sortAlong_71 (by decide) ?_
                exact k_26 l2 l3 l4 l5 l6 x15 g14 hF _ _ ls hP hD hS (lv_sub hl [1, 2, 3, 4, 5, 6, 7, 0] rfl)
        obtain ⟨n0, hF⟩ := hF
        exact k_26 n0 l2 l3 l4 l5 x4 l5 v_t_order hF _ _ ls hP hD hS (lv_sub hl [2, 3, 4, 5, 6, 7, 1, 0] rfl)
  obtain ⟨n0, hF⟩ := hF
  exact k_5 n0 p2 p3 p4 x1 v_t_order hF _ _ ls hP hD hS (lv_sub hl [1, 2, 3, 4, 5, 0] rfl)
