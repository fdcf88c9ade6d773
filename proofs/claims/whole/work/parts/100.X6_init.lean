def rm_X6_init : Room := { frames := 1, cells := 1, slots := 9, locals := 24 }
def F_X6_init (post : Int32 → (Nat → Int32) → Prop) : Prop := post 0 (fun _ => 0)
set_option maxHeartbeats 8000000 in
set_option maxRecDepth 100000 in
theorem c_X6_init (l : Launch) (G : va_G) (cI cL cZ : ClassId) (h_t : Nat) (sz : Nat) (post : Int32 → (Nat → Int32) → Prop) (hF : F_X6_init post) : MetV l G (gT cI cL cZ) yX6_init (gW yX6_init cX6_init 1 none) rm_X6_init 1 9 [.ref h_t] sz [(h_t, .inr (6, [.null, .int 0]))] (fun (u : Nat × Int32 × (Nat → Int32)) => [(h_t, .inr (6, [.ref u.1, .int u.2.1])), (u.1, .inl (cI, 9, .inl u.2.2))]) (fun (u : Nat × Int32 × (Nat → Int32)) => post u.2.1 u.2.2) := by
  refine startV (cc := cX6_init) (maxL := 1) (by decide +kernel) rfl (Nat.le_of_ble_eq_true rfl) ?_
  intro p e s m args below meth c Q ls A C0 hP hD hS hl hret
  obtain ⟨hx, hb, hml, hown, hts, hnw, hK, hA, hin⟩ := C0
  have hown : s.vm.findClass RX6 = some m.cls := hown
  have hl : lv_has ls 1 [(0, .ref h_t)] := hl
  refine lv_aload_n hx hb dX6_init_0 rfl (lv_at hl 0 rfl) ?_
  refine W.objInit hx hb hown (hts _ (List.mem_cons_of_mem _ mw_1_29)) (hts _ (List.mem_cons_of_mem _ mw_1_22)) (hts _ (List.mem_cons_of_mem _ mw_1_23)) rfl (by rw [hml]; exact hl.1) rfl dX6_init_1 (Nat.le_of_ble_eq_true rfl) (Nat.le_of_ble_eq_true rfl) ?_
  refine W.eq (g2 := F0 m 4 ls []) rfl ?_
  refine lv_aload_n hx hb dX6_init_4 rfl (lv_at hl 0 rfl) ?_
  refine lv_bipush (v := 9) hx hb dX6_init_5 (by decide) ?_
  refine g_newI (N9 := 9) hx hb (hts _ (List.mem_cons_of_mem _ mw_1_37)) hK hP hD hS hA (by decide) (by decide) (by decide) (Nat.le_of_ble_eq_true rfl) (Nat.le_of_ble_eq_true rfl) dX6_init_7 (fun h_t_coordinates H hP hD hS => ?_)
  have hP : va_P G vwCl [(h_t, .inr (6, [.null, .int 0])), (h_t_coordinates, .inl (cI, 9, .inl (fun _ => 0)))] H := hP
  have hD : va_D A [(h_t, .inr (6, [.null, .int 0])), (h_t_coordinates, .inl (cI, 9, .inl (fun _ => 0)))] := hD
  refine W.widen (k := 1) (n := 9) (Nat.le_of_ble_eq_true rfl) (Nat.le_of_ble_eq_true rfl) ?_
  refine va_putF (D := G) (ci := 6) (v := .ref h_t_coordinates) (ty := .array .int) (C := RX6) (T := TX6) (N := 2) hx hb hts (fun w h => List.mem_cons_of_mem _ (inG_6 w h)) tyX6 tyX6_ok nmX6 hown hK hP hD hS 0 rfl rfl 0 (by decide) (hts _ (List.mem_cons_of_mem _ mw_1_30)) (fun _ h9 => h9) rfl hin rfl (by decide +kernel) rfl rfl (Nat.le_of_ble_eq_true rfl) dX6_init_9 (fun H locs hP hD hS => ?_)
  have hP : va_P G vwCl [(h_t, .inr (6, [.ref h_t_coordinates, .int 0])), (h_t_coordinates, .inl (cI, 9, .inl (fun _ => 0)))] H := hP
  have hD : va_D A [(h_t, .inr (6, [.ref h_t_coordinates, .int 0])), (h_t_coordinates, .inl (cI, 9, .inl (fun _ => 0)))] := hD
  refine lv_aload_n hx hb dX6_init_12 rfl (lv_at hl 0 rfl) ?_
  refine lv_iconst (v := 0) hx hb dX6_init_13 (by decide) ?_
  refine va_put (D := G) (ci := 6) (v := .int 0) (ty := .int) (C := RX6) (T := TX6) (N := 2) hx hb hts (fun w h => List.mem_cons_of_mem _ (inG_6 w h)) tyX6 tyX6_ok nmX6 hown hK hP hD hS 0 rfl rfl 1 (by decide) (hts _ (List.mem_cons_of_mem _ mw_1_31)) (fun _ h9 => h9) rfl (by decide +kernel) rfl rfl (Nat.le_of_ble_eq_true rfl) dX6_init_14 (fun H locs hP hD hS => ?_)
  have hP : va_P G vwCl [(h_t, .inr (6, [.ref h_t_coordinates, .int 0])), (h_t_coordinates, .inl (cI, 9, .inl (fun _ => 0)))] H := hP
  have hD : va_D A [(h_t, .inr (6, [.ref h_t_coordinates, .int 0])), (h_t_coordinates, .inl (cI, 9, .inl (fun _ => 0)))] := hD
  refine W.widen (k := 1) (n := 9) (Nat.le_of_ble_eq_true rfl) (Nat.le_of_ble_eq_true rfl) ?_
  exact hret 17 ls _ _ (h_t_coordinates, 0, (fun _ => 0)) dX6_init_17  hF hP hD hS

def rm_X5_init : Room := { frames := 1, cells := 5, slots := 1676, locals := 24 }
def F_X5_init (post : Int32 → (Nat → Int32) → (Nat → Int32) → (Nat → Int32) → (Nat → Int32) → (Nat → Int32) → Prop) : Prop := post 0 (fun _ => 0) (fun _ => 0) (fun _ => 0) (fun _ => 0) (fun _ => 0)
set_option maxHeartbeats 8000000 in
set_option maxRecDepth 100000 in
theorem c_X5_init (l : Launch) (G : va_G) (cI cL cZ : ClassId) (h_t : Nat) (sz : Nat) (post : Int32 → (Nat → Int32) → (Nat → Int32) → (Nat → Int32) → (Nat → Int32) → (Nat → Int32) → Prop) (hF : F_X5_init post) : MetV l G (gT cI cL cZ) yX5_init (gW yX5_init cX5_init 1 none) rm_X5_init 5 1676 [.ref h_t] sz [(h_t, .inr (5, [.null, .null, .null, .null, .null, .int 0]))] (fun (u : Nat × Nat × Nat × Nat × Nat × Int32 × (Nat → Int32) × (Nat → Int32) × (Nat → Int32) × (Nat → Int32) × (Nat → Int32)) => [(h_t, .inr (5, [.ref u.1, .ref u.2.1, .ref u.2.2.1, .ref u.2.2.2.1, .ref u.2.2.2.2.1, .int u.2.2.2.2.2.1])), (u.1, .inl (cI, 1152, .inl u.2.2.2.2.2.2.1)), (u.2.1, .inl (cI, 384, .inl u.2.2.2.2.2.2.2.1)), (u.2.2.1, .inl (cI, 128, .inl u.2.2.2.2.2.2.2.2.1)), (u.2.2.2.1, .inl (cI, 9, .inl u.2.2.2.2.2.2.2.2.2.1)), (u.2.2.2.2.1, .inl (cI, 3, .inl u.2.2.2.2.2.2.2.2.2.2))]) (fun (u : Nat × Nat × Nat × Nat × Nat × Int32 × (Nat → Int32) × (Nat → Int32) × (Nat → Int32) × (Nat → Int32) × (Nat → Int32)) => post u.2.2.2.2.2.1 u.2.2.2.2.2.2.1 u.2.2.2.2.2.2.2.1 u.2.2.2.2.2.2.2.2.1 u.2.2.2.2.2.2.2.2.2.1 u.2.2.2.2.2.2.2.2.2.2) := by
  refine startV (cc := cX5_init) (maxL := 1) (by decide +kernel) rfl (Nat.le_of_ble_eq_true rfl) ?_
  intro p e s m args below meth c Q ls A C0 hP hD hS hl hret
  obtain ⟨hx, hb, hml, hown, hts, hnw, hK, hA, hin⟩ := C0
  have hown : s.vm.findClass RX5 = some m.cls := hown
  have hl : lv_has ls 1 [(0, .ref h_t)] := hl
  refine lv_aload_n hx hb dX5_init_0 rfl (lv_at hl 0 rfl) ?_
  refine W.objInit hx hb hown (hts _ (List.mem_cons_of_mem _ mw_1_43)) (hts _ (List.mem_cons_of_mem _ mw_1_22)) (hts _ (List.mem_cons_of_mem _ mw_1_23)) rfl (by rw [hml]; exact hl.1) rfl dX5_init_1 (Nat.le_of_ble_eq_true rfl) (Nat.le_of_ble_eq_true rfl) ?_
  refine W.eq (g2 := F0 m 4 ls []) rfl ?_
  refine lv_aload_n hx hb dX5_init_4 rfl (lv_at hl 0 rfl) ?_
  refine lv_sipush (v := 1152) hx hb dX5_init_5 (by decide) ?_
  refine g_newI (N9 := 1152) hx hb (hts _ (List.mem_cons_of_mem _ mw_1_37)) hK hP hD hS hA (by decide) (by decide) (by decide) (Nat.le_of_ble_eq_true rfl) (Nat.le_of_ble_eq_true rfl) dX5_init_8 (fun h_t_corners H hP hD hS => ?_)
  have hP : va_P G vwCl [(h_t, .inr (5, [.null, .null, .null, .null, .null, .int 0])), (h_t_corners, .inl (cI, 1152, .inl (fun _ => 0)))] H := hP
  have hD : va_D A [(h_t, .inr (5, [.null, .null, .null, .null, .null, .int 0])), (h_t_corners, .inl (cI, 1152, .inl (fun _ => 0)))] := hD
  refine W.widen (k := 1) (n := 1152) (Nat.le_of_ble_eq_true rfl) (Nat.le_of_ble_eq_true rfl) ?_
  refine va_putF (D := G) (ci := 5) (v := .ref h_t_corners) (ty := .array .int) (C := RX5) (T := TX5) (N := 6) hx hb hts (fun w h => List.mem_cons_of_mem _ (inG_5 w h)) tyX5 tyX5_ok nmX5 hown hK hP hD hS 0 rfl rfl 0 (by decide) (hts _ (List.mem_cons_of_mem _ mw_1_44)) (fun _ h9 => h9) rfl hin rfl (by decide +kernel) rfl rfl (Nat.le_of_ble_eq_true rfl) dX5_init_10 (fun H locs hP hD hS => ?_)
  have hP : va_P G vwCl [(h_t, .inr (5, [.ref h_t_corners, .null, .null, .null, .null, .int 0])), (h_t_corners, .inl (cI, 1152, .inl (fun _ => 0)))] H := hP
  have hD : va_D A [(h_t, .inr (5, [.ref h_t_corners, .null, .null, .null, .null, .int 0])), (h_t_corners, .inl (cI, 1152, .inl (fun _ => 0)))] := hD
  refine lv_aload_n hx hb dX5_init_13 rfl (lv_at hl 0 rfl) ?_
  refine lv_sipush (v := 384) hx hb dX5_init_14 (by decide) ?_
  refine g_newI (N9 := 384) hx hb (hts _ (List.mem_cons_of_mem _ mw_1_37)) hK hP hD hS hA (by decide) (by decide) (by decide) (Nat.le_of_ble_eq_true rfl) (Nat.le_of_ble_eq_true rfl) dX5_init_17 (fun h_t_normals H hP hD hS => ?_)
  have hP : va_P G vwCl [(h_t, .inr (5, [.ref h_t_corners, .null, .null, .null, .null, .int 0])), (h_t_corners, .inl (cI, 1152, .inl (fun _ => 0))), (h_t_normals, .inl (cI, 384, .inl (fun _ => 0)))] H := hP
  have hD : va_D A [(h_t, .inr (5, [.ref h_t_corners, .null, .null, .null, .null, .int 0])), (h_t_corners, .inl (cI, 1152, .inl (fun _ => 0))), (h_t_normals, .inl (cI, 384, .inl (fun _ => 0)))] := hD
  refine W.widen (k := 2) (n := 1536) (Nat.le_of_ble_eq_true rfl) (Nat.le_of_ble_eq_true rfl) ?_
  refine va_putF (D := G) (ci := 5) (v := .ref h_t_normals) (ty := .array .int) (C := RX5) (T := TX5) (N := 6) hx hb hts (fun w h => List.mem_cons_of_mem _ (inG_5 w h)) tyX5 tyX5_ok nmX5 hown hK hP hD hS 0 rfl rfl 1 (by decide) (hts _ (List.mem_cons_of_mem _ mw_1_45)) (fun _ h9 => h9) rfl hin rfl (by decide +kernel) rfl rfl (Nat.le_of_ble_eq_true rfl) dX5_init_19 (fun H locs hP hD hS => ?_)
  have hP : va_P G vwCl [(h_t, .inr (5, [.ref h_t_corners, .ref h_t_normals, .null, .null, .null, .int 0])), (h_t_corners, .inl (cI, 1152, .inl (fun _ => 0))), (h_t_normals, .inl (cI, 384, .inl (fun _ => 0)))] H := hP
  have hD : va_D A [(h_t, .inr (5, [.ref h_t_corners, .ref h_t_normals, .null, .null, .null, .int 0])), (h_t_corners, .inl (cI, 1152, .inl (fun _ => 0))), (h_t_normals, .inl (cI, 384, .inl (fun _ => 0)))] := hD
  refine lv_aload_n hx hb dX5_init_22 rfl (lv_at hl 0 rfl) ?_
  refine lv_sipush (v := 128) hx hb dX5_init_23 (by decide) ?_
  refine g_newI (N9 := 128) hx hb (hts _ (List.mem_cons_of_mem _ mw_1_37)) hK hP hD hS hA (by decide) (by decide) (by decide) (Nat.le_of_ble_eq_true rfl) (Nat.le_of_ble_eq_true rfl) dX5_init_26 (fun h_t_tones H hP hD hS => ?_)
  have hP : va_P G vwCl [(h_t, .inr (5, [.ref h_t_corners, .ref h_t_normals, .null, .null, .null, .int 0])), (h_t_corners, .inl (cI, 1152, .inl (fun _ => 0))), (h_t_normals, .inl (cI, 384, .inl (fun _ => 0))), (h_t_tones, .inl (cI, 128, .inl (fun _ => 0)))] H := hP
  have hD : va_D A [(h_t, .inr (5, [.ref h_t_corners, .ref h_t_normals, .null, .null, .null, .int 0])), (h_t_corners, .inl (cI, 1152, .inl (fun _ => 0))), (h_t_normals, .inl (cI, 384, .inl (fun _ => 0))), (h_t_tones, .inl (cI, 128, .inl (fun _ => 0)))] := hD
  refine W.widen (k := 3) (n := 1664) (Nat.le_of_ble_eq_true rfl) (Nat.le_of_ble_eq_true rfl) ?_
  refine va_putF (D := G) (ci := 5) (v := .ref h_t_tones) (ty := .array .int) (C := RX5) (T := TX5) (N := 6) hx hb hts (fun w h => List.mem_cons_of_mem _ (inG_5 w h)) tyX5 tyX5_ok nmX5 hown hK hP hD hS 0 rfl rfl 2 (by decide) (hts _ (List.mem_cons_of_mem _ mw_1_46)) (fun _ h9 => h9) rfl hin rfl (by decide +kernel) rfl rfl (Nat.le_of_ble_eq_true rfl) dX5_init_28 (fun H locs hP hD hS => ?_)
  have hP : va_P G vwCl [(h_t, .inr (5, [.ref h_t_corners, .ref h_t_normals, .ref h_t_tones, .null, .null, .int 0])), (h_t_corners, .inl (cI, 1152, .inl (fun _ => 0))), (h_t_normals, .inl (cI, 384, .inl (fun _ => 0))), (h_t_tones, .inl (cI, 128, .inl (fun _ => 0)))] H := hP
  have hD : va_D A [(h_t, .inr (5, [.ref h_t_corners, .ref h_t_normals, .ref h_t_tones, .null, .null, .int 0])), (h_t_corners, .inl (cI, 1152, .inl (fun _ => 0))), (h_t_normals, .inl (cI, 384, .inl (fun _ => 0))), (h_t_tones, .inl (cI, 128, .inl (fun _ => 0)))] := hD
  refine lv_aload_n hx hb dX5_init_31 rfl (lv_at hl 0 rfl) ?_
  refine lv_bipush (v := 9) hx hb dX5_init_32 (by decide) ?_
  refine g_newI (N9 := 9) hx hb (hts _ (List.mem_cons_of_mem _ mw_1_37)) hK hP hD hS hA (by decide) (by decide) (by decide) (Nat.le_of_ble_eq_true rfl) (Nat.le_of_ble_eq_true rfl) dX5_init_34 (fun h_t_trial H hP hD hS => ?_)
  have hP : va_P G vwCl [(h_t, .inr (5, [.ref h_t_corners, .ref h_t_normals, .ref h_t_tones, .null, .null, .int 0])), (h_t_corners, .inl (cI, 1152, .inl (fun _ => 0))), (h_t_normals, .inl (cI, 384, .inl (fun _ => 0))), (h_t_tones, .inl (cI, 128, .inl (fun _ => 0))), (h_t_trial, .inl (cI, 9, .inl (fun _ => 0)))] H := hP
  have hD : va_D A [(h_t, .inr (5, [.ref h_t_corners, .ref h_t_normals, .ref h_t_tones, .null, .null, .int 0])), (h_t_corners, .inl (cI, 1152, .inl (fun _ => 0))), (h_t_normals, .inl (cI, 384, .inl (fun _ => 0))), (h_t_tones, .inl (cI, 128, .inl (fun _ => 0))), (h_t_trial, .inl (cI, 9, .inl (fun _ => 0)))] := hD
  refine W.widen (k := 4) (n := 1673) (Nat.le_of_ble_eq_true rfl) (Nat.le_of_ble_eq_true rfl) ?_
  refine va_putF (D := G) (ci := 5) (v := .ref h_t_trial) (ty := .array .int) (C := RX5) (T := TX5) (N := 6) hx hb hts (fun w h => List.mem_cons_of_mem _ (inG_5 w h)) tyX5 tyX5_ok nmX5 hown hK hP hD hS 0 rfl rfl 3 (by decide) (hts _ (List.mem_cons_of_mem _ mw_1_47)) (fun _ h9 => h9) rfl hin rfl (by decide +kernel) rfl rfl (Nat.le_of_ble_eq_true rfl) dX5_init_36 (fun H locs hP hD hS => ?_)
  have hP : va_P G vwCl [(h_t, .inr (5, [.ref h_t_corners, .ref h_t_normals, .ref h_t_tones, .ref h_t_trial, .null, .int 0])), (h_t_corners, .inl (cI, 1152, .inl (fun _ => 0))), (h_t_normals, .inl (cI, 384, .inl (fun _ => 0))), (h_t_tones, .inl (cI, 128, .inl (fun _ => 0))), (h_t_trial, .inl (cI, 9, .inl (fun _ => 0)))] H := hP
  have hD : va_D A [(h_t, .inr (5, [.ref h_t_corners, .ref h_t_normals, .ref h_t_tones, .ref h_t_trial, .null, .int 0])), (h_t_corners, .inl (cI, 1152, .inl (fun _ => 0))), (h_t_normals, .inl (cI, 384, .inl (fun _ => 0))), (h_t_tones, .inl (cI, 128, .inl (fun _ => 0))), (h_t_trial, .inl (cI, 9, .inl (fun _ => 0)))] := hD
  refine lv_aload_n hx hb dX5_init_39 rfl (lv_at hl 0 rfl) ?_
  refine lv_iconst (v := 3) hx hb dX5_init_40 (by decide) ?_
  refine g_newI (N9 := 3) hx hb (hts _ (List.mem_cons_of_mem _ mw_1_37)) hK hP hD hS hA (by decide) (by decide) (by decide) (Nat.le_of_ble_eq_true rfl) (Nat.le_of_ble_eq_true rfl) dX5_init_41 (fun h_t_trialNormal H hP hD hS => ?_)
  have hP : va_P G vwCl [(h_t, .inr (5, [.ref h_t_corners, .ref h_t_normals, .ref h_t_tones, .ref h_t_trial, .null, .int 0])), (h_t_corners, .inl (cI, 1152, .inl (fun _ => 0))), (h_t_normals, .inl (cI, 384, .inl (fun _ => 0))), (h_t_tones, .inl (cI, 128, .inl (fun _ => 0))), (h_t_trial, .inl (cI, 9, .inl (fun _ => 0))), (h_t_trialNormal, .inl (cI, 3, .inl (fun _ => 0)))] H := hP
  have hD : va_D A [(h_t, .inr (5, [.ref h_t_corners, .ref h_t_normals, .ref h_t_tones, .ref h_t_trial, .null, .int 0])), (h_t_corners, .inl (cI, 1152, .inl (fun _ => 0))), (h_t_normals, .inl (cI, 384, .inl (fun _ => 0))), (h_t_tones, .inl (cI, 128, .inl (fun _ => 0))), (h_t_trial, .inl (cI, 9, .inl (fun _ => 0))), (h_t_trialNormal, .inl (cI, 3, .inl (fun _ => 0)))] := hD
  refine W.widen (k := 5) (n := 1676) (Nat.le_of_ble_eq_true rfl) (Nat.le_of_ble_eq_true rfl) ?_
  refine va_putF (D := G) (ci := 5) (v := .ref h_t_trialNormal) (ty := .array .int) (C := RX5) (T := TX5) (N := 6) hx hb hts (fun w h => List.mem_cons_of_mem _ (inG_5 w h)) tyX5 tyX5_ok nmX5 hown hK hP hD hS 0 rfl rfl 4 (by decide) (hts _ (List.mem_cons_of_mem _ mw_1_48)) (fun _ h9 => h9) rfl hin rfl (by decide +kernel) rfl rfl (Nat.le_of_ble_eq_true rfl) dX5_init_43 (fun H locs hP hD hS => ?_)
  have hP : va_P G vwCl [(h_t, .inr (5, [.ref h_t_corners, .ref h_t_normals, .ref h_t_tones, .ref h_t_trial, .ref h_t_trialNormal, .int 0])), (h_t_corners, .inl (cI, 1152, .inl (fun _ => 0))), (h_t_normals, .inl (cI, 384, .inl (fun _ => 0))), (h_t_tones, .inl (cI, 128, .inl (fun _ => 0))), (h_t_trial, .inl (cI, 9, .inl (fun _ => 0))), (h_t_trialNormal, .inl (cI, 3, .inl (fun _ => 0)))] H := hP
  have hD : va_D A [(h_t, .inr (5, [.ref h_t_corners, .ref h_t_normals, .ref h_t_tones, .ref h_t_trial, .ref h_t_trialNormal, .int 0])), (h_t_corners, .inl (cI, 1152, .inl (fun _ => 0))), (h_t_normals, .inl (cI, 384, .inl (fun _ => 0))), (h_t_tones, .inl (cI, 128, .inl (fun _ => 0))), (h_t_trial, .inl (cI, 9, .inl (fun _ => 0))), (h_t_trialNormal, .inl (cI, 3, .inl (fun _ => 0)))] := hD
  refine lv_aload_n hx hb dX5_init_46 rfl (lv_at hl 0 rfl) ?_
  refine lv_iconst (v := 0) hx hb dX5_init_47 (by decide) ?_
  refine va_put (D := G) (ci := 5) (v := .int 0) (ty := .int) (C := RX5) (T := TX5) (N := 6) hx hb hts (fun w h => List.mem_cons_of_mem _ (inG_5 w h)) tyX5 tyX5_ok nmX5 hown hK hP hD hS 0 rfl rfl 5 (by decide) (hts _ (List.mem_cons_of_mem _ mw_1_49)) (fun _ h9 => h9) rfl (by decide +kernel) rfl rfl (Nat.le_of_ble_eq_true rfl) dX5_init_48 (fun H locs hP hD hS => ?_)
  have hP : va_P G vwCl [(h_t, .inr (5, [.ref h_t_corners, .ref h_t_normals, .ref h_t_tones, .ref h_t_trial, .ref h_t_trialNormal, .int 0])), (h_t_corners, .inl (cI, 1152, .inl (fun _ => 0))), (h_t_normals, .inl (cI, 384, .inl (fun _ => 0))), (h_t_tones, .inl (cI, 128, .inl (fun _ => 0))), (h_t_trial, .inl (cI, 9, .inl (fun _ => 0))), (h_t_trialNormal, .inl (cI, 3, .inl (fun _ => 0)))] H := hP
  have hD : va_D A [(h_t, .inr (5, [.ref h_t_corners, .ref h_t_normals, .ref h_t_tones, .ref h_t_trial, .ref h_t_trialNormal, .int 0])), (h_t_corners, .inl (cI, 1152, .inl (fun _ => 0))), (h_t_normals, .inl (cI, 384, .inl (fun _ => 0))), (h_t_tones, .inl (cI, 128, .inl (fun _ => 0))), (h_t_trial, .inl (cI, 9, .inl (fun _ => 0))), (h_t_trialNormal, .inl (cI, 3, .inl (fun _ => 0)))] := hD
  refine W.widen (k := 5) (n := 1676) (Nat.le_of_ble_eq_true rfl) (Nat.le_of_ble_eq_true rfl) ?_
  exact hret 51 ls _ _ (h_t_corners, h_t_normals, h_t_tones, h_t_trial, h_t_trialNormal, 0, (fun _ => 0), (fun _ => 0), (fun _ => 0), (fun _ => 0), (fun _ => 0)) dX5_init_51  hF hP hD hS

def rm_X1_init : Room := { frames := 1, cells := 3, slots := 21, locals := 24 }
def F_X1_init (post : Int32 → Int32 → (Nat → Int32) → (Nat → Int32) → (Nat → Int32) → Prop) : Prop := post 1 1 (fun _ => 0) (fun _ => 0) (fun _ => 0)
set_option maxHeartbeats 8000000 in
set_option maxRecDepth 100000 in
theorem c_X1_init (l : Launch) (G : va_G) (cI cL cZ : ClassId) (h_t : Nat) (sz : Nat) (post : Int32 → Int32 → (Nat → Int32) → (Nat → Int32) → (Nat → Int32) → Prop) (hF : F_X1_init post) : MetV l G (gT cI cL cZ) yX1_init (gW yX1_init cX1_init 1 none) rm_X1_init 3 21 [.ref h_t] sz [(h_t, .inr (1, [.null, .null, .null, .int 0, .int 0]))] (fun (u : Nat × Nat × Nat × Int32 × Int32 × (Nat → Int32) × (Nat → Int32) × (Nat → Int32)) => [(h_t, .inr (1, [.ref u.1, .ref u.2.1, .ref u.2.2.1, .int u.2.2.2.1, .int u.2.2.2.2.1])), (u.1, .inl (cI, 3, .inl u.2.2.2.2.2.1)), (u.2.1, .inl (cI, 9, .inl u.2.2.2.2.2.2.1)), (u.2.2.1, .inl (cI, 9, .inl u.2.2.2.2.2.2.2))]) (fun (u : Nat × Nat × Nat × Int32 × Int32 × (Nat → Int32) × (Nat → Int32) × (Nat → Int32)) => post u.2.2.2.1 u.2.2.2.2.1 u.2.2.2.2.2.1 u.2.2.2.2.2.2.1 u.2.2.2.2.2.2.2) := by
  refine startV (cc := cX1_init) (maxL := 1) (by decide +kernel) rfl (Nat.le_of_ble_eq_true rfl) ?_
  intro p e s m args below meth c Q ls A C0 hP hD hS hl hret
  obtain ⟨hx, hb, hml, hown, hts, hnw, hK, hA, hin⟩ := C0
  have hown : s.vm.findClass RX1 = some m.cls := hown
  have hl : lv_has ls 1 [(0, .ref h_t)] := hl
  refine lv_aload_n hx hb dX1_init_0 rfl (lv_at hl 0 rfl) ?_
  refine W.objInit hx hb hown (hts _ (List.mem_cons_of_mem _ mw_1_68)) (hts _ (List.mem_cons_of_mem _ mw_1_22)) (hts _ (List.mem_cons_of_mem _ mw_1_23)) rfl (by rw [hml]; exact hl.1) rfl dX1_init_1 (Nat.le_of_ble_eq_true rfl) (Nat.le_of_ble_eq_true rfl) ?_
  refine W.eq (g2 := F0 m 4 ls []) rfl ?_
  refine lv_aload_n hx hb dX1_init_4 rfl (lv_at hl 0 rfl) ?_
  refine lv_iconst (v := 3) hx hb dX1_init_5 (by decide) ?_
  refine g_newI (N9 := 3) hx hb (hts _ (List.mem_cons_of_mem _ mw_1_37)) hK hP hD hS hA (by decide) (by decide) (by decide) (Nat.le_of_ble_eq_true rfl) (Nat.le_of_ble_eq_true rfl) dX1_init_6 (fun h_t_eye H hP hD hS => ?_)
  have hP : va_P G vwCl [(h_t, .inr (1, [.null, .null, .null, .int 0, .int 0])), (h_t_eye, .inl (cI, 3, .inl (fun _ => 0)))] H := hP
  have hD : va_D A [(h_t, .inr (1, [.null, .null, .null, .int 0, .int 0])), (h_t_eye, .inl (cI, 3, .inl (fun _ => 0)))] := hD
  refine W.widen (k := 1) (n := 3) (Nat.le_of_ble_eq_true rfl) (Nat.le_of_ble_eq_true rfl) ?_
  refine va_putF (D := G) (ci := 1) (v := .ref h_t_eye) (ty := .array .int) (C := RX1) (T := TX1) (N := 5) hx hb hts (fun w h => List.mem_cons_of_mem _ (inG_1 w h)) tyX1 tyX1_ok nmX1 hown hK hP hD hS 0 rfl rfl 0 (by decide) (hts _ (List.mem_cons_of_mem _ mw_1_69)) (fun _ h9 => h9) rfl hin rfl (by decide +kernel) rfl rfl (Nat.le_of_ble_eq_true rfl) dX1_init_8 (fun H locs hP hD hS => ?_)
  have hP : va_P G vwCl [(h_t, .inr (1, [.ref h_t_eye, .null, .null, .int 0, .int 0])), (h_t_eye, .inl (cI, 3, .inl (fun _ => 0)))] H := hP
  have hD : va_D A [(h_t, .inr (1, [.ref h_t_eye, .null, .null, .int 0, .int 0])), (h_t_eye, .inl (cI, 3, .inl (fun _ => 0)))] := hD
  refine lv_aload_n hx hb dX1_init_11 rfl (lv_at hl 0 rfl) ?_
  refine lv_bipush (v := 9) hx hb dX1_init_12 (by decide) ?_
  refine g_newI (N9 := 9) hx hb (hts _ (List.mem_cons_of_mem _ mw_1_37)) hK hP hD hS hA (by decide) (by decide) (by decide) (Nat.le_of_ble_eq_true rfl) (Nat.le_of_ble_eq_true rfl) dX1_init_14 (fun h_t_axes H hP hD hS => ?_)
  have hP : va_P G vwCl [(h_t, .inr (1, [.ref h_t_eye, .null, .null, .int 0, .int 0])), (h_t_eye, .inl (cI, 3, .inl (fun _ => 0))), (h_t_axes, .inl (cI, 9, .inl (fun _ => 0)))] H := hP
  have hD : va_D A [(h_t, .inr (1, [.ref h_t_eye, .null, .null, .int 0, .int 0])), (h_t_eye, .inl (cI, 3, .inl (fun _ => 0))), (h_t_axes, .inl (cI, 9, .inl (fun _ => 0)))] := hD
  refine W.widen (k := 2) (n := 12) (Nat.le_of_ble_eq_true rfl) (Nat.le_of_ble_eq_true rfl) ?_
  refine va_putF (D := G) (ci := 1) (v := .ref h_t_axes) (ty := .array .int) (C := RX1) (T := TX1) (N := 5) hx hb hts (fun w h => List.mem_cons_of_mem _ (inG_1 w h)) tyX1 tyX1_ok nmX1 hown hK hP hD hS 0 rfl rfl 1 (by decide) (hts _ (List.mem_cons_of_mem _ mw_1_71)) (fun _ h9 => h9) rfl hin rfl (by decide +kernel) rfl rfl (Nat.le_of_ble_eq_true rfl) dX1_init_16 (fun H locs hP hD hS => ?_)
  have hP : va_P G vwCl [(h_t, .inr (1, [.ref h_t_eye, .ref h_t_axes, .null, .int 0, .int 0])), (h_t_eye, .inl (cI, 3, .inl (fun _ => 0))), (h_t_axes, .inl (cI, 9, .inl (fun _ => 0)))] H := hP
  have hD : va_D A [(h_t, .inr (1, [.ref h_t_eye, .ref h_t_axes, .null, .int 0, .int 0])), (h_t_eye, .inl (cI, 3, .inl (fun _ => 0))), (h_t_axes, .inl (cI, 9, .inl (fun _ => 0)))] := hD
  refine lv_aload_n hx hb dX1_init_19 rfl (lv_at hl 0 rfl) ?_
  refine lv_bipush (v := 9) hx hb dX1_init_20 (by decide) ?_
  refine g_newI (N9 := 9) hx hb (hts _ (List.mem_cons_of_mem _ mw_1_37)) hK hP hD hS hA (by decide) (by decide) (by decide) (Nat.le_of_ble_eq_true rfl) (Nat.le_of_ble_eq_true rfl) dX1_init_22 (fun h_t_trial H hP hD hS => ?_)
  have hP : va_P G vwCl [(h_t, .inr (1, [.ref h_t_eye, .ref h_t_axes, .null, .int 0, .int 0])), (h_t_eye, .inl (cI, 3, .inl (fun _ => 0))), (h_t_axes, .inl (cI, 9, .inl (fun _ => 0))), (h_t_trial, .inl (cI, 9, .inl (fun _ => 0)))] H := hP
  have hD : va_D A [(h_t, .inr (1, [.ref h_t_eye, .ref h_t_axes, .null, .int 0, .int 0])), (h_t_eye, .inl (cI, 3, .inl (fun _ => 0))), (h_t_axes, .inl (cI, 9, .inl (fun _ => 0))), (h_t_trial, .inl (cI, 9, .inl (fun _ => 0)))] := hD
  refine W.widen (k := 3) (n := 21) (Nat.le_of_ble_eq_true rfl) (Nat.le_of_ble_eq_true rfl) ?_
  refine va_putF (D := G) (ci := 1) (v := .ref h_t_trial) (ty := .array .int) (C := RX1) (T := TX1) (N := 5) hx hb hts (fun w h => List.mem_cons_of_mem _ (inG_1 w h)) tyX1 tyX1_ok nmX1 hown hK hP hD hS 0 rfl rfl 2 (by decide) (hts _ (List.mem_cons_of_mem _ mw_1_72)) (fun _ h9 => h9) rfl hin rfl (by decide +kernel) rfl rfl (Nat.le_of_ble_eq_true rfl) dX1_init_24 (fun H locs hP hD hS => ?_)
  have hP : va_P G vwCl [(h_t, .inr (1, [.ref h_t_eye, .ref h_t_axes, .ref h_t_trial, .int 0, .int 0])), (h_t_eye, .inl (cI, 3, .inl (fun _ => 0))), (h_t_axes, .inl (cI, 9, .inl (fun _ => 0))), (h_t_trial, .inl (cI, 9, .inl (fun _ => 0)))] H := hP
  have hD : va_D A [(h_t, .inr (1, [.ref h_t_eye, .ref h_t_axes, .ref h_t_trial, .int 0, .int 0])), (h_t_eye, .inl (cI, 3, .inl (fun _ => 0))), (h_t_axes, .inl (cI, 9, .inl (fun _ => 0))), (h_t_trial, .inl (cI, 9, .inl (fun _ => 0)))] := hD
  refine lv_aload_n hx hb dX1_init_27 rfl (lv_at hl 0 rfl) ?_
  refine lv_iconst (v := 1) hx hb dX1_init_28 (by decide) ?_
  refine va_put (D := G) (ci := 1) (v := .int 1) (ty := .int) (C := RX1) (T := TX1) (N := 5) hx hb hts (fun w h => List.mem_cons_of_mem _ (inG_1 w h)) tyX1 tyX1_ok nmX1 hown hK hP hD hS 0 rfl rfl 3 (by decide) (hts _ (List.mem_cons_of_mem _ mw_1_73)) (fun _ h9 => h9) rfl (by decide +kernel) rfl rfl (Nat.le_of_ble_eq_true rfl) dX1_init_29 (fun H locs hP hD hS => ?_)
  have hP : va_P G vwCl [(h_t, .inr (1, [.ref h_t_eye, .ref h_t_axes, .ref h_t_trial, .int 1, .int 0])), (h_t_eye, .inl (cI, 3, .inl (fun _ => 0))), (h_t_axes, .inl (cI, 9, .inl (fun _ => 0))), (h_t_trial, .inl (cI, 9, .inl (fun _ => 0)))] H := hP
  have hD : va_D A [(h_t, .inr (1, [.ref h_t_eye, .ref h_t_axes, .ref h_t_trial, .int 1, .int 0])), (h_t_eye, .inl (cI, 3, .inl (fun _ => 0))), (h_t_axes, .inl (cI, 9, .inl (fun _ => 0))), (h_t_trial, .inl (cI, 9, .inl (fun _ => 0)))] := hD
  refine lv_aload_n hx hb dX1_init_32 rfl (lv_at hl 0 rfl) ?_
  refine lv_iconst (v := 1) hx hb dX1_init_33 (by decide) ?_
  refine va_put (D := G) (ci := 1) (v := .int 1) (ty := .int) (C := RX1) (T := TX1) (N := 5) hx hb hts (fun w h => List.mem_cons_of_mem _ (inG_1 w h)) tyX1 tyX1_ok nmX1 hown hK hP hD hS 0 rfl rfl 4 (by decide) (hts _ (List.mem_cons_of_mem _ mw_1_75)) (fun _ h9 => h9) rfl (by decide +kernel) rfl rfl (Nat.le_of_ble_eq_true rfl) dX1_init_34 (fun H locs hP hD hS => ?_)
  have hP : va_P G vwCl [(h_t, .inr (1, [.ref h_t_eye, .ref h_t_axes, .ref h_t_trial, .int 1, .int 1])), (h_t_eye, .inl (cI, 3, .inl (fun _ => 0))), (h_t_axes, .inl (cI, 9, .inl (fun _ => 0))), (h_t_trial, .inl (cI, 9, .inl (fun _ => 0)))] H := hP
  have hD : va_D A [(h_t, .inr (1, [.ref h_t_eye, .ref h_t_axes, .ref h_t_trial, .int 1, .int 1])), (h_t_eye, .inl (cI, 3, .inl (fun _ => 0))), (h_t_axes, .inl (cI, 9, .inl (fun _ => 0))), (h_t_trial, .inl (cI, 9, .inl (fun _ => 0)))] := hD
  refine W.widen (k := 3) (n := 21) (Nat.le_of_ble_eq_true rfl) (Nat.le_of_ble_eq_true rfl) ?_
  exact hret 37 ls _ _ (h_t_eye, h_t_axes, h_t_trial, 1, 1, (fun _ => 0), (fun _ => 0), (fun _ => 0)) dX1_init_37  hF hP hD hS

def rm_X4_init : Room := { frames := 1, cells := 3, slots := 32, locals := 24 }
def L_X4_init_34 (post : Int32 → (Nat → Int32) → (Nat → Int32) → (Nat → Int32) → Prop) : Nat → Int32 → Int32 → (Nat → Int32) → (Nat → Int32) → (Nat → Int32) → Prop
  | 0, _, _, _, _, _ => False
  | n_34 + 1, l1, v_t_ambient, v_t_places, v_t_strengths, v_t_values => ((16 ≤ l1 → post v_t_ambient v_t_places v_t_strengths v_t_values) ∧ (¬ 16 ≤ l1 → (vp_in l1 16 ∧ (∀ g3 : Nat → Int32, g3 = upd v_t_values (l1.toNatClampNeg) (17 * l1) → (∀ x4 : Int32, x4 = (l1 + 1) → L_X4_init_34 post n_34 x4 v_t_ambient v_t_places v_t_strengths g3)))))
def F_X4_init (post : Int32 → (Nat → Int32) → (Nat → Int32) → (Nat → Int32) → Prop) : Prop := (∃ n0 : Nat, L_X4_init_34 post n0 0 0 (fun _ => 0) (fun _ => 0) (fun _ => 0))
set_option maxHeartbeats 8000000 in
set_option maxRecDepth 100000 in
theorem c_X4_init (l : Launch) (G : va_G) (cI cL cZ : ClassId) (h_t : Nat) (sz : Nat) (post : Int32 → (Nat → Int32) → (Nat → Int32) → (Nat → Int32) → Prop) (hF : F_X4_init post) : MetV l G (gT cI cL cZ) yX4_init (gW yX4_init cX4_init 2 none) rm_X4_init 3 32 [.ref h_t] sz [(h_t, .inr (4, [.null, .null, .null, .int 0]))] (fun (u : Nat × Nat × Nat × Int32 × (Nat → Int32) × (Nat → Int32) × (Nat → Int32)) => [(h_t, .inr (4, [.ref u.1, .ref u.2.1, .ref u.2.2.1, .int u.2.2.2.1])), (u.1, .inl (cI, 12, .inl u.2.2.2.2.1)), (u.2.1, .inl (cI, 4, .inl u.2.2.2.2.2.1)), (u.2.2.1, .inl (cI, 16, .inl u.2.2.2.2.2.2))]) (fun (u : Nat × Nat × Nat × Int32 × (Nat → Int32) × (Nat → Int32) × (Nat → Int32)) => post u.2.2.2.1 u.2.2.2.2.1 u.2.2.2.2.2.1 u.2.2.2.2.2.2) := by
  refine startV (cc := cX4_init) (maxL := 2) (by decide +kernel) rfl (Nat.le_of_ble_eq_true rfl) ?_
  intro p e s m args below meth c Q ls A C0 hP hD hS hl hret
  obtain ⟨hx, hb, hml, hown, hts, hnw, hK, hA, hin⟩ := C0
  have hown : s.vm.findClass RX4 = some m.cls := hown
  have hl : lv_has ls 2 [(0, .ref h_t)] := hl
  refine lv_aload_n hx hb dX4_init_0 rfl (lv_at hl 0 rfl) ?_
  refine W.objInit hx hb hown (hts _ (List.mem_cons_of_mem _ mw_1_93)) (hts _ (List.mem_cons_of_mem _ mw_1_22)) (hts _ (List.mem_cons_of_mem _ mw_1_23)) rfl (by rw [hml]; exact hl.1) rfl dX4_init_1 (Nat.le_of_ble_eq_true rfl) (Nat.le_of_ble_eq_true rfl) ?_
  refine W.eq (g2 := F0 m 4 ls []) rfl ?_
  refine lv_aload_n hx hb dX4_init_4 rfl (lv_at hl 0 rfl) ?_
  refine lv_bipush (v := 12) hx hb dX4_init_5 (by decide) ?_
  refine g_newI (N9 := 12) hx hb (hts _ (List.mem_cons_of_mem _ mw_1_37)) hK hP hD hS hA (by decide) (by decide) (by decide) (Nat.le_of_ble_eq_true rfl) (Nat.le_of_ble_eq_true rfl) dX4_init_7 (fun h_t_places H hP hD hS => ?_)
  have hP : va_P G vwCl [(h_t, .inr (4, [.null, .null, .null, .int 0])), (h_t_places, .inl (cI, 12, .inl (fun _ => 0)))] H := hP
  have hD : va_D A [(h_t, .inr (4, [.null, .null, .null, .int 0])), (h_t_places, .inl (cI, 12, .inl (fun _ => 0)))] := hD
  refine W.widen (k := 1) (n := 12) (Nat.le_of_ble_eq_true rfl) (Nat.le_of_ble_eq_true rfl) ?_
  refine va_putF (D := G) (ci := 4) (v := .ref h_t_places) (ty := .array .int) (C := RX4) (T := TX4) (N := 4) hx hb hts (fun w h => List.mem_cons_of_mem _ (inG_4 w h)) tyX4 tyX4_ok nmX4 hown hK hP hD hS 0 rfl rfl 0 (by decide) (hts _ (List.mem_cons_of_mem _ mw_1_94)) (fun _ h9 => h9) rfl hin rfl (by decide +kernel) rfl rfl (Nat.le_of_ble_eq_true rfl) dX4_init_9 (fun H locs hP hD hS => ?_)
  have hP : va_P G vwCl [(h_t, .inr (4, [.ref h_t_places, .null, .null, .int 0])), (h_t_places, .inl (cI, 12, .inl (fun _ => 0)))] H := hP
  have hD : va_D A [(h_t, .inr (4, [.ref h_t_places, .null, .null, .int 0])), (h_t_places, .inl (cI, 12, .inl (fun _ => 0)))] := hD
  refine lv_aload_n hx hb dX4_init_12 rfl (lv_at hl 0 rfl) ?_
  refine lv_iconst (v := 4) hx hb dX4_init_13 (by decide) ?_
  refine g_newI (N9 := 4) hx hb (hts _ (List.mem_cons_of_mem _ mw_1_37)) hK hP hD hS hA (by decide) (by decide) (by decide) (Nat.le_of_ble_eq_true rfl) (Nat.le_of_ble_eq_true rfl) dX4_init_14 (fun h_t_strengths H hP hD hS => ?_)
  have hP : va_P G vwCl [(h_t, .inr (4, [.ref h_t_places, .null, .null, .int 0])), (h_t_places, .inl (cI, 12, .inl (fun _ => 0))), (h_t_strengths, .inl (cI, 4, .inl (fun _ => 0)))] H := hP
  have hD : va_D A [(h_t, .inr (4, [.ref h_t_places, .null, .null, .int 0])), (h_t_places, .inl (cI, 12, .inl (fun _ => 0))), (h_t_strengths, .inl (cI, 4, .inl (fun _ => 0)))] := hD
  refine W.widen (k := 2) (n := 16) (Nat.le_of_ble_eq_true rfl) (Nat.le_of_ble_eq_true rfl) ?_
  refine va_putF (D := G) (ci := 4) (v := .ref h_t_strengths) (ty := .array .int) (C := RX4) (T := TX4) (N := 4) hx hb hts (fun w h => List.mem_cons_of_mem _ (inG_4 w h)) tyX4 tyX4_ok nmX4 hown hK hP hD hS 0 rfl rfl 1 (by decide) (hts _ (List.mem_cons_of_mem _ mw_1_95)) (fun _ h9 => h9) rfl hin rfl (by decide +kernel) rfl rfl (Nat.le_of_ble_eq_true rfl) dX4_init_16 (fun H locs hP hD hS => ?_)
  have hP : va_P G vwCl [(h_t, .inr (4, [.ref h_t_places, .ref h_t_strengths, .null, .int 0])), (h_t_places, .inl (cI, 12, .inl (fun _ => 0))), (h_t_strengths, .inl (cI, 4, .inl (fun _ => 0)))] H := hP
  have hD : va_D A [(h_t, .inr (4, [.ref h_t_places, .ref h_t_strengths, .null, .int 0])), (h_t_places, .inl (cI, 12, .inl (fun _ => 0))), (h_t_strengths, .inl (cI, 4, .inl (fun _ => 0)))] := hD
  refine lv_aload_n hx hb dX4_init_19 rfl (lv_at hl 0 rfl) ?_
  refine lv_bipush (v := 16) hx hb dX4_init_20 (by decide) ?_
  refine g_newI (N9 := 16) hx hb (hts _ (List.mem_cons_of_mem _ mw_1_37)) hK hP hD hS hA (by decide) (by decide) (by decide) (Nat.le_of_ble_eq_true rfl) (Nat.le_of_ble_eq_true rfl) dX4_init_22 (fun h_t_values H hP hD hS => ?_)
  have hP : va_P G vwCl [(h_t, .inr (4, [.ref h_t_places, .ref h_t_strengths, .null, .int 0])), (h_t_places, .inl (cI, 12, .inl (fun _ => 0))), (h_t_strengths, .inl (cI, 4, .inl (fun _ => 0))), (h_t_values, .inl (cI, 16, .inl (fun _ => 0)))] H := hP
  have hD : va_D A [(h_t, .inr (4, [.ref h_t_places, .ref h_t_strengths, .null, .int 0])), (h_t_places, .inl (cI, 12, .inl (fun _ => 0))), (h_t_strengths, .inl (cI, 4, .inl (fun _ => 0))), (h_t_values, .inl (cI, 16, .inl (fun _ => 0)))] := hD
  refine W.widen (k := 3) (n := 32) (Nat.le_of_ble_eq_true rfl) (Nat.le_of_ble_eq_true rfl) ?_
  refine va_putF (D := G) (ci := 4) (v := .ref h_t_values) (ty := .array .int) (C := RX4) (T := TX4) (N := 4) hx hb hts (fun w h => List.mem_cons_of_mem _ (inG_4 w h)) tyX4 tyX4_ok nmX4 hown hK hP hD hS 0 rfl rfl 2 (by decide) (hts _ (List.mem_cons_of_mem _ mw_1_96)) (fun _ h9 => h9) rfl hin rfl (by decide +kernel) rfl rfl (Nat.le_of_ble_eq_true rfl) dX4_init_24 (fun H locs hP hD hS => ?_)
  have hP : va_P G vwCl [(h_t, .inr (4, [.ref h_t_places, .ref h_t_strengths, .ref h_t_values, .int 0])), (h_t_places, .inl (cI, 12, .inl (fun _ => 0))), (h_t_strengths, .inl (cI, 4, .inl (fun _ => 0))), (h_t_values, .inl (cI, 16, .inl (fun _ => 0)))] H := hP
  have hD : va_D A [(h_t, .inr (4, [.ref h_t_places, .ref h_t_strengths, .ref h_t_values, .int 0])), (h_t_places, .inl (cI, 12, .inl (fun _ => 0))), (h_t_strengths, .inl (cI, 4, .inl (fun _ => 0))), (h_t_values, .inl (cI, 16, .inl (fun _ => 0)))] := hD
  refine lv_aload_n hx hb dX4_init_27 rfl (lv_at hl 0 rfl) ?_
  refine lv_iconst (v := 0) hx hb dX4_init_28 (by decide) ?_
  refine va_put (D := G) (ci := 4) (v := .int 0) (ty := .int) (C := RX4) (T := TX4) (N := 4) hx hb hts (fun w h => List.mem_cons_of_mem _ (inG_4 w h)) tyX4 tyX4_ok nmX4 hown hK hP hD hS 0 rfl rfl 3 (by decide) (hts _ (List.mem_cons_of_mem _ mw_1_97)) (fun _ h9 => h9) rfl (by decide +kernel) rfl rfl (Nat.le_of_ble_eq_true rfl) dX4_init_29 (fun H locs hP hD hS => ?_)
  have hP : va_P G vwCl [(h_t, .inr (4, [.ref h_t_places, .ref h_t_strengths, .ref h_t_values, .int 0])), (h_t_places, .inl (cI, 12, .inl (fun _ => 0))), (h_t_strengths, .inl (cI, 4, .inl (fun _ => 0))), (h_t_values, .inl (cI, 16, .inl (fun _ => 0)))] H := hP
  have hD : va_D A [(h_t, .inr (4, [.ref h_t_places, .ref h_t_strengths, .ref h_t_values, .int 0])), (h_t_places, .inl (cI, 12, .inl (fun _ => 0))), (h_t_strengths, .inl (cI, 4, .inl (fun _ => 0))), (h_t_values, .inl (cI, 16, .inl (fun _ => 0)))] := hD
  refine lv_iconst (v := 0) hx hb dX4_init_32 (by decide) ?_
  refine lv_istore_n (lv' := [(1, .int 0), (0, .ref h_t)]) hx hb dX4_init_33 rfl hl (by decide) rfl (fun ls hl => ?_)
  have k_34 : ∀ (n_34 : Nat) (l1 : Int32) (v_t_ambient : Int32) (v_t_places : Nat → Int32) (v_t_strengths : Nat → Int32) (v_t_values : Nat → Int32), L_X4_init_34 post n_34 l1 v_t_ambient v_t_places v_t_strengths v_t_values → ∀ (H : Heap) (locs : List Loc) (ls : Array Slot), va_P G vwCl [(h_t, .inr (4, [.ref h_t_places, .ref h_t_strengths, .ref h_t_values, .int v_t_ambient])), (h_t_places, .inl (cI, 12, .inl v_t_places)), (h_t_strengths, .inl (cI, 4, .inl v_t_strengths)), (h_t_values, .inl (cI, 16, .inl v_t_values))] H → va_D A [(h_t, .inr (4, [.ref h_t_places, .ref h_t_strengths, .ref h_t_values, .int v_t_ambient])), (h_t_places, .inl (cI, 12, .inl v_t_places)), (h_t_strengths, .inl (cI, 4, .inl v_t_strengths)), (h_t_values, .inl (cI, 16, .inl v_t_values))] → va_S A s.heap H locs → lv_has ls 2 [(0, .ref h_t), (1, .int l1)] → W p l e rm_X4_init s m args below meth c H locs 3 32 Q (F0 m 34 ls []) := by
    intro n_34
    induction n_34 with
    | zero =>
      intro l1 v_t_ambient v_t_places v_t_strengths v_t_values hF
      exact (show False from hF).elim
    | succ n_34 k_34 =>
      intro l1 v_t_ambient v_t_places v_t_strengths v_t_values hF H locs ls hP hD hS hl
      refine lv_iload_n hx hb dX4_init_34 rfl (lv_at hl 1 rfl) ?_
      refine lv_bipush (v := 16) hx hb dX4_init_35 (by decide) ?_
      refine lv_icmp_ge (tgt := 56) hx hb dX4_init_37 (by decide) (fun c1 => ?_) (fun c1 => ?_)
      · have hF := hF.1 c1
        refine W.widen (k := 3) (n := 32) (Nat.le_of_ble_eq_true rfl) (Nat.le_of_ble_eq_true rfl) ?_
        exact hret 56 ls _ _ (h_t_places, h_t_strengths, h_t_values, v_t_ambient, v_t_places, v_t_strengths, v_t_values) dX4_init_56  hF hP hD hS
      · have hF := hF.2 c1
        refine lv_aload_n hx hb dX4_init_40 rfl (lv_at hl 0 rfl) ?_
        refine va_get (D := G) (ci := 4) (v := .ref h_t_values) (C := RX4) (T := TX4) (N := 4) hx hb hts (fun w h => List.mem_cons_of_mem _ (inG_4 w h)) hown hK hP 0 rfl rfl 2 (by decide) (hts _ (List.mem_cons_of_mem _ mw_1_96)) (fun _ h9 => h9) rfl dX4_init_41 ?_
        refine lv_iload_n hx hb dX4_init_44 rfl (lv_at hl 1 rfl) ?_
        refine lv_bipush (v := 17) hx hb dX4_init_45 (by decide) ?_
        refine lv_iload_n hx hb dX4_init_47 rfl (lv_at hl 1 rfl) ?_
        refine lv_imul hx hb dX4_init_48 ?_
        obtain ⟨b2, hF⟩ := hF
        refine g_iast (t0 := 0) hx hb hK hP hD hS 3 rfl rfl b2 dX4_init_49 (fun g3 H locs eg3 hP hD hS => ?_)
        have hF := hF g3 eg3
        have hP : va_P G vwCl [(h_t, .inr (4, [.ref h_t_places, .ref h_t_strengths, .ref h_t_values, .int v_t_ambient])), (h_t_places, .inl (cI, 12, .inl v_t_places)), (h_t_strengths, .inl (cI, 4, .inl v_t_strengths)), (h_t_values, .inl (cI, 16, .inl g3))] H := hP
        have hD : va_D A [(h_t, .inr (4, [.ref h_t_places, .ref h_t_strengths, .ref h_t_values, .int v_t_ambient])), (h_t_places, .inl (cI, 12, .inl v_t_places)), (h_t_strengths, .inl (cI, 4, .inl v_t_strengths)), (h_t_values, .inl (cI, 16, .inl g3))] := hD
        obtain ⟨x4, ex4⟩ : ∃ z : Int32, z = (l1 + 1) := ⟨_, rfl⟩
        have hF := hF x4 ex4
        refine lv_iinc (v := x4) (lv' := [(1, .int x4), (0, .ref h_t)]) hx hb dX4_init_50 hl (k := 1) rfl (by rw [ex4]; rfl) (by decide) rfl (fun ls hl => ?_)
        refine lv_goto (tgt := 34) hx hb dX4_init_53 (by decide) ?_
        exact k_34 x4 v_t_ambient v_t_places v_t_strengths g3 hF _ _ ls hP hD hS (lv_sub hl [1, 0] rfl)
  obtain ⟨n0, hF⟩ := hF
  exact k_34 n0 0 0 (fun _ => 0) (fun _ => 0) (fun _ => 0) hF _ _ ls hP hD hS (lv_sub hl [1, 0] rfl)

def rm_X9_init : Room := { frames := 1, cells := 8, slots := 3188, locals := 24 }
def F_X9_init (post : Int32 → Int32 → (Nat → Int32) → (Nat → Int32) → (Nat → Int32) → (Nat → Int32) → (Nat → Int32) → (Nat → Int32) → (Nat → Int32) → (Nat → Int32) → Prop) : Prop := post 0 0 (fun _ => 0) (fun _ => 0) (fun _ => 0) (fun _ => 0) (fun _ => 0) (fun _ => 0) (fun _ => 0) (fun _ => 0)
set_option maxHeartbeats 8000000 in
set_option maxRecDepth 100000 in
theorem c_X9_init (l : Launch) (G : va_G) (cI cL cZ : ClassId) (h_t : Nat) (sz : Nat) (post : Int32 → Int32 → (Nat → Int32) → (Nat → Int32) → (Nat → Int32) → (Nat → Int32) → (Nat → Int32) → (Nat → Int32) → (Nat → Int32) → (Nat → Int32) → Prop) (hF : F_X9_init post) : MetV l G (gT cI cL cZ) yX9_init (gW yX9_init cX9_init 1 none) rm_X9_init 8 3188 [.ref h_t] sz [(h_t, .inr (9, [.null, .null, .null, .null, .null, .null, .null, .null, .int 0, .int 0]))] (fun (u : Nat × Nat × Nat × Nat × Nat × Nat × Nat × Nat × Int32 × Int32 × (Nat → Int32) × (Nat → Int32) × (Nat → Int32) × (Nat → Int32) × (Nat → Int32) × (Nat → Int32) × (Nat → Int32) × (Nat → Int32)) => [(h_t, .inr (9, [.ref u.1, .ref u.2.1, .ref u.2.2.1, .ref u.2.2.2.1, .ref u.2.2.2.2.1, .ref u.2.2.2.2.2.1, .ref u.2.2.2.2.2.2.1, .ref u.2.2.2.2.2.2.2.1, .int u.2.2.2.2.2.2.2.2.1, .int u.2.2.2.2.2.2.2.2.2.1])), (u.1, .inl (cI, 128, .inl u.2.2.2.2.2.2.2.2.2.2.1)), (u.2.1, .inl (cI, 255, .inl u.2.2.2.2.2.2.2.2.2.2.2.1)), (u.2.2.1, .inl (cI, 255, .inl u.2.2.2.2.2.2.2.2.2.2.2.2.1)), (u.2.2.2.1, .inl (cI, 255, .inl u.2.2.2.2.2.2.2.2.2.2.2.2.2.1)), (u.2.2.2.2.1, .inl (cI, 255, .inl u.2.2.2.2.2.2.2.2.2.2.2.2.2.2.1)), (u.2.2.2.2.2.1, .inl (cI, 255, .inl u.2.2.2.2.2.2.2.2.2.2.2.2.2.2.2.1)), (u.2.2.2.2.2.2.1, .inl (cI, 1530, .inl u.2.2.2.2.2.2.2.2.2.2.2.2.2.2.2.2.1)), (u.2.2.2.2.2.2.2.1, .inl (cZ, 255, .inl u.2.2.2.2.2.2.2.2.2.2.2.2.2.2.2.2.2))]) (fun (u : Nat × Nat × Nat × Nat × Nat × Nat × Nat × Nat × Int32 × Int32 × (Nat → Int32) × (Nat → Int32) × (Nat → Int32) × (Nat → Int32) × (Nat → Int32) × (Nat → Int32) × (Nat → Int32) × (Nat → Int32)) => post u.2.2.2.2.2.2.2.2.1 u.2.2.2.2.2.2.2.2.2.1 u.2.2.2.2.2.2.2.2.2.2.1 u.2.2.2.2.2.2.2.2.2.2.2.1 u.2.2.2.2.2.2.2.2.2.2.2.2.1 u.2.2.2.2.2.2.2.2.2.2.2.2.2.1 u.2.2.2.2.2.2.2.2.2.2.2.2.2.2.1 u.2.2.2.2.2.2.2.2.2.2.2.2.2.2.2.1 u.2.2.2.2.2.2.2.2.2.2.2.2.2.2.2.2.1 u.2.2.2.2.2.2.2.2.2.2.2.2.2.2.2.2.2) := by
  refine startV (cc := cX9_init) (maxL := 1) (by decide +kernel) rfl (Nat.le_of_ble_eq_true rfl) ?_
  intro p e s m args below meth c Q ls A C0 hP hD hS hl hret
  obtain ⟨hx, hb, hml, hown, hts, hnw, hK, hA, hin⟩ := C0
  have hown : s.vm.findClass RX9 = some m.cls := hown
  have hl : lv_has ls 1 [(0, .ref h_t)] := hl
  refine lv_aload_n hx hb dX9_init_0 rfl (lv_at hl 0 rfl) ?_
  refine W.objInit hx hb hown (hts _ (List.mem_cons_of_mem _ mw_1_112)) (hts _ (List.mem_cons_of_mem _ mw_1_22)) (hts _ (List.mem_cons_of_mem _ mw_1_23)) rfl (by rw [hml]; exact hl.1) rfl dX9_init_1 (Nat.le_of_ble_eq_true rfl) (Nat.le_of_ble_eq_true rfl) ?_
  refine W.eq (g2 := F0 m 4 ls []) rfl ?_
  refine lv_aload_n hx hb dX9_init_4 rfl (lv_at hl 0 rfl) ?_
  refine lv_sipush (v := 128) hx hb dX9_init_5 (by decide) ?_
  refine g_newI (N9 := 128) hx hb (hts _ (List.mem_cons_of_mem _ mw_1_37)) hK hP hD hS hA (by decide) (by decide) (by decide) (Nat.le_of_ble_eq_true rfl) (Nat.le_of_ble_eq_true rfl) dX9_init_8 (fun h_t_order H hP hD hS => ?_)
  have hP : va_P G vwCl [(h_t, .inr (9, [.null, .null, .null, .null, .null, .null, .null, .null, .int 0, .int 0])), (h_t_order, .inl (cI, 128, .inl (fun _ => 0)))] H := hP
  have hD : va_D A [(h_t, .inr (9, [.null, .null, .null, .null, .null, .null, .null, .null, .int 0, .int 0])), (h_t_order, .inl (cI, 128, .inl (fun _ => 0)))] := hD
  refine W.widen (k := 1) (n := 128) (Nat.le_of_ble_eq_true rfl) (Nat.le_of_ble_eq_true rfl) ?_
  refine va_putF (D := G) (ci := 9) (v := .ref h_t_order) (ty := .array .int) (C := RX9) (T := TX9) (N := 10) hx hb hts (fun w h => List.mem_cons_of_mem _ (inG_9 w h)) tyX9 tyX9_ok nmX9 hown hK hP hD hS 0 rfl rfl 0 (by decide) (hts _ (List.mem_cons_of_mem _ mw_1_113)) (fun _ h9 => h9) rfl hin rfl (by decide +kernel) rfl rfl (Nat.le_of_ble_eq_true rfl) dX9_init_10 (fun H locs hP hD hS => ?_)
  have hP : va_P G vwCl [(h_t, .inr (9, [.ref h_t_order, .null, .null, .null, .null, .null, .null, .null, .int 0, .int 0])), (h_t_order, .inl (cI, 128, .inl (fun _ => 0)))] H := hP
  have hD : va_D A [(h_t, .inr (9, [.ref h_t_order, .null, .null, .null, .null, .null, .null, .null, .int 0, .int 0])), (h_t_order, .inl (cI, 128, .inl (fun _ => 0)))] := hD
  refine lv_aload_n hx hb dX9_init_13 rfl (lv_at hl 0 rfl) ?_
  refine lv_sipush (v := 255) hx hb dX9_init_14 (by decide) ?_
  refine g_newI (N9 := 255) hx hb (hts _ (List.mem_cons_of_mem _ mw_1_37)) hK hP hD hS hA (by decide) (by decide) (by decide) (Nat.le_of_ble_eq_true rfl) (Nat.le_of_ble_eq_true rfl) dX9_init_17 (fun h_t_first H hP hD hS => ?_)
  have hP : va_P G vwCl [(h_t, .inr (9, [.ref h_t_order, .null, .null, .null, .null, .null, .null, .null, .int 0, .int 0])), (h_t_order, .inl (cI, 128, .inl (fun _ => 0))), (h_t_first, .inl (cI, 255, .inl (fun _ => 0)))] H := hP
  have hD : va_D A [(h_t, .inr (9, [.ref h_t_order, .null, .null, .null, .null, .null, .null, .null, .int 0, .int 0])), (h_t_order, .inl (cI, 128, .inl (fun _ => 0))), (h_t_first, .inl (cI, 255, .inl (fun _ => 0)))] := hD
  refine W.widen (k := 2) (n := 383) (Nat.le_of_ble_eq_true rfl) (Nat.le_of_ble_eq_true rfl) ?_
  refine va_putF (D := G) (ci := 9) (v := .ref h_t_first) (ty := .array .int) (C := RX9) (T := TX9) (N := 10) hx hb hts (fun w h => List.mem_cons_of_mem _ (inG_9 w h)) tyX9 tyX9_ok nmX9 hown hK hP hD hS 0 rfl rfl 1 (by decide) (hts _ (List.mem_cons_of_mem _ mw_1_114)) (fun _ h9 => h9) rfl hin rfl (by decide +kernel) rfl rfl (Nat.le_of_ble_eq_true rfl) dX9_init_19 (fun H locs hP hD hS => ?_)
  have hP : va_P G vwCl [(h_t, .inr (9, [.ref h_t_order, .ref h_t_first, .null, .null, .null, .null, .null, .null, .int 0, .int 0])), (h_t_order, .inl (cI, 128, .inl (fun _ => 0))), (h_t_first, .inl (cI, 255, .inl (fun _ => 0)))] H := hP
  have hD : va_D A [(h_t, .inr (9, [.ref h_t_order, .ref h_t_first, .null, .null, .null, .null, .null, .null, .int 0, .int 0])), (h_t_order, .inl (cI, 128, .inl (fun _ => 0))), (h_t_first, .inl (cI, 255, .inl (fun _ => 0)))] := hD
  refine lv_aload_n hx hb dX9_init_22 rfl (lv_at hl 0 rfl) ?_
  refine lv_sipush (v := 255) hx hb dX9_init_23 (by decide) ?_
  refine g_newI (N9 := 255) hx hb (hts _ (List.mem_cons_of_mem _ mw_1_37)) hK hP hD hS hA (by decide) (by decide) (by decide) (Nat.le_of_ble_eq_true rfl) (Nat.le_of_ble_eq_true rfl) dX9_init_26 (fun h_t_many H hP hD hS => ?_)
  have hP : va_P G vwCl [(h_t, .inr (9, [.ref h_t_order, .ref h_t_first, .null, .null, .null, .null, .null, .null, .int 0, .int 0])), (h_t_order, .inl (cI, 128, .inl (fun _ => 0))), (h_t_first, .inl (cI, 255, .inl (fun _ => 0))), (h_t_many, .inl (cI, 255, .inl (fun _ => 0)))] H := hP
  have hD : va_D A [(h_t, .inr (9, [.ref h_t_order, .ref h_t_first, .null, .null, .null, .null, .null, .null, .int 0, .int 0])), (h_t_order, .inl (cI, 128, .inl (fun _ => 0))), (h_t_first, .inl (cI, 255, .inl (fun _ => 0))), (h_t_many, .inl (cI, 255, .inl (fun _ => 0)))] := hD
  refine W.widen (k := 3) (n := 638) (Nat.le_of_ble_eq_true rfl) (Nat.le_of_ble_eq_true rfl) ?_
  refine va_putF (D := G) (ci := 9) (v := .ref h_t_many) (ty := .array .int) (C := RX9) (T := TX9) (N := 10) hx hb hts (fun w h => List.mem_cons_of_mem _ (inG_9 w h)) tyX9 tyX9_ok nmX9 hown hK hP hD hS 0 rfl rfl 2 (by decide) (hts _ (List.mem_cons_of_mem _ mw_1_115)) (fun _ h9 => h9) rfl hin rfl (by decide +kernel) rfl rfl (Nat.le_of_ble_eq_true rfl) dX9_init_28 (fun H locs hP hD hS => ?_)
  have hP : va_P G vwCl [(h_t, .inr (9, [.ref h_t_order, .ref h_t_first, .ref h_t_many, .null, .null, .null, .null, .null, .int 0, .int 0])), (h_t_order, .inl (cI, 128, .inl (fun _ => 0))), (h_t_first, .inl (cI, 255, .inl (fun _ => 0))), (h_t_many, .inl (cI, 255, .inl (fun _ => 0)))] H := hP
  have hD : va_D A [(h_t, .inr (9, [.ref h_t_order, .ref h_t_first, .ref h_t_many, .null, .null, .null, .null, .null, .int 0, .int 0])), (h_t_order, .inl (cI, 128, .inl (fun _ => 0))), (h_t_first, .inl (cI, 255, .inl (fun _ => 0))), (h_t_many, .inl (cI, 255, .inl (fun _ => 0)))] := hD
  refine lv_aload_n hx hb dX9_init_31 rfl (lv_at hl 0 rfl) ?_
  refine lv_sipush (v := 255) hx hb dX9_init_32 (by decide) ?_
  refine g_newI (N9 := 255) hx hb (hts _ (List.mem_cons_of_mem _ mw_1_37)) hK hP hD hS hA (by decide) (by decide) (by decide) (Nat.le_of_ble_eq_true rfl) (Nat.le_of_ble_eq_true rfl) dX9_init_35 (fun h_t_lower H hP hD hS => ?_)
  have hP : va_P G vwCl [(h_t, .inr (9, [.ref h_t_order, .ref h_t_first, .ref h_t_many, .null, .null, .null, .null, .null, .int 0, .int 0])), (h_t_order, .inl (cI, 128, .inl (fun _ => 0))), (h_t_first, .inl (cI, 255, .inl (fun _ => 0))), (h_t_many, .inl (cI, 255, .inl (fun _ => 0))), (h_t_lower, .inl (cI, 255, .inl (fun _ => 0)))] H := hP
  have hD : va_D A [(h_t, .inr (9, [.ref h_t_order, .ref h_t_first, .ref h_t_many, .null, .null, .null, .null, .null, .int 0, .int 0])), (h_t_order, .inl (cI, 128, .inl (fun _ => 0))), (h_t_first, .inl (cI, 255, .inl (fun _ => 0))), (h_t_many, .inl (cI, 255, .inl (fun _ => 0))), (h_t_lower, .inl (cI, 255, .inl (fun _ => 0)))] := hD
  refine W.widen (k := 4) (n := 893) (Nat.le_of_ble_eq_true rfl) (Nat.le_of_ble_eq_true rfl) ?_
  refine va_putF (D := G) (ci := 9) (v := .ref h_t_lower) (ty := .array .int) (C := RX9) (T := TX9) (N := 10) hx hb hts (fun w h => List.mem_cons_of_mem _ (inG_9 w h)) tyX9 tyX9_ok nmX9 hown hK hP hD hS 0 rfl rfl 3 (by decide) (hts _ (List.mem_cons_of_mem _ mw_1_116)) (fun _ h9 => h9) rfl hin rfl (by decide +kernel) rfl rfl (Nat.le_of_ble_eq_true rfl) dX9_init_37 (fun H locs hP hD hS => ?_)
  have hP : va_P G vwCl [(h_t, .inr (9, [.ref h_t_order, .ref h_t_first, .ref h_t_many, .ref h_t_lower, .null, .null, .null, .null, .int 0, .int 0])), (h_t_order, .inl (cI, 128, .inl (fun _ => 0))), (h_t_first, .inl (cI, 255, .inl (fun _ => 0))), (h_t_many, .inl (cI, 255, .inl (fun _ => 0))), (h_t_lower, .inl (cI, 255, .inl (fun _ => 0)))] H := hP
  have hD : va_D A [(h_t, .inr (9, [.ref h_t_order, .ref h_t_first, .ref h_t_many, .ref h_t_lower, .null, .null, .null, .null, .int 0, .int 0])), (h_t_order, .inl (cI, 128, .inl (fun _ => 0))), (h_t_first, .inl (cI, 255, .inl (fun _ => 0))), (h_t_many, .inl (cI, 255, .inl (fun _ => 0))), (h_t_lower, .inl (cI, 255, .inl (fun _ => 0)))] := hD
  refine lv_aload_n hx hb dX9_init_40 rfl (lv_at hl 0 rfl) ?_
  refine lv_sipush (v := 255) hx hb dX9_init_41 (by decide) ?_
  refine g_newI (N9 := 255) hx hb (hts _ (List.mem_cons_of_mem _ mw_1_37)) hK hP hD hS hA (by decide) (by decide) (by decide) (Nat.le_of_ble_eq_true rfl) (Nat.le_of_ble_eq_true rfl) dX9_init_44 (fun h_t_upper H hP hD hS => ?_)
  have hP : va_P G vwCl [(h_t, .inr (9, [.ref h_t_order, .ref h_t_first, .ref h_t_many, .ref h_t_lower, .null, .null, .null, .null, .int 0, .int 0])), (h_t_order, .inl (cI, 128, .inl (fun _ => 0))), (h_t_first, .inl (cI, 255, .inl (fun _ => 0))), (h_t_many, .inl (cI, 255, .inl (fun _ => 0))), (h_t_lower, .inl (cI, 255, .inl (fun _ => 0))), (h_t_upper, .inl (cI, 255, .inl (fun _ => 0)))] H := hP
  have hD : va_D A [(h_t, .inr (9, [.ref h_t_order, .ref h_t_first, .ref h_t_many, .ref h_t_lower, .null, .null, .null, .null, .int 0, .int 0])), (h_t_order, .inl (cI, 128, .inl (fun _ => 0))), (h_t_first, .inl (cI, 255, .inl (fun _ => 0))), (h_t_many, .inl (cI, 255, .inl (fun _ => 0))), (h_t_lower, .inl (cI, 255, .inl (fun _ => 0))), (h_t_upper, .inl (cI, 255, .inl (fun _ => 0)))] := hD
  refine W.widen (k := 5) (n := 1148) (Nat.le_of_ble_eq_true rfl) (Nat.le_of_ble_eq_true rfl) ?_
  refine va_putF (D := G) (ci := 9) (v := .ref h_t_upper) (ty := .array .int) (C := RX9) (T := TX9) (N := 10) hx hb hts (fun w h => List.mem_cons_of_mem _ (inG_9 w h)) tyX9 tyX9_ok nmX9 hown hK hP hD hS 0 rfl rfl 4 (by decide) (hts _ (List.mem_cons_of_mem _ mw_1_117)) (fun _ h9 => h9) rfl hin rfl (by decide +kernel) rfl rfl (Nat.le_of_ble_eq_true rfl) dX9_init_46 (fun H locs hP hD hS => ?_)
  have hP : va_P G vwCl [(h_t, .inr (9, [.ref h_t_order, .ref h_t_first, .ref h_t_many, .ref h_t_lower, .ref h_t_upper, .null, .null, .null, .int 0, .int 0])), (h_t_order, .inl (cI, 128, .inl (fun _ => 0))), (h_t_first, .inl (cI, 255, .inl (fun _ => 0))), (h_t_many, .inl (cI, 255, .inl (fun _ => 0))), (h_t_lower, .inl (cI, 255, .inl (fun _ => 0))), (h_t_upper, .inl (cI, 255, .inl (fun _ => 0)))] H := hP
  have hD : va_D A [(h_t, .inr (9, [.ref h_t_order, .ref h_t_first, .ref h_t_many, .ref h_t_lower, .ref h_t_upper, .null, .null, .null, .int 0, .int 0])), (h_t_order, .inl (cI, 128, .inl (fun _ => 0))), (h_t_first, .inl (cI, 255, .inl (fun _ => 0))), (h_t_many, .inl (cI, 255, .inl (fun _ => 0))), (h_t_lower, .inl (cI, 255, .inl (fun _ => 0))), (h_t_upper, .inl (cI, 255, .inl (fun _ => 0)))] := hD
  refine lv_aload_n hx hb dX9_init_49 rfl (lv_at hl 0 rfl) ?_
  refine lv_sipush (v := 255) hx hb dX9_init_50 (by decide) ?_
  refine g_newI (N9 := 255) hx hb (hts _ (List.mem_cons_of_mem _ mw_1_37)) hK hP hD hS hA (by decide) (by decide) (by decide) (Nat.le_of_ble_eq_true rfl) (Nat.le_of_ble_eq_true rfl) dX9_init_53 (fun h_t_above H hP hD hS => ?_)
  have hP : va_P G vwCl [(h_t, .inr (9, [.ref h_t_order, .ref h_t_first, .ref h_t_many, .ref h_t_lower, .ref h_t_upper, .null, .null, .null, .int 0, .int 0])), (h_t_order, .inl (cI, 128, .inl (fun _ => 0))), (h_t_first, .inl (cI, 255, .inl (fun _ => 0))), (h_t_many, .inl (cI, 255, .inl (fun _ => 0))), (h_t_lower, .inl (cI, 255, .inl (fun _ => 0))), (h_t_upper, .inl (cI, 255, .inl (fun _ => 0))), (h_t_above, .inl (cI, 255, .inl (fun _ => 0)))] H := hP
  have hD : va_D A [(h_t, .inr (9, [.ref h_t_order, .ref h_t_first, .ref h_t_many, .ref h_t_lower, .ref h_t_upper, .null, .null, .null, .int 0, .int 0])), (h_t_order, .inl (cI, 128, .inl (fun _ => 0))), (h_t_first, .inl (cI, 255, .inl (fun _ => 0))), (h_t_many, .inl (cI, 255, .inl (fun _ => 0))), (h_t_lower, .inl (cI, 255, .inl (fun _ => 0))), (h_t_upper, .inl (cI, 255, .inl (fun _ => 0))), (h_t_above, .inl (cI, 255, .inl (fun _ => 0)))] := hD
  refine W.widen (k := 6) (n := 1403) (Nat.le_of_ble_eq_true rfl) (Nat.le_of_ble_eq_true rfl) ?_
  refine va_putF (D := G) (ci := 9) (v := .ref h_t_above) (ty := .array .int) (C := RX9) (T := TX9) (N := 10) hx hb hts (fun w h => List.mem_cons_of_mem _ (inG_9 w h)) tyX9 tyX9_ok nmX9 hown hK hP hD hS 0 rfl rfl 5 (by decide) (hts _ (List.mem_cons_of_mem _ mw_1_118)) (fun _ h9 => h9) rfl hin rfl (by decide +kernel) rfl rfl (Nat.le_of_ble_eq_true rfl) dX9_init_55 (fun H locs hP hD hS => ?_)
  have hP : va_P G vwCl [(h_t, .inr (9, [.ref h_t_order, .ref h_t_first, .ref h_t_many, .ref h_t_lower, .ref h_t_upper, .ref h_t_above, .null, .null, .int 0, .int 0])), (h_t_order, .inl (cI, 128, .inl (fun _ => 0))), (h_t_first, .inl (cI, 255, .inl (fun _ => 0))), (h_t_many, .inl (cI, 255, .inl (fun _ => 0))), (h_t_lower, .inl (cI, 255, .inl (fun _ => 0))), (h_t_upper, .inl (cI, 255, .inl (fun _ => 0))), (h_t_above, .inl (cI, 255, .inl (fun _ => 0)))] H := hP
  have hD : va_D A [(h_t, .inr (9, [.ref h_t_order, .ref h_t_first, .ref h_t_many, .ref h_t_lower, .ref h_t_upper, .ref h_t_above, .null, .null, .int 0, .int 0])), (h_t_order, .inl (cI, 128, .inl (fun _ => 0))), (h_t_first, .inl (cI, 255, .inl (fun _ => 0))), (h_t_many, .inl (cI, 255, .inl (fun _ => 0))), (h_t_lower, .inl (cI, 255, .inl (fun _ => 0))), (h_t_upper, .inl (cI, 255, .inl (fun _ => 0))), (h_t_above, .inl (cI, 255, .inl (fun _ => 0)))] := hD
  refine lv_aload_n hx hb dX9_init_58 rfl (lv_at hl 0 rfl) ?_
  refine lv_sipush (v := 1530) hx hb dX9_init_59 (by decide) ?_
  refine g_newI (N9 := 1530) hx hb (hts _ (List.mem_cons_of_mem _ mw_1_37)) hK hP hD hS hA (by decide) (by decide) (by decide) (Nat.le_of_ble_eq_true rfl) (Nat.le_of_ble_eq_true rfl) dX9_init_62 (fun h_t_bounds H hP hD hS => ?_)
  have hP : va_P G vwCl [(h_t, .inr (9, [.ref h_t_order, .ref h_t_first, .ref h_t_many, .ref h_t_lower, .ref h_t_upper, .ref h_t_above, .null, .null, .int 0, .int 0])), (h_t_order, .inl (cI, 128, .inl (fun _ => 0))), (h_t_first, .inl (cI, 255, .inl (fun _ => 0))), (h_t_many, .inl (cI, 255, .inl (fun _ => 0))), (h_t_lower, .inl (cI, 255, .inl (fun _ => 0))), (h_t_upper, .inl (cI, 255, .inl (fun _ => 0))), (h_t_above, .inl (cI, 255, .inl (fun _ => 0))), (h_t_bounds, .inl (cI, 1530, .inl (fun _ => 0)))] H := hP
  have hD : va_D A [(h_t, .inr (9, [.ref h_t_order, .ref h_t_first, .ref h_t_many, .ref h_t_lower, .ref h_t_upper, .ref h_t_above, .null, .null, .int 0, .int 0])), (h_t_order, .inl (cI, 128, .inl (fun _ => 0))), (h_t_first, .inl (cI, 255, .inl (fun _ => 0))), (h_t_many, .inl (cI, 255, .inl (fun _ => 0))), (h_t_lower, .inl (cI, 255, .inl (fun _ => 0))), (h_t_upper, .inl (cI, 255, .inl (fun _ => 0))), (h_t_above, .inl (cI, 255, .inl (fun _ => 0))), (h_t_bounds, .inl (cI, 1530, .inl (fun _ => 0)))] := hD
  refine W.widen (k := 7) (n := 2933) (Nat.le_of_ble_eq_true rfl) (Nat.le_of_ble_eq_true rfl) ?_
  refine va_putF (D := G) (ci := 9) (v := .ref h_t_bounds) (ty := .array .int) (C := RX9) (T := TX9) (N := 10) hx hb hts (fun w h => List.mem_cons_of_mem _ (inG_9 w h)) tyX9 tyX9_ok nmX9 hown hK hP hD hS 0 rfl rfl 6 (by decide) (hts _ (List.mem_cons_of_mem _ mw_1_119)) (fun _ h9 => h9) rfl hin rfl (by decide +kernel) rfl rfl (Nat.le_of_ble_eq_true rfl) dX9_init_64 (fun H locs hP hD hS => ?_)
  have hP : va_P G vwCl [(h_t, .inr (9, [.ref h_t_order, .ref h_t_first, .ref h_t_many, .ref h_t_lower, .ref h_t_upper, .ref h_t_above, .ref h_t_bounds, .null, .int 0, .int 0])), (h_t_order, .inl (cI, 128, .inl (fun _ => 0))), (h_t_first, .inl (cI, 255, .inl (fun _ => 0))), (h_t_many, .inl (cI, 255, .inl (fun _ => 0))), (h_t_lower, .inl (cI, 255, .inl (fun _ => 0))), (h_t_upper, .inl (cI, 255, .inl (fun _ => 0))), (h_t_above, .inl (cI, 255, .inl (fun _ => 0))), (h_t_bounds, .inl (cI, 1530, .inl (fun _ => 0)))] H := hP
  have hD : va_D A [(h_t, .inr (9, [.ref h_t_order, .ref h_t_first, .ref h_t_many, .ref h_t_lower, .ref h_t_upper, .ref h_t_above, .ref h_t_bounds, .null, .int 0, .int 0])), (h_t_order, .inl (cI, 128, .inl (fun _ => 0))), (h_t_first, .inl (cI, 255, .inl (fun _ => 0))), (h_t_many, .inl (cI, 255, .inl (fun _ => 0))), (h_t_lower, .inl (cI, 255, .inl (fun _ => 0))), (h_t_upper, .inl (cI, 255, .inl (fun _ => 0))), (h_t_above, .inl (cI, 255, .inl (fun _ => 0))), (h_t_bounds, .inl (cI, 1530, .inl (fun _ => 0)))] := hD
  refine lv_aload_n hx hb dX9_init_67 rfl (lv_at hl 0 rfl) ?_
  refine lv_sipush (v := 255) hx hb dX9_init_68 (by decide) ?_
  refine g_newZ (N9 := 255) hx hb (hts _ (List.mem_cons_of_mem _ mw_1_144)) hK hP hD hS hA (by decide) (by decide) (by decide) (Nat.le_of_ble_eq_true rfl) (Nat.le_of_ble_eq_true rfl) dX9_init_71 (fun h_t_met H hP hD hS => ?_)
  have hP : va_P G vwCl [(h_t, .inr (9, [.ref h_t_order, .ref h_t_first, .ref h_t_many, .ref h_t_lower, .ref h_t_upper, .ref h_t_above, .ref h_t_bounds, .null, .int 0, .int 0])), (h_t_order, .inl (cI, 128, .inl (fun _ => 0))), (h_t_first, .inl (cI, 255, .inl (fun _ => 0))), (h_t_many, .inl (cI, 255, .inl (fun _ => 0))), (h_t_lower, .inl (cI, 255, .inl (fun _ => 0))), (h_t_upper, .inl (cI, 255, .inl (fun _ => 0))), (h_t_above, .inl (cI, 255, .inl (fun _ => 0))), (h_t_bounds, .inl (cI, 1530, .inl (fun _ => 0))), (h_t_met, .inl (cZ, 255, .inl (fun _ => 0)))] H := hP
  have hD : va_D A [(h_t, .inr (9, [.ref h_t_order, .ref h_t_first, .ref h_t_many, .ref h_t_lower, .ref h_t_upper, .ref h_t_above, .ref h_t_bounds, .null, .int 0, .int 0])), (h_t_order, .inl (cI, 128, .inl (fun _ => 0))), (h_t_first, .inl (cI, 255, .inl (fun _ => 0))), (h_t_many, .inl (cI, 255, .inl (fun _ => 0))), (h_t_lower, .inl (cI, 255, .inl (fun _ => 0))), (h_t_upper, .inl (cI, 255, .inl (fun _ => 0))), (h_t_above, .inl (cI, 255, .inl (fun _ => 0))), (h_t_bounds, .inl (cI, 1530, .inl (fun _ => 0))), (h_t_met, .inl (cZ, 255, .inl (fun _ => 0)))] := hD
  refine W.widen (k := 8) (n := 3188) (Nat.le_of_ble_eq_true rfl) (Nat.le_of_ble_eq_true rfl) ?_
  refine va_putF (D := G) (ci := 9) (v := .ref h_t_met) (ty := .array .boolean) (C := RX9) (T := TX9) (N := 10) hx hb hts (fun w h => List.mem_cons_of_mem _ (inG_9 w h)) tyX9 tyX9_ok nmX9 hown hK hP hD hS 0 rfl rfl 7 (by decide) (hts _ (List.mem_cons_of_mem _ mw_1_120)) (fun _ h9 => h9) rfl hin rfl (by decide +kernel) rfl rfl (Nat.le_of_ble_eq_true rfl) dX9_init_73 (fun H locs hP hD hS => ?_)
  have hP : va_P G vwCl [(h_t, .inr (9, [.ref h_t_order, .ref h_t_first, .ref h_t_many, .ref h_t_lower, .ref h_t_upper, .ref h_t_above, .ref h_t_bounds, .ref h_t_met, .int 0, .int 0])), (h_t_order, .inl (cI, 128, .inl (fun _ => 0))), (h_t_first, .inl (cI, 255, .inl (fun _ => 0))), (h_t_many, .inl (cI, 255, .inl (fun _ => 0))), (h_t_lower, .inl (cI, 255, .inl (fun _ => 0))), (h_t_upper, .inl (cI, 255, .inl (fun _ => 0))), (h_t_above, .inl (cI, 255, .inl (fun _ => 0))), (h_t_bounds, .inl (cI, 1530, .inl (fun _ => 0))), (h_t_met, .inl (cZ, 255, .inl (fun _ => 0)))] H := hP
  have hD : va_D A [(h_t, .inr (9, [.ref h_t_order, .ref h_t_first, .ref h_t_many, .ref h_t_lower, .ref h_t_upper, .ref h_t_above, .ref h_t_bounds, .ref h_t_met, .int 0, .int 0])), (h_t_order, .inl (cI, 128, .inl (fun _ => 0))), (h_t_first, .inl (cI, 255, .inl (fun _ => 0))), (h_t_many, .inl (cI, 255, .inl (fun _ => 0))), (h_t_lower, .inl (cI, 255, .inl (fun _ => 0))), (h_t_upper, .inl (cI, 255, .inl (fun _ => 0))), (h_t_above, .inl (cI, 255, .inl (fun _ => 0))), (h_t_bounds, .inl (cI, 1530, .inl (fun _ => 0))), (h_t_met, .inl (cZ, 255, .inl (fun _ => 0)))] := hD
  refine lv_aload_n hx hb dX9_init_76 rfl (lv_at hl 0 rfl) ?_
  refine lv_iconst (v := 0) hx hb dX9_init_77 (by decide) ?_
  refine va_put (D := G) (ci := 9) (v := .int 0) (ty := .int) (C := RX9) (T := TX9) (N := 10) hx hb hts (fun w h => List.mem_cons_of_mem _ (inG_9 w h)) tyX9 tyX9_ok nmX9 hown hK hP hD hS 0 rfl rfl 8 (by decide) (hts _ (List.mem_cons_of_mem _ mw_1_121)) (fun _ h9 => h9) rfl (by decide +kernel) rfl rfl (Nat.le_of_ble_eq_true rfl) dX9_init_78 (fun H locs hP hD hS => ?_)
  have hP : va_P G vwCl [(h_t, .inr (9, [.ref h_t_order, .ref h_t_first, .ref h_t_many, .ref h_t_lower, .ref h_t_upper, .ref h_t_above, .ref h_t_bounds, .ref h_t_met, .int 0, .int 0])), (h_t_order, .inl (cI, 128, .inl (fun _ => 0))), (h_t_first, .inl (cI, 255, .inl (fun _ => 0))), (h_t_many, .inl (cI, 255, .inl (fun _ => 0))), (h_t_lower, .inl (cI, 255, .inl (fun _ => 0))), (h_t_upper, .inl (cI, 255, .inl (fun _ => 0))), (h_t_above, .inl (cI, 255, .inl (fun _ => 0))), (h_t_bounds, .inl (cI, 1530, .inl (fun _ => 0))), (h_t_met, .inl (cZ, 255, .inl (fun _ => 0)))] H := hP
  have hD : va_D A [(h_t, .inr (9, [.ref h_t_order, .ref h_t_first, .ref h_t_many, .ref h_t_lower, .ref h_t_upper, .ref h_t_above, .ref h_t_bounds, .ref h_t_met, .int 0, .int 0])), (h_t_order, .inl (cI, 128, .inl (fun _ => 0))), (h_t_first, .inl (cI, 255, .inl (fun _ => 0))), (h_t_many, .inl (cI, 255, .inl (fun _ => 0))), (h_t_lower, .inl (cI, 255, .inl (fun _ => 0))), (h_t_upper, .inl (cI, 255, .inl (fun _ => 0))), (h_t_above, .inl (cI, 255, .inl (fun _ => 0))), (h_t_bounds, .inl (cI, 1530, .inl (fun _ => 0))), (h_t_met, .inl (cZ, 255, .inl (fun _ => 0)))] := hD
  refine lv_aload_n hx hb dX9_init_81 rfl (lv_at hl 0 rfl) ?_
  refine lv_iconst (v := 0) hx hb dX9_init_82 (by decide) ?_
  refine va_put (D := G) (ci := 9) (v := .int 0) (ty := .int) (C := RX9) (T := TX9) (N := 10) hx hb hts (fun w h => List.mem_cons_of_mem _ (inG_9 w h)) tyX9 tyX9_ok nmX9 hown hK hP hD hS 0 rfl rfl 9 (by decide) (hts _ (List.mem_cons_of_mem _ mw_1_122)) (fun _ h9 => h9) rfl (by decide +kernel) rfl rfl (Nat.le_of_ble_eq_true rfl) dX9_init_83 (fun H locs hP hD hS => ?_)
  have hP : va_P G vwCl [(h_t, .inr (9, [.ref h_t_order, .ref h_t_first, .ref h_t_many, .ref h_t_lower, .ref h_t_upper, .ref h_t_above, .ref h_t_bounds, .ref h_t_met, .int 0, .int 0])), (h_t_order, .inl (cI, 128, .inl (fun _ => 0))), (h_t_first, .inl (cI, 255, .inl (fun _ => 0))), (h_t_many, .inl (cI, 255, .inl (fun _ => 0))), (h_t_lower, .inl (cI, 255, .inl (fun _ => 0))), (h_t_upper, .inl (cI, 255, .inl (fun _ => 0))), (h_t_above, .inl (cI, 255, .inl (fun _ => 0))), (h_t_bounds, .inl (cI, 1530, .inl (fun _ => 0))), (h_t_met, .inl (cZ, 255, .inl (fun _ => 0)))] H := hP
  have hD : va_D A [(h_t, .inr (9, [.ref h_t_order, .ref h_t_first, .ref h_t_many, .ref h_t_lower, .ref h_t_upper, .ref h_t_above, .ref h_t_bounds, .ref h_t_met, .int 0, .int 0])), (h_t_order, .inl (cI, 128, .inl (fun _ => 0))), (h_t_first, .inl (cI, 255, .inl (fun _ => 0))), (h_t_many, .inl (cI, 255, .inl (fun _ => 0))), (h_t_lower, .inl (cI, 255, .inl (fun _ => 0))), (h_t_upper, .inl (cI, 255, .inl (fun _ => 0))), (h_t_above, .inl (cI, 255, .inl (fun _ => 0))), (h_t_bounds, .inl (cI, 1530, .inl (fun _ => 0))), (h_t_met, .inl (cZ, 255, .inl (fun _ => 0)))] := hD
  refine W.widen (k := 8) (n := 3188) (Nat.le_of_ble_eq_true rfl) (Nat.le_of_ble_eq_true rfl) ?_
  exact hret 86 ls _ _ (h_t_order, h_t_first, h_t_many, h_t_lower, h_t_upper, h_t_above, h_t_bounds, h_t_met, 0, 0, (fun _ => 0), (fun _ => 0), (fun _ => 0), (fun _ => 0), (fun _ => 0), (fun _ => 0), (fun _ => 0), (fun _ => 0)) dX9_init_86  hF hP hD hS

def rm_X2_init : Room := { frames := 1, cells := 3, slots := 384, locals := 24 }
def F_X2_init (post : Int32 → (Nat → Int32) → (Nat → Int64) → (Nat → Int64) → Prop) : Prop := post 0 (fun _ => 0) (fun _ => 0) (fun _ => 0)
set_option maxHeartbeats 8000000 in
set_option maxRecDepth 100000 in
theorem c_X2_init (l : Launch) (G : va_G) (cI cL cZ : ClassId) (h_t : Nat) (sz : Nat) (post : Int32 → (Nat → Int32) → (Nat → Int64) → (Nat → Int64) → Prop) (hF : F_X2_init post) : MetV l G (gT cI cL cZ) yX2_init (gW yX2_init cX2_init 1 none) rm_X2_init 3 384 [.ref h_t] sz [(h_t, .inr (2, [.null, .null, .null, .int 0]))] (fun (u : Nat × Nat × Nat × Int32 × (Nat → Int32) × (Nat → Int64) × (Nat → Int64)) => [(h_t, .inr (2, [.ref u.1, .ref u.2.1, .ref u.2.2.1, .int u.2.2.2.1])), (u.1, .inl (cI, 128, .inl u.2.2.2.2.1)), (u.2.1, .inl (cL, 128, .inr (.inl u.2.2.2.2.2.1))), (u.2.2.1, .inl (cL, 128, .inr (.inl u.2.2.2.2.2.2)))]) (fun (u : Nat × Nat × Nat × Int32 × (Nat → Int32) × (Nat → Int64) × (Nat → Int64)) => post u.2.2.2.1 u.2.2.2.2.1 u.2.2.2.2.2.1 u.2.2.2.2.2.2) := by
  refine startV (cc := cX2_init) (maxL := 1) (by decide +kernel) rfl (Nat.le_of_ble_eq_true rfl) ?_
  intro p e s m args below meth c Q ls A C0 hP hD hS hl hret
  obtain ⟨hx, hb, hml, hown, hts, hnw, hK, hA, hin⟩ := C0
  have hown : s.vm.findClass RX2 = some m.cls := hown
  have hl : lv_has ls 1 [(0, .ref h_t)] := hl
  refine lv_aload_n hx hb dX2_init_0 rfl (lv_at hl 0 rfl) ?_
  refine W.objInit hx hb hown (hts _ (List.mem_cons_of_mem _ mw_1_150)) (hts _ (List.mem_cons_of_mem _ mw_1_22)) (hts _ (List.mem_cons_of_mem _ mw_1_23)) rfl (by rw [hml]; exact hl.1) rfl dX2_init_1 (Nat.le_of_ble_eq_true rfl) (Nat.le_of_ble_eq_true rfl) ?_
  refine W.eq (g2 := F0 m 4 ls []) rfl ?_
  refine lv_aload_n hx hb dX2_init_4 rfl (lv_at hl 0 rfl) ?_
  refine lv_sipush (v := 128) hx hb dX2_init_5 (by decide) ?_
  refine g_newI (N9 := 128) hx hb (hts _ (List.mem_cons_of_mem _ mw_1_37)) hK hP hD hS hA (by decide) (by decide) (by decide) (Nat.le_of_ble_eq_true rfl) (Nat.le_of_ble_eq_true rfl) dX2_init_8 (fun h_t_triangles H hP hD hS => ?_)
  have hP : va_P G vwCl [(h_t, .inr (2, [.null, .null, .null, .int 0])), (h_t_triangles, .inl (cI, 128, .inl (fun _ => 0)))] H := hP
  have hD : va_D A [(h_t, .inr (2, [.null, .null, .null, .int 0])), (h_t_triangles, .inl (cI, 128, .inl (fun _ => 0)))] := hD
  refine W.widen (k := 1) (n := 128) (Nat.le_of_ble_eq_true rfl) (Nat.le_of_ble_eq_true rfl) ?_
  refine va_putF (D := G) (ci := 2) (v := .ref h_t_triangles) (ty := .array .int) (C := RX2) (T := TX2) (N := 4) hx hb hts (fun w h => List.mem_cons_of_mem _ (inG_2 w h)) tyX2 tyX2_ok nmX2 hown hK hP hD hS 0 rfl rfl 0 (by decide) (hts _ (List.mem_cons_of_mem _ mw_1_151)) (fun _ h9 => h9) rfl hin rfl (by decide +kernel) rfl rfl (Nat.le_of_ble_eq_true rfl) dX2_init_10 (fun H locs hP hD hS => ?_)
  have hP : va_P G vwCl [(h_t, .inr (2, [.ref h_t_triangles, .null, .null, .int 0])), (h_t_triangles, .inl (cI, 128, .inl (fun _ => 0)))] H := hP
  have hD : va_D A [(h_t, .inr (2, [.ref h_t_triangles, .null, .null, .int 0])), (h_t_triangles, .inl (cI, 128, .inl (fun _ => 0)))] := hD
  refine lv_aload_n hx hb dX2_init_13 rfl (lv_at hl 0 rfl) ?_
  refine lv_sipush (v := 128) hx hb dX2_init_14 (by decide) ?_
  refine g_newJ (N9 := 128) hx hb (hts _ (List.mem_cons_of_mem _ mw_1_164)) hK hP hD hS hA (by decide) (by decide) (by decide) (Nat.le_of_ble_eq_true rfl) (Nat.le_of_ble_eq_true rfl) dX2_init_17 (fun h_t_far H hP hD hS => ?_)
  have hP : va_P G vwCl [(h_t, .inr (2, [.ref h_t_triangles, .null, .null, .int 0])), (h_t_triangles, .inl (cI, 128, .inl (fun _ => 0))), (h_t_far, .inl (cL, 128, .inr (.inl (fun _ => 0))))] H := hP
  have hD : va_D A [(h_t, .inr (2, [.ref h_t_triangles, .null, .null, .int 0])), (h_t_triangles, .inl (cI, 128, .inl (fun _ => 0))), (h_t_far, .inl (cL, 128, .inr (.inl (fun _ => 0))))] := hD
  refine W.widen (k := 2) (n := 256) (Nat.le_of_ble_eq_true rfl) (Nat.le_of_ble_eq_true rfl) ?_
  refine va_putF (D := G) (ci := 2) (v := .ref h_t_far) (ty := .array .long) (C := RX2) (T := TX2) (N := 4) hx hb hts (fun w h => List.mem_cons_of_mem _ (inG_2 w h)) tyX2 tyX2_ok nmX2 hown hK hP hD hS 0 rfl rfl 1 (by decide) (hts _ (List.mem_cons_of_mem _ mw_1_152)) (fun _ h9 => h9) rfl hin rfl (by decide +kernel) rfl rfl (Nat.le_of_ble_eq_true rfl) dX2_init_19 (fun H locs hP hD hS => ?_)
  have hP : va_P G vwCl [(h_t, .inr (2, [.ref h_t_triangles, .ref h_t_far, .null, .int 0])), (h_t_triangles, .inl (cI, 128, .inl (fun _ => 0))), (h_t_far, .inl (cL, 128, .inr (.inl (fun _ => 0))))] H := hP
  have hD : va_D A [(h_t, .inr (2, [.ref h_t_triangles, .ref h_t_far, .null, .int 0])), (h_t_triangles, .inl (cI, 128, .inl (fun _ => 0))), (h_t_far, .inl (cL, 128, .inr (.inl (fun _ => 0))))] := hD
  refine lv_aload_n hx hb dX2_init_22 rfl (lv_at hl 0 rfl) ?_
  refine lv_sipush (v := 128) hx hb dX2_init_23 (by decide) ?_
  refine g_newJ (N9 := 128) hx hb (hts _ (List.mem_cons_of_mem _ mw_1_164)) hK hP hD hS hA (by decide) (by decide) (by decide) (Nat.le_of_ble_eq_true rfl) (Nat.le_of_ble_eq_true rfl) dX2_init_26 (fun h_t_over H hP hD hS => ?_)
  have hP : va_P G vwCl [(h_t, .inr (2, [.ref h_t_triangles, .ref h_t_far, .null, .int 0])), (h_t_triangles, .inl (cI, 128, .inl (fun _ => 0))), (h_t_far, .inl (cL, 128, .inr (.inl (fun _ => 0)))), (h_t_over, .inl (cL, 128, .inr (.inl (fun _ => 0))))] H := hP
  have hD : va_D A [(h_t, .inr (2, [.ref h_t_triangles, .ref h_t_far, .null, .int 0])), (h_t_triangles, .inl (cI, 128, .inl (fun _ => 0))), (h_t_far, .inl (cL, 128, .inr (.inl (fun _ => 0)))), (h_t_over, .inl (cL, 128, .inr (.inl (fun _ => 0))))] := hD
  refine W.widen (k := 3) (n := 384) (Nat.le_of_ble_eq_true rfl) (Nat.le_of_ble_eq_true rfl) ?_
  refine va_putF (D := G) (ci := 2) (v := .ref h_t_over) (ty := .array .long) (C := RX2) (T := TX2) (N := 4) hx hb hts (fun w h => List.mem_cons_of_mem _ (inG_2 w h)) tyX2 tyX2_ok nmX2 hown hK hP hD hS 0 rfl rfl 2 (by decide) (hts _ (List.mem_cons_of_mem _ mw_1_153)) (fun _ h9 => h9) rfl hin rfl (by decide +kernel) rfl rfl (Nat.le_of_ble_eq_true rfl) dX2_init_28 (fun H locs hP hD hS => ?_)
  have hP : va_P G vwCl [(h_t, .inr (2, [.ref h_t_triangles, .ref h_t_far, .ref h_t_over, .int 0])), (h_t_triangles, .inl (cI, 128, .inl (fun _ => 0))), (h_t_far, .inl (cL, 128, .inr (.inl (fun _ => 0)))), (h_t_over, .inl (cL, 128, .inr (.inl (fun _ => 0))))] H := hP
  have hD : va_D A [(h_t, .inr (2, [.ref h_t_triangles, .ref h_t_far, .ref h_t_over, .int 0])), (h_t_triangles, .inl (cI, 128, .inl (fun _ => 0))), (h_t_far, .inl (cL, 128, .inr (.inl (fun _ => 0)))), (h_t_over, .inl (cL, 128, .inr (.inl (fun _ => 0))))] := hD
  refine lv_aload_n hx hb dX2_init_31 rfl (lv_at hl 0 rfl) ?_
  refine lv_iconst (v := 0) hx hb dX2_init_32 (by decide) ?_
  refine va_put (D := G) (ci := 2) (v := .int 0) (ty := .int) (C := RX2) (T := TX2) (N := 4) hx hb hts (fun w h => List.mem_cons_of_mem _ (inG_2 w h)) tyX2 tyX2_ok nmX2 hown hK hP hD hS 0 rfl rfl 3 (by decide) (hts _ (List.mem_cons_of_mem _ mw_1_154)) (fun _ h9 => h9) rfl (by decide +kernel) rfl rfl (Nat.le_of_ble_eq_true rfl) dX2_init_33 (fun H locs hP hD hS => ?_)
  have hP : va_P G vwCl [(h_t, .inr (2, [.ref h_t_triangles, .ref h_t_far, .ref h_t_over, .int 0])), (h_t_triangles, .inl (cI, 128, .inl (fun _ => 0))), (h_t_far, .inl (cL, 128, .inr (.inl (fun _ => 0)))), (h_t_over, .inl (cL, 128, .inr (.inl (fun _ => 0))))] H := hP
  have hD : va_D A [(h_t, .inr (2, [.ref h_t_triangles, .ref h_t_far, .ref h_t_over, .int 0])), (h_t_triangles, .inl (cI, 128, .inl (fun _ => 0))), (h_t_far, .inl (cL, 128, .inr (.inl (fun _ => 0)))), (h_t_over, .inl (cL, 128, .inr (.inl (fun _ => 0))))] := hD
  refine W.widen (k := 3) (n := 384) (Nat.le_of_ble_eq_true rfl) (Nat.le_of_ble_eq_true rfl) ?_
  exact hret 36 ls _ _ (h_t_triangles, h_t_far, h_t_over, 0, (fun _ => 0), (fun _ => 0), (fun _ => 0)) dX2_init_36  hF hP hD hS

def rm_X3_init : Room := { frames := 1, cells := 3, slots := 10, locals := 24 }
def F_X3_init (post : Int32 → (Nat → Int64) → (Nat → Int64) → (Nat → Int64) → Prop) : Prop := post (-2) (fun _ => 0) (fun _ => 0) (fun _ => 0)
set_option maxHeartbeats 8000000 in
set_option maxRecDepth 100000 in
theorem c_X3_init (l : Launch) (G : va_G) (cI cL cZ : ClassId) (h_t : Nat) (sz : Nat) (post : Int32 → (Nat → Int64) → (Nat → Int64) → (Nat → Int64) → Prop) (hF : F_X3_init post) : MetV l G (gT cI cL cZ) yX3_init (gW yX3_init cX3_init 1 none) rm_X3_init 3 10 [.ref h_t] sz [(h_t, .inr (3, [.null, .null, .null, .int 0]))] (fun (u : Nat × Nat × Nat × Int32 × (Nat → Int64) × (Nat → Int64) × (Nat → Int64)) => [(h_t, .inr (3, [.ref u.1, .ref u.2.1, .ref u.2.2.1, .int u.2.2.2.1])), (u.1, .inl (cL, 2, .inr (.inl u.2.2.2.2.1))), (u.2.1, .inl (cL, 4, .inr (.inl u.2.2.2.2.2.1))), (u.2.2.1, .inl (cL, 4, .inr (.inl u.2.2.2.2.2.2)))]) (fun (u : Nat × Nat × Nat × Int32 × (Nat → Int64) × (Nat → Int64) × (Nat → Int64)) => post u.2.2.2.1 u.2.2.2.2.1 u.2.2.2.2.2.1 u.2.2.2.2.2.2) := by
  refine startV (cc := cX3_init) (maxL := 1) (by decide +kernel) rfl (Nat.le_of_ble_eq_true rfl) ?_
  intro p e s m args below meth c Q ls A C0 hP hD hS hl hret
  obtain ⟨hx, hb, hml, hown, hts, hnw, hK, hA, hin⟩ := C0
  have hown : s.vm.findClass RX3 = some m.cls := hown
  have hl : lv_has ls 1 [(0, .ref h_t)] := hl
  refine lv_aload_n hx hb dX3_init_0 rfl (lv_at hl 0 rfl) ?_
  refine W.objInit hx hb hown (hts _ (List.mem_cons_of_mem _ mw_1_170)) (hts _ (List.mem_cons_of_mem _ mw_1_22)) (hts _ (List.mem_cons_of_mem _ mw_1_23)) rfl (by rw [hml]; exact hl.1) rfl dX3_init_1 (Nat.le_of_ble_eq_true rfl) (Nat.le_of_ble_eq_true rfl) ?_
  refine W.eq (g2 := F0 m 4 ls []) rfl ?_
  refine lv_aload_n hx hb dX3_init_4 rfl (lv_at hl 0 rfl) ?_
  refine lv_iconst (v := 2) hx hb dX3_init_5 (by decide) ?_
  refine g_newJ (N9 := 2) hx hb (hts _ (List.mem_cons_of_mem _ mw_1_164)) hK hP hD hS hA (by decide) (by decide) (by decide) (Nat.le_of_ble_eq_true rfl) (Nat.le_of_ble_eq_true rfl) dX3_init_6 (fun h_t_time H hP hD hS => ?_)
  have hP : va_P G vwCl [(h_t, .inr (3, [.null, .null, .null, .int 0])), (h_t_time, .inl (cL, 2, .inr (.inl (fun _ => 0))))] H := hP
  have hD : va_D A [(h_t, .inr (3, [.null, .null, .null, .int 0])), (h_t_time, .inl (cL, 2, .inr (.inl (fun _ => 0))))] := hD
  refine W.widen (k := 1) (n := 2) (Nat.le_of_ble_eq_true rfl) (Nat.le_of_ble_eq_true rfl) ?_
  refine va_putF (D := G) (ci := 3) (v := .ref h_t_time) (ty := .array .long) (C := RX3) (T := TX3) (N := 4) hx hb hts (fun w h => List.mem_cons_of_mem _ (inG_3 w h)) tyX3 tyX3_ok nmX3 hown hK hP hD hS 0 rfl rfl 0 (by decide) (hts _ (List.mem_cons_of_mem _ mw_1_171)) (fun _ h9 => h9) rfl hin rfl (by decide +kernel) rfl rfl (Nat.le_of_ble_eq_true rfl) dX3_init_8 (fun H locs hP hD hS => ?_)
  have hP : va_P G vwCl [(h_t, .inr (3, [.ref h_t_time, .null, .null, .int 0])), (h_t_time, .inl (cL, 2, .inr (.inl (fun _ => 0))))] H := hP
  have hD : va_D A [(h_t, .inr (3, [.ref h_t_time, .null, .null, .int 0])), (h_t_time, .inl (cL, 2, .inr (.inl (fun _ => 0))))] := hD
  refine lv_aload_n hx hb dX3_init_11 rfl (lv_at hl 0 rfl) ?_
  refine lv_iconst (v := 4) hx hb dX3_init_12 (by decide) ?_
  refine g_newJ (N9 := 4) hx hb (hts _ (List.mem_cons_of_mem _ mw_1_164)) hK hP hD hS hA (by decide) (by decide) (by decide) (Nat.le_of_ble_eq_true rfl) (Nat.le_of_ble_eq_true rfl) dX3_init_13 (fun h_t_place H hP hD hS => ?_)
  have hP : va_P G vwCl [(h_t, .inr (3, [.ref h_t_time, .null, .null, .int 0])), (h_t_time, .inl (cL, 2, .inr (.inl (fun _ => 0)))), (h_t_place, .inl (cL, 4, .inr (.inl (fun _ => 0))))] H := hP
  have hD : va_D A [(h_t, .inr (3, [.ref h_t_time, .null, .null, .int 0])), (h_t_time, .inl (cL, 2, .inr (.inl (fun _ => 0)))), (h_t_place, .inl (cL, 4, .inr (.inl (fun _ => 0))))] := hD
  refine W.widen (k := 2) (n := 6) (Nat.le_of_ble_eq_true rfl) (Nat.le_of_ble_eq_true rfl) ?_
  refine va_putF (D := G) (ci := 3) (v := .ref h_t_place) (ty := .array .long) (C := RX3) (T := TX3) (N := 4) hx hb hts (fun w h => List.mem_cons_of_mem _ (inG_3 w h)) tyX3 tyX3_ok nmX3 hown hK hP hD hS 0 rfl rfl 1 (by decide) (hts _ (List.mem_cons_of_mem _ mw_1_172)) (fun _ h9 => h9) rfl hin rfl (by decide +kernel) rfl rfl (Nat.le_of_ble_eq_true rfl) dX3_init_15 (fun H locs hP hD hS => ?_)
  have hP : va_P G vwCl [(h_t, .inr (3, [.ref h_t_time, .ref h_t_place, .null, .int 0])), (h_t_time, .inl (cL, 2, .inr (.inl (fun _ => 0)))), (h_t_place, .inl (cL, 4, .inr (.inl (fun _ => 0))))] H := hP
  have hD : va_D A [(h_t, .inr (3, [.ref h_t_time, .ref h_t_place, .null, .int 0])), (h_t_time, .inl (cL, 2, .inr (.inl (fun _ => 0)))), (h_t_place, .inl (cL, 4, .inr (.inl (fun _ => 0))))] := hD
  refine lv_aload_n hx hb dX3_init_18 rfl (lv_at hl 0 rfl) ?_
  refine lv_iconst (v := 4) hx hb dX3_init_19 (by decide) ?_
  refine g_newJ (N9 := 4) hx hb (hts _ (List.mem_cons_of_mem _ mw_1_164)) hK hP hD hS hA (by decide) (by decide) (by decide) (Nat.le_of_ble_eq_true rfl) (Nat.le_of_ble_eq_true rfl) dX3_init_20 (fun h_t_weights H hP hD hS => ?_)
  have hP : va_P G vwCl [(h_t, .inr (3, [.ref h_t_time, .ref h_t_place, .null, .int 0])), (h_t_time, .inl (cL, 2, .inr (.inl (fun _ => 0)))), (h_t_place, .inl (cL, 4, .inr (.inl (fun _ => 0)))), (h_t_weights, .inl (cL, 4, .inr (.inl (fun _ => 0))))] H := hP
  have hD : va_D A [(h_t, .inr (3, [.ref h_t_time, .ref h_t_place, .null, .int 0])), (h_t_time, .inl (cL, 2, .inr (.inl (fun _ => 0)))), (h_t_place, .inl (cL, 4, .inr (.inl (fun _ => 0)))), (h_t_weights, .inl (cL, 4, .inr (.inl (fun _ => 0))))] := hD
  refine W.widen (k := 3) (n := 10) (Nat.le_of_ble_eq_true rfl) (Nat.le_of_ble_eq_true rfl) ?_
  refine va_putF (D := G) (ci := 3) (v := .ref h_t_weights) (ty := .array .long) (C := RX3) (T := TX3) (N := 4) hx hb hts (fun w h => List.mem_cons_of_mem _ (inG_3 w h)) tyX3 tyX3_ok nmX3 hown hK hP hD hS 0 rfl rfl 2 (by decide) (hts _ (List.mem_cons_of_mem _ mw_1_174)) (fun _ h9 => h9) rfl hin rfl (by decide +kernel) rfl rfl (Nat.le_of_ble_eq_true rfl) dX3_init_22 (fun H locs hP hD hS => ?_)
  have hP : va_P G vwCl [(h_t, .inr (3, [.ref h_t_time, .ref h_t_place, .ref h_t_weights, .int 0])), (h_t_time, .inl (cL, 2, .inr (.inl (fun _ => 0)))), (h_t_place, .inl (cL, 4, .inr (.inl (fun _ => 0)))), (h_t_weights, .inl (cL, 4, .inr (.inl (fun _ => 0))))] H := hP
  have hD : va_D A [(h_t, .inr (3, [.ref h_t_time, .ref h_t_place, .ref h_t_weights, .int 0])), (h_t_time, .inl (cL, 2, .inr (.inl (fun _ => 0)))), (h_t_place, .inl (cL, 4, .inr (.inl (fun _ => 0)))), (h_t_weights, .inl (cL, 4, .inr (.inl (fun _ => 0))))] := hD
  refine lv_aload_n hx hb dX3_init_25 rfl (lv_at hl 0 rfl) ?_
  refine lv_bipush (v := (-2)) hx hb dX3_init_26 (by decide) ?_
  refine va_put (D := G) (ci := 3) (v := .int (-2)) (ty := .int) (C := RX3) (T := TX3) (N := 4) hx hb hts (fun w h => List.mem_cons_of_mem _ (inG_3 w h)) tyX3 tyX3_ok nmX3 hown hK hP hD hS 0 rfl rfl 3 (by decide) (hts _ (List.mem_cons_of_mem _ mw_1_175)) (fun _ h9 => h9) rfl (by decide +kernel) rfl rfl (Nat.le_of_ble_eq_true rfl) dX3_init_28 (fun H locs hP hD hS => ?_)
  have hP : va_P G vwCl [(h_t, .inr (3, [.ref h_t_time, .ref h_t_place, .ref h_t_weights, .int (-2)])), (h_t_time, .inl (cL, 2, .inr (.inl (fun _ => 0)))), (h_t_place, .inl (cL, 4, .inr (.inl (fun _ => 0)))), (h_t_weights, .inl (cL, 4, .inr (.inl (fun _ => 0))))] H := hP
  have hD : va_D A [(h_t, .inr (3, [.ref h_t_time, .ref h_t_place, .ref h_t_weights, .int (-2)])), (h_t_time, .inl (cL, 2, .inr (.inl (fun _ => 0)))), (h_t_place, .inl (cL, 4, .inr (.inl (fun _ => 0)))), (h_t_weights, .inl (cL, 4, .inr (.inl (fun _ => 0))))] := hD
  refine W.widen (k := 3) (n := 10) (Nat.le_of_ble_eq_true rfl) (Nat.le_of_ble_eq_true rfl) ?_
  exact hret 31 ls _ _ (h_t_time, h_t_place, h_t_weights, (-2), (fun _ => 0), (fun _ => 0), (fun _ => 0)) dX3_init_31  hF hP hD hS

def rm_X7_init : Room := { frames := 1, cells := 2, slots := 6, locals := 24 }
def F_X7_init (post : Int64 → Int64 → Int64 → Int64 → Int64 → Int64 → (Nat → Int64) → (Nat → Int64) → Prop) : Prop := post 1 0 1 0 0 0 (fun _ => 0) (fun _ => 0)
set_option maxHeartbeats 8000000 in
set_option maxRecDepth 100000 in
theorem c_X7_init (l : Launch) (G : va_G) (cI cL cZ : ClassId) (h_t : Nat) (sz : Nat) (post : Int64 → Int64 → Int64 → Int64 → Int64 → Int64 → (Nat → Int64) → (Nat → Int64) → Prop) (hF : F_X7_init post) : MetV l G (gT cI cL cZ) yX7_init (gW yX7_init cX7_init 1 none) rm_X7_init 2 6 [.ref h_t] sz [(h_t, .inr (7, [.null, .null, .long 0, .long 0, .long 0, .long 0, .long 0, .long 0]))] (fun (u : Nat × Nat × Int64 × Int64 × Int64 × Int64 × Int64 × Int64 × (Nat → Int64) × (Nat → Int64)) => [(h_t, .inr (7, [.ref u.1, .ref u.2.1, .long u.2.2.1, .long u.2.2.2.1, .long u.2.2.2.2.1, .long u.2.2.2.2.2.1, .long u.2.2.2.2.2.2.1, .long u.2.2.2.2.2.2.2.1])), (u.1, .inl (cL, 3, .inr (.inl u.2.2.2.2.2.2.2.2.1))), (u.2.1, .inl (cL, 3, .inr (.inl u.2.2.2.2.2.2.2.2.2)))]) (fun (u : Nat × Nat × Int64 × Int64 × Int64 × Int64 × Int64 × Int64 × (Nat → Int64) × (Nat → Int64)) => post u.2.2.1 u.2.2.2.1 u.2.2.2.2.1 u.2.2.2.2.2.1 u.2.2.2.2.2.2.1 u.2.2.2.2.2.2.2.1 u.2.2.2.2.2.2.2.2.1 u.2.2.2.2.2.2.2.2.2) := by
  refine startV (cc := cX7_init) (maxL := 1) (by decide +kernel) rfl (Nat.le_of_ble_eq_true rfl) ?_
  intro p e s m args below meth c Q ls A C0 hP hD hS hl hret
  obtain ⟨hx, hb, hml, hown, hts, hnw, hK, hA, hin⟩ := C0
  have hown : s.vm.findClass RX7 = some m.cls := hown
  have hl : lv_has ls 1 [(0, .ref h_t)] := hl
  refine lv_aload_n hx hb dX7_init_0 rfl (lv_at hl 0 rfl) ?_
  refine W.objInit hx hb hown (hts _ (List.mem_cons_of_mem _ mw_1_191)) (hts _ (List.mem_cons_of_mem _ mw_1_22)) (hts _ (List.mem_cons_of_mem _ mw_1_23)) rfl (by rw [hml]; exact hl.1) rfl dX7_init_1 (Nat.le_of_ble_eq_true rfl) (Nat.le_of_ble_eq_true rfl) ?_
  refine W.eq (g2 := F0 m 4 ls []) rfl ?_
  refine lv_aload_n hx hb dX7_init_4 rfl (lv_at hl 0 rfl) ?_
  refine lv_iconst (v := 3) hx hb dX7_init_5 (by decide) ?_
  refine g_newJ (N9 := 3) hx hb (hts _ (List.mem_cons_of_mem _ mw_1_164)) hK hP hD hS hA (by decide) (by decide) (by decide) (Nat.le_of_ble_eq_true rfl) (Nat.le_of_ble_eq_true rfl) dX7_init_6 (fun h_t_from H hP hD hS => ?_)
  have hP : va_P G vwCl [(h_t, .inr (7, [.null, .null, .long 0, .long 0, .long 0, .long 0, .long 0, .long 0])), (h_t_from, .inl (cL, 3, .inr (.inl (fun _ => 0))))] H := hP
  have hD : va_D A [(h_t, .inr (7, [.null, .null, .long 0, .long 0, .long 0, .long 0, .long 0, .long 0])), (h_t_from, .inl (cL, 3, .inr (.inl (fun _ => 0))))] := hD
  refine W.widen (k := 1) (n := 3) (Nat.le_of_ble_eq_true rfl) (Nat.le_of_ble_eq_true rfl) ?_
  refine va_putF (D := G) (ci := 7) (v := .ref h_t_from) (ty := .array .long) (C := RX7) (T := TX7) (N := 8) hx hb hts (fun w h => List.mem_cons_of_mem _ (inG_7 w h)) tyX7 tyX7_ok nmX7 hown hK hP hD hS 0 rfl rfl 0 (by decide) (hts _ (List.mem_cons_of_mem _ mw_1_192)) (fun _ h9 => h9) rfl hin rfl (by decide +kernel) rfl rfl (Nat.le_of_ble_eq_true rfl) dX7_init_8 (fun H locs hP hD hS => ?_)
  have hP : va_P G vwCl [(h_t, .inr (7, [.ref h_t_from, .null, .long 0, .long 0, .long 0, .long 0, .long 0, .long 0])), (h_t_from, .inl (cL, 3, .inr (.inl (fun _ => 0))))] H := hP
  have hD : va_D A [(h_t, .inr (7, [.ref h_t_from, .null, .long 0, .long 0, .long 0, .long 0, .long 0, .long 0])), (h_t_from, .inl (cL, 3, .inr (.inl (fun _ => 0))))] := hD
  refine lv_aload_n hx hb dX7_init_11 rfl (lv_at hl 0 rfl) ?_
  refine lv_iconst (v := 3) hx hb dX7_init_12 (by decide) ?_
  refine g_newJ (N9 := 3) hx hb (hts _ (List.mem_cons_of_mem _ mw_1_164)) hK hP hD hS hA (by decide) (by decide) (by decide) (Nat.le_of_ble_eq_true rfl) (Nat.le_of_ble_eq_true rfl) dX7_init_13 (fun h_t_along H hP hD hS => ?_)
  have hP : va_P G vwCl [(h_t, .inr (7, [.ref h_t_from, .null, .long 0, .long 0, .long 0, .long 0, .long 0, .long 0])), (h_t_from, .inl (cL, 3, .inr (.inl (fun _ => 0)))), (h_t_along, .inl (cL, 3, .inr (.inl (fun _ => 0))))] H := hP
  have hD : va_D A [(h_t, .inr (7, [.ref h_t_from, .null, .long 0, .long 0, .long 0, .long 0, .long 0, .long 0])), (h_t_from, .inl (cL, 3, .inr (.inl (fun _ => 0)))), (h_t_along, .inl (cL, 3, .inr (.inl (fun _ => 0))))] := hD
  refine W.widen (k := 2) (n := 6) (Nat.le_of_ble_eq_true rfl) (Nat.le_of_ble_eq_true rfl) ?_
  refine va_putF (D := G) (ci := 7) (v := .ref h_t_along) (ty := .array .long) (C := RX7) (T := TX7) (N := 8) hx hb hts (fun w h => List.mem_cons_of_mem _ (inG_7 w h)) tyX7 tyX7_ok nmX7 hown hK hP hD hS 0 rfl rfl 1 (by decide) (hts _ (List.mem_cons_of_mem _ mw_1_197)) (fun _ h9 => h9) rfl hin rfl (by decide +kernel) rfl rfl (Nat.le_of_ble_eq_true rfl) dX7_init_15 (fun H locs hP hD hS => ?_)
  have hP : va_P G vwCl [(h_t, .inr (7, [.ref h_t_from, .ref h_t_along, .long 0, .long 0, .long 0, .long 0, .long 0, .long 0])), (h_t_from, .inl (cL, 3, .inr (.inl (fun _ => 0)))), (h_t_along, .inl (cL, 3, .inr (.inl (fun _ => 0))))] H := hP
  have hD : va_D A [(h_t, .inr (7, [.ref h_t_from, .ref h_t_along, .long 0, .long 0, .long 0, .long 0, .long 0, .long 0])), (h_t_from, .inl (cL, 3, .inr (.inl (fun _ => 0)))), (h_t_along, .inl (cL, 3, .inr (.inl (fun _ => 0))))] := hD
  refine lv_aload_n hx hb dX7_init_18 rfl (lv_at hl 0 rfl) ?_
  refine lv_lconst (v := 1) hx hb dX7_init_19 (by decide) ?_
  refine va_put (D := G) (ci := 7) (v := .long 1) (ty := .long) (C := RX7) (T := TX7) (N := 8) hx hb hts (fun w h => List.mem_cons_of_mem _ (inG_7 w h)) tyX7 tyX7_ok nmX7 hown hK hP hD hS 0 rfl rfl 2 (by decide) (hts _ (List.mem_cons_of_mem _ mw_1_203)) (fun _ h9 => h9) rfl (by decide +kernel) rfl rfl (Nat.le_of_ble_eq_true rfl) dX7_init_20 (fun H locs hP hD hS => ?_)
  have hP : va_P G vwCl [(h_t, .inr (7, [.ref h_t_from, .ref h_t_along, .long 1, .long 0, .long 0, .long 0, .long 0, .long 0])), (h_t_from, .inl (cL, 3, .inr (.inl (fun _ => 0)))), (h_t_along, .inl (cL, 3, .inr (.inl (fun _ => 0))))] H := hP
  have hD : va_D A [(h_t, .inr (7, [.ref h_t_from, .ref h_t_along, .long 1, .long 0, .long 0, .long 0, .long 0, .long 0])), (h_t_from, .inl (cL, 3, .inr (.inl (fun _ => 0)))), (h_t_along, .inl (cL, 3, .inr (.inl (fun _ => 0))))] := hD
  refine lv_aload_n hx hb dX7_init_23 rfl (lv_at hl 0 rfl) ?_
  refine lv_lconst (v := 0) hx hb dX7_init_24 (by decide) ?_
  refine va_put (D := G) (ci := 7) (v := .long 0) (ty := .long) (C := RX7) (T := TX7) (N := 8) hx hb hts (fun w h => List.mem_cons_of_mem _ (inG_7 w h)) tyX7 tyX7_ok nmX7 hown hK hP hD hS 0 rfl rfl 3 (by decide) (hts _ (List.mem_cons_of_mem _ mw_1_204)) (fun _ h9 => h9) rfl (by decide +kernel) rfl rfl (Nat.le_of_ble_eq_true rfl) dX7_init_25 (fun H locs hP hD hS => ?_)
  have hP : va_P G vwCl [(h_t, .inr (7, [.ref h_t_from, .ref h_t_along, .long 1, .long 0, .long 0, .long 0, .long 0, .long 0])), (h_t_from, .inl (cL, 3, .inr (.inl (fun _ => 0)))), (h_t_along, .inl (cL, 3, .inr (.inl (fun _ => 0))))] H := hP
  have hD : va_D A [(h_t, .inr (7, [.ref h_t_from, .ref h_t_along, .long 1, .long 0, .long 0, .long 0, .long 0, .long 0])), (h_t_from, .inl (cL, 3, .inr (.inl (fun _ => 0)))), (h_t_along, .inl (cL, 3, .inr (.inl (fun _ => 0))))] := hD
  refine lv_aload_n hx hb dX7_init_28 rfl (lv_at hl 0 rfl) ?_
  refine lv_lconst (v := 1) hx hb dX7_init_29 (by decide) ?_
  refine va_put (D := G) (ci := 7) (v := .long 1) (ty := .long) (C := RX7) (T := TX7) (N := 8) hx hb hts (fun w h => List.mem_cons_of_mem _ (inG_7 w h)) tyX7 tyX7_ok nmX7 hown hK hP hD hS 0 rfl rfl 4 (by decide) (hts _ (List.mem_cons_of_mem _ mw_1_207)) (fun _ h9 => h9) rfl (by decide +kernel) rfl rfl (Nat.le_of_ble_eq_true rfl) dX7_init_30 (fun H locs hP hD hS => ?_)
  have hP : va_P G vwCl [(h_t, .inr (7, [.ref h_t_from, .ref h_t_along, .long 1, .long 0, .long 1, .long 0, .long 0, .long 0])), (h_t_from, .inl (cL, 3, .inr (.inl (fun _ => 0)))), (h_t_along, .inl (cL, 3, .inr (.inl (fun _ => 0))))] H := hP
  have hD : va_D A [(h_t, .inr (7, [.ref h_t_from, .ref h_t_along, .long 1, .long 0, .long 1, .long 0, .long 0, .long 0])), (h_t_from, .inl (cL, 3, .inr (.inl (fun _ => 0)))), (h_t_along, .inl (cL, 3, .inr (.inl (fun _ => 0))))] := hD
  refine lv_aload_n hx hb dX7_init_33 rfl (lv_at hl 0 rfl) ?_
  refine lv_lconst (v := 0) hx hb dX7_init_34 (by decide) ?_
  refine va_put (D := G) (ci := 7) (v := .long 0) (ty := .long) (C := RX7) (T := TX7) (N := 8) hx hb hts (fun w h => List.mem_cons_of_mem _ (inG_7 w h)) tyX7 tyX7_ok nmX7 hown hK hP hD hS 0 rfl rfl 5 (by decide) (hts _ (List.mem_cons_of_mem _ mw_1_210)) (fun _ h9 => h9) rfl (by decide +kernel) rfl rfl (Nat.le_of_ble_eq_true rfl) dX7_init_35 (fun H locs hP hD hS => ?_)
  have hP : va_P G vwCl [(h_t, .inr (7, [.ref h_t_from, .ref h_t_along, .long 1, .long 0, .long 1, .long 0, .long 0, .long 0])), (h_t_from, .inl (cL, 3, .inr (.inl (fun _ => 0)))), (h_t_along, .inl (cL, 3, .inr (.inl (fun _ => 0))))] H := hP
  have hD : va_D A [(h_t, .inr (7, [.ref h_t_from, .ref h_t_along, .long 1, .long 0, .long 1, .long 0, .long 0, .long 0])), (h_t_from, .inl (cL, 3, .inr (.inl (fun _ => 0)))), (h_t_along, .inl (cL, 3, .inr (.inl (fun _ => 0))))] := hD
  refine lv_aload_n hx hb dX7_init_38 rfl (lv_at hl 0 rfl) ?_
  refine lv_lconst (v := 0) hx hb dX7_init_39 (by decide) ?_
  refine va_put (D := G) (ci := 7) (v := .long 0) (ty := .long) (C := RX7) (T := TX7) (N := 8) hx hb hts (fun w h => List.mem_cons_of_mem _ (inG_7 w h)) tyX7 tyX7_ok nmX7 hown hK hP hD hS 0 rfl rfl 6 (by decide) (hts _ (List.mem_cons_of_mem _ mw_1_212)) (fun _ h9 => h9) rfl (by decide +kernel) rfl rfl (Nat.le_of_ble_eq_true rfl) dX7_init_40 (fun H locs hP hD hS => ?_)
  have hP : va_P G vwCl [(h_t, .inr (7, [.ref h_t_from, .ref h_t_along, .long 1, .long 0, .long 1, .long 0, .long 0, .long 0])), (h_t_from, .inl (cL, 3, .inr (.inl (fun _ => 0)))), (h_t_along, .inl (cL, 3, .inr (.inl (fun _ => 0))))] H := hP
  have hD : va_D A [(h_t, .inr (7, [.ref h_t_from, .ref h_t_along, .long 1, .long 0, .long 1, .long 0, .long 0, .long 0])), (h_t_from, .inl (cL, 3, .inr (.inl (fun _ => 0)))), (h_t_along, .inl (cL, 3, .inr (.inl (fun _ => 0))))] := hD
  refine lv_aload_n hx hb dX7_init_43 rfl (lv_at hl 0 rfl) ?_
  refine lv_lconst (v := 0) hx hb dX7_init_44 (by decide) ?_
  refine va_put (D := G) (ci := 7) (v := .long 0) (ty := .long) (C := RX7) (T := TX7) (N := 8) hx hb hts (fun w h => List.mem_cons_of_mem _ (inG_7 w h)) tyX7 tyX7_ok nmX7 hown hK hP hD hS 0 rfl rfl 7 (by decide) (hts _ (List.mem_cons_of_mem _ mw_1_214)) (fun _ h9 => h9) rfl (by decide +kernel) rfl rfl (Nat.le_of_ble_eq_true rfl) dX7_init_45 (fun H locs hP hD hS => ?_)
  have hP : va_P G vwCl [(h_t, .inr (7, [.ref h_t_from, .ref h_t_along, .long 1, .long 0, .long 1, .long 0, .long 0, .long 0])), (h_t_from, .inl (cL, 3, .inr (.inl (fun _ => 0)))), (h_t_along, .inl (cL, 3, .inr (.inl (fun _ => 0))))] H := hP
  have hD : va_D A [(h_t, .inr (7, [.ref h_t_from, .ref h_t_along, .long 1, .long 0, .long 1, .long 0, .long 0, .long 0])), (h_t_from, .inl (cL, 3, .inr (.inl (fun _ => 0)))), (h_t_along, .inl (cL, 3, .inr (.inl (fun _ => 0))))] := hD
  refine W.widen (k := 2) (n := 6) (Nat.le_of_ble_eq_true rfl) (Nat.le_of_ble_eq_true rfl) ?_
  exact hret 48 ls _ _ (h_t_from, h_t_along, 1, 0, 1, 0, 0, 0, (fun _ => 0), (fun _ => 0)) dX7_init_48  hF hP hD hS

def rm_X10_init : Room := { frames := 1, cells := 1, slots := 5, locals := 24 }
def F_X10_init (post : (Nat → Int64) → Prop) : Prop := post (fun _ => 0)
set_option maxHeartbeats 8000000 in
set_option maxRecDepth 100000 in
theorem c_X10_init (l : Launch) (G : va_G) (cI cL cZ : ClassId) (h_t : Nat) (sz : Nat) (post : (Nat → Int64) → Prop) (hF : F_X10_init post) : MetV l G (gT cI cL cZ) yX10_init (gW yX10_init cX10_init 1 none) rm_X10_init 1 5 [.ref h_t] sz [(h_t, .inr (10, [.null]))] (fun (u : Nat × (Nat → Int64)) => [(h_t, .inr (10, [.ref u.1])), (u.1, .inl (cL, 5, .inr (.inl u.2)))]) (fun (u : Nat × (Nat → Int64)) => post u.2) := by
  refine startV (cc := cX10_init) (maxL := 1) (by decide +kernel) rfl (Nat.le_of_ble_eq_true rfl) ?_
  intro p e s m args below meth c Q ls A C0 hP hD hS hl hret
  obtain ⟨hx, hb, hml, hown, hts, hnw, hK, hA, hin⟩ := C0
  have hown : s.vm.findClass RX10 = some m.cls := hown
  have hl : lv_has ls 1 [(0, .ref h_t)] := hl
  refine lv_aload_n hx hb dX10_init_0 rfl (lv_at hl 0 rfl) ?_
  refine W.objInit hx hb hown (hts _ (List.mem_cons_of_mem _ mw_2_4)) (hts _ (List.mem_cons_of_mem _ mw_1_22)) (hts _ (List.mem_cons_of_mem _ mw_1_23)) rfl (by rw [hml]; exact hl.1) rfl dX10_init_1 (Nat.le_of_ble_eq_true rfl) (Nat.le_of_ble_eq_true rfl) ?_
  refine W.eq (g2 := F0 m 4 ls []) rfl ?_
  refine lv_aload_n hx hb dX10_init_4 rfl (lv_at hl 0 rfl) ?_
  refine lv_iconst (v := 5) hx hb dX10_init_5 (by decide) ?_
  refine g_newJ (N9 := 5) hx hb (hts _ (List.mem_cons_of_mem _ mw_1_164)) hK hP hD hS hA (by decide) (by decide) (by decide) (Nat.le_of_ble_eq_true rfl) (Nat.le_of_ble_eq_true rfl) dX10_init_6 (fun h_t_limbs H hP hD hS => ?_)
  have hP : va_P G vwCl [(h_t, .inr (10, [.null])), (h_t_limbs, .inl (cL, 5, .inr (.inl (fun _ => 0))))] H := hP
  have hD : va_D A [(h_t, .inr (10, [.null])), (h_t_limbs, .inl (cL, 5, .inr (.inl (fun _ => 0))))] := hD
  refine W.widen (k := 1) (n := 5) (Nat.le_of_ble_eq_true rfl) (Nat.le_of_ble_eq_true rfl) ?_
  refine va_putF (D := G) (ci := 10) (v := .ref h_t_limbs) (ty := .array .long) (C := RX10) (T := TX10) (N := 1) hx hb hts (fun w h => List.mem_cons_of_mem _ (inG_10 w h)) tyX10 tyX10_ok nmX10 hown hK hP hD hS 0 rfl rfl 0 (by decide) (hts _ (List.mem_cons_of_mem _ mw_2_5)) (fun _ h9 => h9) rfl hin rfl (by decide +kernel) rfl rfl (Nat.le_of_ble_eq_true rfl) dX10_init_8 (fun H locs hP hD hS => ?_)
  have hP : va_P G vwCl [(h_t, .inr (10, [.ref h_t_limbs])), (h_t_limbs, .inl (cL, 5, .inr (.inl (fun _ => 0))))] H := hP
  have hD : va_D A [(h_t, .inr (10, [.ref h_t_limbs])), (h_t_limbs, .inl (cL, 5, .inr (.inl (fun _ => 0))))] := hD
  refine W.widen (k := 1) (n := 5) (Nat.le_of_ble_eq_true rfl) (Nat.le_of_ble_eq_true rfl) ?_
  exact hret 11 ls _ _ (h_t_limbs, (fun _ => 0)) dX10_init_11  hF hP hD hS

def rm_X8_init : Room := { frames := 2, cells := 12, slots := 36, locals := 44 }
def F_X8_init (post : (Nat → Int64) → (Nat → Int64) → (Nat → Int64) → (Nat → Int64) → (Nat → Int64) → (Nat → Int64) → Prop) : Prop := (F_X10_init (fun v1 => (F_X10_init (fun v2 => (F_X10_init (fun v3 => (F_X10_init (fun v4 => (F_X10_init (fun v5 => (F_X10_init (fun v6 => post v1 v2 v3 v4 v5 v6))))))))))))
set_option maxHeartbeats 8000000 in
set_option maxRecDepth 100000 in
theorem c_X8_init (l : Launch) (G : va_G) (cI cL cZ : ClassId) (h_t : Nat) (sz : Nat) (post : (Nat → Int64) → (Nat → Int64) → (Nat → Int64) → (Nat → Int64) → (Nat → Int64) → (Nat → Int64) → Prop) (hF : F_X8_init post) : MetV l G (gT cI cL cZ) yX8_init (gW yX8_init cX8_init 1 none) rm_X8_init 12 36 [.ref h_t] sz [(h_t, .inr (8, [.null, .null, .null, .null, .null, .null]))] (fun (u : Nat × Nat × Nat × Nat × Nat × Nat × Nat × Nat × Nat × Nat × Nat × Nat × (Nat → Int64) × (Nat → Int64) × (Nat → Int64) × (Nat → Int64) × (Nat → Int64) × (Nat → Int64)) => [(h_t, .inr (8, [.ref u.1, .ref u.2.2.1, .ref u.2.2.2.2.1, .ref u.2.2.2.2.2.2.1, .ref u.2.2.2.2.2.2.2.2.1, .ref u.2.2.2.2.2.2.2.2.2.2.1])), (u.1, .inr (10, [.ref u.2.1])), (u.2.1, .inl (cL, 5, .inr (.inl u.2.2.2.2.2.2.2.2.2.2.2.2.1))), (u.2.2.1, .inr (10, [.ref u.2.2.2.1])), (u.2.2.2.1, .inl (cL, 5, .inr (.inl u.2.2.2.2.2.2.2.2.2.2.2.2.2.1))), (u.2.2.2.2.1, .inr (10, [.ref u.2.2.2.2.2.1])), (u.2.2.2.2.2.1, .inl (cL, 5, .inr (.inl u.2.2.2.2.2.2.2.2.2.2.2.2.2.2.1))), (u.2.2.2.2.2.2.1, .inr (10, [.ref u.2.2.2.2.2.2.2.1])), (u.2.2.2.2.2.2.2.1, .inl (cL, 5, .inr (.inl u.2.2.2.2.2.2.2.2.2.2.2.2.2.2.2.1))), (u.2.2.2.2.2.2.2.2.1, .inr (10, [.ref u.2.2.2.2.2.2.2.2.2.1])), (u.2.2.2.2.2.2.2.2.2.1, .inl (cL, 5, .inr (.inl u.2.2.2.2.2.2.2.2.2.2.2.2.2.2.2.2.1))), (u.2.2.2.2.2.2.2.2.2.2.1, .inr (10, [.ref u.2.2.2.2.2.2.2.2.2.2.2.1])), (u.2.2.2.2.2.2.2.2.2.2.2.1, .inl (cL, 5, .inr (.inl u.2.2.2.2.2.2.2.2.2.2.2.2.2.2.2.2.2)))]) (fun (u : Nat × Nat × Nat × Nat × Nat × Nat × Nat × Nat × Nat × Nat × Nat × Nat × (Nat → Int64) × (Nat → Int64) × (Nat → Int64) × (Nat → Int64) × (Nat → Int64) × (Nat → Int64)) => post u.2.2.2.2.2.2.2.2.2.2.2.2.1 u.2.2.2.2.2.2.2.2.2.2.2.2.2.1 u.2.2.2.2.2.2.2.2.2.2.2.2.2.2.1 u.2.2.2.2.2.2.2.2.2.2.2.2.2.2.2.1 u.2.2.2.2.2.2.2.2.2.2.2.2.2.2.2.2.1 u.2.2.2.2.2.2.2.2.2.2.2.2.2.2.2.2.2) := by
  refine startV (cc := cX8_init) (maxL := 1) (by decide +kernel) rfl (Nat.le_of_ble_eq_true rfl) ?_
  intro p e s m args below meth c Q ls A C0 hP hD hS hl hret
  obtain ⟨hx, hb, hml, hown, hts, hnw, hK, hA, hin⟩ := C0
  have hown : s.vm.findClass RX8 = some m.cls := hown
  have hl : lv_has ls 1 [(0, .ref h_t)] := hl
  refine lv_aload_n hx hb dX8_init_0 rfl (lv_at hl 0 rfl) ?_
  refine W.objInit hx hb hown (hts _ (List.mem_cons_of_mem _ mw_1_238)) (hts _ (List.mem_cons_of_mem _ mw_1_22)) (hts _ (List.mem_cons_of_mem _ mw_1_23)) rfl (by rw [hml]; exact hl.1) rfl dX8_init_1 (Nat.le_of_ble_eq_true rfl) (Nat.le_of_ble_eq_true rfl) ?_
  refine W.eq (g2 := F0 m 4 ls []) rfl ?_
  refine lv_aload_n hx hb dX8_init_4 rfl (lv_at hl 0 rfl) ?_
  refine va_new (ci := 10) (fs := [.null]) (C := RX10) (T := TX10) (N := 1) hx hb hts (fun w h => List.mem_cons_of_mem _ (inG_10 w h)) tyX10 tyX10_ok hown (hts _ (List.mem_cons_of_mem _ mw_1_239)) (hts _ (List.mem_cons_of_mem _ mw_2_0)) (hts _ (List.mem_cons_of_mem _ mw_1_11)) hK hP hD hS hA rfl (by decide +kernel) (Nat.le_of_ble_eq_true rfl) (Nat.le_of_ble_eq_true rfl) dX8_init_5 (fun h_t_factor H hP hD hS => ?_)
  have hP : va_P G vwCl [(h_t, .inr (8, [.null, .null, .null, .null, .null, .null])), (h_t_factor, .inr (10, [.null]))] H := hP
  have hD : va_D A [(h_t, .inr (8, [.null, .null, .null, .null, .null, .null])), (h_t_factor, .inr (10, [.null]))] := hD
  refine W.widen (k := 1) (n := 1) (Nat.le_of_ble_eq_true rfl) (Nat.le_of_ble_eq_true rfl) ?_
  refine lv_dup hx hb dX8_init_8 rfl ?_
  refine afterV (wr := [(h_t, .inr (8, [.null, .null, .null, .null, .null, .null]))]) (va_runIN (As := []) (rest := [.ref h_t_factor, .ref h_t]) ⟨hx, hb, hml, hown, hts⟩ (c_X10_init l G cI cL cZ h_t_factor _ _ hF) ⟨va_cnB 0 hts (gW_in mw_2_3) rfl rfl rfl (hnw (.methodLinkNest RX8 11 yX10_init "RayRoom") (by decide +kernel)) (hts _ (List.mem_cons_of_mem _ mw_1_11)) (by decide +kernel) ⟨Nat.le_of_ble_eq_true rfl, Nat.le_of_ble_eq_true rfl⟩, rfl, (hts _ (List.mem_cons_of_mem _ mw_2_2))⟩ ⟨gP_blind, gP_of hK hnw hP hD [1] (by decide +kernel) rfl rfl⟩ rfl rfl hl.1 rfl (lv_room (Nat.le_of_ble_eq_true rfl)) dX8_init_9 ⟨Nat.le_of_ble_eq_true rfl, Nat.le_of_ble_eq_true rfl⟩) hP hD hS hA [1] [0] rfl rfl (by decide +kernel) (by decide +kernel) (fun u H locs hF hP hD hS => ?_)
  obtain ⟨h_t_factor_limbs, v1⟩ := u
  try dsimp only at hF
  have hP : va_P G vwCl [(h_t, .inr (8, [.null, .null, .null, .null, .null, .null])), (h_t_factor, .inr (10, [.ref h_t_factor_limbs])), (h_t_factor_limbs, .inl (cL, 5, .inr (.inl v1)))] H := hP
  have hD : va_D A [(h_t, .inr (8, [.null, .null, .null, .null, .null, .null])), (h_t_factor, .inr (10, [.ref h_t_factor_limbs])), (h_t_factor_limbs, .inl (cL, 5, .inr (.inl v1)))] := hD
  refine W.widen (k := 2) (n := 6) (Nat.le_of_ble_eq_true rfl) (Nat.le_of_ble_eq_true rfl) ?_
  refine va_putF (D := G) (ci := 8) (v := .ref h_t_factor) (ty := .object "RayRoom$Wide") (C := RX8) (T := TX8) (N := 6) hx hb hts (fun w h => List.mem_cons_of_mem _ (inG_8 w h)) tyX8 tyX8_ok nmX8 hown hK hP hD hS 0 rfl rfl 0 (by decide) (hts _ (List.mem_cons_of_mem _ mw_2_9)) (fun _ h9 => h9) rfl hin rfl (by decide +kernel) rfl rfl (Nat.le_of_ble_eq_true rfl) dX8_init_12 (fun H locs hP hD hS => ?_)
  have hP : va_P G vwCl [(h_t, .inr (8, [.ref h_t_factor, .null, .null, .null, .null, .null])), (h_t_factor, .inr (10, [.ref h_t_factor_limbs])), (h_t_factor_limbs, .inl (cL, 5, .inr (.inl v1)))] H := hP
  have hD : va_D A [(h_t, .inr (8, [.ref h_t_factor, .null, .null, .null, .null, .null])), (h_t_factor, .inr (10, [.ref h_t_factor_limbs])), (h_t_factor_limbs, .inl (cL, 5, .inr (.inl v1)))] := hD
  refine lv_aload_n hx hb dX8_init_15 rfl (lv_at hl 0 rfl) ?_
  refine va_new (ci := 10) (fs := [.null]) (C := RX10) (T := TX10) (N := 1) hx hb hts (fun w h => List.mem_cons_of_mem _ (inG_10 w h)) tyX10 tyX10_ok hown (hts _ (List.mem_cons_of_mem _ mw_1_239)) (hts _ (List.mem_cons_of_mem _ mw_2_0)) (hts _ (List.mem_cons_of_mem _ mw_1_11)) hK hP hD hS hA rfl (by decide +kernel) (Nat.le_of_ble_eq_true rfl) (Nat.le_of_ble_eq_true rfl) dX8_init_16 (fun h_t_square H hP hD hS => ?_)
  have hP : va_P G vwCl [(h_t, .inr (8, [.ref h_t_factor, .null, .null, .null, .null, .null])), (h_t_factor, .inr (10, [.ref h_t_factor_limbs])), (h_t_factor_limbs, .inl (cL, 5, .inr (.inl v1))), (h_t_square, .inr (10, [.null]))] H := hP
  have hD : va_D A [(h_t, .inr (8, [.ref h_t_factor, .null, .null, .null, .null, .null])), (h_t_factor, .inr (10, [.ref h_t_factor_limbs])), (h_t_factor_limbs, .inl (cL, 5, .inr (.inl v1))), (h_t_square, .inr (10, [.null]))] := hD
  refine W.widen (k := 3) (n := 7) (Nat.le_of_ble_eq_true rfl) (Nat.le_of_ble_eq_true rfl) ?_
  refine lv_dup hx hb dX8_init_19 rfl ?_
  refine afterV (wr := [(h_t, .inr (8, [.ref h_t_factor, .null, .null, .null, .null, .null])), (h_t_factor, .inr (10, [.ref h_t_factor_limbs])), (h_t_factor_limbs, .inl (cL, 5, .inr (.inl v1)))]) (va_runIN (As := []) (rest := [.ref h_t_square, .ref h_t]) ⟨hx, hb, hml, hown, hts⟩ (c_X10_init l G cI cL cZ h_t_square _ _ hF) ⟨va_cnB 0 hts (gW_in mw_2_3) rfl rfl rfl (hnw (.methodLinkNest RX8 11 yX10_init "RayRoom") (by decide +kernel)) (hts _ (List.mem_cons_of_mem _ mw_1_11)) (by decide +kernel) ⟨Nat.le_of_ble_eq_true rfl, Nat.le_of_ble_eq_true rfl⟩, rfl, (hts _ (List.mem_cons_of_mem _ mw_2_2))⟩ ⟨gP_blind, gP_of hK hnw hP hD [3] (by decide +kernel) rfl rfl⟩ rfl rfl hl.1 rfl (lv_room (Nat.le_of_ble_eq_true rfl)) dX8_init_20 ⟨Nat.le_of_ble_eq_true rfl, Nat.le_of_ble_eq_true rfl⟩) hP hD hS hA [3] [0, 1, 2] rfl rfl (by decide +kernel) (by decide +kernel) (fun u H locs hF hP hD hS => ?_)
  obtain ⟨h_t_square_limbs, v2⟩ := u
  try dsimp only at hF
  have hP : va_P G vwCl [(h_t, .inr (8, [.ref h_t_factor, .null, .null, .null, .null, .null])), (h_t_factor, .inr (10, [.ref h_t_factor_limbs])), (h_t_factor_limbs, .inl (cL, 5, .inr (.inl v1))), (h_t_square, .inr (10, [.ref h_t_square_limbs])), (h_t_square_limbs, .inl (cL, 5, .inr (.inl v2)))] H := hP
  have hD : va_D A [(h_t, .inr (8, [.ref h_t_factor, .null, .null, .null, .null, .null])), (h_t_factor, .inr (10, [.ref h_t_factor_limbs])), (h_t_factor_limbs, .inl (cL, 5, .inr (.inl v1))), (h_t_square, .inr (10, [.ref h_t_square_limbs])), (h_t_square_limbs, .inl (cL, 5, .inr (.inl v2)))] := hD
  refine W.widen (k := 4) (n := 12) (Nat.le_of_ble_eq_true rfl) (Nat.le_of_ble_eq_true rfl) ?_
  refine va_putF (D := G) (ci := 8) (v := .ref h_t_square) (ty := .object "RayRoom$Wide") (C := RX8) (T := TX8) (N := 6) hx hb hts (fun w h => List.mem_cons_of_mem _ (inG_8 w h)) tyX8 tyX8_ok nmX8 hown hK hP hD hS 0 rfl rfl 1 (by decide) (hts _ (List.mem_cons_of_mem _ mw_2_10)) (fun _ h9 => h9) rfl hin rfl (by decide +kernel) rfl rfl (Nat.le_of_ble_eq_true rfl) dX8_init_23 (fun H locs hP hD hS => ?_)
  have hP : va_P G vwCl [(h_t, .inr (8, [.ref h_t_factor, .ref h_t_square, .null, .null, .null, .null])), (h_t_factor, .inr (10, [.ref h_t_factor_limbs])), (h_t_factor_limbs, .inl (cL, 5, .inr (.inl v1))), (h_t_square, .inr (10, [.ref h_t_square_limbs])), (h_t_square_limbs, .inl (cL, 5, .inr (.inl v2)))] H := hP
  have hD : va_D A [(h_t, .inr (8, [.ref h_t_factor, .ref h_t_square, .null, .null, .null, .null])), (h_t_factor, .inr (10, [.ref h_t_factor_limbs])), (h_t_factor_limbs, .inl (cL, 5, .inr (.inl v1))), (h_t_square, .inr (10, [.ref h_t_square_limbs])), (h_t_square_limbs, .inl (cL, 5, .inr (.inl v2)))] := hD
  refine lv_aload_n hx hb dX8_init_26 rfl (lv_at hl 0 rfl) ?_
  refine va_new (ci := 10) (fs := [.null]) (C := RX10) (T := TX10) (N := 1) hx hb hts (fun w h => List.mem_cons_of_mem _ (inG_10 w h)) tyX10 tyX10_ok hown (hts _ (List.mem_cons_of_mem _ mw_1_239)) (hts _ (List.mem_cons_of_mem _ mw_2_0)) (hts _ (List.mem_cons_of_mem _ mw_1_11)) hK hP hD hS hA rfl (by decide +kernel) (Nat.le_of_ble_eq_true rfl) (Nat.le_of_ble_eq_true rfl) dX8_init_27 (fun h_t_waySquare H hP hD hS => ?_)
  have hP : va_P G vwCl [(h_t, .inr (8, [.ref h_t_factor, .ref h_t_square, .null, .null, .null, .null])), (h_t_factor, .inr (10, [.ref h_t_factor_limbs])), (h_t_factor_limbs, .inl (cL, 5, .inr (.inl v1))), (h_t_square, .inr (10, [.ref h_t_square_limbs])), (h_t_square_limbs, .inl (cL, 5, .inr (.inl v2))), (h_t_waySquare, .inr (10, [.null]))] H := hP
  have hD : va_D A [(h_t, .inr (8, [.ref h_t_factor, .ref h_t_square, .null, .null, .null, .null])), (h_t_factor, .inr (10, [.ref h_t_factor_limbs])), (h_t_factor_limbs, .inl (cL, 5, .inr (.inl v1))), (h_t_square, .inr (10, [.ref h_t_square_limbs])), (h_t_square_limbs, .inl (cL, 5, .inr (.inl v2))), (h_t_waySquare, .inr (10, [.null]))] := hD
  refine W.widen (k := 5) (n := 13) (Nat.le_of_ble_eq_true rfl) (Nat.le_of_ble_eq_true rfl) ?_
  refine lv_dup hx hb dX8_init_30 rfl ?_
  refine afterV (wr := [(h_t, .inr (8, [.ref h_t_factor, .ref h_t_square, .null, .null, .null, .null])), (h_t_factor, .inr (10, [.ref h_t_factor_limbs])), (h_t_factor_limbs, .inl (cL, 5, .inr (.inl v1))), (h_t_square, .inr (10, [.ref h_t_square_limbs])), (h_t_square_limbs, .inl (cL, 5, .inr (.inl v2)))]) (va_runIN (As := []) (rest := [.ref h_t_waySquare, .ref h_t]) ⟨hx, hb, hml, hown, hts⟩ (c_X10_init l G cI cL cZ h_t_waySquare _ _ hF) ⟨va_cnB 0 hts (gW_in mw_2_3) rfl rfl rfl (hnw (.methodLinkNest RX8 11 yX10_init "RayRoom") (by decide +kernel)) (hts _ (List.mem_cons_of_mem _ mw_1_11)) (by decide +kernel) ⟨Nat.le_of_ble_eq_true rfl, Nat.le_of_ble_eq_true rfl⟩, rfl, (hts _ (List.mem_cons_of_mem _ mw_2_2))⟩ ⟨gP_blind, gP_of hK hnw hP hD [5] (by decide +kernel) rfl rfl⟩ rfl rfl hl.1 rfl (lv_room (Nat.le_of_ble_eq_true rfl)) dX8_init_31 ⟨Nat.le_of_ble_eq_true rfl, Nat.le_of_ble_eq_true rfl⟩) hP hD hS hA [5] [0, 1, 2, 3, 4] rfl rfl (by decide +kernel) (by decide +kernel) (fun u H locs hF hP hD hS => ?_)
  obtain ⟨h_t_waySquare_limbs, v3⟩ := u
  try dsimp only at hF
  have hP : va_P G vwCl [(h_t, .inr (8, [.ref h_t_factor, .ref h_t_square, .null, .null, .null, .null])), (h_t_factor, .inr (10, [.ref h_t_factor_limbs])), (h_t_factor_limbs, .inl (cL, 5, .inr (.inl v1))), (h_t_square, .inr (10, [.ref h_t_square_limbs])), (h_t_square_limbs, .inl (cL, 5, .inr (.inl v2))), (h_t_waySquare, .inr (10, [.ref h_t_waySquare_limbs])), (h_t_waySquare_limbs, .inl (cL, 5, .inr (.inl v3)))] H := hP
  have hD : va_D A [(h_t, .inr (8, [.ref h_t_factor, .ref h_t_square, .null, .null, .null, .null])), (h_t_factor, .inr (10, [.ref h_t_factor_limbs])), (h_t_factor_limbs, .inl (cL, 5, .inr (.inl v1))), (h_t_square, .inr (10, [.ref h_t_square_limbs])), (h_t_square_limbs, .inl (cL, 5, .inr (.inl v2))), (h_t_waySquare, .inr (10, [.ref h_t_waySquare_limbs])), (h_t_waySquare_limbs, .inl (cL, 5, .inr (.inl v3)))] := hD
  refine W.widen (k := 6) (n := 18) (Nat.le_of_ble_eq_true rfl) (Nat.le_of_ble_eq_true rfl) ?_
  refine va_putF (D := G) (ci := 8) (v := .ref h_t_waySquare) (ty := .object "RayRoom$Wide") (C := RX8) (T := TX8) (N := 6) hx hb hts (fun w h => List.mem_cons_of_mem _ (inG_8 w h)) tyX8 tyX8_ok nmX8 hown hK hP hD hS 0 rfl rfl 2 (by decide) (hts _ (List.mem_cons_of_mem _ mw_2_11)) (fun _ h9 => h9) rfl hin rfl (by decide +kernel) rfl rfl (Nat.le_of_ble_eq_true rfl) dX8_init_34 (fun H locs hP hD hS => ?_)
  have hP : va_P G vwCl [(h_t, .inr (8, [.ref h_t_factor, .ref h_t_square, .ref h_t_waySquare, .null, .null, .null])), (h_t_factor, .inr (10, [.ref h_t_factor_limbs])), (h_t_factor_limbs, .inl (cL, 5, .inr (.inl v1))), (h_t_square, .inr (10, [.ref h_t_square_limbs])), (h_t_square_limbs, .inl (cL, 5, .inr (.inl v2))), (h_t_waySquare, .inr (10, [.ref h_t_waySquare_limbs])), (h_t_waySquare_limbs, .inl (cL, 5, .inr (.inl v3)))] H := hP
  have hD : va_D A [(h_t, .inr (8, [.ref h_t_factor, .ref h_t_square, .ref h_t_waySquare, .null, .null, .null])), (h_t_factor, .inr (10, [.ref h_t_factor_limbs])), (h_t_factor_limbs, .inl (cL, 5, .inr (.inl v1))), (h_t_square, .inr (10, [.ref h_t_square_limbs])), (h_t_square_limbs, .inl (cL, 5, .inr (.inl v2))), (h_t_waySquare, .inr (10, [.ref h_t_waySquare_limbs])), (h_t_waySquare_limbs, .inl (cL, 5, .inr (.inl v3)))] := hD
  refine lv_aload_n hx hb dX8_init_37 rfl (lv_at hl 0 rfl) ?_
  refine va_new (ci := 10) (fs := [.null]) (C := RX10) (T := TX10) (N := 1) hx hb hts (fun w h => List.mem_cons_of_mem _ (inG_10 w h)) tyX10 tyX10_ok hown (hts _ (List.mem_cons_of_mem _ mw_1_239)) (hts _ (List.mem_cons_of_mem _ mw_2_0)) (hts _ (List.mem_cons_of_mem _ mw_1_11)) hK hP hD hS hA rfl (by decide +kernel) (Nat.le_of_ble_eq_true rfl) (Nat.le_of_ble_eq_true rfl) dX8_init_38 (fun h_t_riseSquare H hP hD hS => ?_)
  have hP : va_P G vwCl [(h_t, .inr (8, [.ref h_t_factor, .ref h_t_square, .ref h_t_waySquare, .null, .null, .null])), (h_t_factor, .inr (10, [.ref h_t_factor_limbs])), (h_t_factor_limbs, .inl (cL, 5, .inr (.inl v1))), (h_t_square, .inr (10, [.ref h_t_square_limbs])), (h_t_square_limbs, .inl (cL, 5, .inr (.inl v2))), (h_t_waySquare, .inr (10, [.ref h_t_waySquare_limbs])), (h_t_waySquare_limbs, .inl (cL, 5, .inr (.inl v3))), (h_t_riseSquare, .inr (10, [.null]))] H := hP
  have hD : va_D A [(h_t, .inr (8, [.ref h_t_factor, .ref h_t_square, .ref h_t_waySquare, .null, .null, .null])), (h_t_factor, .inr (10, [.ref h_t_factor_limbs])), (h_t_factor_limbs, .inl (cL, 5, .inr (.inl v1))), (h_t_square, .inr (10, [.ref h_t_square_limbs])), (h_t_square_limbs, .inl (cL, 5, .inr (.inl v2))), (h_t_waySquare, .inr (10, [.ref h_t_waySquare_limbs])), (h_t_waySquare_limbs, .inl (cL, 5, .inr (.inl v3))), (h_t_riseSquare, .inr (10, [.null]))] := hD
  refine W.widen (k := 7) (n := 19) (Nat.le_of_ble_eq_true rfl) (Nat.le_of_ble_eq_true rfl) ?_
  refine lv_dup hx hb dX8_init_41 rfl ?_
  refine afterV (wr := [(h_t, .inr (8, [.ref h_t_factor, .ref h_t_square, .ref h_t_waySquare, .null, .null, .null])), (h_t_factor, .inr (10, [.ref h_t_factor_limbs])), (h_t_factor_limbs, .inl (cL, 5, .inr (.inl v1))), (h_t_square, .inr (10, [.ref h_t_square_limbs])), (h_t_square_limbs, .inl (cL, 5, .inr (.inl v2))), (h_t_waySquare, .inr (10, [.ref h_t_waySquare_limbs])), (h_t_waySquare_limbs, .inl (cL, 5, .inr (.inl v3)))]) (va_runIN (As := []) (rest := [.ref h_t_riseSquare, .ref h_t]) ⟨hx, hb, hml, hown, hts⟩ (c_X10_init l G cI cL cZ h_t_riseSquare _ _ hF) ⟨va_cnB 0 hts (gW_in mw_2_3) rfl rfl rfl (hnw (.methodLinkNest RX8 11 yX10_init "RayRoom") (by decide +kernel)) (hts _ (List.mem_cons_of_mem _ mw_1_11)) (by decide +kernel) ⟨Nat.le_of_ble_eq_true rfl, Nat.le_of_ble_eq_true rfl⟩, rfl, (hts _ (List.mem_cons_of_mem _ mw_2_2))⟩ ⟨gP_blind, gP_of hK hnw hP hD [7] (by decide +kernel) rfl rfl⟩ rfl rfl hl.1 rfl (lv_room (Nat.le_of_ble_eq_true rfl)) dX8_init_42 ⟨Nat.le_of_ble_eq_true rfl, Nat.le_of_ble_eq_true rfl⟩) hP hD hS hA [7] [0, 1, 2, 3, 4, 5, 6] rfl rfl (by decide +kernel) (by decide +kernel) (fun u H locs hF hP hD hS => ?_)
  obtain ⟨h_t_riseSquare_limbs, v4⟩ := u
  try dsimp only at hF
  have hP : va_P G vwCl [(h_t, .inr (8, [.ref h_t_factor, .ref h_t_square, .ref h_t_waySquare, .null, .null, .null])), (h_t_factor, .inr (10, [.ref h_t_factor_limbs])), (h_t_factor_limbs, .inl (cL, 5, .inr (.inl v1))), (h_t_square, .inr (10, [.ref h_t_square_limbs])), (h_t_square_limbs, .inl (cL, 5, .inr (.inl v2))), (h_t_waySquare, .inr (10, [.ref h_t_waySquare_limbs])), (h_t_waySquare_limbs, .inl (cL, 5, .inr (.inl v3))), (h_t_riseSquare, .inr (10, [.ref h_t_riseSquare_limbs])), (h_t_riseSquare_limbs, .inl (cL, 5, .inr (.inl v4)))] H := hP
  have hD : va_D A [(h_t, .inr (8, [.ref h_t_factor, .ref h_t_square, .ref h_t_waySquare, .null, .null, .null])), (h_t_factor, .inr (10, [.ref h_t_factor_limbs])), (h_t_factor_limbs, .inl (cL, 5, .inr (.inl v1))), (h_t_square, .inr (10, [.ref h_t_square_limbs])), (h_t_square_limbs, .inl (cL, 5, .inr (.inl v2))), (h_t_waySquare, .inr (10, [.ref h_t_waySquare_limbs])), (h_t_waySquare_limbs, .inl (cL, 5, .inr (.inl v3))), (h_t_riseSquare, .inr (10, [.ref h_t_riseSquare_limbs])), (h_t_riseSquare_limbs, .inl (cL, 5, .inr (.inl v4)))] := hD
  refine W.widen (k := 8) (n := 24) (Nat.le_of_ble_eq_true rfl) (Nat.le_of_ble_eq_true rfl) ?_
  refine va_putF (D := G) (ci := 8) (v := .ref h_t_riseSquare) (ty := .object "RayRoom$Wide") (C := RX8) (T := TX8) (N := 6) hx hb hts (fun w h => List.mem_cons_of_mem _ (inG_8 w h)) tyX8 tyX8_ok nmX8 hown hK hP hD hS 0 rfl rfl 3 (by decide) (hts _ (List.mem_cons_of_mem _ mw_2_12)) (fun _ h9 => h9) rfl hin rfl (by decide +kernel) rfl rfl (Nat.le_of_ble_eq_true rfl) dX8_init_45 (fun H locs hP hD hS => ?_)
  have hP : va_P G vwCl [(h_t, .inr (8, [.ref h_t_factor, .ref h_t_square, .ref h_t_waySquare, .ref h_t_riseSquare, .null, .null])), (h_t_factor, .inr (10, [.ref h_t_factor_limbs])), (h_t_factor_limbs, .inl (cL, 5, .inr (.inl v1))), (h_t_square, .inr (10, [.ref h_t_square_limbs])), (h_t_square_limbs, .inl (cL, 5, .inr (.inl v2))), (h_t_waySquare, .inr (10, [.ref h_t_waySquare_limbs])), (h_t_waySquare_limbs, .inl (cL, 5, .inr (.inl v3))), (h_t_riseSquare, .inr (10, [.ref h_t_riseSquare_limbs])), (h_t_riseSquare_limbs, .inl (cL, 5, .inr (.inl v4)))] H := hP
  have hD : va_D A [(h_t, .inr (8, [.ref h_t_factor, .ref h_t_square, .ref h_t_waySquare, .ref h_t_riseSquare, .null, .null])), (h_t_factor, .inr (10, [.ref h_t_factor_limbs])), (h_t_factor_limbs, .inl (cL, 5, .inr (.inl v1))), (h_t_square, .inr (10, [.ref h_t_square_limbs])), (h_t_square_limbs, .inl (cL, 5, .inr (.inl v2))), (h_t_waySquare, .inr (10, [.ref h_t_waySquare_limbs])), (h_t_waySquare_limbs, .inl (cL, 5, .inr (.inl v3))), (h_t_riseSquare, .inr (10, [.ref h_t_riseSquare_limbs])), (h_t_riseSquare_limbs, .inl (cL, 5, .inr (.inl v4)))] := hD
  refine lv_aload_n hx hb dX8_init_48 rfl (lv_at hl 0 rfl) ?_
  refine va_new (ci := 10) (fs := [.null]) (C := RX10) (T := TX10) (N := 1) hx hb hts (fun w h => List.mem_cons_of_mem _ (inG_10 w h)) tyX10 tyX10_ok hown (hts _ (List.mem_cons_of_mem _ mw_1_239)) (hts _ (List.mem_cons_of_mem _ mw_2_0)) (hts _ (List.mem_cons_of_mem _ mw_1_11)) hK hP hD hS hA rfl (by decide +kernel) (Nat.le_of_ble_eq_true rfl) (Nat.le_of_ble_eq_true rfl) dX8_init_49 (fun h_t_unit H hP hD hS => ?_)
  have hP : va_P G vwCl [(h_t, .inr (8, [.ref h_t_factor, .ref h_t_square, .ref h_t_waySquare, .ref h_t_riseSquare, .null, .null])), (h_t_factor, .inr (10, [.ref h_t_factor_limbs])), (h_t_factor_limbs, .inl (cL, 5, .inr (.inl v1))), (h_t_square, .inr (10, [.ref h_t_square_limbs])), (h_t_square_limbs, .inl (cL, 5, .inr (.inl v2))), (h_t_waySquare, .inr (10, [.ref h_t_waySquare_limbs])), (h_t_waySquare_limbs, .inl (cL, 5, .inr (.inl v3))), (h_t_riseSquare, .inr (10, [.ref h_t_riseSquare_limbs])), (h_t_riseSquare_limbs, .inl (cL, 5, .inr (.inl v4))), (h_t_unit, .inr (10, [.null]))] H := hP
  have hD : va_D A [(h_t, .inr (8, [.ref h_t_factor, .ref h_t_square, .ref h_t_waySquare, .ref h_t_riseSquare, .null, .null])), (h_t_factor, .inr (10, [.ref h_t_factor_limbs])), (h_t_factor_limbs, .inl (cL, 5, .inr (.inl v1))), (h_t_square, .inr (10, [.ref h_t_square_limbs])), (h_t_square_limbs, .inl (cL, 5, .inr (.inl v2))), (h_t_waySquare, .inr (10, [.ref h_t_waySquare_limbs])), (h_t_waySquare_limbs, .inl (cL, 5, .inr (.inl v3))), (h_t_riseSquare, .inr (10, [.ref h_t_riseSquare_limbs])), (h_t_riseSquare_limbs, .inl (cL, 5, .inr (.inl v4))), (h_t_unit, .inr (10, [.null]))] := hD
  refine W.widen (k := 9) (n := 25) (Nat.le_of_ble_eq_true rfl) (Nat.le_of_ble_eq_true rfl) ?_
  refine lv_dup hx hb dX8_init_52 rfl ?_
  refine afterV (wr := [(h_t, .inr (8, [.ref h_t_factor, .ref h_t_square, .ref h_t_waySquare, .ref h_t_riseSquare, .null, .null])), (h_t_factor, .inr (10, [.ref h_t_factor_limbs])), (h_t_factor_limbs, .inl (cL, 5, .inr (.inl v1))), (h_t_square, .inr (10, [.ref h_t_square_limbs])), (h_t_square_limbs, .inl (cL, 5, .inr (.inl v2))), (h_t_waySquare, .inr (10, [.ref h_t_waySquare_limbs])), (h_t_waySquare_limbs, .inl (cL, 5, .inr (.inl v3))), (h_t_riseSquare, .inr (10, [.ref h_t_riseSquare_limbs])), (h_t_riseSquare_limbs, .inl (cL, 5, .inr (.inl v4)))]) (va_runIN (As := []) (rest := [.ref h_t_unit, .ref h_t]) ⟨hx, hb, hml, hown, hts⟩ (c_X10_init l G cI cL cZ h_t_unit _ _ hF) ⟨va_cnB 0 hts (gW_in mw_2_3) rfl rfl rfl (hnw (.methodLinkNest RX8 11 yX10_init "RayRoom") (by decide +kernel)) (hts _ (List.mem_cons_of_mem _ mw_1_11)) (by decide +kernel) ⟨Nat.le_of_ble_eq_true rfl, Nat.le_of_ble_eq_true rfl⟩, rfl, (hts _ (List.mem_cons_of_mem _ mw_2_2))⟩ ⟨gP_blind, gP_of hK hnw hP hD [9] (by decide +kernel) rfl rfl⟩ rfl rfl hl.1 rfl (lv_room (Nat.le_of_ble_eq_true rfl)) dX8_init_53 ⟨Nat.le_of_ble_eq_true rfl, Nat.le_of_ble_eq_true rfl⟩) hP hD hS hA [9] [0, 1, 2, 3, 4, 5, 6, 7, 8] rfl rfl (by decide +kernel) (by decide +kernel) (fun u H locs hF hP hD hS => ?_)
  obtain ⟨h_t_unit_limbs, v5⟩ := u
  try dsimp only at hF
  have hP : va_P G vwCl [(h_t, .inr (8, [.ref h_t_factor, .ref h_t_square, .ref h_t_waySquare, .ref h_t_riseSquare, .null, .null])), (h_t_factor, .inr (10, [.ref h_t_factor_limbs])), (h_t_factor_limbs, .inl (cL, 5, .inr (.inl v1))), (h_t_square, .inr (10, [.ref h_t_square_limbs])), (h_t_square_limbs, .inl (cL, 5, .inr (.inl v2))), (h_t_waySquare, .inr (10, [.ref h_t_waySquare_limbs])), (h_t_waySquare_limbs, .inl (cL, 5, .inr (.inl v3))), (h_t_riseSquare, .inr (10, [.ref h_t_riseSquare_limbs])), (h_t_riseSquare_limbs, .inl (cL, 5, .inr (.inl v4))), (h_t_unit, .inr (10, [.ref h_t_unit_limbs])), (h_t_unit_limbs, .inl (cL, 5, .inr (.inl v5)))] H := hP
  have hD : va_D A [(h_t, .inr (8, [.ref h_t_factor, .ref h_t_square, .ref h_t_waySquare, .ref h_t_riseSquare, .null, .null])), (h_t_factor, .inr (10, [.ref h_t_factor_limbs])), (h_t_factor_limbs, .inl (cL, 5, .inr (.inl v1))), (h_t_square, .inr (10, [.ref h_t_square_limbs])), (h_t_square_limbs, .inl (cL, 5, .inr (.inl v2))), (h_t_waySquare, .inr (10, [.ref h_t_waySquare_limbs])), (h_t_waySquare_limbs, .inl (cL, 5, .inr (.inl v3))), (h_t_riseSquare, .inr (10, [.ref h_t_riseSquare_limbs])), (h_t_riseSquare_limbs, .inl (cL, 5, .inr (.inl v4))), (h_t_unit, .inr (10, [.ref h_t_unit_limbs])), (h_t_unit_limbs, .inl (cL, 5, .inr (.inl v5)))] := hD
  refine W.widen (k := 10) (n := 30) (Nat.le_of_ble_eq_true rfl) (Nat.le_of_ble_eq_true rfl) ?_
  refine va_putF (D := G) (ci := 8) (v := .ref h_t_unit) (ty := .object "RayRoom$Wide") (C := RX8) (T := TX8) (N := 6) hx hb hts (fun w h => List.mem_cons_of_mem _ (inG_8 w h)) tyX8 tyX8_ok nmX8 hown hK hP hD hS 0 rfl rfl 4 (by decide) (hts _ (List.mem_cons_of_mem _ mw_2_13)) (fun _ h9 => h9) rfl hin rfl (by decide +kernel) rfl rfl (Nat.le_of_ble_eq_true rfl) dX8_init_56 (fun H locs hP hD hS => ?_)
  have hP : va_P G vwCl [(h_t, .inr (8, [.ref h_t_factor, .ref h_t_square, .ref h_t_waySquare, .ref h_t_riseSquare, .ref h_t_unit, .null])), (h_t_factor, .inr (10, [.ref h_t_factor_limbs])), (h_t_factor_limbs, .inl (cL, 5, .inr (.inl v1))), (h_t_square, .inr (10, [.ref h_t_square_limbs])), (h_t_square_limbs, .inl (cL, 5, .inr (.inl v2))), (h_t_waySquare, .inr (10, [.ref h_t_waySquare_limbs])), (h_t_waySquare_limbs, .inl (cL, 5, .inr (.inl v3))), (h_t_riseSquare, .inr (10, [.ref h_t_riseSquare_limbs])), (h_t_riseSquare_limbs, .inl (cL, 5, .inr (.inl v4))), (h_t_unit, .inr (10, [.ref h_t_unit_limbs])), (h_t_unit_limbs, .inl (cL, 5, .inr (.inl v5)))] H := hP
  have hD : va_D A [(h_t, .inr (8, [.ref h_t_factor, .ref h_t_square, .ref h_t_waySquare, .ref h_t_riseSquare, .ref h_t_unit, .null])), (h_t_factor, .inr (10, [.ref h_t_factor_limbs])), (h_t_factor_limbs, .inl (cL, 5, .inr (.inl v1))), (h_t_square, .inr (10, [.ref h_t_square_limbs])), (h_t_square_limbs, .inl (cL, 5, .inr (.inl v2))), (h_t_waySquare, .inr (10, [.ref h_t_waySquare_limbs])), (h_t_waySquare_limbs, .inl (cL, 5, .inr (.inl v3))), (h_t_riseSquare, .inr (10, [.ref h_t_riseSquare_limbs])), (h_t_riseSquare_limbs, .inl (cL, 5, .inr (.inl v4))), (h_t_unit, .inr (10, [.ref h_t_unit_limbs])), (h_t_unit_limbs, .inl (cL, 5, .inr (.inl v5)))] := hD
  refine lv_aload_n hx hb dX8_init_59 rfl (lv_at hl 0 rfl) ?_
  refine va_new (ci := 10) (fs := [.null]) (C := RX10) (T := TX10) (N := 1) hx hb hts (fun w h => List.mem_cons_of_mem _ (inG_10 w h)) tyX10 tyX10_ok hown (hts _ (List.mem_cons_of_mem _ mw_1_239)) (hts _ (List.mem_cons_of_mem _ mw_2_0)) (hts _ (List.mem_cons_of_mem _ mw_1_11)) hK hP hD hS hA rfl (by decide +kernel) (Nat.le_of_ble_eq_true rfl) (Nat.le_of_ble_eq_true rfl) dX8_init_60 (fun h_t_bound H hP hD hS => ?_)
  have hP : va_P G vwCl [(h_t, .inr (8, [.ref h_t_factor, .ref h_t_square, .ref h_t_waySquare, .ref h_t_riseSquare, .ref h_t_unit, .null])), (h_t_factor, .inr (10, [.ref h_t_factor_limbs])), (h_t_factor_limbs, .inl (cL, 5, .inr (.inl v1))), (h_t_square, .inr (10, [.ref h_t_square_limbs])), (h_t_square_limbs, .inl (cL, 5, .inr (.inl v2))), (h_t_waySquare, .inr (10, [.ref h_t_waySquare_limbs])), (h_t_waySquare_limbs, .inl (cL, 5, .inr (.inl v3))), (h_t_riseSquare, .inr (10, [.ref h_t_riseSquare_limbs])), (h_t_riseSquare_limbs, .inl (cL, 5, .inr (.inl v4))), (h_t_unit, .inr (10, [.ref h_t_unit_limbs])), (h_t_unit_limbs, .inl (cL, 5, .inr (.inl v5))), (h_t_bound, .inr (10, [.null]))] H := hP
  have hD : va_D A [(h_t, .inr (8, [.ref h_t_factor, .ref h_t_square, .ref h_t_waySquare, .ref h_t_riseSquare, .ref h_t_unit, .null])), (h_t_factor, .inr (10, [.ref h_t_factor_limbs])), (h_t_factor_limbs, .inl (cL, 5, .inr (.inl v1))), (h_t_square, .inr (10, [.ref h_t_square_limbs])), (h_t_square_limbs, .inl (cL, 5, .inr (.inl v2))), (h_t_waySquare, .inr (10, [.ref h_t_waySquare_limbs])), (h_t_waySquare_limbs, .inl (cL, 5, .inr (.inl v3))), (h_t_riseSquare, .inr (10, [.ref h_t_riseSquare_limbs])), (h_t_riseSquare_limbs, .inl (cL, 5, .inr (.inl v4))), (h_t_unit, .inr (10, [.ref h_t_unit_limbs])), (h_t_unit_limbs, .inl (cL, 5, .inr (.inl v5))), (h_t_bound, .inr (10, [.null]))] := hD
  refine W.widen (k := 11) (n := 31) (Nat.le_of_ble_eq_true rfl) (Nat.le_of_ble_eq_true rfl) ?_
  refine lv_dup hx hb dX8_init_63 rfl ?_
  refine afterV (wr := [(h_t, .inr (8, [.ref h_t_factor, .ref h_t_square, .ref h_t_waySquare, .ref h_t_riseSquare, .ref h_t_unit, .null])), (h_t_factor, .inr (10, [.ref h_t_factor_limbs])), (h_t_factor_limbs, .inl (cL, 5, .inr (.inl v1))), (h_t_square, .inr (10, [.ref h_t_square_limbs])), (h_t_square_limbs, .inl (cL, 5, .inr (.inl v2))), (h_t_waySquare, .inr (10, [.ref h_t_waySquare_limbs])), (h_t_waySquare_limbs, .inl (cL, 5, .inr (.inl v3))), (h_t_riseSquare, .inr (10, [.ref h_t_riseSquare_limbs])), (h_t_riseSquare_limbs, .inl (cL, 5, .inr (.inl v4))), (h_t_unit, .inr (10, [.ref h_t_unit_limbs])), (h_t_unit_limbs, .inl (cL, 5, .inr (.inl v5)))]) (va_runIN (As := []) (rest := [.ref h_t_bound, .ref h_t]) ⟨hx, hb, hml, hown, hts⟩ (c_X10_init l G cI cL cZ h_t_bound _ _ hF) ⟨va_cnB 0 hts (gW_in mw_2_3) rfl rfl rfl (hnw (.methodLinkNest RX8 11 yX10_init "RayRoom") (by decide +kernel)) (hts _ (List.mem_cons_of_mem _ mw_1_11)) (by decide +kernel) ⟨Nat.le_of_ble_eq_true rfl, Nat.le_of_ble_eq_true rfl⟩, rfl, (hts _ (List.mem_cons_of_mem _ mw_2_2))⟩ ⟨gP_blind, gP_of hK hnw hP hD [11] (by decide +kernel) rfl rfl⟩ rfl rfl hl.1 rfl (lv_room (Nat.le_of_ble_eq_true rfl)) dX8_init_64 ⟨Nat.le_of_ble_eq_true rfl, Nat.le_of_ble_eq_true rfl⟩) hP hD hS hA [11] [0, 1, 2, 3, 4, 5, 6, 7, 8, 9, 10] rfl rfl (by decide +kernel) (by decide +kernel) (fun u H locs hF hP hD hS => ?_)
  obtain ⟨h_t_bound_limbs, v6⟩ := u
  try dsimp only at hF
  have hP : va_P G vwCl [(h_t, .inr (8, [.ref h_t_factor, .ref h_t_square, .ref h_t_waySquare, .ref h_t_riseSquare, .ref h_t_unit, .null])), (h_t_factor, .inr (10, [.ref h_t_factor_limbs])), (h_t_factor_limbs, .inl (cL, 5, .inr (.inl v1))), (h_t_square, .inr (10, [.ref h_t_square_limbs])), (h_t_square_limbs, .inl (cL, 5, .inr (.inl v2))), (h_t_waySquare, .inr (10, [.ref h_t_waySquare_limbs])), (h_t_waySquare_limbs, .inl (cL, 5, .inr (.inl v3))), (h_t_riseSquare, .inr (10, [.ref h_t_riseSquare_limbs])), (h_t_riseSquare_limbs, .inl (cL, 5, .inr (.inl v4))), (h_t_unit, .inr (10, [.ref h_t_unit_limbs])), (h_t_unit_limbs, .inl (cL, 5, .inr (.inl v5))), (h_t_bound, .inr (10, [.ref h_t_bound_limbs])), (h_t_bound_limbs, .inl (cL, 5, .inr (.inl v6)))] H := hP
  have hD : va_D A [(h_t, .inr (8, [.ref h_t_factor, .ref h_t_square, .ref h_t_waySquare, .ref h_t_riseSquare, .ref h_t_unit, .null])), (h_t_factor, .inr (10, [.ref h_t_factor_limbs])), (h_t_factor_limbs, .inl (cL, 5, .inr (.inl v1))), (h_t_square, .inr (10, [.ref h_t_square_limbs])), (h_t_square_limbs, .inl (cL, 5, .inr (.inl v2))), (h_t_waySquare, .inr (10, [.ref h_t_waySquare_limbs])), (h_t_waySquare_limbs, .inl (cL, 5, .inr (.inl v3))), (h_t_riseSquare, .inr (10, [.ref h_t_riseSquare_limbs])), (h_t_riseSquare_limbs, .inl (cL, 5, .inr (.inl v4))), (h_t_unit, .inr (10, [.ref h_t_unit_limbs])), (h_t_unit_limbs, .inl (cL, 5, .inr (.inl v5))), (h_t_bound, .inr (10, [.ref h_t_bound_limbs])), (h_t_bound_limbs, .inl (cL, 5, .inr (.inl v6)))] := hD
  refine W.widen (k := 12) (n := 36) (Nat.le_of_ble_eq_true rfl) (Nat.le_of_ble_eq_true rfl) ?_
  refine va_putF (D := G) (ci := 8) (v := .ref h_t_bound) (ty := .object "RayRoom$Wide") (C := RX8) (T := TX8) (N := 6) hx hb hts (fun w h => List.mem_cons_of_mem _ (inG_8 w h)) tyX8 tyX8_ok nmX8 hown hK hP hD hS 0 rfl rfl 5 (by decide) (hts _ (List.mem_cons_of_mem _ mw_2_14)) (fun _ h9 => h9) rfl hin rfl (by decide +kernel) rfl rfl (Nat.le_of_ble_eq_true rfl) dX8_init_67 (fun H locs hP hD hS => ?_)
  have hP : va_P G vwCl [(h_t, .inr (8, [.ref h_t_factor, .ref h_t_square, .ref h_t_waySquare, .ref h_t_riseSquare, .ref h_t_unit, .ref h_t_bound])), (h_t_factor, .inr (10, [.ref h_t_factor_limbs])), (h_t_factor_limbs, .inl (cL, 5, .inr (.inl v1))), (h_t_square, .inr (10, [.ref h_t_square_limbs])), (h_t_square_limbs, .inl (cL, 5, .inr (.inl v2))), (h_t_waySquare, .inr (10, [.ref h_t_waySquare_limbs])), (h_t_waySquare_limbs, .inl (cL, 5, .inr (.inl v3))), (h_t_riseSquare, .inr (10, [.ref h_t_riseSquare_limbs])), (h_t_riseSquare_limbs, .inl (cL, 5, .inr (.inl v4))), (h_t_unit, .inr (10, [.ref h_t_unit_limbs])), (h_t_unit_limbs, .inl (cL, 5, .inr (.inl v5))), (h_t_bound, .inr (10, [.ref h_t_bound_limbs])), (h_t_bound_limbs, .inl (cL, 5, .inr (.inl v6)))] H := hP
  have hD : va_D A [(h_t, .inr (8, [.ref h_t_factor, .ref h_t_square, .ref h_t_waySquare, .ref h_t_riseSquare, .ref h_t_unit, .ref h_t_bound])), (h_t_factor, .inr (10, [.ref h_t_factor_limbs])), (h_t_factor_limbs, .inl (cL, 5, .inr (.inl v1))), (h_t_square, .inr (10, [.ref h_t_square_limbs])), (h_t_square_limbs, .inl (cL, 5, .inr (.inl v2))), (h_t_waySquare, .inr (10, [.ref h_t_waySquare_limbs])), (h_t_waySquare_limbs, .inl (cL, 5, .inr (.inl v3))), (h_t_riseSquare, .inr (10, [.ref h_t_riseSquare_limbs])), (h_t_riseSquare_limbs, .inl (cL, 5, .inr (.inl v4))), (h_t_unit, .inr (10, [.ref h_t_unit_limbs])), (h_t_unit_limbs, .inl (cL, 5, .inr (.inl v5))), (h_t_bound, .inr (10, [.ref h_t_bound_limbs])), (h_t_bound_limbs, .inl (cL, 5, .inr (.inl v6)))] := hD
  refine W.widen (k := 12) (n := 36) (Nat.le_of_ble_eq_true rfl) (Nat.le_of_ble_eq_true rfl) ?_
  exact hret 70 ls _ _ (h_t_factor, h_t_factor_limbs, h_t_square, h_t_square_limbs, h_t_waySquare, h_t_waySquare_limbs, h_t_riseSquare, h_t_riseSquare_limbs, h_t_unit, h_t_unit_limbs, h_t_bound, h_t_bound_limbs, v1, v2, v3, v4, v5, v6) dX8_init_70  hF hP hD hS

def rm_X0_init : Room := { frames := 1, cells := 2, slots := 6, locals := 24 }
def F_X0_init (post : (Nat → Int64) → (Nat → Int64) → Prop) : Prop := post (fun _ => 0) (fun _ => 0)
set_option maxHeartbeats 8000000 in
set_option maxRecDepth 100000 in
theorem c_X0_init (l : Launch) (G : va_G) (cI cL cZ : ClassId) (h_t : Nat) (sz : Nat) (post : (Nat → Int64) → (Nat → Int64) → Prop) (hF : F_X0_init post) : MetV l G (gT cI cL cZ) yX0_init (gW yX0_init cX0_init 1 none) rm_X0_init 2 6 [.ref h_t] sz [(h_t, .inr (0, [.null, .null]))] (fun (u : Nat × Nat × (Nat → Int64) × (Nat → Int64)) => [(h_t, .inr (0, [.ref u.1, .ref u.2.1])), (u.1, .inl (cL, 3, .inr (.inl u.2.2.1))), (u.2.1, .inl (cL, 3, .inr (.inl u.2.2.2)))]) (fun (u : Nat × Nat × (Nat → Int64) × (Nat → Int64)) => post u.2.2.1 u.2.2.2) := by
  refine startV (cc := cX0_init) (maxL := 1) (by decide +kernel) rfl (Nat.le_of_ble_eq_true rfl) ?_
  intro p e s m args below meth c Q ls A C0 hP hD hS hl hret
  obtain ⟨hx, hb, hml, hown, hts, hnw, hK, hA, hin⟩ := C0
  have hown : s.vm.findClass RX0 = some m.cls := hown
  have hl : lv_has ls 1 [(0, .ref h_t)] := hl
  refine lv_aload_n hx hb dX0_init_0 rfl (lv_at hl 0 rfl) ?_
  refine W.objInit hx hb hown (hts _ (List.mem_cons_of_mem _ mw_2_33)) (hts _ (List.mem_cons_of_mem _ mw_1_22)) (hts _ (List.mem_cons_of_mem _ mw_1_23)) rfl (by rw [hml]; exact hl.1) rfl dX0_init_1 (Nat.le_of_ble_eq_true rfl) (Nat.le_of_ble_eq_true rfl) ?_
  refine W.eq (g2 := F0 m 4 ls []) rfl ?_
  refine lv_aload_n hx hb dX0_init_4 rfl (lv_at hl 0 rfl) ?_
  refine lv_iconst (v := 3) hx hb dX0_init_5 (by decide) ?_
  refine g_newJ (N9 := 3) hx hb (hts _ (List.mem_cons_of_mem _ mw_1_164)) hK hP hD hS hA (by decide) (by decide) (by decide) (Nat.le_of_ble_eq_true rfl) (Nat.le_of_ble_eq_true rfl) dX0_init_6 (fun h_t_middle H hP hD hS => ?_)
  have hP : va_P G vwCl [(h_t, .inr (0, [.null, .null])), (h_t_middle, .inl (cL, 3, .inr (.inl (fun _ => 0))))] H := hP
  have hD : va_D A [(h_t, .inr (0, [.null, .null])), (h_t_middle, .inl (cL, 3, .inr (.inl (fun _ => 0))))] := hD
  refine W.widen (k := 1) (n := 3) (Nat.le_of_ble_eq_true rfl) (Nat.le_of_ble_eq_true rfl) ?_
  refine va_putF (D := G) (ci := 0) (v := .ref h_t_middle) (ty := .array .long) (C := RX0) (T := TX0) (N := 2) hx hb hts (fun w h => List.mem_cons_of_mem _ (inG_0 w h)) tyX0 tyX0_ok nmX0 hown hK hP hD hS 0 rfl rfl 0 (by decide) (hts _ (List.mem_cons_of_mem _ mw_2_34)) (fun _ h9 => h9) rfl hin rfl (by decide +kernel) rfl rfl (Nat.le_of_ble_eq_true rfl) dX0_init_8 (fun H locs hP hD hS => ?_)
  have hP : va_P G vwCl [(h_t, .inr (0, [.ref h_t_middle, .null])), (h_t_middle, .inl (cL, 3, .inr (.inl (fun _ => 0))))] H := hP
  have hD : va_D A [(h_t, .inr (0, [.ref h_t_middle, .null])), (h_t_middle, .inl (cL, 3, .inr (.inl (fun _ => 0))))] := hD
  refine lv_aload_n hx hb dX0_init_11 rfl (lv_at hl 0 rfl) ?_
  refine lv_iconst (v := 3) hx hb dX0_init_12 (by decide) ?_
  refine g_newJ (N9 := 3) hx hb (hts _ (List.mem_cons_of_mem _ mw_1_164)) hK hP hD hS hA (by decide) (by decide) (by decide) (Nat.le_of_ble_eq_true rfl) (Nat.le_of_ble_eq_true rfl) dX0_init_13 (fun h_t_reach H hP hD hS => ?_)
  have hP : va_P G vwCl [(h_t, .inr (0, [.ref h_t_middle, .null])), (h_t_middle, .inl (cL, 3, .inr (.inl (fun _ => 0)))), (h_t_reach, .inl (cL, 3, .inr (.inl (fun _ => 0))))] H := hP
  have hD : va_D A [(h_t, .inr (0, [.ref h_t_middle, .null])), (h_t_middle, .inl (cL, 3, .inr (.inl (fun _ => 0)))), (h_t_reach, .inl (cL, 3, .inr (.inl (fun _ => 0))))] := hD
  refine W.widen (k := 2) (n := 6) (Nat.le_of_ble_eq_true rfl) (Nat.le_of_ble_eq_true rfl) ?_
  refine va_putF (D := G) (ci := 0) (v := .ref h_t_reach) (ty := .array .long) (C := RX0) (T := TX0) (N := 2) hx hb hts (fun w h => List.mem_cons_of_mem _ (inG_0 w h)) tyX0 tyX0_ok nmX0 hown hK hP hD hS 0 rfl rfl 1 (by decide) (hts _ (List.mem_cons_of_mem _ mw_2_35)) (fun _ h9 => h9) rfl hin rfl (by decide +kernel) rfl rfl (Nat.le_of_ble_eq_true rfl) dX0_init_15 (fun H locs hP hD hS => ?_)
  have hP : va_P G vwCl [(h_t, .inr (0, [.ref h_t_middle, .ref h_t_reach])), (h_t_middle, .inl (cL, 3, .inr (.inl (fun _ => 0)))), (h_t_reach, .inl (cL, 3, .inr (.inl (fun _ => 0))))] H := hP
  have hD : va_D A [(h_t, .inr (0, [.ref h_t_middle, .ref h_t_reach])), (h_t_middle, .inl (cL, 3, .inr (.inl (fun _ => 0)))), (h_t_reach, .inl (cL, 3, .inr (.inl (fun _ => 0))))] := hD
  refine W.widen (k := 2) (n := 6) (Nat.le_of_ble_eq_true rfl) (Nat.le_of_ble_eq_true rfl) ?_
  exact hret 18 ls _ _ (h_t_middle, h_t_reach, (fun _ => 0), (fun _ => 0)) dX0_init_18  hF hP hD hS
