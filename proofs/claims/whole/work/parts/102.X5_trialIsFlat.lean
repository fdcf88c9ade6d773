def rm_X5_trialIsFlat : Room := { frames := 0, cells := 0, slots := 0, locals := 0 }
def F_X5_trialIsFlat (v_t_trial : Nat → Int32) (v_t_trialNormal : Nat → Int32) (post : Int32 → (Nat → Int32) → Prop) : Prop := (vp_in 3 9 ∧ (vp_in 0 9 ∧ (∀ x3 : Int32, x3 = ((v_t_trial (3 : Int32).toNatClampNeg) - (v_t_trial (0 : Int32).toNatClampNeg)) → (vp_in 4 9 ∧ (vp_in 1 9 ∧ (∀ x6 : Int32, x6 = ((v_t_trial (4 : Int32).toNatClampNeg) - (v_t_trial (1 : Int32).toNatClampNeg)) → (vp_in 5 9 ∧ (vp_in 2 9 ∧ (∀ x9 : Int32, x9 = ((v_t_trial (5 : Int32).toNatClampNeg) - (v_t_trial (2 : Int32).toNatClampNeg)) → (vp_in 6 9 ∧ (vp_in 0 9 ∧ (∀ x12 : Int32, x12 = ((v_t_trial (6 : Int32).toNatClampNeg) - (v_t_trial (0 : Int32).toNatClampNeg)) → (vp_in 7 9 ∧ (vp_in 1 9 ∧ (∀ x15 : Int32, x15 = ((v_t_trial (7 : Int32).toNatClampNeg) - (v_t_trial (1 : Int32).toNatClampNeg)) → (vp_in 8 9 ∧ (vp_in 2 9 ∧ (∀ x18 : Int32, x18 = ((v_t_trial (8 : Int32).toNatClampNeg) - (v_t_trial (2 : Int32).toNatClampNeg)) → (vp_in 0 3 ∧ (∀ g20 : Nat → Int32, g20 = upd v_t_trialNormal ((0 : Int32).toNatClampNeg) ((x6 * x18) - (x9 * x15)) → (vp_in 1 3 ∧ (∀ g22 : Nat → Int32, g22 = upd g20 ((1 : Int32).toNatClampNeg) ((x9 * x12) - (x3 * x18)) → (vp_in 2 3 ∧ (∀ g24 : Nat → Int32, g24 = upd g22 ((2 : Int32).toNatClampNeg) ((x3 * x15) - (x6 * x12)) → (vp_in 0 3 ∧ ((¬ (g24 (0 : Int32).toNatClampNeg) = 0 → post 0 g24) ∧ ((g24 (0 : Int32).toNatClampNeg) = 0 → (vp_in 1 3 ∧ ((¬ (g24 (1 : Int32).toNatClampNeg) = 0 → post 0 g24) ∧ ((g24 (1 : Int32).toNatClampNeg) = 0 → (vp_in 2 3 ∧ ((¬ (g24 (2 : Int32).toNatClampNeg) = 0 → post 0 g24) ∧ ((g24 (2 : Int32).toNatClampNeg) = 0 → post 1 g24)))))))))))))))))))))))))))))))))
set_option maxHeartbeats 8000000 in
set_option maxRecDepth 100000 in
theorem c_X5_trialIsFlat (l : Launch) (G : va_G) (cI cL cZ : ClassId) (h_t : Nat) (h_t_corners : Nat) (h_t_normals : Nat) (h_t_tones : Nat) (h_t_trial : Nat) (h_t_trialNormal : Nat) (v_t_trial : Nat → Int32) (v_t_trialNormal : Nat → Int32) (v_t_many : Int32) (sz : Nat) (post : Int32 → (Nat → Int32) → Prop) (hF : F_X5_trialIsFlat v_t_trial v_t_trialNormal post) : MetI l G (gT cI cL cZ) yX5_trialIsFlat (gW yX5_trialIsFlat cX5_trialIsFlat 7 (some .boolean)) rm_X5_trialIsFlat 0 0 [.ref h_t] sz [(h_t, .inr (5, [.ref h_t_corners, .ref h_t_normals, .ref h_t_tones, .ref h_t_trial, .ref h_t_trialNormal, .int v_t_many])), (h_t_trial, .inl (cI, 9, .inl v_t_trial)), (h_t_trialNormal, .inl (cI, 3, .inl v_t_trialNormal))] (fun (u : (Nat → Int32)) => [(h_t, .inr (5, [.ref h_t_corners, .ref h_t_normals, .ref h_t_tones, .ref h_t_trial, .ref h_t_trialNormal, .int v_t_many])), (h_t_trial, .inl (cI, 9, .inl v_t_trial)), (h_t_trialNormal, .inl (cI, 3, .inl u))]) (fun (r : Int32) (u : (Nat → Int32)) => post r u) := by
  refine startI (cc := cX5_trialIsFlat) (maxL := 7) (ty9 := .boolean) (by decide +kernel) rfl (Nat.le_of_ble_eq_true rfl) ?_
  intro p e s m args below meth c Q ls A C0 hP hD hS hl hret
  obtain ⟨hx, hb, hml, hown, hts, hnw, hK, hA, hin⟩ := C0
  have hown : s.vm.findClass RX5 = some m.cls := hown
  have hl : lv_has ls 7 [(0, .ref h_t)] := hl
  refine lv_aload_n hx hb dX5_trialIsFlat_0 rfl (lv_at hl 0 rfl) ?_
  refine va_get (D := G) (ci := 5) (v := .ref h_t_trial) (C := RX5) (T := TX5) (N := 6) hx hb hts (fun w h => List.mem_cons_of_mem _ (inG_5 w h)) hown hK hP 0 rfl rfl 3 (by decide) (hts _ (List.mem_cons_of_mem _ mw_1_47)) (fun _ h9 => h9) rfl dX5_trialIsFlat_1 ?_
  refine lv_iconst (v := 3) hx hb dX5_trialIsFlat_4 (by decide) ?_
  obtain ⟨b1, hF⟩ := hF
  refine va_iald hx hb hK hP 1 0 rfl rfl b1 dX5_trialIsFlat_5 ?_
  refine lv_aload_n hx hb dX5_trialIsFlat_6 rfl (lv_at hl 0 rfl) ?_
  refine va_get (D := G) (ci := 5) (v := .ref h_t_trial) (C := RX5) (T := TX5) (N := 6) hx hb hts (fun w h => List.mem_cons_of_mem _ (inG_5 w h)) hown hK hP 0 rfl rfl 3 (by decide) (hts _ (List.mem_cons_of_mem _ mw_1_47)) (fun _ h9 => h9) rfl dX5_trialIsFlat_7 ?_
  refine lv_iconst (v := 0) hx hb dX5_trialIsFlat_10 (by decide) ?_
  obtain ⟨b2, hF⟩ := hF
  refine va_iald hx hb hK hP 1 0 rfl rfl b2 dX5_trialIsFlat_11 ?_
  refine lv_isub hx hb dX5_trialIsFlat_12 ?_
  refine lv_topi (fun x3 ex3 => ?_)
  have hF := hF x3 ex3
  refine lv_istore_n (lv' := [(1, .int x3), (0, .ref h_t)]) hx hb dX5_trialIsFlat_13 rfl hl (by decide) rfl (fun ls hl => ?_)
  refine lv_aload_n hx hb dX5_trialIsFlat_14 rfl (lv_at hl 1 rfl) ?_
  refine va_get (D := G) (ci := 5) (v := .ref h_t_trial) (C := RX5) (T := TX5) (N := 6) hx hb hts (fun w h => List.mem_cons_of_mem _ (inG_5 w h)) hown hK hP 0 rfl rfl 3 (by decide) (hts _ (List.mem_cons_of_mem _ mw_1_47)) (fun _ h9 => h9) rfl dX5_trialIsFlat_15 ?_
  refine lv_iconst (v := 4) hx hb dX5_trialIsFlat_18 (by decide) ?_
  obtain ⟨b4, hF⟩ := hF
  refine va_iald hx hb hK hP 1 0 rfl rfl b4 dX5_trialIsFlat_19 ?_
  refine lv_aload_n hx hb dX5_trialIsFlat_20 rfl (lv_at hl 1 rfl) ?_
  refine va_get (D := G) (ci := 5) (v := .ref h_t_trial) (C := RX5) (T := TX5) (N := 6) hx hb hts (fun w h => List.mem_cons_of_mem _ (inG_5 w h)) hown hK hP 0 rfl rfl 3 (by decide) (hts _ (List.mem_cons_of_mem _ mw_1_47)) (fun _ h9 => h9) rfl dX5_trialIsFlat_21 ?_
  refine lv_iconst (v := 1) hx hb dX5_trialIsFlat_24 (by decide) ?_
  obtain ⟨b5, hF⟩ := hF
  refine va_iald hx hb hK hP 1 0 rfl rfl b5 dX5_trialIsFlat_25 ?_
  refine lv_isub hx hb dX5_trialIsFlat_26 ?_
  refine lv_topi (fun x6 ex6 => ?_)
  have hF := hF x6 ex6
  refine lv_istore_n (lv' := [(2, .int x6), (1, .int x3), (0, .ref h_t)]) hx hb dX5_trialIsFlat_27 rfl hl (by decide) rfl (fun ls hl => ?_)
  refine lv_aload_n hx hb dX5_trialIsFlat_28 rfl (lv_at hl 2 rfl) ?_
  refine va_get (D := G) (ci := 5) (v := .ref h_t_trial) (C := RX5) (T := TX5) (N := 6) hx hb hts (fun w h => List.mem_cons_of_mem _ (inG_5 w h)) hown hK hP 0 rfl rfl 3 (by decide) (hts _ (List.mem_cons_of_mem _ mw_1_47)) (fun _ h9 => h9) rfl dX5_trialIsFlat_29 ?_
  refine lv_iconst (v := 5) hx hb dX5_trialIsFlat_32 (by decide) ?_
  obtain ⟨b7, hF⟩ := hF
  refine va_iald hx hb hK hP 1 0 rfl rfl b7 dX5_trialIsFlat_33 ?_
  refine lv_aload_n hx hb dX5_trialIsFlat_34 rfl (lv_at hl 2 rfl) ?_
  refine va_get (D := G) (ci := 5) (v := .ref h_t_trial) (C := RX5) (T := TX5) (N := 6) hx hb hts (fun w h => List.mem_cons_of_mem _ (inG_5 w h)) hown hK hP 0 rfl rfl 3 (by decide) (hts _ (List.mem_cons_of_mem _ mw_1_47)) (fun _ h9 => h9) rfl dX5_trialIsFlat_35 ?_
  refine lv_iconst (v := 2) hx hb dX5_trialIsFlat_38 (by decide) ?_
  obtain ⟨b8, hF⟩ := hF
  refine va_iald hx hb hK hP 1 0 rfl rfl b8 dX5_trialIsFlat_39 ?_
  refine lv_isub hx hb dX5_trialIsFlat_40 ?_
  refine lv_topi (fun x9 ex9 => ?_)
  have hF := hF x9 ex9
  refine lv_istore_n (lv' := [(3, .int x9), (2, .int x6), (1, .int x3), (0, .ref h_t)]) hx hb dX5_trialIsFlat_41 rfl hl (by decide) rfl (fun ls hl => ?_)
  refine lv_aload_n hx hb dX5_trialIsFlat_42 rfl (lv_at hl 3 rfl) ?_
  refine va_get (D := G) (ci := 5) (v := .ref h_t_trial) (C := RX5) (T := TX5) (N := 6) hx hb hts (fun w h => List.mem_cons_of_mem _ (inG_5 w h)) hown hK hP 0 rfl rfl 3 (by decide) (hts _ (List.mem_cons_of_mem _ mw_1_47)) (fun _ h9 => h9) rfl dX5_trialIsFlat_43 ?_
  refine lv_bipush (v := 6) hx hb dX5_trialIsFlat_46 (by decide) ?_
  obtain ⟨b10, hF⟩ := hF
  refine va_iald hx hb hK hP 1 0 rfl rfl b10 dX5_trialIsFlat_48 ?_
  refine lv_aload_n hx hb dX5_trialIsFlat_49 rfl (lv_at hl 3 rfl) ?_
  refine va_get (D := G) (ci := 5) (v := .ref h_t_trial) (C := RX5) (T := TX5) (N := 6) hx hb hts (fun w h => List.mem_cons_of_mem _ (inG_5 w h)) hown hK hP 0 rfl rfl 3 (by decide) (hts _ (List.mem_cons_of_mem _ mw_1_47)) (fun _ h9 => h9) rfl dX5_trialIsFlat_50 ?_
  refine lv_iconst (v := 0) hx hb dX5_trialIsFlat_53 (by decide) ?_
  obtain ⟨b11, hF⟩ := hF
  refine va_iald hx hb hK hP 1 0 rfl rfl b11 dX5_trialIsFlat_54 ?_
  refine lv_isub hx hb dX5_trialIsFlat_55 ?_
  refine lv_topi (fun x12 ex12 => ?_)
  have hF := hF x12 ex12
  refine lv_istore (lv' := [(4, .int x12), (3, .int x9), (2, .int x6), (1, .int x3), (0, .ref h_t)]) hx hb dX5_trialIsFlat_56 hl (by decide) rfl (fun ls hl => ?_)
  refine lv_aload_n hx hb dX5_trialIsFlat_58 rfl (lv_at hl 4 rfl) ?_
  refine va_get (D := G) (ci := 5) (v := .ref h_t_trial) (C := RX5) (T := TX5) (N := 6) hx hb hts (fun w h => List.mem_cons_of_mem _ (inG_5 w h)) hown hK hP 0 rfl rfl 3 (by decide) (hts _ (List.mem_cons_of_mem _ mw_1_47)) (fun _ h9 => h9) rfl dX5_trialIsFlat_59 ?_
  refine lv_bipush (v := 7) hx hb dX5_trialIsFlat_62 (by decide) ?_
  obtain ⟨b13, hF⟩ := hF
  refine va_iald hx hb hK hP 1 0 rfl rfl b13 dX5_trialIsFlat_64 ?_
  refine lv_aload_n hx hb dX5_trialIsFlat_65 rfl (lv_at hl 4 rfl) ?_
  refine va_get (D := G) (ci := 5) (v := .ref h_t_trial) (C := RX5) (T := TX5) (N := 6) hx hb hts (fun w h => List.mem_cons_of_mem _ (inG_5 w h)) hown hK hP 0 rfl rfl 3 (by decide) (hts _ (List.mem_cons_of_mem _ mw_1_47)) (fun _ h9 => h9) rfl dX5_trialIsFlat_66 ?_
  refine lv_iconst (v := 1) hx hb dX5_trialIsFlat_69 (by decide) ?_
  obtain ⟨b14, hF⟩ := hF
  refine va_iald hx hb hK hP 1 0 rfl rfl b14 dX5_trialIsFlat_70 ?_
  refine lv_isub hx hb dX5_trialIsFlat_71 ?_
  refine lv_topi (fun x15 ex15 => ?_)
  have hF := hF x15 ex15
  refine lv_istore (lv' := [(5, .int x15), (4, .int x12), (3, .int x9), (2, .int x6), (1, .int x3), (0, .ref h_t)]) hx hb dX5_trialIsFlat_72 hl (by decide) rfl (fun ls hl => ?_)
  refine lv_aload_n hx hb dX5_trialIsFlat_74 rfl (lv_at hl 5 rfl) ?_
  refine va_get (D := G) (ci := 5) (v := .ref h_t_trial) (C := RX5) (T := TX5) (N := 6) hx hb hts (fun w h => List.mem_cons_of_mem _ (inG_5 w h)) hown hK hP 0 rfl rfl 3 (by decide) (hts _ (List.mem_cons_of_mem _ mw_1_47)) (fun _ h9 => h9) rfl dX5_trialIsFlat_75 ?_
  refine lv_bipush (v := 8) hx hb dX5_trialIsFlat_78 (by decide) ?_
  obtain ⟨b16, hF⟩ := hF
  refine va_iald hx hb hK hP 1 0 rfl rfl b16 dX5_trialIsFlat_80 ?_
  refine lv_aload_n hx hb dX5_trialIsFlat_81 rfl (lv_at hl 5 rfl) ?_
  refine va_get (D := G) (ci := 5) (v := .ref h_t_trial) (C := RX5) (T := TX5) (N := 6) hx hb hts (fun w h => List.mem_cons_of_mem _ (inG_5 w h)) hown hK hP 0 rfl rfl 3 (by decide) (hts _ (List.mem_cons_of_mem _ mw_1_47)) (fun _ h9 => h9) rfl dX5_trialIsFlat_82 ?_
  refine lv_iconst (v := 2) hx hb dX5_trialIsFlat_85 (by decide) ?_
  obtain ⟨b17, hF⟩ := hF
  refine va_iald hx hb hK hP 1 0 rfl rfl b17 dX5_trialIsFlat_86 ?_
  refine lv_isub hx hb dX5_trialIsFlat_87 ?_
  refine lv_topi (fun x18 ex18 => ?_)
  have hF := hF x18 ex18
  refine lv_istore (lv' := [(6, .int x18), (5, .int x15), (4, .int x12), (3, .int x9), (2, .int x6), (1, .int x3), (0, .ref h_t)]) hx hb dX5_trialIsFlat_88 hl (by decide) rfl (fun ls hl => ?_)
  refine lv_aload_n hx hb dX5_trialIsFlat_90 rfl (lv_at hl 6 rfl) ?_
  refine va_get (D := G) (ci := 5) (v := .ref h_t_trialNormal) (C := RX5) (T := TX5) (N := 6) hx hb hts (fun w h => List.mem_cons_of_mem _ (inG_5 w h)) hown hK hP 0 rfl rfl 4 (by decide) (hts _ (List.mem_cons_of_mem _ mw_1_48)) (fun _ h9 => h9) rfl dX5_trialIsFlat_91 ?_
  refine lv_iconst (v := 0) hx hb dX5_trialIsFlat_94 (by decide) ?_
  refine lv_iload_n hx hb dX5_trialIsFlat_95 rfl (lv_at hl 4 rfl) ?_
  refine lv_iload hx hb dX5_trialIsFlat_96 (lv_at hl 0 rfl) ?_
  refine lv_imul hx hb dX5_trialIsFlat_98 ?_
  refine lv_iload_n hx hb dX5_trialIsFlat_99 rfl (lv_at hl 3 rfl) ?_
  refine lv_iload hx hb dX5_trialIsFlat_100 (lv_at hl 1 rfl) ?_
  refine lv_imul hx hb dX5_trialIsFlat_102 ?_
  refine lv_isub hx hb dX5_trialIsFlat_103 ?_
  obtain ⟨b19, hF⟩ := hF
  refine g_iast (t0 := 0) hx hb hK hP hD hS 2 rfl rfl b19 dX5_trialIsFlat_104 (fun g20 H locs eg20 hP hD hS => ?_)
  have hF := hF g20 eg20
  have hP : va_P G vwCl [(h_t, .inr (5, [.ref h_t_corners, .ref h_t_normals, .ref h_t_tones, .ref h_t_trial, .ref h_t_trialNormal, .int v_t_many])), (h_t_trial, .inl (cI, 9, .inl v_t_trial)), (h_t_trialNormal, .inl (cI, 3, .inl g20))] H := hP
  have hD : va_D A [(h_t, .inr (5, [.ref h_t_corners, .ref h_t_normals, .ref h_t_tones, .ref h_t_trial, .ref h_t_trialNormal, .int v_t_many])), (h_t_trial, .inl (cI, 9, .inl v_t_trial)), (h_t_trialNormal, .inl (cI, 3, .inl g20))] := hD
  refine lv_aload_n hx hb dX5_trialIsFlat_105 rfl (lv_at hl 6 rfl) ?_
  refine va_get (D := G) (ci := 5) (v := .ref h_t_trialNormal) (C := RX5) (T := TX5) (N := 6) hx hb hts (fun w h => List.mem_cons_of_mem _ (inG_5 w h)) hown hK hP 0 rfl rfl 4 (by decide) (hts _ (List.mem_cons_of_mem _ mw_1_48)) (fun _ h9 => h9) rfl dX5_trialIsFlat_106 ?_
  refine lv_iconst (v := 1) hx hb dX5_trialIsFlat_109 (by decide) ?_
  refine lv_iload_n hx hb dX5_trialIsFlat_110 rfl (lv_at hl 3 rfl) ?_
  refine lv_iload hx hb dX5_trialIsFlat_111 (lv_at hl 2 rfl) ?_
  refine lv_imul hx hb dX5_trialIsFlat_113 ?_
  refine lv_iload_n hx hb dX5_trialIsFlat_114 rfl (lv_at hl 5 rfl) ?_
  refine lv_iload hx hb dX5_trialIsFlat_115 (lv_at hl 0 rfl) ?_
  refine lv_imul hx hb dX5_trialIsFlat_117 ?_
  refine lv_isub hx hb dX5_trialIsFlat_118 ?_
  obtain ⟨b21, hF⟩ := hF
  refine g_iast (t0 := 0) hx hb hK hP hD hS 2 rfl rfl b21 dX5_trialIsFlat_119 (fun g22 H locs eg22 hP hD hS => ?_)
  have hF := hF g22 eg22
  have hP : va_P G vwCl [(h_t, .inr (5, [.ref h_t_corners, .ref h_t_normals, .ref h_t_tones, .ref h_t_trial, .ref h_t_trialNormal, .int v_t_many])), (h_t_trial, .inl (cI, 9, .inl v_t_trial)), (h_t_trialNormal, .inl (cI, 3, .inl g22))] H := hP
  have hD : va_D A [(h_t, .inr (5, [.ref h_t_corners, .ref h_t_normals, .ref h_t_tones, .ref h_t_trial, .ref h_t_trialNormal, .int v_t_many])), (h_t_trial, .inl (cI, 9, .inl v_t_trial)), (h_t_trialNormal, .inl (cI, 3, .inl g22))] := hD
  refine lv_aload_n hx hb dX5_trialIsFlat_120 rfl (lv_at hl 6 rfl) ?_
  refine va_get (D := G) (ci := 5) (v := .ref h_t_trialNormal) (C := RX5) (T := TX5) (N := 6) hx hb hts (fun w h => List.mem_cons_of_mem _ (inG_5 w h)) hown hK hP 0 rfl rfl 4 (by decide) (hts _ (List.mem_cons_of_mem _ mw_1_48)) (fun _ h9 => h9) rfl dX5_trialIsFlat_121 ?_
  refine lv_iconst (v := 2) hx hb dX5_trialIsFlat_124 (by decide) ?_
  refine lv_iload_n hx hb dX5_trialIsFlat_125 rfl (lv_at hl 5 rfl) ?_
  refine lv_iload hx hb dX5_trialIsFlat_126 (lv_at hl 1 rfl) ?_
  refine lv_imul hx hb dX5_trialIsFlat_128 ?_
  refine lv_iload_n hx hb dX5_trialIsFlat_129 rfl (lv_at hl 4 rfl) ?_
  refine lv_iload hx hb dX5_trialIsFlat_130 (lv_at hl 2 rfl) ?_
  refine lv_imul hx hb dX5_trialIsFlat_132 ?_
  refine lv_isub hx hb dX5_trialIsFlat_133 ?_
  obtain ⟨b23, hF⟩ := hF
  refine g_iast (t0 := 0) hx hb hK hP hD hS 2 rfl rfl b23 dX5_trialIsFlat_134 (fun g24 H locs eg24 hP hD hS => ?_)
  have hF := hF g24 eg24
  have hP : va_P G vwCl [(h_t, .inr (5, [.ref h_t_corners, .ref h_t_normals, .ref h_t_tones, .ref h_t_trial, .ref h_t_trialNormal, .int v_t_many])), (h_t_trial, .inl (cI, 9, .inl v_t_trial)), (h_t_trialNormal, .inl (cI, 3, .inl g24))] H := hP
  have hD : va_D A [(h_t, .inr (5, [.ref h_t_corners, .ref h_t_normals, .ref h_t_tones, .ref h_t_trial, .ref h_t_trialNormal, .int v_t_many])), (h_t_trial, .inl (cI, 9, .inl v_t_trial)), (h_t_trialNormal, .inl (cI, 3, .inl g24))] := hD
  refine lv_aload_n hx hb dX5_trialIsFlat_135 rfl (lv_at hl 6 rfl) ?_
  refine va_get (D := G) (ci := 5) (v := .ref h_t_trialNormal) (C := RX5) (T := TX5) (N := 6) hx hb hts (fun w h => List.mem_cons_of_mem _ (inG_5 w h)) hown hK hP 0 rfl rfl 4 (by decide) (hts _ (List.mem_cons_of_mem _ mw_1_48)) (fun _ h9 => h9) rfl dX5_trialIsFlat_136 ?_
  refine lv_iconst (v := 0) hx hb dX5_trialIsFlat_139 (by decide) ?_
  obtain ⟨b25, hF⟩ := hF
  refine va_iald hx hb hK hP 2 0 rfl rfl b25 dX5_trialIsFlat_140 ?_
  refine lv_if_ne (tgt := 166) hx hb dX5_trialIsFlat_141 (by decide) (fun c26 => ?_) (fun c26 => ?_)
  · have hF := hF.1 c26
    refine lv_iconst (v := 0) hx hb dX5_trialIsFlat_166 (by decide) ?_
    exact hret 167 ls _ _ 0 g24 dX5_trialIsFlat_167 (by decide) hF hP hD hS
  · have hF := hF.2 c26
    refine lv_aload_n hx hb dX5_trialIsFlat_144 rfl (lv_at hl 6 rfl) ?_
    refine va_get (D := G) (ci := 5) (v := .ref h_t_trialNormal) (C := RX5) (T := TX5) (N := 6) hx hb hts (fun w h => List.mem_cons_of_mem _ (inG_5 w h)) hown hK hP 0 rfl rfl 4 (by decide) (hts _ (List.mem_cons_of_mem _ mw_1_48)) (fun _ h9 => h9) rfl dX5_trialIsFlat_145 ?_
    refine lv_iconst (v := 1) hx hb dX5_trialIsFlat_148 (by decide) ?_
    obtain ⟨b27, hF⟩ := hF
    refine va_iald hx hb hK hP 2 0 rfl rfl b27 dX5_trialIsFlat_149 ?_
    refine lv_if_ne (tgt := 166) hx hb dX5_trialIsFlat_150 (by decide) (fun c28 => ?_) (fun c28 => ?_)
    · have hF := hF.1 c28
      refine lv_iconst (v := 0) hx hb dX5_trialIsFlat_166 (by decide) ?_
      exact hret 167 ls _ _ 0 g24 dX5_trialIsFlat_167 (by decide) hF hP hD hS
    · have hF := hF.2 c28
      refine lv_aload_n hx hb dX5_trialIsFlat_153 rfl (lv_at hl 6 rfl) ?_
      refine va_get (D := G) (ci := 5) (v := .ref h_t_trialNormal) (C := RX5) (T := TX5) (N := 6) hx hb hts (fun w h => List.mem_cons_of_mem _ (inG_5 w h)) hown hK hP 0 rfl rfl 4 (by decide) (hts _ (List.mem_cons_of_mem _ mw_1_48)) (fun _ h9 => h9) rfl dX5_trialIsFlat_154 ?_
      refine lv_iconst (v := 2) hx hb dX5_trialIsFlat_157 (by decide) ?_
      obtain ⟨b29, hF⟩ := hF
      refine va_iald hx hb hK hP 2 0 rfl rfl b29 dX5_trialIsFlat_158 ?_
      refine lv_if_ne (tgt := 166) hx hb dX5_trialIsFlat_159 (by decide) (fun c30 => ?_) (fun c30 => ?_)
      · have hF := hF.1 c30
        refine lv_iconst (v := 0) hx hb dX5_trialIsFlat_166 (by decide) ?_
        exact hret 167 ls _ _ 0 g24 dX5_trialIsFlat_167 (by decide) hF hP hD hS
      · have hF := hF.2 c30
        refine lv_iconst (v := 1) hx hb dX5_trialIsFlat_162 (by decide) ?_
        refine lv_goto (tgt := 167) hx hb dX5_trialIsFlat_163 (by decide) ?_
        exact hret 167 ls _ _ 1 g24 dX5_trialIsFlat_167 (by decide) hF hP hD hS

def rm_X5_storeTrial : Room := { frames := 1, cells := 0, slots := 0, locals := 64 }
def F_X5_storeTrial (p1 : Int32) (v_t_corners : Nat → Int32) (v_t_normals : Nat → Int32) (v_t_trial : Nat → Int32) (v_t_trialNormal : Nat → Int32) (post : (Nat → Int32) → (Nat → Int32) → Prop) : Prop := (cpok 0 (9 * p1) 9 9 1152 ∧ (∀ g2 : Nat → Int32, g2 = va_cpy v_t_trial v_t_corners (0 : Int32).toNatClampNeg ((9 * p1) : Int32).toNatClampNeg (9 : Int32).toNatClampNeg → (cpok 0 (3 * p1) 3 3 384 ∧ (∀ g4 : Nat → Int32, g4 = va_cpy v_t_trialNormal v_t_normals (0 : Int32).toNatClampNeg ((3 * p1) : Int32).toNatClampNeg (3 : Int32).toNatClampNeg → post g2 g4))))
set_option maxHeartbeats 8000000 in
set_option maxRecDepth 100000 in
theorem c_X5_storeTrial (l : Launch) (G : va_G) (cI cL cZ : ClassId) (h_t : Nat) (h_t_corners : Nat) (h_t_normals : Nat) (h_t_tones : Nat) (h_t_trial : Nat) (h_t_trialNormal : Nat) (v_t_corners : Nat → Int32) (v_t_normals : Nat → Int32) (v_t_trial : Nat → Int32) (v_t_trialNormal : Nat → Int32) (v_t_many : Int32) (p1 : Int32) (sz : Nat) (post : (Nat → Int32) → (Nat → Int32) → Prop) (hF : F_X5_storeTrial p1 v_t_corners v_t_normals v_t_trial v_t_trialNormal post) : MetV l G (gT cI cL cZ) yX5_storeTrial (gW yX5_storeTrial cX5_storeTrial 2 none) rm_X5_storeTrial 0 0 [.ref h_t, .int p1] sz [(h_t, .inr (5, [.ref h_t_corners, .ref h_t_normals, .ref h_t_tones, .ref h_t_trial, .ref h_t_trialNormal, .int v_t_many])), (h_t_corners, .inl (cI, 1152, .inl v_t_corners)), (h_t_normals, .inl (cI, 384, .inl v_t_normals)), (h_t_trial, .inl (cI, 9, .inl v_t_trial)), (h_t_trialNormal, .inl (cI, 3, .inl v_t_trialNormal))] (fun (u : (Nat → Int32) × (Nat → Int32)) => [(h_t, .inr (5, [.ref h_t_corners, .ref h_t_normals, .ref h_t_tones, .ref h_t_trial, .ref h_t_trialNormal, .int v_t_many])), (h_t_corners, .inl (cI, 1152, .inl u.1)), (h_t_normals, .inl (cI, 384, .inl u.2)), (h_t_trial, .inl (cI, 9, .inl v_t_trial)), (h_t_trialNormal, .inl (cI, 3, .inl v_t_trialNormal))]) (fun (u : (Nat → Int32) × (Nat → Int32)) => post u.1 u.2) := by
  refine startV (cc := cX5_storeTrial) (maxL := 2) (by decide +kernel) rfl (Nat.le_of_ble_eq_true rfl) ?_
  intro p e s m args below meth c Q ls A C0 hP hD hS hl hret
  obtain ⟨hx, hb, hml, hown, hts, hnw, hK, hA, hin⟩ := C0
  have hown : s.vm.findClass RX5 = some m.cls := hown
  have hl : lv_has ls 2 [(0, .ref h_t), (1, .int p1)] := hl
  refine lv_aload_n hx hb dX5_storeTrial_0 rfl (lv_at hl 0 rfl) ?_
  refine va_get (D := G) (ci := 5) (v := .ref h_t_trial) (C := RX5) (T := TX5) (N := 6) hx hb hts (fun w h => List.mem_cons_of_mem _ (inG_5 w h)) hown hK hP 0 rfl rfl 3 (by decide) (hts _ (List.mem_cons_of_mem _ mw_1_47)) (fun _ h9 => h9) rfl dX5_storeTrial_1 ?_
  refine lv_iconst (v := 0) hx hb dX5_storeTrial_4 (by decide) ?_
  refine lv_aload_n hx hb dX5_storeTrial_5 rfl (lv_at hl 0 rfl) ?_
  refine va_get (D := G) (ci := 5) (v := .ref h_t_corners) (C := RX5) (T := TX5) (N := 6) hx hb hts (fun w h => List.mem_cons_of_mem _ (inG_5 w h)) hown hK hP 0 rfl rfl 0 (by decide) (hts _ (List.mem_cons_of_mem _ mw_1_44)) (fun _ h9 => h9) rfl dX5_storeTrial_6 ?_
  refine lv_bipush (v := 9) hx hb dX5_storeTrial_9 (by decide) ?_
  refine lv_iload_n hx hb dX5_storeTrial_11 rfl (lv_at hl 1 rfl) ?_
  refine lv_imul hx hb dX5_storeTrial_12 ?_
  refine lv_bipush (v := 9) hx hb dX5_storeTrial_13 (by decide) ?_
  obtain ⟨b1, hF⟩ := hF
  refine g_copyi hx hb (by rw [hml]; exact hl.1.symm) hown (hts _ (List.mem_cons_of_mem _ mw_2_126)) (hts _ (List.mem_cons_of_mem _ mw_2_128)) (hts _ (List.mem_cons_of_mem _ mw_2_127)) (hts _ (List.mem_cons_of_mem _ mw_1_14)) hK hP hD hS 3 1 rfl rfl rfl rfl b1 (Nat.le_of_ble_eq_true rfl) (by decide) dX5_storeTrial_15 (fun g2 H locs eg2 hP hD hS => ?_)
  have hF := hF g2 eg2
  have hP : va_P G vwCl [(h_t, .inr (5, [.ref h_t_corners, .ref h_t_normals, .ref h_t_tones, .ref h_t_trial, .ref h_t_trialNormal, .int v_t_many])), (h_t_corners, .inl (cI, 1152, .inl g2)), (h_t_normals, .inl (cI, 384, .inl v_t_normals)), (h_t_trial, .inl (cI, 9, .inl v_t_trial)), (h_t_trialNormal, .inl (cI, 3, .inl v_t_trialNormal))] H := hP
  have hD : va_D A [(h_t, .inr (5, [.ref h_t_corners, .ref h_t_normals, .ref h_t_tones, .ref h_t_trial, .ref h_t_trialNormal, .int v_t_many])), (h_t_corners, .inl (cI, 1152, .inl g2)), (h_t_normals, .inl (cI, 384, .inl v_t_normals)), (h_t_trial, .inl (cI, 9, .inl v_t_trial)), (h_t_trialNormal, .inl (cI, 3, .inl v_t_trialNormal))] := hD
  refine lv_aload_n hx hb dX5_storeTrial_18 rfl (lv_at hl 0 rfl) ?_
  refine va_get (D := G) (ci := 5) (v := .ref h_t_trialNormal) (C := RX5) (T := TX5) (N := 6) hx hb hts (fun w h => List.mem_cons_of_mem _ (inG_5 w h)) hown hK hP 0 rfl rfl 4 (by decide) (hts _ (List.mem_cons_of_mem _ mw_1_48)) (fun _ h9 => h9) rfl dX5_storeTrial_19 ?_
  refine lv_iconst (v := 0) hx hb dX5_storeTrial_22 (by decide) ?_
  refine lv_aload_n hx hb dX5_storeTrial_23 rfl (lv_at hl 0 rfl) ?_
  refine va_get (D := G) (ci := 5) (v := .ref h_t_normals) (C := RX5) (T := TX5) (N := 6) hx hb hts (fun w h => List.mem_cons_of_mem _ (inG_5 w h)) hown hK hP 0 rfl rfl 1 (by decide) (hts _ (List.mem_cons_of_mem _ mw_1_45)) (fun _ h9 => h9) rfl dX5_storeTrial_24 ?_
  refine lv_iconst (v := 3) hx hb dX5_storeTrial_27 (by decide) ?_
  refine lv_iload_n hx hb dX5_storeTrial_28 rfl (lv_at hl 1 rfl) ?_
  refine lv_imul hx hb dX5_storeTrial_29 ?_
  refine lv_iconst (v := 3) hx hb dX5_storeTrial_30 (by decide) ?_
  obtain ⟨b3, hF⟩ := hF
  refine g_copyi hx hb (by rw [hml]; exact hl.1.symm) hown (hts _ (List.mem_cons_of_mem _ mw_2_126)) (hts _ (List.mem_cons_of_mem _ mw_2_128)) (hts _ (List.mem_cons_of_mem _ mw_2_127)) (hts _ (List.mem_cons_of_mem _ mw_1_14)) hK hP hD hS 4 2 rfl rfl rfl rfl b3 (Nat.le_of_ble_eq_true rfl) (by decide) dX5_storeTrial_31 (fun g4 H locs eg4 hP hD hS => ?_)
  have hF := hF g4 eg4
  have hP : va_P G vwCl [(h_t, .inr (5, [.ref h_t_corners, .ref h_t_normals, .ref h_t_tones, .ref h_t_trial, .ref h_t_trialNormal, .int v_t_many])), (h_t_corners, .inl (cI, 1152, .inl g2)), (h_t_normals, .inl (cI, 384, .inl g4)), (h_t_trial, .inl (cI, 9, .inl v_t_trial)), (h_t_trialNormal, .inl (cI, 3, .inl v_t_trialNormal))] H := hP
  have hD : va_D A [(h_t, .inr (5, [.ref h_t_corners, .ref h_t_normals, .ref h_t_tones, .ref h_t_trial, .ref h_t_trialNormal, .int v_t_many])), (h_t_corners, .inl (cI, 1152, .inl g2)), (h_t_normals, .inl (cI, 384, .inl g4)), (h_t_trial, .inl (cI, 9, .inl v_t_trial)), (h_t_trialNormal, .inl (cI, 3, .inl v_t_trialNormal))] := hD
  exact hret 34 ls _ _ (g2, g4) dX5_storeTrial_34  hF hP hD hS

def rm_X5_append : Room := { frames := 2, cells := 0, slots := 0, locals := 85 }
def L_X5_append_14 (post : Int32 → Int32 → (Nat → Int32) → (Nat → Int32) → (Nat → Int32) → (Nat → Int32) → (Nat → Int32) → Prop) (v_p1_coordinates : Nat → Int32) : Nat → Int32 → Int32 → Int32 → (Nat → Int32) → (Nat → Int32) → (Nat → Int32) → (Nat → Int32) → (Nat → Int32) → Prop
  | 0, _, _, _, _, _, _, _, _ => False
  | n_14 + 1, l2, l3, v_t_many, v_t_corners, v_t_normals, v_t_tones, v_t_trial, v_t_trialNormal => ((3 ≤ l3 → (F_X5_trialIsFlat v_t_trial v_t_trialNormal (fun r3 v4 => ((r3 = 0 → (F_X5_storeTrial v_t_many v_t_corners v_t_normals v_t_trial v4 (fun v6 v7 => (vp_in v_t_many 128 ∧ (∀ g9 : Nat → Int32, g9 = upd v_t_tones (v_t_many.toNatClampNeg) l2 → (∀ x10 : Int32, x10 = (v_t_many + 1) → post (x10 - 1) x10 v6 v7 g9 v_t_trial v4)))))) ∧ (¬ r3 = 0 → post (-2) v_t_many v_t_corners v_t_normals v_t_tones v_t_trial v4))))) ∧ (¬ 3 ≤ l3 → (F_X5_tryCorner l3 l3 v_t_trial v_p1_coordinates (fun v11 => (∀ x12 : Int32, x12 = (l3 + 1) → L_X5_append_14 post v_p1_coordinates n_14 l2 x12 v_t_many v_t_corners v_t_normals v_t_tones v11 v_t_trialNormal)))))
def F_X5_append (p2 : Int32) (v_t_many : Int32) (v_t_corners : Nat → Int32) (v_t_normals : Nat → Int32) (v_t_tones : Nat → Int32) (v_t_trial : Nat → Int32) (v_t_trialNormal : Nat → Int32) (v_p1_coordinates : Nat → Int32) (post : Int32 → Int32 → (Nat → Int32) → (Nat → Int32) → (Nat → Int32) → (Nat → Int32) → (Nat → Int32) → Prop) : Prop := ((v_t_many < 128 → (∃ n0 : Nat, L_X5_append_14 post v_p1_coordinates n0 p2 0 v_t_many v_t_corners v_t_normals v_t_tones v_t_trial v_t_trialNormal)) ∧ (¬ v_t_many < 128 → post (-1) v_t_many v_t_corners v_t_normals v_t_tones v_t_trial v_t_trialNormal))
set_option maxHeartbeats 8000000 in
set_option maxRecDepth 100000 in
theorem c_X5_append (l : Launch) (G : va_G) (cI cL cZ : ClassId) (h_t : Nat) (h_t_corners : Nat) (h_t_normals : Nat) (h_t_tones : Nat) (h_t_trial : Nat) (h_t_trialNormal : Nat) (h_p1 : Nat) (h_p1_coordinates : Nat) (v_t_many : Int32) (v_t_corners : Nat → Int32) (v_t_normals : Nat → Int32) (v_t_tones : Nat → Int32) (v_t_trial : Nat → Int32) (v_t_trialNormal : Nat → Int32) (v_p1_coordinates : Nat → Int32) (v_p1_many : Int32) (p2 : Int32) (sz : Nat) (post : Int32 → Int32 → (Nat → Int32) → (Nat → Int32) → (Nat → Int32) → (Nat → Int32) → (Nat → Int32) → Prop) (hF : F_X5_append p2 v_t_many v_t_corners v_t_normals v_t_tones v_t_trial v_t_trialNormal v_p1_coordinates post) : MetI l G (gT cI cL cZ) yX5_append (gW yX5_append cX5_append 4 (some .int)) rm_X5_append 0 0 [.ref h_t, .ref h_p1, .int p2] sz [(h_t, .inr (5, [.ref h_t_corners, .ref h_t_normals, .ref h_t_tones, .ref h_t_trial, .ref h_t_trialNormal, .int v_t_many])), (h_t_corners, .inl (cI, 1152, .inl v_t_corners)), (h_t_normals, .inl (cI, 384, .inl v_t_normals)), (h_t_tones, .inl (cI, 128, .inl v_t_tones)), (h_t_trial, .inl (cI, 9, .inl v_t_trial)), (h_t_trialNormal, .inl (cI, 3, .inl v_t_trialNormal)), (h_p1, .inr (6, [.ref h_p1_coordinates, .int v_p1_many])), (h_p1_coordinates, .inl (cI, 9, .inl v_p1_coordinates))] (fun (u : Int32 × (Nat → Int32) × (Nat → Int32) × (Nat → Int32) × (Nat → Int32) × (Nat → Int32)) => [(h_t, .inr (5, [.ref h_t_corners, .ref h_t_normals, .ref h_t_tones, .ref h_t_trial, .ref h_t_trialNormal, .int u.1])), (h_t_corners, .inl (cI, 1152, .inl u.2.1)), (h_t_normals, .inl (cI, 384, .inl u.2.2.1)), (h_t_tones, .inl (cI, 128, .inl u.2.2.2.1)), (h_t_trial, .inl (cI, 9, .inl u.2.2.2.2.1)), (h_t_trialNormal, .inl (cI, 3, .inl u.2.2.2.2.2)), (h_p1, .inr (6, [.ref h_p1_coordinates, .int v_p1_many])), (h_p1_coordinates, .inl (cI, 9, .inl v_p1_coordinates))]) (fun (r : Int32) (u : Int32 × (Nat → Int32) × (Nat → Int32) × (Nat → Int32) × (Nat → Int32) × (Nat → Int32)) => post r u.1 u.2.1 u.2.2.1 u.2.2.2.1 u.2.2.2.2.1 u.2.2.2.2.2) := by
  refine startI (cc := cX5_append) (maxL := 4) (ty9 := .int) (by decide +kernel) rfl (Nat.le_of_ble_eq_true rfl) ?_
  intro p e s m args below meth c Q ls A C0 hP hD hS hl hret
  obtain ⟨hx, hb, hml, hown, hts, hnw, hK, hA, hin⟩ := C0
  have hown : s.vm.findClass RX5 = some m.cls := hown
  have hl : lv_has ls 4 [(0, .ref h_t), (1, .ref h_p1), (2, .int p2)] := hl
  refine lv_aload_n hx hb dX5_append_0 rfl (lv_at hl 0 rfl) ?_
  refine va_get (D := G) (ci := 5) (v := .int v_t_many) (C := RX5) (T := TX5) (N := 6) hx hb hts (fun w h => List.mem_cons_of_mem _ (inG_5 w h)) hown hK hP 0 rfl rfl 5 (by decide) (hts _ (List.mem_cons_of_mem _ mw_1_49)) (fun _ h9 => h9) rfl dX5_append_1 ?_
  refine lv_sipush (v := 128) hx hb dX5_append_4 (by decide) ?_
  refine lv_icmp_lt (tgt := 12) hx hb dX5_append_7 (by decide) (fun c1 => ?_) (fun c1 => ?_)
  · have hF := hF.1 c1
    refine lv_iconst (v := 0) hx hb dX5_append_12 (by decide) ?_
    refine lv_istore_n (lv' := [(3, .int 0), (0, .ref h_t), (1, .ref h_p1), (2, .int p2)]) hx hb dX5_append_13 rfl hl (by decide) rfl (fun ls hl => ?_)
    have k_14 : ∀ (n_14 : Nat) (l2 : Int32) (l3 : Int32) (v_t_many : Int32) (v_t_corners : Nat → Int32) (v_t_normals : Nat → Int32) (v_t_tones : Nat → Int32) (v_t_trial : Nat → Int32) (v_t_trialNormal : Nat → Int32), L_X5_append_14 post v_p1_coordinates n_14 l2 l3 v_t_many v_t_corners v_t_normals v_t_tones v_t_trial v_t_trialNormal → ∀ (H : Heap) (locs : List Loc) (ls : Array Slot), va_P G vwCl [(h_t, .inr (5, [.ref h_t_corners, .ref h_t_normals, .ref h_t_tones, .ref h_t_trial, .ref h_t_trialNormal, .int v_t_many])), (h_t_corners, .inl (cI, 1152, .inl v_t_corners)), (h_t_normals, .inl (cI, 384, .inl v_t_normals)), (h_t_tones, .inl (cI, 128, .inl v_t_tones)), (h_t_trial, .inl (cI, 9, .inl v_t_trial)), (h_t_trialNormal, .inl (cI, 3, .inl v_t_trialNormal)), (h_p1, .inr (6, [.ref h_p1_coordinates, .int v_p1_many])), (h_p1_coordinates, .inl (cI, 9, .inl v_p1_coordinates))] H → va_D A [(h_t, .inr (5, [.ref h_t_corners, .ref h_t_normals, .ref h_t_tones, .ref h_t_trial, .ref h_t_trialNormal, .int v_t_many])), (h_t_corners, .inl (cI, 1152, .inl v_t_corners)), (h_t_normals, .inl (cI, 384, .inl v_t_normals)), (h_t_tones, .inl (cI, 128, .inl v_t_tones)), (h_t_trial, .inl (cI, 9, .inl v_t_trial)), (h_t_trialNormal, .inl (cI, 3, .inl v_t_trialNormal)), (h_p1, .inr (6, [.ref h_p1_coordinates, .int v_p1_many])), (h_p1_coordinates, .inl (cI, 9, .inl v_p1_coordinates))] → va_S A s.heap H locs → lv_has ls 4 [(0, .ref h_t), (1, .ref h_p1), (2, .int l2), (3, .int l3)] → W p l e rm_X5_append s m args below meth c H locs 0 0 Q (F0 m 14 ls []) := by
      intro n_14
      induction n_14 with
      | zero =>
        intro l2 l3 v_t_many v_t_corners v_t_normals v_t_tones v_t_trial v_t_trialNormal hF
        exact (show False from hF).elim
      | succ n_14 k_14 =>
        intro l2 l3 v_t_many v_t_corners v_t_normals v_t_tones v_t_trial v_t_trialNormal hF H locs ls hP hD hS hl
        refine lv_iload_n hx hb dX5_append_14 rfl (lv_at hl 3 rfl) ?_
        refine lv_iconst (v := 3) hx hb dX5_append_15 (by decide) ?_
        refine lv_icmp_ge (tgt := 32) hx hb dX5_append_16 (by decide) (fun c2 => ?_) (fun c2 => ?_)
        · have hF := hF.1 c2
          refine lv_aload_n hx hb dX5_append_32 rfl (lv_at hl 0 rfl) ?_
          refine afterI (wr := [(h_t_corners, .inl (cI, 1152, .inl v_t_corners)), (h_t_normals, .inl (cI, 384, .inl v_t_normals)), (h_t_tones, .inl (cI, 128, .inl v_t_tones)), (h_p1, .inr (6, [.ref h_p1_coordinates, .int v_p1_many])), (h_p1_coordinates, .inl (cI, 9, .inl v_p1_coordinates))]) (va_runV (As := []) (rest := []) ⟨hx, hb, hml, hown, hts⟩ (c_X5_trialIsFlat l G cI cL cZ h_t h_t_corners h_t_normals h_t_tones h_t_trial h_t_trialNormal v_t_trial v_t_trialNormal v_t_many _ _ hF) (cwV 0 hts (gV mw_2_118 mw_2_120 mws_1 mw_1_3 mw_2_121) rfl rfl rfl (by decide +kernel) ⟨Nat.le_of_ble_eq_true rfl, Nat.le_of_ble_eq_true rfl⟩) ⟨gP_blind, va_recv hK hP (ci := 5) (q0 := 0) rfl rfl, gP_of hK hnw hP hD [0, 4, 5] (by decide +kernel) rfl rfl⟩ rfl rfl hl.1 rfl (lv_room (Nat.le_of_ble_eq_true rfl)) dX5_append_33 ⟨Nat.le_of_ble_eq_true rfl, Nat.le_of_ble_eq_true rfl⟩) hP hD hS hA [0, 4, 5] [1, 2, 3, 6, 7] rfl rfl (by decide +kernel) (by decide +kernel) (fun r3 u H locs hF hP hD hS => ?_)
          obtain ⟨v4, rfl⟩ : ∃ z, z = u := ⟨_, rfl⟩
          try dsimp only at hF
          have hP : va_P G vwCl [(h_t_corners, .inl (cI, 1152, .inl v_t_corners)), (h_t_normals, .inl (cI, 384, .inl v_t_normals)), (h_t_tones, .inl (cI, 128, .inl v_t_tones)), (h_p1, .inr (6, [.ref h_p1_coordinates, .int v_p1_many])), (h_p1_coordinates, .inl (cI, 9, .inl v_p1_coordinates)), (h_t, .inr (5, [.ref h_t_corners, .ref h_t_normals, .ref h_t_tones, .ref h_t_trial, .ref h_t_trialNormal, .int v_t_many])), (h_t_trial, .inl (cI, 9, .inl v_t_trial)), (h_t_trialNormal, .inl (cI, 3, .inl v4))] H := hP
          have hD : va_D A [(h_t_corners, .inl (cI, 1152, .inl v_t_corners)), (h_t_normals, .inl (cI, 384, .inl v_t_normals)), (h_t_tones, .inl (cI, 128, .inl v_t_tones)), (h_p1, .inr (6, [.ref h_p1_coordinates, .int v_p1_many])), (h_p1_coordinates, .inl (cI, 9, .inl v_p1_coordinates)), (h_t, .inr (5, [.ref h_t_corners, .ref h_t_normals, .ref h_t_tones, .ref h_t_trial, .ref h_t_trialNormal, .int v_t_many])), (h_t_trial, .inl (cI, 9, .inl v_t_trial)), (h_t_trialNormal, .inl (cI, 3, .inl v4))] := hD
          refine lv_if_eq (tgt := 42) hx hb dX5_append_36 (by decide) (fun c5 => ?_) (fun c5 => ?_)
          · have hF := hF.1 c5
            refine lv_aload_n hx hb dX5_append_42 rfl (lv_at hl 0 rfl) ?_
            refine lv_aload_n hx hb dX5_append_43 rfl (lv_at hl 0 rfl) ?_
            refine va_get (D := G) (ci := 5) (v := .int v_t_many) (C := RX5) (T := TX5) (N := 6) hx hb hts (fun w h => List.mem_cons_of_mem _ (inG_5 w h)) hown hK hP 5 rfl rfl 5 (by decide) (hts _ (List.mem_cons_of_mem _ mw_1_49)) (fun _ h9 => h9) rfl dX5_append_44 ?_
            refine afterV (wr := [(h_t_tones, .inl (cI, 128, .inl v_t_tones)), (h_p1, .inr (6, [.ref h_p1_coordinates, .int v_p1_many])), (h_p1_coordinates, .inl (cI, 9, .inl v_p1_coordinates))]) (va_runV (As := [.int v_t_many]) (rest := []) ⟨hx, hb, hml, hown, hts⟩ (c_X5_storeTrial l G cI cL cZ h_t h_t_corners h_t_normals h_t_tones h_t_trial h_t_trialNormal v_t_corners v_t_normals v_t_trial v4 v_t_many v_t_many _ _ hF) (cwV 1 hts (gV mw_2_122 mw_2_124 mws_2 mw_1_3 mw_2_125) rfl rfl rfl (by decide +kernel) ⟨Nat.le_of_ble_eq_true rfl, Nat.le_of_ble_eq_true rfl⟩) ⟨gP_blind, va_recv hK hP (ci := 5) (q0 := 5) rfl rfl, gP_of hK hnw hP hD [5, 0, 1, 6, 7] (by decide +kernel) rfl rfl⟩ rfl rfl hl.1 rfl (lv_room (Nat.le_of_ble_eq_true rfl)) dX5_append_47 ⟨Nat.le_of_ble_eq_true rfl, Nat.le_of_ble_eq_true rfl⟩) hP hD hS hA [5, 0, 1, 6, 7] [2, 3, 4] rfl rfl (by decide +kernel) (by decide +kernel) (fun u H locs hF hP hD hS => ?_)
            obtain ⟨v6, v7⟩ := u
            try dsimp only at hF
            have hP : va_P G vwCl [(h_t_tones, .inl (cI, 128, .inl v_t_tones)), (h_p1, .inr (6, [.ref h_p1_coordinates, .int v_p1_many])), (h_p1_coordinates, .inl (cI, 9, .inl v_p1_coordinates)), (h_t, .inr (5, [.ref h_t_corners, .ref h_t_normals, .ref h_t_tones, .ref h_t_trial, .ref h_t_trialNormal, .int v_t_many])), (h_t_corners, .inl (cI, 1152, .inl v6)), (h_t_normals, .inl (cI, 384, .inl v7)), (h_t_trial, .inl (cI, 9, .inl v_t_trial)), (h_t_trialNormal, .inl (cI, 3, .inl v4))] H := hP
            have hD : va_D A [(h_t_tones, .inl (cI, 128, .inl v_t_tones)), (h_p1, .inr (6, [.ref h_p1_coordinates, .int v_p1_many])), (h_p1_coordinates, .inl (cI, 9, .inl v_p1_coordinates)), (h_t, .inr (5, [.ref h_t_corners, .ref h_t_normals, .ref h_t_tones, .ref h_t_trial, .ref h_t_trialNormal, .int v_t_many])), (h_t_corners, .inl (cI, 1152, .inl v6)), (h_t_normals, .inl (cI, 384, .inl v7)), (h_t_trial, .inl (cI, 9, .inl v_t_trial)), (h_t_trialNormal, .inl (cI, 3, .inl v4))] := hD
            refine lv_aload_n hx hb dX5_append_50 rfl (lv_at hl 0 rfl) ?_
            refine va_get (D := G) (ci := 5) (v := .ref h_t_tones) (C := RX5) (T := TX5) (N := 6) hx hb hts (fun w h => List.mem_cons_of_mem _ (inG_5 w h)) hown hK hP 3 rfl rfl 2 (by decide) (hts _ (List.mem_cons_of_mem _ mw_1_46)) (fun _ h9 => h9) rfl dX5_append_51 ?_
            refine lv_aload_n hx hb dX5_append_54 rfl (lv_at hl 0 rfl) ?_
            refine va_get (D := G) (ci := 5) (v := .int v_t_many) (C := RX5) (T := TX5) (N := 6) hx hb hts (fun w h => List.mem_cons_of_mem _ (inG_5 w h)) hown hK hP 3 rfl rfl 5 (by decide) (hts _ (List.mem_cons_of_mem _ mw_1_49)) (fun _ h9 => h9) rfl dX5_append_55 ?_
            refine lv_iload_n hx hb dX5_append_58 rfl (lv_at hl 2 rfl) ?_
            obtain ⟨b8, hF⟩ := hF
            refine g_iast (t0 := 0) hx hb hK hP hD hS 0 rfl rfl b8 dX5_append_59 (fun g9 H locs eg9 hP hD hS => ?_)
            have hF := hF g9 eg9
            have hP : va_P G vwCl [(h_t_tones, .inl (cI, 128, .inl g9)), (h_p1, .inr (6, [.ref h_p1_coordinates, .int v_p1_many])), (h_p1_coordinates, .inl (cI, 9, .inl v_p1_coordinates)), (h_t, .inr (5, [.ref h_t_corners, .ref h_t_normals, .ref h_t_tones, .ref h_t_trial, .ref h_t_trialNormal, .int v_t_many])), (h_t_corners, .inl (cI, 1152, .inl v6)), (h_t_normals, .inl (cI, 384, .inl v7)), (h_t_trial, .inl (cI, 9, .inl v_t_trial)), (h_t_trialNormal, .inl (cI, 3, .inl v4))] H := hP
            have hD : va_D A [(h_t_tones, .inl (cI, 128, .inl g9)), (h_p1, .inr (6, [.ref h_p1_coordinates, .int v_p1_many])), (h_p1_coordinates, .inl (cI, 9, .inl v_p1_coordinates)), (h_t, .inr (5, [.ref h_t_corners, .ref h_t_normals, .ref h_t_tones, .ref h_t_trial, .ref h_t_trialNormal, .int v_t_many])), (h_t_corners, .inl (cI, 1152, .inl v6)), (h_t_normals, .inl (cI, 384, .inl v7)), (h_t_trial, .inl (cI, 9, .inl v_t_trial)), (h_t_trialNormal, .inl (cI, 3, .inl v4))] := hD
            refine lv_aload_n hx hb dX5_append_60 rfl (lv_at hl 0 rfl) ?_
            refine lv_dup hx hb dX5_append_61 rfl ?_
            refine va_get (D := G) (ci := 5) (v := .int v_t_many) (C := RX5) (T := TX5) (N := 6) hx hb hts (fun w h => List.mem_cons_of_mem _ (inG_5 w h)) hown hK hP 3 rfl rfl 5 (by decide) (hts _ (List.mem_cons_of_mem _ mw_1_49)) (fun _ h9 => h9) rfl dX5_append_62 ?_
            refine lv_iconst (v := 1) hx hb dX5_append_65 (by decide) ?_
            refine lv_iadd hx hb dX5_append_66 ?_
            refine lv_topi (fun x10 ex10 => ?_)
            have hF := hF x10 ex10
            refine va_put (D := G) (ci := 5) (v := .int x10) (ty := .int) (C := RX5) (T := TX5) (N := 6) hx hb hts (fun w h => List.mem_cons_of_mem _ (inG_5 w h)) tyX5 tyX5_ok nmX5 hown hK hP hD hS 3 rfl rfl 5 (by decide) (hts _ (List.mem_cons_of_mem _ mw_1_49)) (fun _ h9 => h9) rfl (by decide +kernel) rfl rfl (Nat.le_of_ble_eq_true rfl) dX5_append_67 (fun H locs hP hD hS => ?_)
            have hP : va_P G vwCl [(h_t_tones, .inl (cI, 128, .inl g9)), (h_p1, .inr (6, [.ref h_p1_coordinates, .int v_p1_many])), (h_p1_coordinates, .inl (cI, 9, .inl v_p1_coordinates)), (h_t, .inr (5, [.ref h_t_corners, .ref h_t_normals, .ref h_t_tones, .ref h_t_trial, .ref h_t_trialNormal, .int x10])), (h_t_corners, .inl (cI, 1152, .inl v6)), (h_t_normals, .inl (cI, 384, .inl v7)), (h_t_trial, .inl (cI, 9, .inl v_t_trial)), (h_t_trialNormal, .inl (cI, 3, .inl v4))] H := hP
            have hD : va_D A [(h_t_tones, .inl (cI, 128, .inl g9)), (h_p1, .inr (6, [.ref h_p1_coordinates, .int v_p1_many])), (h_p1_coordinates, .inl (cI, 9, .inl v_p1_coordinates)), (h_t, .inr (5, [.ref h_t_corners, .ref h_t_normals, .ref h_t_tones, .ref h_t_trial, .ref h_t_trialNormal, .int x10])), (h_t_corners, .inl (cI, 1152, .inl v6)), (h_t_normals, .inl (cI, 384, .inl v7)), (h_t_trial, .inl (cI, 9, .inl v_t_trial)), (h_t_trialNormal, .inl (cI, 3, .inl v4))] := hD
            refine lv_aload_n hx hb dX5_append_70 rfl (lv_at hl 0 rfl) ?_
            refine va_get (D := G) (ci := 5) (v := .int x10) (C := RX5) (T := TX5) (N := 6) hx hb hts (fun w h => List.mem_cons_of_mem _ (inG_5 w h)) hown hK hP 3 rfl rfl 5 (by decide) (hts _ (List.mem_cons_of_mem _ mw_1_49)) (fun _ h9 => h9) rfl dX5_append_71 ?_
            refine lv_iconst (v := 1) hx hb dX5_append_74 (by decide) ?_
            refine lv_isub hx hb dX5_append_75 ?_
            exact hret 76 ls _ _ (x10 - 1) (x10, v6, v7, g9, v_t_trial, v4) dX5_append_76 rfl hF (hP.sub [3, 4, 5, 0, 6, 7, 1, 2] rfl) (hD.sub [3, 4, 5, 0, 6, 7, 1, 2] (by decide +kernel) rfl) hS
          · have hF := hF.2 c5
            refine lv_bipush (v := (-2)) hx hb dX5_append_39 (by decide) ?_
            exact hret 41 ls _ _ (-2) (v_t_many, v_t_corners, v_t_normals, v_t_tones, v_t_trial, v4) dX5_append_41 rfl hF (hP.sub [5, 0, 1, 2, 6, 7, 3, 4] rfl) (hD.sub [5, 0, 1, 2, 6, 7, 3, 4] (by decide +kernel) rfl) hS
        · have hF := hF.2 c2
          refine lv_aload_n hx hb dX5_append_19 rfl (lv_at hl 0 rfl) ?_
          refine lv_iload_n hx hb dX5_append_20 rfl (lv_at hl 3 rfl) ?_
          refine lv_aload_n hx hb dX5_append_21 rfl (lv_at hl 1 rfl) ?_
          refine lv_iload_n hx hb dX5_append_22 rfl (lv_at hl 3 rfl) ?_
          refine afterV (wr := [(h_t_corners, .inl (cI, 1152, .inl v_t_corners)), (h_t_normals, .inl (cI, 384, .inl v_t_normals)), (h_t_tones, .inl (cI, 128, .inl v_t_tones)), (h_t_trialNormal, .inl (cI, 3, .inl v_t_trialNormal))]) (va_runV (As := [.int l3, .ref h_p1, .int l3]) (rest := []) ⟨hx, hb, hml, hown, hts⟩ (c_X5_tryCorner l G cI cL cZ h_t h_t_corners h_t_normals h_t_tones h_t_trial h_t_trialNormal h_p1 h_p1_coordinates v_t_trial v_p1_coordinates v_t_many v_p1_many l3 l3 _ _ hF) (cwV 3 hts (gV mw_2_110 mw_2_112 mws_0 mw_1_3 mw_2_113) rfl rfl rfl (by decide +kernel) ⟨Nat.le_of_ble_eq_true rfl, Nat.le_of_ble_eq_true rfl⟩) ⟨gP_blind, va_recv hK hP (ci := 5) (q0 := 0) rfl rfl, gP_of hK hnw hP hD [0, 4, 6, 7] (by decide +kernel) rfl rfl⟩ rfl rfl hl.1 rfl (lv_room (Nat.le_of_ble_eq_true rfl)) dX5_append_23 ⟨Nat.le_of_ble_eq_true rfl, Nat.le_of_ble_eq_true rfl⟩) hP hD hS hA [0, 4, 6, 7] [1, 2, 3, 5] rfl rfl (by decide +kernel) (by decide +kernel) (fun u H locs hF hP hD hS => ?_)
          obtain ⟨v11, rfl⟩ : ∃ z, z = u := ⟨_, rfl⟩
          try dsimp only at hF
          have hP : va_P G vwCl [(h_t_corners, .inl (cI, 1152, .inl v_t_corners)), (h_t_normals, .inl (cI, 384, .inl v_t_normals)), (h_t_tones, .inl (cI, 128, .inl v_t_tones)), (h_t_trialNormal, .inl (cI, 3, .inl v_t_trialNormal)), (h_t, .inr (5, [.ref h_t_corners, .ref h_t_normals, .ref h_t_tones, .ref h_t_trial, .ref h_t_trialNormal, .int v_t_many])), (h_t_trial, .inl (cI, 9, .inl v11)), (h_p1, .inr (6, [.ref h_p1_coordinates, .int v_p1_many])), (h_p1_coordinates, .inl (cI, 9, .inl v_p1_coordinates))] H := hP
          have hD : va_D A [(h_t_corners, .inl (cI, 1152, .inl v_t_corners)), (h_t_normals, .inl (cI, 384, .inl v_t_normals)), (h_t_tones, .inl (cI, 128, .inl v_t_tones)), (h_t_trialNormal, .inl (cI, 3, .inl v_t_trialNormal)), (h_t, .inr (5, [.ref h_t_corners, .ref h_t_normals, .ref h_t_tones, .ref h_t_trial, .ref h_t_trialNormal, .int v_t_many])), (h_t_trial, .inl (cI, 9, .inl v11)), (h_p1, .inr (6, [.ref h_p1_coordinates, .int v_p1_many])), (h_p1_coordinates, .inl (cI, 9, .inl v_p1_coordinates))] := hD
          obtain ⟨x12, ex12⟩ : ∃ z : Int32, z = (l3 + 1) := ⟨_, rfl⟩
          have hF := hF x12 ex12
          refine lv_iinc (v := x12) (lv' := [(3, .int x12), (0, .ref h_t), (1, .ref h_p1), (2, .int l2)]) hx hb dX5_append_26 hl (k := 3) rfl (by rw [ex12]; rfl) (by decide) rfl (fun ls hl => ?_)
          refine lv_goto (tgt := 14) hx hb dX5_append_29 (by decide) ?_
          exact k_14 l2 x12 v_t_many v_t_corners v_t_normals v_t_tones v11 v_t_trialNormal hF _ _ ls (hP.sub [4, 0, 1, 2, 5, 3, 6, 7] rfl) (hD.sub [4, 0, 1, 2, 5, 3, 6, 7] (by decide +kernel) rfl) hS (lv_sub hl [1, 2, 3, 0] rfl)
    obtain ⟨n0, hF⟩ := hF
    exact k_14 n0 p2 0 v_t_many v_t_corners v_t_normals v_t_tones v_t_trial v_t_trialNormal hF _ _ ls hP hD hS (lv_sub hl [1, 2, 3, 0] rfl)
  · have hF := hF.2 c1
    refine lv_iconst (v := (-1)) hx hb dX5_append_10 (by decide) ?_
    exact hret 11 ls _ _ (-1) (v_t_many, v_t_corners, v_t_normals, v_t_tones, v_t_trial, v_t_trialNormal) dX5_append_11 rfl hF hP hD hS

def rm_X6_clear : Room := { frames := 0, cells := 0, slots := 0, locals := 0 }
def F_X6_clear (v_t_many : Int32) (post : Int32 → Prop) : Prop := post 0
set_option maxHeartbeats 8000000 in
set_option maxRecDepth 100000 in
theorem c_X6_clear (l : Launch) (G : va_G) (cI cL cZ : ClassId) (h_t : Nat) (h_t_coordinates : Nat) (v_t_many : Int32) (sz : Nat) (post : Int32 → Prop) (hF : F_X6_clear v_t_many post) : MetV l G (gT cI cL cZ) yX6_clear (gW yX6_clear cX6_clear 1 none) rm_X6_clear 0 0 [.ref h_t] sz [(h_t, .inr (6, [.ref h_t_coordinates, .int v_t_many]))] (fun (u : Int32) => [(h_t, .inr (6, [.ref h_t_coordinates, .int u]))]) (fun (u : Int32) => post u) := by
  refine startV (cc := cX6_clear) (maxL := 1) (by decide +kernel) rfl (Nat.le_of_ble_eq_true rfl) ?_
  intro p e s m args below meth c Q ls A C0 hP hD hS hl hret
  obtain ⟨hx, hb, hml, hown, hts, hnw, hK, hA, hin⟩ := C0
  have hown : s.vm.findClass RX6 = some m.cls := hown
  have hl : lv_has ls 1 [(0, .ref h_t)] := hl
  refine lv_aload_n hx hb dX6_clear_0 rfl (lv_at hl 0 rfl) ?_
  refine lv_iconst (v := 0) hx hb dX6_clear_1 (by decide) ?_
  refine va_put (D := G) (ci := 6) (v := .int 0) (ty := .int) (C := RX6) (T := TX6) (N := 2) hx hb hts (fun w h => List.mem_cons_of_mem _ (inG_6 w h)) tyX6 tyX6_ok nmX6 hown hK hP hD hS 0 rfl rfl 1 (by decide) (hts _ (List.mem_cons_of_mem _ mw_1_31)) (fun _ h9 => h9) rfl (by decide +kernel) rfl rfl (Nat.le_of_ble_eq_true rfl) dX6_clear_2 (fun H locs hP hD hS => ?_)
  have hP : va_P G vwCl [(h_t, .inr (6, [.ref h_t_coordinates, .int 0]))] H := hP
  have hD : va_D A [(h_t, .inr (6, [.ref h_t_coordinates, .int 0]))] := hD
  exact hret 5 ls _ _ 0 dX6_clear_5  hF hP hD hS

def rm_X9_clear : Room := { frames := 0, cells := 0, slots := 0, locals := 0 }
def F_X9_clear (v_t_nodes : Int32) (v_t_deepest : Int32) (post : Int32 → Int32 → Prop) : Prop := post 0 0
set_option maxHeartbeats 8000000 in
set_option maxRecDepth 100000 in
theorem c_X9_clear (l : Launch) (G : va_G) (cI cL cZ : ClassId) (h_t : Nat) (h_t_order : Nat) (h_t_first : Nat) (h_t_many : Nat) (h_t_lower : Nat) (h_t_upper : Nat) (h_t_above : Nat) (h_t_bounds : Nat) (h_t_met : Nat) (v_t_nodes : Int32) (v_t_deepest : Int32) (sz : Nat) (post : Int32 → Int32 → Prop) (hF : F_X9_clear v_t_nodes v_t_deepest post) : MetV l G (gT cI cL cZ) yX9_clear (gW yX9_clear cX9_clear 1 none) rm_X9_clear 0 0 [.ref h_t] sz [(h_t, .inr (9, [.ref h_t_order, .ref h_t_first, .ref h_t_many, .ref h_t_lower, .ref h_t_upper, .ref h_t_above, .ref h_t_bounds, .ref h_t_met, .int v_t_nodes, .int v_t_deepest]))] (fun (u : Int32 × Int32) => [(h_t, .inr (9, [.ref h_t_order, .ref h_t_first, .ref h_t_many, .ref h_t_lower, .ref h_t_upper, .ref h_t_above, .ref h_t_bounds, .ref h_t_met, .int u.1, .int u.2]))]) (fun (u : Int32 × Int32) => post u.1 u.2) := by
  refine startV (cc := cX9_clear) (maxL := 1) (by decide +kernel) rfl (Nat.le_of_ble_eq_true rfl) ?_
  intro p e s m args below meth c Q ls A C0 hP hD hS hl hret
  obtain ⟨hx, hb, hml, hown, hts, hnw, hK, hA, hin⟩ := C0
  have hown : s.vm.findClass RX9 = some m.cls := hown
  have hl : lv_has ls 1 [(0, .ref h_t)] := hl
  refine lv_aload_n hx hb dX9_clear_0 rfl (lv_at hl 0 rfl) ?_
  refine lv_iconst (v := 0) hx hb dX9_clear_1 (by decide) ?_
  refine va_put (D := G) (ci := 9) (v := .int 0) (ty := .int) (C := RX9) (T := TX9) (N := 10) hx hb hts (fun w h => List.mem_cons_of_mem _ (inG_9 w h)) tyX9 tyX9_ok nmX9 hown hK hP hD hS 0 rfl rfl 8 (by decide) (hts _ (List.mem_cons_of_mem _ mw_1_121)) (fun _ h9 => h9) rfl (by decide +kernel) rfl rfl (Nat.le_of_ble_eq_true rfl) dX9_clear_2 (fun H locs hP hD hS => ?_)
  have hP : va_P G vwCl [(h_t, .inr (9, [.ref h_t_order, .ref h_t_first, .ref h_t_many, .ref h_t_lower, .ref h_t_upper, .ref h_t_above, .ref h_t_bounds, .ref h_t_met, .int 0, .int v_t_deepest]))] H := hP
  have hD : va_D A [(h_t, .inr (9, [.ref h_t_order, .ref h_t_first, .ref h_t_many, .ref h_t_lower, .ref h_t_upper, .ref h_t_above, .ref h_t_bounds, .ref h_t_met, .int 0, .int v_t_deepest]))] := hD
  refine lv_aload_n hx hb dX9_clear_5 rfl (lv_at hl 0 rfl) ?_
  refine lv_iconst (v := 0) hx hb dX9_clear_6 (by decide) ?_
  refine va_put (D := G) (ci := 9) (v := .int 0) (ty := .int) (C := RX9) (T := TX9) (N := 10) hx hb hts (fun w h => List.mem_cons_of_mem _ (inG_9 w h)) tyX9 tyX9_ok nmX9 hown hK hP hD hS 0 rfl rfl 9 (by decide) (hts _ (List.mem_cons_of_mem _ mw_1_122)) (fun _ h9 => h9) rfl (by decide +kernel) rfl rfl (Nat.le_of_ble_eq_true rfl) dX9_clear_7 (fun H locs hP hD hS => ?_)
  have hP : va_P G vwCl [(h_t, .inr (9, [.ref h_t_order, .ref h_t_first, .ref h_t_many, .ref h_t_lower, .ref h_t_upper, .ref h_t_above, .ref h_t_bounds, .ref h_t_met, .int 0, .int 0]))] H := hP
  have hD : va_D A [(h_t, .inr (9, [.ref h_t_order, .ref h_t_first, .ref h_t_many, .ref h_t_lower, .ref h_t_upper, .ref h_t_above, .ref h_t_bounds, .ref h_t_met, .int 0, .int 0]))] := hD
  exact hret 10 ls _ _ (0, 0) dX9_clear_10  hF hP hD hS

def rm_X11_triangle : Room := { frames := 3, cells := 0, slots := 0, locals := 108 }
def J_X11_triangle_36 (post : Int32 → Int32 → Int32 → (Nat → Int32) → (Nat → Int32) → (Nat → Int32) → (Nat → Int32) → (Nat → Int32) → Int32 → Int32 → Prop) (v_t_points_coordinates : Nat → Int32) (s0 : Int32) (v_t_points_many : Int32) (v_t_mesh_many : Int32) (v_t_mesh_corners : Nat → Int32) (v_t_mesh_normals : Nat → Int32) (v_t_mesh_tones : Nat → Int32) (v_t_mesh_trial : Nat → Int32) (v_t_mesh_trialNormal : Nat → Int32) (v_t_tree_nodes : Int32) (v_t_tree_deepest : Int32) : Prop := (F_X6_clear v_t_points_many (fun v4 => ((s0 < 0 → post s0 v4 v_t_mesh_many v_t_mesh_corners v_t_mesh_normals v_t_mesh_tones v_t_mesh_trial v_t_mesh_trialNormal v_t_tree_nodes v_t_tree_deepest) ∧ (¬ s0 < 0 → (F_X9_clear v_t_tree_nodes v_t_tree_deepest (fun v6 v7 => post s0 v4 v_t_mesh_many v_t_mesh_corners v_t_mesh_normals v_t_mesh_tones v_t_mesh_trial v_t_mesh_trialNormal v6 v7))))))
def F_X11_triangle (p1 : Int32) (v_t_points_many : Int32) (v_t_points_coordinates : Nat → Int32) (v_t_mesh_many : Int32) (v_t_mesh_corners : Nat → Int32) (v_t_mesh_normals : Nat → Int32) (v_t_mesh_tones : Nat → Int32) (v_t_mesh_trial : Nat → Int32) (v_t_mesh_trialNormal : Nat → Int32) (v_t_tree_nodes : Int32) (v_t_tree_deepest : Int32) (post : Int32 → Int32 → Int32 → (Nat → Int32) → (Nat → Int32) → (Nat → Int32) → (Nat → Int32) → (Nat → Int32) → Int32 → Int32 → Prop) : Prop := (F_X6_many v_t_points_many (fun r1 => ((r1 = 3 → (F_X11_isByte p1 (fun r3 => ((r3 = 0 → J_X11_triangle_36 post v_t_points_coordinates (-1) v_t_points_many v_t_mesh_many v_t_mesh_corners v_t_mesh_normals v_t_mesh_tones v_t_mesh_trial v_t_mesh_trialNormal v_t_tree_nodes v_t_tree_deepest) ∧ (¬ r3 = 0 → (F_X5_append p1 v_t_mesh_many v_t_mesh_corners v_t_mesh_normals v_t_mesh_tones v_t_mesh_trial v_t_mesh_trialNormal v_t_points_coordinates (fun r9 v10 v11 v12 v13 v14 v15 => J_X11_triangle_36 post v_t_points_coordinates r9 v_t_points_many v10 v11 v12 v13 v14 v15 v_t_tree_nodes v_t_tree_deepest))))))) ∧ (¬ r1 = 3 → post (-1) v_t_points_many v_t_mesh_many v_t_mesh_corners v_t_mesh_normals v_t_mesh_tones v_t_mesh_trial v_t_mesh_trialNormal v_t_tree_nodes v_t_tree_deepest))))
set_option maxHeartbeats 8000000 in
set_option maxRecDepth 100000 in
theorem c_X11_triangle (l : Launch) (G : va_G) (cI cL cZ : ClassId) (h_t : Nat) (h_t_points : Nat) (h_t_mesh : Nat) (h_t_camera : Nat) (h_t_lamps : Nat) (h_t_tree : Nat) (h_t_crossings : Nat) (h_t_atHand : Nat) (h_t_view : Nat) (h_t_sight : Nat) (h_t_shade : Nat) (h_t_slope : Nat) (h_t_box : Nat) (h_t_marked : Nat) (h_t_points_coordinates : Nat) (h_t_mesh_corners : Nat) (h_t_mesh_normals : Nat) (h_t_mesh_tones : Nat) (h_t_mesh_trial : Nat) (h_t_mesh_trialNormal : Nat) (h_t_tree_order : Nat) (h_t_tree_first : Nat) (h_t_tree_many : Nat) (h_t_tree_lower : Nat) (h_t_tree_upper : Nat) (h_t_tree_above : Nat) (h_t_tree_bounds : Nat) (h_t_tree_met : Nat) (v_t_points_many : Int32) (v_t_points_coordinates : Nat → Int32) (v_t_mesh_many : Int32) (v_t_mesh_corners : Nat → Int32) (v_t_mesh_normals : Nat → Int32) (v_t_mesh_tones : Nat → Int32) (v_t_mesh_trial : Nat → Int32) (v_t_mesh_trialNormal : Nat → Int32) (v_t_tree_nodes : Int32) (v_t_tree_deepest : Int32) (v_t_back : Int32) (p1 : Int32) (sz : Nat) (post : Int32 → Int32 → Int32 → (Nat → Int32) → (Nat → Int32) → (Nat → Int32) → (Nat → Int32) → (Nat → Int32) → Int32 → Int32 → Prop) (hF : F_X11_triangle p1 v_t_points_many v_t_points_coordinates v_t_mesh_many v_t_mesh_corners v_t_mesh_normals v_t_mesh_tones v_t_mesh_trial v_t_mesh_trialNormal v_t_tree_nodes v_t_tree_deepest post) : MetI l G (gT cI cL cZ) yX11_triangle (gW yX11_triangle cX11_triangle 3 (some .int)) rm_X11_triangle 0 0 [.ref h_t, .int p1] sz [(h_t, .inr (11, [.ref h_t_points, .ref h_t_mesh, .ref h_t_camera, .ref h_t_lamps, .ref h_t_tree, .ref h_t_crossings, .ref h_t_atHand, .ref h_t_view, .ref h_t_sight, .ref h_t_shade, .ref h_t_slope, .ref h_t_box, .ref h_t_marked, .int v_t_back])), (h_t_points, .inr (6, [.ref h_t_points_coordinates, .int v_t_points_many])), (h_t_points_coordinates, .inl (cI, 9, .inl v_t_points_coordinates)), (h_t_mesh, .inr (5, [.ref h_t_mesh_corners, .ref h_t_mesh_normals, .ref h_t_mesh_tones, .ref h_t_mesh_trial, .ref h_t_mesh_trialNormal, .int v_t_mesh_many])), (h_t_mesh_corners, .inl (cI, 1152, .inl v_t_mesh_corners)), (h_t_mesh_normals, .inl (cI, 384, .inl v_t_mesh_normals)), (h_t_mesh_tones, .inl (cI, 128, .inl v_t_mesh_tones)), (h_t_mesh_trial, .inl (cI, 9, .inl v_t_mesh_trial)), (h_t_mesh_trialNormal, .inl (cI, 3, .inl v_t_mesh_trialNormal)), (h_t_tree, .inr (9, [.ref h_t_tree_order, .ref h_t_tree_first, .ref h_t_tree_many, .ref h_t_tree_lower, .ref h_t_tree_upper, .ref h_t_tree_above, .ref h_t_tree_bounds, .ref h_t_tree_met, .int v_t_tree_nodes, .int v_t_tree_deepest]))] (fun (u : Int32 × Int32 × (Nat → Int32) × (Nat → Int32) × (Nat → Int32) × (Nat → Int32) × (Nat → Int32) × Int32 × Int32) => [(h_t, .inr (11, [.ref h_t_points, .ref h_t_mesh, .ref h_t_camera, .ref h_t_lamps, .ref h_t_tree, .ref h_t_crossings, .ref h_t_atHand, .ref h_t_view, .ref h_t_sight, .ref h_t_shade, .ref h_t_slope, .ref h_t_box, .ref h_t_marked, .int v_t_back])), (h_t_points, .inr (6, [.ref h_t_points_coordinates, .int u.1])), (h_t_points_coordinates, .inl (cI, 9, .inl v_t_points_coordinates)), (h_t_mesh, .inr (5, [.ref h_t_mesh_corners, .ref h_t_mesh_normals, .ref h_t_mesh_tones, .ref h_t_mesh_trial, .ref h_t_mesh_trialNormal, .int u.2.1])), (h_t_mesh_corners, .inl (cI, 1152, .inl u.2.2.1)), (h_t_mesh_normals, .inl (cI, 384, .inl u.2.2.2.1)), (h_t_mesh_tones, .inl (cI, 128, .inl u.2.2.2.2.1)), (h_t_mesh_trial, .inl (cI, 9, .inl u.2.2.2.2.2.1)), (h_t_mesh_trialNormal, .inl (cI, 3, .inl u.2.2.2.2.2.2.1)), (h_t_tree, .inr (9, [.ref h_t_tree_order, .ref h_t_tree_first, .ref h_t_tree_many, .ref h_t_tree_lower, .ref h_t_tree_upper, .ref h_t_tree_above, .ref h_t_tree_bounds, .ref h_t_tree_met, .int u.2.2.2.2.2.2.2.1, .int u.2.2.2.2.2.2.2.2]))]) (fun (r : Int32) (u : Int32 × Int32 × (Nat → Int32) × (Nat → Int32) × (Nat → Int32) × (Nat → Int32) × (Nat → Int32) × Int32 × Int32) => post r u.1 u.2.1 u.2.2.1 u.2.2.2.1 u.2.2.2.2.1 u.2.2.2.2.2.1 u.2.2.2.2.2.2.1 u.2.2.2.2.2.2.2.1 u.2.2.2.2.2.2.2.2) := by
  refine startI (cc := cX11_triangle) (maxL := 3) (ty9 := .int) (by decide +kernel) rfl (Nat.le_of_ble_eq_true rfl) ?_
  intro p e s m args below meth c Q ls A C0 hP hD hS hl hret
  obtain ⟨hx, hb, hml, hown, hts, hnw, hK, hA, hin⟩ := C0
  have hown : s.vm.findClass RX11 = some m.cls := hown
  have hl : lv_has ls 3 [(0, .ref h_t), (1, .int p1)] := hl
  refine lv_aload_n hx hb dX11_triangle_0 rfl (lv_at hl 0 rfl) ?_
  refine va_get (D := G) (ci := 11) (v := .ref h_t_points) (C := RX11) (T := TX11) (N := 14) hx hb hts (fun w h => List.mem_cons_of_mem _ (inG_11 w h)) hown hK hP 0 rfl rfl 0 (by decide) (hts _ (List.mem_cons_of_mem _ mw_2_41)) (fun _ h9 => h9) rfl dX11_triangle_1 ?_
  refine afterI (wr := [(h_t, .inr (11, [.ref h_t_points, .ref h_t_mesh, .ref h_t_camera, .ref h_t_lamps, .ref h_t_tree, .ref h_t_crossings, .ref h_t_atHand, .ref h_t_view, .ref h_t_sight, .ref h_t_shade, .ref h_t_slope, .ref h_t_box, .ref h_t_marked, .int v_t_back])), (h_t_points_coordinates, .inl (cI, 9, .inl v_t_points_coordinates)), (h_t_mesh, .inr (5, [.ref h_t_mesh_corners, .ref h_t_mesh_normals, .ref h_t_mesh_tones, .ref h_t_mesh_trial, .ref h_t_mesh_trialNormal, .int v_t_mesh_many])), (h_t_mesh_corners, .inl (cI, 1152, .inl v_t_mesh_corners)), (h_t_mesh_normals, .inl (cI, 384, .inl v_t_mesh_normals)), (h_t_mesh_tones, .inl (cI, 128, .inl v_t_mesh_tones)), (h_t_mesh_trial, .inl (cI, 9, .inl v_t_mesh_trial)), (h_t_mesh_trialNormal, .inl (cI, 3, .inl v_t_mesh_trialNormal)), (h_t_tree, .inr (9, [.ref h_t_tree_order, .ref h_t_tree_first, .ref h_t_tree_many, .ref h_t_tree_lower, .ref h_t_tree_upper, .ref h_t_tree_above, .ref h_t_tree_bounds, .ref h_t_tree_met, .int v_t_tree_nodes, .int v_t_tree_deepest]))]) (va_runV (As := []) (rest := []) ⟨hx, hb, hml, hown, hts⟩ (c_X6_many l G cI cL cZ h_t_points h_t_points_coordinates v_t_points_many _ _ hF) (cwV 0 hts (gV mw_2_95 mw_2_96 mw_2_97 mw_1_2 mw_2_98) rfl rfl rfl (by decide +kernel) ⟨Nat.le_of_ble_eq_true rfl, Nat.le_of_ble_eq_true rfl⟩) ⟨gP_blind, va_recv hK hP (ci := 6) (q0 := 1) rfl rfl, gP_of hK hnw hP hD [1] (by decide +kernel) rfl rfl⟩ rfl rfl hl.1 rfl (lv_room (Nat.le_of_ble_eq_true rfl)) dX11_triangle_4 ⟨Nat.le_of_ble_eq_true rfl, Nat.le_of_ble_eq_true rfl⟩) hP hD hS hA [1] [0, 2, 3, 4, 5, 6, 7, 8, 9] rfl rfl (by decide +kernel) (by decide +kernel) (fun r1 u H locs hF hP hD hS => ?_)
  try dsimp only at hF
  have hP : va_P G vwCl [(h_t, .inr (11, [.ref h_t_points, .ref h_t_mesh, .ref h_t_camera, .ref h_t_lamps, .ref h_t_tree, .ref h_t_crossings, .ref h_t_atHand, .ref h_t_view, .ref h_t_sight, .ref h_t_shade, .ref h_t_slope, .ref h_t_box, .ref h_t_marked, .int v_t_back])), (h_t_points_coordinates, .inl (cI, 9, .inl v_t_points_coordinates)), (h_t_mesh, .inr (5, [.ref h_t_mesh_corners, .ref h_t_mesh_normals, .ref h_t_mesh_tones, .ref h_t_mesh_trial, .ref h_t_mesh_trialNormal, .int v_t_mesh_many])), (h_t_mesh_corners, .inl (cI, 1152, .inl v_t_mesh_corners)), (h_t_mesh_normals, .inl (cI, 384, .inl v_t_mesh_normals)), (h_t_mesh_tones, .inl (cI, 128, .inl v_t_mesh_tones)), (h_t_mesh_trial, .inl (cI, 9, .inl v_t_mesh_trial)), (h_t_mesh_trialNormal, .inl (cI, 3, .inl v_t_mesh_trialNormal)), (h_t_tree, .inr (9, [.ref h_t_tree_order, .ref h_t_tree_first, .ref h_t_tree_many, .ref h_t_tree_lower, .ref h_t_tree_upper, .ref h_t_tree_above, .ref h_t_tree_bounds, .ref h_t_tree_met, .int v_t_tree_nodes, .int v_t_tree_deepest])), (h_t_points, .inr (6, [.ref h_t_points_coordinates, .int v_t_points_many]))] H := hP
  have hD : va_D A [(h_t, .inr (11, [.ref h_t_points, .ref h_t_mesh, .ref h_t_camera, .ref h_t_lamps, .ref h_t_tree, .ref h_t_crossings, .ref h_t_atHand, .ref h_t_view, .ref h_t_sight, .ref h_t_shade, .ref h_t_slope, .ref h_t_box, .ref h_t_marked, .int v_t_back])), (h_t_points_coordinates, .inl (cI, 9, .inl v_t_points_coordinates)), (h_t_mesh, .inr (5, [.ref h_t_mesh_corners, .ref h_t_mesh_normals, .ref h_t_mesh_tones, .ref h_t_mesh_trial, .ref h_t_mesh_trialNormal, .int v_t_mesh_many])), (h_t_mesh_corners, .inl (cI, 1152, .inl v_t_mesh_corners)), (h_t_mesh_normals, .inl (cI, 384, .inl v_t_mesh_normals)), (h_t_mesh_tones, .inl (cI, 128, .inl v_t_mesh_tones)), (h_t_mesh_trial, .inl (cI, 9, .inl v_t_mesh_trial)), (h_t_mesh_trialNormal, .inl (cI, 3, .inl v_t_mesh_trialNormal)), (h_t_tree, .inr (9, [.ref h_t_tree_order, .ref h_t_tree_first, .ref h_t_tree_many, .ref h_t_tree_lower, .ref h_t_tree_upper, .ref h_t_tree_above, .ref h_t_tree_bounds, .ref h_t_tree_met, .int v_t_tree_nodes, .int v_t_tree_deepest])), (h_t_points, .inr (6, [.ref h_t_points_coordinates, .int v_t_points_many]))] := hD
  refine lv_iconst (v := 3) hx hb dX11_triangle_7 (by decide) ?_
  refine lv_icmp_eq (tgt := 13) hx hb dX11_triangle_8 (by decide) (fun c2 => ?_) (fun c2 => ?_)
  · have hF := hF.1 c2
    refine lv_iload_n hx hb dX11_triangle_13 rfl (lv_at hl 1 rfl) ?_
    refine afterI (wr := [(h_t, .inr (11, [.ref h_t_points, .ref h_t_mesh, .ref h_t_camera, .ref h_t_lamps, .ref h_t_tree, .ref h_t_crossings, .ref h_t_atHand, .ref h_t_view, .ref h_t_sight, .ref h_t_shade, .ref h_t_slope, .ref h_t_box, .ref h_t_marked, .int v_t_back])), (h_t_points_coordinates, .inl (cI, 9, .inl v_t_points_coordinates)), (h_t_mesh, .inr (5, [.ref h_t_mesh_corners, .ref h_t_mesh_normals, .ref h_t_mesh_tones, .ref h_t_mesh_trial, .ref h_t_mesh_trialNormal, .int v_t_mesh_many])), (h_t_mesh_corners, .inl (cI, 1152, .inl v_t_mesh_corners)), (h_t_mesh_normals, .inl (cI, 384, .inl v_t_mesh_normals)), (h_t_mesh_tones, .inl (cI, 128, .inl v_t_mesh_tones)), (h_t_mesh_trial, .inl (cI, 9, .inl v_t_mesh_trial)), (h_t_mesh_trialNormal, .inl (cI, 3, .inl v_t_mesh_trialNormal)), (h_t_tree, .inr (9, [.ref h_t_tree_order, .ref h_t_tree_first, .ref h_t_tree_many, .ref h_t_tree_lower, .ref h_t_tree_upper, .ref h_t_tree_above, .ref h_t_tree_bounds, .ref h_t_tree_met, .int v_t_tree_nodes, .int v_t_tree_deepest])), (h_t_points, .inr (6, [.ref h_t_points_coordinates, .int v_t_points_many]))]) (va_runS (As := [.int p1]) (rest := []) ⟨hx, hb, hml, hown, hts⟩ (c_X11_isByte l G cI cL cZ p1 _ _ hF) (va_cwS 1 hts (gS mw_2_103 mw_2_104 mw_1_1 mw_2_105) rfl rfl rfl (by decide +kernel) ⟨Nat.le_of_ble_eq_true rfl, Nat.le_of_ble_eq_true rfl⟩) ⟨gP_blind, gP_of hK hnw hP hD [] (by decide +kernel) rfl rfl⟩ rfl rfl hl.1 rfl (lv_room (Nat.le_of_ble_eq_true rfl)) dX11_triangle_14 ⟨Nat.le_of_ble_eq_true rfl, Nat.le_of_ble_eq_true rfl⟩) hP hD hS hA [] [0, 1, 2, 3, 4, 5, 6, 7, 8, 9] rfl rfl (by decide +kernel) (by decide +kernel) (fun r3 u H locs hF hP hD hS => ?_)
    try dsimp only at hF
    have hP : va_P G vwCl [(h_t, .inr (11, [.ref h_t_points, .ref h_t_mesh, .ref h_t_camera, .ref h_t_lamps, .ref h_t_tree, .ref h_t_crossings, .ref h_t_atHand, .ref h_t_view, .ref h_t_sight, .ref h_t_shade, .ref h_t_slope, .ref h_t_box, .ref h_t_marked, .int v_t_back])), (h_t_points_coordinates, .inl (cI, 9, .inl v_t_points_coordinates)), (h_t_mesh, .inr (5, [.ref h_t_mesh_corners, .ref h_t_mesh_normals, .ref h_t_mesh_tones, .ref h_t_mesh_trial, .ref h_t_mesh_trialNormal, .int v_t_mesh_many])), (h_t_mesh_corners, .inl (cI, 1152, .inl v_t_mesh_corners)), (h_t_mesh_normals, .inl (cI, 384, .inl v_t_mesh_normals)), (h_t_mesh_tones, .inl (cI, 128, .inl v_t_mesh_tones)), (h_t_mesh_trial, .inl (cI, 9, .inl v_t_mesh_trial)), (h_t_mesh_trialNormal, .inl (cI, 3, .inl v_t_mesh_trialNormal)), (h_t_tree, .inr (9, [.ref h_t_tree_order, .ref h_t_tree_first, .ref h_t_tree_many, .ref h_t_tree_lower, .ref h_t_tree_upper, .ref h_t_tree_above, .ref h_t_tree_bounds, .ref h_t_tree_met, .int v_t_tree_nodes, .int v_t_tree_deepest])), (h_t_points, .inr (6, [.ref h_t_points_coordinates, .int v_t_points_many]))] H := hP
    have hD : va_D A [(h_t, .inr (11, [.ref h_t_points, .ref h_t_mesh, .ref h_t_camera, .ref h_t_lamps, .ref h_t_tree, .ref h_t_crossings, .ref h_t_atHand, .ref h_t_view, .ref h_t_sight, .ref h_t_shade, .ref h_t_slope, .ref h_t_box, .ref h_t_marked, .int v_t_back])), (h_t_points_coordinates, .inl (cI, 9, .inl v_t_points_coordinates)), (h_t_mesh, .inr (5, [.ref h_t_mesh_corners, .ref h_t_mesh_normals, .ref h_t_mesh_tones, .ref h_t_mesh_trial, .ref h_t_mesh_trialNormal, .int v_t_mesh_many])), (h_t_mesh_corners, .inl (cI, 1152, .inl v_t_mesh_corners)), (h_t_mesh_normals, .inl (cI, 384, .inl v_t_mesh_normals)), (h_t_mesh_tones, .inl (cI, 128, .inl v_t_mesh_tones)), (h_t_mesh_trial, .inl (cI, 9, .inl v_t_mesh_trial)), (h_t_mesh_trialNormal, .inl (cI, 3, .inl v_t_mesh_trialNormal)), (h_t_tree, .inr (9, [.ref h_t_tree_order, .ref h_t_tree_first, .ref h_t_tree_many, .ref h_t_tree_lower, .ref h_t_tree_upper, .ref h_t_tree_above, .ref h_t_tree_bounds, .ref h_t_tree_met, .int v_t_tree_nodes, .int v_t_tree_deepest])), (h_t_points, .inr (6, [.ref h_t_points_coordinates, .int v_t_points_many]))] := hD
    have k_36 : ∀ (s0 : Int32) (v_t_points_many : Int32) (v_t_mesh_many : Int32) (v_t_mesh_corners : Nat → Int32) (v_t_mesh_normals : Nat → Int32) (v_t_mesh_tones : Nat → Int32) (v_t_mesh_trial : Nat → Int32) (v_t_mesh_trialNormal : Nat → Int32) (v_t_tree_nodes : Int32) (v_t_tree_deepest : Int32), J_X11_triangle_36 post v_t_points_coordinates s0 v_t_points_many v_t_mesh_many v_t_mesh_corners v_t_mesh_normals v_t_mesh_tones v_t_mesh_trial v_t_mesh_trialNormal v_t_tree_nodes v_t_tree_deepest → ∀ (H : Heap) (locs : List Loc) (ls : Array Slot), va_P G vwCl [(h_t, .inr (11, [.ref h_t_points, .ref h_t_mesh, .ref h_t_camera, .ref h_t_lamps, .ref h_t_tree, .ref h_t_crossings, .ref h_t_atHand, .ref h_t_view, .ref h_t_sight, .ref h_t_shade, .ref h_t_slope, .ref h_t_box, .ref h_t_marked, .int v_t_back])), (h_t_points, .inr (6, [.ref h_t_points_coordinates, .int v_t_points_many])), (h_t_points_coordinates, .inl (cI, 9, .inl v_t_points_coordinates)), (h_t_mesh, .inr (5, [.ref h_t_mesh_corners, .ref h_t_mesh_normals, .ref h_t_mesh_tones, .ref h_t_mesh_trial, .ref h_t_mesh_trialNormal, .int v_t_mesh_many])), (h_t_mesh_corners, .inl (cI, 1152, .inl v_t_mesh_corners)), (h_t_mesh_normals, .inl (cI, 384, .inl v_t_mesh_normals)), (h_t_mesh_tones, .inl (cI, 128, .inl v_t_mesh_tones)), (h_t_mesh_trial, .inl (cI, 9, .inl v_t_mesh_trial)), (h_t_mesh_trialNormal, .inl (cI, 3, .inl v_t_mesh_trialNormal)), (h_t_tree, .inr (9, [.ref h_t_tree_order, .ref h_t_tree_first, .ref h_t_tree_many, .ref h_t_tree_lower, .ref h_t_tree_upper, .ref h_t_tree_above, .ref h_t_tree_bounds, .ref h_t_tree_met, .int v_t_tree_nodes, .int v_t_tree_deepest]))] H → va_D A [(h_t, .inr (11, [.ref h_t_points, .ref h_t_mesh, .ref h_t_camera, .ref h_t_lamps, .ref h_t_tree, .ref h_t_crossings, .ref h_t_atHand, .ref h_t_view, .ref h_t_sight, .ref h_t_shade, .ref h_t_slope, .ref h_t_box, .ref h_t_marked, .int v_t_back])), (h_t_points, .inr (6, [.ref h_t_points_coordinates, .int v_t_points_many])), (h_t_points_coordinates, .inl (cI, 9, .inl v_t_points_coordinates)), (h_t_mesh, .inr (5, [.ref h_t_mesh_corners, .ref h_t_mesh_normals, .ref h_t_mesh_tones, .ref h_t_mesh_trial, .ref h_t_mesh_trialNormal, .int v_t_mesh_many])), (h_t_mesh_corners, .inl (cI, 1152, .inl v_t_mesh_corners)), (h_t_mesh_normals, .inl (cI, 384, .inl v_t_mesh_normals)), (h_t_mesh_tones, .inl (cI, 128, .inl v_t_mesh_tones)), (h_t_mesh_trial, .inl (cI, 9, .inl v_t_mesh_trial)), (h_t_mesh_trialNormal, .inl (cI, 3, .inl v_t_mesh_trialNormal)), (h_t_tree, .inr (9, [.ref h_t_tree_order, .ref h_t_tree_first, .ref h_t_tree_many, .ref h_t_tree_lower, .ref h_t_tree_upper, .ref h_t_tree_above, .ref h_t_tree_bounds, .ref h_t_tree_met, .int v_t_tree_nodes, .int v_t_tree_deepest]))] → va_S A s.heap H locs → lv_has ls 3 [(0, .ref h_t)] → W p l e rm_X11_triangle s m args below meth c H locs 0 0 Q (F0 m 36 ls [.int s0]) := by
      intro s0 v_t_points_many v_t_mesh_many v_t_mesh_corners v_t_mesh_normals v_t_mesh_tones v_t_mesh_trial v_t_mesh_trialNormal v_t_tree_nodes v_t_tree_deepest hF H locs ls hP hD hS hl
      refine lv_istore_n (lv' := [(2, .int s0), (0, .ref h_t)]) hx hb dX11_triangle_36 rfl hl (by decide) rfl (fun ls hl => ?_)
      refine lv_aload_n hx hb dX11_triangle_37 rfl (lv_at hl 1 rfl) ?_
      refine va_get (D := G) (ci := 11) (v := .ref h_t_points) (C := RX11) (T := TX11) (N := 14) hx hb hts (fun w h => List.mem_cons_of_mem _ (inG_11 w h)) hown hK hP 0 rfl rfl 0 (by decide) (hts _ (List.mem_cons_of_mem _ mw_2_41)) (fun _ h9 => h9) rfl dX11_triangle_38 ?_
      refine afterV (wr := [(h_t, .inr (11, [.ref h_t_points, .ref h_t_mesh, .ref h_t_camera, .ref h_t_lamps, .ref h_t_tree, .ref h_t_crossings, .ref h_t_atHand, .ref h_t_view, .ref h_t_sight, .ref h_t_shade, .ref h_t_slope, .ref h_t_box, .ref h_t_marked, .int v_t_back])), (h_t_points_coordinates, .inl (cI, 9, .inl v_t_points_coordinates)), (h_t_mesh, .inr (5, [.ref h_t_mesh_corners, .ref h_t_mesh_normals, .ref h_t_mesh_tones, .ref h_t_mesh_trial, .ref h_t_mesh_trialNormal, .int v_t_mesh_many])), (h_t_mesh_corners, .inl (cI, 1152, .inl v_t_mesh_corners)), (h_t_mesh_normals, .inl (cI, 384, .inl v_t_mesh_normals)), (h_t_mesh_tones, .inl (cI, 128, .inl v_t_mesh_tones)), (h_t_mesh_trial, .inl (cI, 9, .inl v_t_mesh_trial)), (h_t_mesh_trialNormal, .inl (cI, 3, .inl v_t_mesh_trialNormal)), (h_t_tree, .inr (9, [.ref h_t_tree_order, .ref h_t_tree_first, .ref h_t_tree_many, .ref h_t_tree_lower, .ref h_t_tree_upper, .ref h_t_tree_above, .ref h_t_tree_bounds, .ref h_t_tree_met, .int v_t_tree_nodes, .int v_t_tree_deepest]))]) (va_runV (As := []) (rest := []) ⟨hx, hb, hml, hown, hts⟩ (c_X6_clear l G cI cL cZ h_t_points h_t_points_coordinates v_t_points_many _ _ hF) (cwV 0 hts (gV mw_2_129 mw_2_130 mw_2_131 mw_1_2 mw_2_132) rfl rfl rfl (by decide +kernel) ⟨Nat.le_of_ble_eq_true rfl, Nat.le_of_ble_eq_true rfl⟩) ⟨gP_blind, va_recv hK hP (ci := 6) (q0 := 1) rfl rfl, gP_of hK hnw hP hD [1] (by decide +kernel) rfl rfl⟩ rfl rfl hl.1 rfl (lv_room (Nat.le_of_ble_eq_true rfl)) dX11_triangle_41 ⟨Nat.le_of_ble_eq_true rfl, Nat.le_of_ble_eq_true rfl⟩) hP hD hS hA [1] [0, 2, 3, 4, 5, 6, 7, 8, 9] rfl rfl (by decide +kernel) (by decide +kernel) (fun u H locs hF hP hD hS => ?_)
      obtain ⟨v4, rfl⟩ : ∃ z, z = u := ⟨_, rfl⟩
      try dsimp only at hF
      have hP : va_P G vwCl [(h_t, .inr (11, [.ref h_t_points, .ref h_t_mesh, .ref h_t_camera, .ref h_t_lamps, .ref h_t_tree, .ref h_t_crossings, .ref h_t_atHand, .ref h_t_view, .ref h_t_sight, .ref h_t_shade, .ref h_t_slope, .ref h_t_box, .ref h_t_marked, .int v_t_back])), (h_t_points_coordinates, .inl (cI, 9, .inl v_t_points_coordinates)), (h_t_mesh, .inr (5, [.ref h_t_mesh_corners, .ref h_t_mesh_normals, .ref h_t_mesh_tones, .ref h_t_mesh_trial, .ref h_t_mesh_trialNormal, .int v_t_mesh_many])), (h_t_mesh_corners, .inl (cI, 1152, .inl v_t_mesh_corners)), (h_t_mesh_normals, .inl (cI, 384, .inl v_t_mesh_normals)), (h_t_mesh_tones, .inl (cI, 128, .inl v_t_mesh_tones)), (h_t_mesh_trial, .inl (cI, 9, .inl v_t_mesh_trial)), (h_t_mesh_trialNormal, .inl (cI, 3, .inl v_t_mesh_trialNormal)), (h_t_tree, .inr (9, [.ref h_t_tree_order, .ref h_t_tree_first, .ref h_t_tree_many, .ref h_t_tree_lower, .ref h_t_tree_upper, .ref h_t_tree_above, .ref h_t_tree_bounds, .ref h_t_tree_met, .int v_t_tree_nodes, .int v_t_tree_deepest])), (h_t_points, .inr (6, [.ref h_t_points_coordinates, .int v4]))] H := hP
      have hD : va_D A [(h_t, .inr (11, [.ref h_t_points, .ref h_t_mesh, .ref h_t_camera, .ref h_t_lamps, .ref h_t_tree, .ref h_t_crossings, .ref h_t_atHand, .ref h_t_view, .ref h_t_sight, .ref h_t_shade, .ref h_t_slope, .ref h_t_box, .ref h_t_marked, .int v_t_back])), (h_t_points_coordinates, .inl (cI, 9, .inl v_t_points_coordinates)), (h_t_mesh, .inr (5, [.ref h_t_mesh_corners, .ref h_t_mesh_normals, .ref h_t_mesh_tones, .ref h_t_mesh_trial, .ref h_t_mesh_trialNormal, .int v_t_mesh_many])), (h_t_mesh_corners, .inl (cI, 1152, .inl v_t_mesh_corners)), (h_t_mesh_normals, .inl (cI, 384, .inl v_t_mesh_normals)), (h_t_mesh_tones, .inl (cI, 128, .inl v_t_mesh_tones)), (h_t_mesh_trial, .inl (cI, 9, .inl v_t_mesh_trial)), (h_t_mesh_trialNormal, .inl (cI, 3, .inl v_t_mesh_trialNormal)), (h_t_tree, .inr (9, [.ref h_t_tree_order, .ref h_t_tree_first, .ref h_t_tree_many, .ref h_t_tree_lower, .ref h_t_tree_upper, .ref h_t_tree_above, .ref h_t_tree_bounds, .ref h_t_tree_met, .int v_t_tree_nodes, .int v_t_tree_deepest])), (h_t_points, .inr (6, [.ref h_t_points_coordinates, .int v4]))] := hD
      refine lv_iload_n hx hb dX11_triangle_44 rfl (lv_at hl 0 rfl) ?_
      refine lv_if_lt (tgt := 55) hx hb dX11_triangle_45 (by decide) (fun c5 => ?_) (fun c5 => ?_)
      · have hF := hF.1 c5
        refine lv_iload_n hx hb dX11_triangle_55 rfl (lv_at hl 0 rfl) ?_
        exact hret 56 ls _ _ s0 (v4, v_t_mesh_many, v_t_mesh_corners, v_t_mesh_normals, v_t_mesh_tones, v_t_mesh_trial, v_t_mesh_trialNormal, v_t_tree_nodes, v_t_tree_deepest) dX11_triangle_56 rfl hF (hP.sub [0, 9, 1, 2, 3, 4, 5, 6, 7, 8] rfl) (hD.sub [0, 9, 1, 2, 3, 4, 5, 6, 7, 8] (by decide +kernel) rfl) hS
      · have hF := hF.2 c5
        refine lv_aload_n hx hb dX11_triangle_48 rfl (lv_at hl 1 rfl) ?_
        refine va_get (D := G) (ci := 11) (v := .ref h_t_tree) (C := RX11) (T := TX11) (N := 14) hx hb hts (fun w h => List.mem_cons_of_mem _ (inG_11 w h)) hown hK hP 0 rfl rfl 4 (by decide) (hts _ (List.mem_cons_of_mem _ mw_2_45)) (fun _ h9 => h9) rfl dX11_triangle_49 ?_
        refine afterV (wr := [(h_t, .inr (11, [.ref h_t_points, .ref h_t_mesh, .ref h_t_camera, .ref h_t_lamps, .ref h_t_tree, .ref h_t_crossings, .ref h_t_atHand, .ref h_t_view, .ref h_t_sight, .ref h_t_shade, .ref h_t_slope, .ref h_t_box, .ref h_t_marked, .int v_t_back])), (h_t_points_coordinates, .inl (cI, 9, .inl v_t_points_coordinates)), (h_t_mesh, .inr (5, [.ref h_t_mesh_corners, .ref h_t_mesh_normals, .ref h_t_mesh_tones, .ref h_t_mesh_trial, .ref h_t_mesh_trialNormal, .int v_t_mesh_many])), (h_t_mesh_corners, .inl (cI, 1152, .inl v_t_mesh_corners)), (h_t_mesh_normals, .inl (cI, 384, .inl v_t_mesh_normals)), (h_t_mesh_tones, .inl (cI, 128, .inl v_t_mesh_tones)), (h_t_mesh_trial, .inl (cI, 9, .inl v_t_mesh_trial)), (h_t_mesh_trialNormal, .inl (cI, 3, .inl v_t_mesh_trialNormal)), (h_t_points, .inr (6, [.ref h_t_points_coordinates, .int v4]))]) (va_runV (As := []) (rest := []) ⟨hx, hb, hml, hown, hts⟩ (c_X9_clear l G cI cL cZ h_t_tree h_t_tree_order h_t_tree_first h_t_tree_many h_t_tree_lower h_t_tree_upper h_t_tree_above h_t_tree_bounds h_t_tree_met v_t_tree_nodes v_t_tree_deepest _ _ hF) (cwV 0 hts (gV mw_2_133 mw_2_134 mw_2_135 mw_1_6 mw_2_136) rfl rfl rfl (by decide +kernel) ⟨Nat.le_of_ble_eq_true rfl, Nat.le_of_ble_eq_true rfl⟩) ⟨gP_blind, va_recv hK hP (ci := 9) (q0 := 8) rfl rfl, gP_of hK hnw hP hD [8] (by decide +kernel) rfl rfl⟩ rfl rfl hl.1 rfl (lv_room (Nat.le_of_ble_eq_true rfl)) dX11_triangle_52 ⟨Nat.le_of_ble_eq_true rfl, Nat.le_of_ble_eq_true rfl⟩) hP hD hS hA [8] [0, 1, 2, 3, 4, 5, 6, 7, 9] rfl rfl (by decide +kernel) (by decide +kernel) (fun u H locs hF hP hD hS => ?_)
        obtain ⟨v6, v7⟩ := u
        try dsimp only at hF
        have hP : va_P G vwCl [(h_t, .inr (11, [.ref h_t_points, .ref h_t_mesh, .ref h_t_camera, .ref h_t_lamps, .ref h_t_tree, .ref h_t_crossings, .ref h_t_atHand, .ref h_t_view, .ref h_t_sight, .ref h_t_shade, .ref h_t_slope, .ref h_t_box, .ref h_t_marked, .int v_t_back])), (h_t_points_coordinates, .inl (cI, 9, .inl v_t_points_coordinates)), (h_t_mesh, .inr (5, [.ref h_t_mesh_corners, .ref h_t_mesh_normals, .ref h_t_mesh_tones, .ref h_t_mesh_trial, .ref h_t_mesh_trialNormal, .int v_t_mesh_many])), (h_t_mesh_corners, .inl (cI, 1152, .inl v_t_mesh_corners)), (h_t_mesh_normals, .inl (cI, 384, .inl v_t_mesh_normals)), (h_t_mesh_tones, .inl (cI, 128, .inl v_t_mesh_tones)), (h_t_mesh_trial, .inl (cI, 9, .inl v_t_mesh_trial)), (h_t_mesh_trialNormal, .inl (cI, 3, .inl v_t_mesh_trialNormal)), (h_t_points, .inr (6, [.ref h_t_points_coordinates, .int v4])), (h_t_tree, .inr (9, [.ref h_t_tree_order, .ref h_t_tree_first, .ref h_t_tree_many, .ref h_t_tree_lower, .ref h_t_tree_upper, .ref h_t_tree_above, .ref h_t_tree_bounds, .ref h_t_tree_met, .int v6, .int v7]))] H := hP
        have hD : va_D A [(h_t, .inr (11, [.ref h_t_points, .ref h_t_mesh, .ref h_t_camera, .ref h_t_lamps, .ref h_t_tree, .ref h_t_crossings, .ref h_t_atHand, .ref h_t_view, .ref h_t_sight, .ref h_t_shade, .ref h_t_slope, .ref h_t_box, .ref h_t_marked, .int v_t_back])), (h_t_points_coordinates, .inl (cI, 9, .inl v_t_points_coordinates)), (h_t_mesh, .inr (5, [.ref h_t_mesh_corners, .ref h_t_mesh_normals, .ref h_t_mesh_tones, .ref h_t_mesh_trial, .ref h_t_mesh_trialNormal, .int v_t_mesh_many])), (h_t_mesh_corners, .inl (cI, 1152, .inl v_t_mesh_corners)), (h_t_mesh_normals, .inl (cI, 384, .inl v_t_mesh_normals)), (h_t_mesh_tones, .inl (cI, 128, .inl v_t_mesh_tones)), (h_t_mesh_trial, .inl (cI, 9, .inl v_t_mesh_trial)), (h_t_mesh_trialNormal, .inl (cI, 3, .inl v_t_mesh_trialNormal)), (h_t_points, .inr (6, [.ref h_t_points_coordinates, .int v4])), (h_t_tree, .inr (9, [.ref h_t_tree_order, .ref h_t_tree_first, .ref h_t_tree_many, .ref h_t_tree_lower, .ref h_t_tree_upper, .ref h_t_tree_above, .ref h_t_tree_bounds, .ref h_t_tree_met, .int v6, .int v7]))] := hD
        refine lv_iload_n hx hb dX11_triangle_55 rfl (lv_at hl 0 rfl) ?_
        exact hret 56 ls _ _ s0 (v4, v_t_mesh_many, v_t_mesh_corners, v_t_mesh_normals, v_t_mesh_tones, v_t_mesh_trial, v_t_mesh_trialNormal, v6, v7) dX11_triangle_56 rfl hF (hP.sub [0, 8, 1, 2, 3, 4, 5, 6, 7, 9] rfl) (hD.sub [0, 8, 1, 2, 3, 4, 5, 6, 7, 9] (by decide +kernel) rfl) hS
    refine lv_if_eq (tgt := 35) hx hb dX11_triangle_17 (by decide) (fun c8 => ?_) (fun c8 => ?_)
    · have hF := hF.1 c8
      refine lv_iconst (v := (-1)) hx hb dX11_triangle_35 (by decide) ?_
      exact k_36 (-1) v_t_points_many v_t_mesh_many v_t_mesh_corners v_t_mesh_normals v_t_mesh_tones v_t_mesh_trial v_t_mesh_trialNormal v_t_tree_nodes v_t_tree_deepest hF _ _ ls (hP.sub [0, 9, 1, 2, 3, 4, 5, 6, 7, 8] rfl) (hD.sub [0, 9, 1, 2, 3, 4, 5, 6, 7, 8] (by decide +kernel) rfl) hS (lv_sub hl [0] rfl)
    · have hF := hF.2 c8
      refine lv_aload_n hx hb dX11_triangle_20 rfl (lv_at hl 0 rfl) ?_
      refine va_get (D := G) (ci := 11) (v := .ref h_t_mesh) (C := RX11) (T := TX11) (N := 14) hx hb hts (fun w h => List.mem_cons_of_mem _ (inG_11 w h)) hown hK hP 0 rfl rfl 1 (by decide) (hts _ (List.mem_cons_of_mem _ mw_2_42)) (fun _ h9 => h9) rfl dX11_triangle_21 ?_
      refine lv_aload_n hx hb dX11_triangle_24 rfl (lv_at hl 0 rfl) ?_
      refine va_get (D := G) (ci := 11) (v := .ref h_t_points) (C := RX11) (T := TX11) (N := 14) hx hb hts (fun w h => List.mem_cons_of_mem _ (inG_11 w h)) hown hK hP 0 rfl rfl 0 (by decide) (hts _ (List.mem_cons_of_mem _ mw_2_41)) (fun _ h9 => h9) rfl dX11_triangle_25 ?_
      refine lv_iload_n hx hb dX11_triangle_28 rfl (lv_at hl 1 rfl) ?_
      refine afterI (wr := [(h_t, .inr (11, [.ref h_t_points, .ref h_t_mesh, .ref h_t_camera, .ref h_t_lamps, .ref h_t_tree, .ref h_t_crossings, .ref h_t_atHand, .ref h_t_view, .ref h_t_sight, .ref h_t_shade, .ref h_t_slope, .ref h_t_box, .ref h_t_marked, .int v_t_back])), (h_t_tree, .inr (9, [.ref h_t_tree_order, .ref h_t_tree_first, .ref h_t_tree_many, .ref h_t_tree_lower, .ref h_t_tree_upper, .ref h_t_tree_above, .ref h_t_tree_bounds, .ref h_t_tree_met, .int v_t_tree_nodes, .int v_t_tree_deepest]))]) (va_runV (As := [.ref h_t_points, .int p1]) (rest := []) ⟨hx, hb, hml, hown, hts⟩ (c_X5_append l G cI cL cZ h_t_mesh h_t_mesh_corners h_t_mesh_normals h_t_mesh_tones h_t_mesh_trial h_t_mesh_trialNormal h_t_points h_t_points_coordinates v_t_mesh_many v_t_mesh_corners v_t_mesh_normals v_t_mesh_tones v_t_mesh_trial v_t_mesh_trialNormal v_t_points_coordinates v_t_points_many p1 _ _ hF) (cwV 2 hts (gV mw_2_106 mw_2_107 mw_2_108 mw_1_3 mw_2_109) rfl rfl rfl (by decide +kernel) ⟨Nat.le_of_ble_eq_true rfl, Nat.le_of_ble_eq_true rfl⟩) ⟨gP_blind, va_recv hK hP (ci := 5) (q0 := 2) rfl rfl, gP_of hK hnw hP hD [2, 3, 4, 5, 6, 7, 9, 1] (by decide +kernel) rfl rfl⟩ rfl rfl hl.1 rfl (lv_room (Nat.le_of_ble_eq_true rfl)) dX11_triangle_29 ⟨Nat.le_of_ble_eq_true rfl, Nat.le_of_ble_eq_true rfl⟩) hP hD hS hA [2, 3, 4, 5, 6, 7, 9, 1] [0, 8] rfl rfl (by decide +kernel) (by decide +kernel) (fun r9 u H locs hF hP hD hS => ?_)
      obtain ⟨v10, v11, v12, v13, v14, v15⟩ := u
      try dsimp only at hF
      have hP : va_P G vwCl [(h_t, .inr (11, [.ref h_t_points, .ref h_t_mesh, .ref h_t_camera, .ref h_t_lamps, .ref h_t_tree, .ref h_t_crossings, .ref h_t_atHand, .ref h_t_view, .ref h_t_sight, .ref h_t_shade, .ref h_t_slope, .ref h_t_box, .ref h_t_marked, .int v_t_back])), (h_t_tree, .inr (9, [.ref h_t_tree_order, .ref h_t_tree_first, .ref h_t_tree_many, .ref h_t_tree_lower, .ref h_t_tree_upper, .ref h_t_tree_above, .ref h_t_tree_bounds, .ref h_t_tree_met, .int v_t_tree_nodes, .int v_t_tree_deepest])), (h_t_mesh, .inr (5, [.ref h_t_mesh_corners, .ref h_t_mesh_normals, .ref h_t_mesh_tones, .ref h_t_mesh_trial, .ref h_t_mesh_trialNormal, .int v10])), (h_t_mesh_corners, .inl (cI, 1152, .inl v11)), (h_t_mesh_normals, .inl (cI, 384, .inl v12)), (h_t_mesh_tones, .inl (cI, 128, .inl v13)), (h_t_mesh_trial, .inl (cI, 9, .inl v14)), (h_t_mesh_trialNormal, .inl (cI, 3, .inl v15)), (h_t_points, .inr (6, [.ref h_t_points_coordinates, .int v_t_points_many])), (h_t_points_coordinates, .inl (cI, 9, .inl v_t_points_coordinates))] H := hP
      have hD : va_D A [(h_t, .inr (11, [.ref h_t_points, .ref h_t_mesh, .ref h_t_camera, .ref h_t_lamps, .ref h_t_tree, .ref h_t_crossings, .ref h_t_atHand, .ref h_t_view, .ref h_t_sight, .ref h_t_shade, .ref h_t_slope, .ref h_t_box, .ref h_t_marked, .int v_t_back])), (h_t_tree, .inr (9, [.ref h_t_tree_order, .ref h_t_tree_first, .ref h_t_tree_many, .ref h_t_tree_lower, .ref h_t_tree_upper, .ref h_t_tree_above, .ref h_t_tree_bounds, .ref h_t_tree_met, .int v_t_tree_nodes, .int v_t_tree_deepest])), (h_t_mesh, .inr (5, [.ref h_t_mesh_corners, .ref h_t_mesh_normals, .ref h_t_mesh_tones, .ref h_t_mesh_trial, .ref h_t_mesh_trialNormal, .int v10])), (h_t_mesh_corners, .inl (cI, 1152, .inl v11)), (h_t_mesh_normals, .inl (cI, 384, .inl v12)), (h_t_mesh_tones, .inl (cI, 128, .inl v13)), (h_t_mesh_trial, .inl (cI, 9, .inl v14)), (h_t_mesh_trialNormal, .inl (cI, 3, .inl v15)), (h_t_points, .inr (6, [.ref h_t_points_coordinates, .int v_t_points_many])), (h_t_points_coordinates, .inl (cI, 9, .inl v_t_points_coordinates))] := hD
      refine lv_goto (tgt := 36) hx hb dX11_triangle_32 (by decide) ?_
      exact k_36 r9 v_t_points_many v10 v11 v12 v13 v14 v15 v_t_tree_nodes v_t_tree_deepest hF _ _ ls (hP.sub [0, 8, 9, 2, 3, 4, 5, 6, 7, 1] rfl) (hD.sub [0, 8, 9, 2, 3, 4, 5, 6, 7, 1] (by decide +kernel) rfl) hS (lv_sub hl [0] rfl)
  · have hF := hF.2 c2
    refine lv_iconst (v := (-1)) hx hb dX11_triangle_11 (by decide) ?_
    exact hret 12 ls _ _ (-1) (v_t_points_many, v_t_mesh_many, v_t_mesh_corners, v_t_mesh_normals, v_t_mesh_tones, v_t_mesh_trial, v_t_mesh_trialNormal, v_t_tree_nodes, v_t_tree_deepest) dX11_triangle_12 rfl hF (hP.sub [0, 9, 1, 2, 3, 4, 5, 6, 7, 8] rfl) (hD.sub [0, 9, 1, 2, 3, 4, 5, 6, 7, 8] (by decide +kernel) rfl) hS

def rm_X5_has : Room := { frames := 0, cells := 0, slots := 0, locals := 0 }
def F_X5_has (p1 : Int32) (v_t_many : Int32) (post : Int32 → Prop) : Prop := ((p1 < 0 → post 0) ∧ (¬ p1 < 0 → ((v_t_many ≤ p1 → post 0) ∧ (¬ v_t_many ≤ p1 → post 1))))
set_option maxHeartbeats 8000000 in
set_option maxRecDepth 100000 in
theorem c_X5_has (l : Launch) (G : va_G) (cI cL cZ : ClassId) (h_t : Nat) (h_t_corners : Nat) (h_t_normals : Nat) (h_t_tones : Nat) (h_t_trial : Nat) (h_t_trialNormal : Nat) (v_t_many : Int32) (p1 : Int32) (sz : Nat) (post : Int32 → Prop) (hF : F_X5_has p1 v_t_many post) : MetI l G (gT cI cL cZ) yX5_has (gW yX5_has cX5_has 2 (some .boolean)) rm_X5_has 0 0 [.ref h_t, .int p1] sz [(h_t, .inr (5, [.ref h_t_corners, .ref h_t_normals, .ref h_t_tones, .ref h_t_trial, .ref h_t_trialNormal, .int v_t_many]))] (fun (u : Unit) => [(h_t, .inr (5, [.ref h_t_corners, .ref h_t_normals, .ref h_t_tones, .ref h_t_trial, .ref h_t_trialNormal, .int v_t_many]))]) (fun (r : Int32) (u : Unit) => post r) := by
  refine startI (cc := cX5_has) (maxL := 2) (ty9 := .boolean) (by decide +kernel) rfl (Nat.le_of_ble_eq_true rfl) ?_
  intro p e s m args below meth c Q ls A C0 hP hD hS hl hret
  obtain ⟨hx, hb, hml, hown, hts, hnw, hK, hA, hin⟩ := C0
  have hown : s.vm.findClass RX5 = some m.cls := hown
  have hl : lv_has ls 2 [(0, .ref h_t), (1, .int p1)] := hl
  refine lv_iload_n hx hb dX5_has_0 rfl (lv_at hl 1 rfl) ?_
  refine lv_if_lt (tgt := 16) hx hb dX5_has_1 (by decide) (fun c1 => ?_) (fun c1 => ?_)
  · have hF := hF.1 c1
    refine lv_iconst (v := 0) hx hb dX5_has_16 (by decide) ?_
    exact hret 17 ls _ _ 0 () dX5_has_17 (by decide) hF hP hD hS
  · have hF := hF.2 c1
    refine lv_iload_n hx hb dX5_has_4 rfl (lv_at hl 1 rfl) ?_
    refine lv_aload_n hx hb dX5_has_5 rfl (lv_at hl 0 rfl) ?_
    refine va_get (D := G) (ci := 5) (v := .int v_t_many) (C := RX5) (T := TX5) (N := 6) hx hb hts (fun w h => List.mem_cons_of_mem _ (inG_5 w h)) hown hK hP 0 rfl rfl 5 (by decide) (hts _ (List.mem_cons_of_mem _ mw_1_49)) (fun _ h9 => h9) rfl dX5_has_6 ?_
    refine lv_icmp_ge (tgt := 16) hx hb dX5_has_9 (by decide) (fun c2 => ?_) (fun c2 => ?_)
    · have hF := hF.1 c2
      refine lv_iconst (v := 0) hx hb dX5_has_16 (by decide) ?_
      exact hret 17 ls _ _ 0 () dX5_has_17 (by decide) hF hP hD hS
    · have hF := hF.2 c2
      refine lv_iconst (v := 1) hx hb dX5_has_12 (by decide) ?_
      refine lv_goto (tgt := 17) hx hb dX5_has_13 (by decide) ?_
      exact hret 17 ls _ _ 1 () dX5_has_17 (by decide) hF hP hD hS

def rm_X5_bend : Room := { frames := 2, cells := 0, slots := 0, locals := 85 }
def F_X5_bend (p1 : Int32) (p2 : Int32) (v_t_corners : Nat → Int32) (v_t_normals : Nat → Int32) (v_t_trial : Nat → Int32) (v_t_trialNormal : Nat → Int32) (v_p3_coordinates : Nat → Int32) (post : Int32 → (Nat → Int32) → (Nat → Int32) → (Nat → Int32) → (Nat → Int32) → Prop) : Prop := (cpok (9 * p1) 0 9 1152 9 ∧ (∀ g2 : Nat → Int32, g2 = va_cpy v_t_corners v_t_trial ((9 * p1) : Int32).toNatClampNeg (0 : Int32).toNatClampNeg (9 : Int32).toNatClampNeg → (F_X5_tryCorner p2 0 g2 v_p3_coordinates (fun v3 => (F_X5_trialIsFlat v3 v_t_trialNormal (fun r4 v5 => ((r4 = 0 → (F_X5_storeTrial p1 v_t_corners v_t_normals v3 v5 (fun v7 v8 => post 1 v7 v8 v3 v5))) ∧ (¬ r4 = 0 → post 0 v_t_corners v_t_normals v3 v5))))))))
set_option maxHeartbeats 8000000 in
set_option maxRecDepth 100000 in
theorem c_X5_bend (l : Launch) (G : va_G) (cI cL cZ : ClassId) (h_t : Nat) (h_t_corners : Nat) (h_t_normals : Nat) (h_t_tones : Nat) (h_t_trial : Nat) (h_t_trialNormal : Nat) (h_p3 : Nat) (h_p3_coordinates : Nat) (v_t_corners : Nat → Int32) (v_t_normals : Nat → Int32) (v_t_trial : Nat → Int32) (v_t_trialNormal : Nat → Int32) (v_p3_coordinates : Nat → Int32) (v_t_many : Int32) (v_p3_many : Int32) (p1 : Int32) (p2 : Int32) (sz : Nat) (post : Int32 → (Nat → Int32) → (Nat → Int32) → (Nat → Int32) → (Nat → Int32) → Prop) (hF : F_X5_bend p1 p2 v_t_corners v_t_normals v_t_trial v_t_trialNormal v_p3_coordinates post) : MetI l G (gT cI cL cZ) yX5_bend (gW yX5_bend cX5_bend 4 (some .boolean)) rm_X5_bend 0 0 [.ref h_t, .int p1, .int p2, .ref h_p3] sz [(h_t, .inr (5, [.ref h_t_corners, .ref h_t_normals, .ref h_t_tones, .ref h_t_trial, .ref h_t_trialNormal, .int v_t_many])), (h_t_corners, .inl (cI, 1152, .inl v_t_corners)), (h_t_normals, .inl (cI, 384, .inl v_t_normals)), (h_t_trial, .inl (cI, 9, .inl v_t_trial)), (h_t_trialNormal, .inl (cI, 3, .inl v_t_trialNormal)), (h_p3, .inr (6, [.ref h_p3_coordinates, .int v_p3_many])), (h_p3_coordinates, .inl (cI, 9, .inl v_p3_coordinates))] (fun (u : (Nat → Int32) × (Nat → Int32) × (Nat → Int32) × (Nat → Int32)) => [(h_t, .inr (5, [.ref h_t_corners, .ref h_t_normals, .ref h_t_tones, .ref h_t_trial, .ref h_t_trialNormal, .int v_t_many])), (h_t_corners, .inl (cI, 1152, .inl u.1)), (h_t_normals, .inl (cI, 384, .inl u.2.1)), (h_t_trial, .inl (cI, 9, .inl u.2.2.1)), (h_t_trialNormal, .inl (cI, 3, .inl u.2.2.2)), (h_p3, .inr (6, [.ref h_p3_coordinates, .int v_p3_many])), (h_p3_coordinates, .inl (cI, 9, .inl v_p3_coordinates))]) (fun (r : Int32) (u : (Nat → Int32) × (Nat → Int32) × (Nat → Int32) × (Nat → Int32)) => post r u.1 u.2.1 u.2.2.1 u.2.2.2) := by
  refine startI (cc := cX5_bend) (maxL := 4) (ty9 := .boolean) (by decide +kernel) rfl (Nat.le_of_ble_eq_true rfl) ?_
  intro p e s m args below meth c Q ls A C0 hP hD hS hl hret
  obtain ⟨hx, hb, hml, hown, hts, hnw, hK, hA, hin⟩ := C0
  have hown : s.vm.findClass RX5 = some m.cls := hown
  have hl : lv_has ls 4 [(0, .ref h_t), (1, .int p1), (2, .int p2), (3, .ref h_p3)] := hl
  refine lv_aload_n hx hb dX5_bend_0 rfl (lv_at hl 0 rfl) ?_
  refine va_get (D := G) (ci := 5) (v := .ref h_t_corners) (C := RX5) (T := TX5) (N := 6) hx hb hts (fun w h => List.mem_cons_of_mem _ (inG_5 w h)) hown hK hP 0 rfl rfl 0 (by decide) (hts _ (List.mem_cons_of_mem _ mw_1_44)) (fun _ h9 => h9) rfl dX5_bend_1 ?_
  refine lv_bipush (v := 9) hx hb dX5_bend_4 (by decide) ?_
  refine lv_iload_n hx hb dX5_bend_6 rfl (lv_at hl 1 rfl) ?_
  refine lv_imul hx hb dX5_bend_7 ?_
  refine lv_aload_n hx hb dX5_bend_8 rfl (lv_at hl 0 rfl) ?_
  refine va_get (D := G) (ci := 5) (v := .ref h_t_trial) (C := RX5) (T := TX5) (N := 6) hx hb hts (fun w h => List.mem_cons_of_mem _ (inG_5 w h)) hown hK hP 0 rfl rfl 3 (by decide) (hts _ (List.mem_cons_of_mem _ mw_1_47)) (fun _ h9 => h9) rfl dX5_bend_9 ?_
  refine lv_iconst (v := 0) hx hb dX5_bend_12 (by decide) ?_
  refine lv_bipush (v := 9) hx hb dX5_bend_13 (by decide) ?_
  obtain ⟨b1, hF⟩ := hF
  refine g_copyi hx hb (by rw [hml]; exact hl.1.symm) hown (hts _ (List.mem_cons_of_mem _ mw_2_126)) (hts _ (List.mem_cons_of_mem _ mw_2_128)) (hts _ (List.mem_cons_of_mem _ mw_2_127)) (hts _ (List.mem_cons_of_mem _ mw_1_14)) hK hP hD hS 1 3 rfl rfl rfl rfl b1 (Nat.le_of_ble_eq_true rfl) (by decide) dX5_bend_15 (fun g2 H locs eg2 hP hD hS => ?_)
  have hF := hF g2 eg2
  have hP : va_P G vwCl [(h_t, .inr (5, [.ref h_t_corners, .ref h_t_normals, .ref h_t_tones, .ref h_t_trial, .ref h_t_trialNormal, .int v_t_many])), (h_t_corners, .inl (cI, 1152, .inl v_t_corners)), (h_t_normals, .inl (cI, 384, .inl v_t_normals)), (h_t_trial, .inl (cI, 9, .inl g2)), (h_t_trialNormal, .inl (cI, 3, .inl v_t_trialNormal)), (h_p3, .inr (6, [.ref h_p3_coordinates, .int v_p3_many])), (h_p3_coordinates, .inl (cI, 9, .inl v_p3_coordinates))] H := hP
  have hD : va_D A [(h_t, .inr (5, [.ref h_t_corners, .ref h_t_normals, .ref h_t_tones, .ref h_t_trial, .ref h_t_trialNormal, .int v_t_many])), (h_t_corners, .inl (cI, 1152, .inl v_t_corners)), (h_t_normals, .inl (cI, 384, .inl v_t_normals)), (h_t_trial, .inl (cI, 9, .inl g2)), (h_t_trialNormal, .inl (cI, 3, .inl v_t_trialNormal)), (h_p3, .inr (6, [.ref h_p3_coordinates, .int v_p3_many])), (h_p3_coordinates, .inl (cI, 9, .inl v_p3_coordinates))] := hD
  refine lv_aload_n hx hb dX5_bend_18 rfl (lv_at hl 0 rfl) ?_
  refine lv_iload_n hx hb dX5_bend_19 rfl (lv_at hl 2 rfl) ?_
  refine lv_aload_n hx hb dX5_bend_20 rfl (lv_at hl 3 rfl) ?_
  refine lv_iconst (v := 0) hx hb dX5_bend_21 (by decide) ?_
  refine afterV (wr := [(h_t_corners, .inl (cI, 1152, .inl v_t_corners)), (h_t_normals, .inl (cI, 384, .inl v_t_normals)), (h_t_trialNormal, .inl (cI, 3, .inl v_t_trialNormal))]) (va_runV (As := [.int p2, .ref h_p3, .int 0]) (rest := []) ⟨hx, hb, hml, hown, hts⟩ (c_X5_tryCorner l G cI cL cZ h_t h_t_corners h_t_normals h_t_tones h_t_trial h_t_trialNormal h_p3 h_p3_coordinates g2 v_p3_coordinates v_t_many v_p3_many p2 0 _ _ hF) (cwV 3 hts (gV mw_2_110 mw_2_112 mws_0 mw_1_3 mw_2_113) rfl rfl rfl (by decide +kernel) ⟨Nat.le_of_ble_eq_true rfl, Nat.le_of_ble_eq_true rfl⟩) ⟨gP_blind, va_recv hK hP (ci := 5) (q0 := 0) rfl rfl, gP_of hK hnw hP hD [0, 3, 5, 6] (by decide +kernel) rfl rfl⟩ rfl rfl hl.1 rfl (lv_room (Nat.le_of_ble_eq_true rfl)) dX5_bend_22 ⟨Nat.le_of_ble_eq_true rfl, Nat.le_of_ble_eq_true rfl⟩) hP hD hS hA [0, 3, 5, 6] [1, 2, 4] rfl rfl (by decide +kernel) (by decide +kernel) (fun u H locs hF hP hD hS => ?_)
  obtain ⟨v3, rfl⟩ : ∃ z, z = u := ⟨_, rfl⟩
  try dsimp only at hF
  have hP : va_P G vwCl [(h_t_corners, .inl (cI, 1152, .inl v_t_corners)), (h_t_normals, .inl (cI, 384, .inl v_t_normals)), (h_t_trialNormal, .inl (cI, 3, .inl v_t_trialNormal)), (h_t, .inr (5, [.ref h_t_corners, .ref h_t_normals, .ref h_t_tones, .ref h_t_trial, .ref h_t_trialNormal, .int v_t_many])), (h_t_trial, .inl (cI, 9, .inl v3)), (h_p3, .inr (6, [.ref h_p3_coordinates, .int v_p3_many])), (h_p3_coordinates, .inl (cI, 9, .inl v_p3_coordinates))] H := hP
  have hD : va_D A [(h_t_corners, .inl (cI, 1152, .inl v_t_corners)), (h_t_normals, .inl (cI, 384, .inl v_t_normals)), (h_t_trialNormal, .inl (cI, 3, .inl v_t_trialNormal)), (h_t, .inr (5, [.ref h_t_corners, .ref h_t_normals, .ref h_t_tones, .ref h_t_trial, .ref h_t_trialNormal, .int v_t_many])), (h_t_trial, .inl (cI, 9, .inl v3)), (h_p3, .inr (6, [.ref h_p3_coordinates, .int v_p3_many])), (h_p3_coordinates, .inl (cI, 9, .inl v_p3_coordinates))] := hD
  refine lv_aload_n hx hb dX5_bend_25 rfl (lv_at hl 0 rfl) ?_
  refine afterI (wr := [(h_t_corners, .inl (cI, 1152, .inl v_t_corners)), (h_t_normals, .inl (cI, 384, .inl v_t_normals)), (h_p3, .inr (6, [.ref h_p3_coordinates, .int v_p3_many])), (h_p3_coordinates, .inl (cI, 9, .inl v_p3_coordinates))]) (va_runV (As := []) (rest := []) ⟨hx, hb, hml, hown, hts⟩ (c_X5_trialIsFlat l G cI cL cZ h_t h_t_corners h_t_normals h_t_tones h_t_trial h_t_trialNormal v3 v_t_trialNormal v_t_many _ _ hF) (cwV 0 hts (gV mw_2_118 mw_2_120 mws_1 mw_1_3 mw_2_121) rfl rfl rfl (by decide +kernel) ⟨Nat.le_of_ble_eq_true rfl, Nat.le_of_ble_eq_true rfl⟩) ⟨gP_blind, va_recv hK hP (ci := 5) (q0 := 3) rfl rfl, gP_of hK hnw hP hD [3, 4, 2] (by decide +kernel) rfl rfl⟩ rfl rfl hl.1 rfl (lv_room (Nat.le_of_ble_eq_true rfl)) dX5_bend_26 ⟨Nat.le_of_ble_eq_true rfl, Nat.le_of_ble_eq_true rfl⟩) hP hD hS hA [3, 4, 2] [0, 1, 5, 6] rfl rfl (by decide +kernel) (by decide +kernel) (fun r4 u H locs hF hP hD hS => ?_)
  obtain ⟨v5, rfl⟩ : ∃ z, z = u := ⟨_, rfl⟩
  try dsimp only at hF
  have hP : va_P G vwCl [(h_t_corners, .inl (cI, 1152, .inl v_t_corners)), (h_t_normals, .inl (cI, 384, .inl v_t_normals)), (h_p3, .inr (6, [.ref h_p3_coordinates, .int v_p3_many])), (h_p3_coordinates, .inl (cI, 9, .inl v_p3_coordinates)), (h_t, .inr (5, [.ref h_t_corners, .ref h_t_normals, .ref h_t_tones, .ref h_t_trial, .ref h_t_trialNormal, .int v_t_many])), (h_t_trial, .inl (cI, 9, .inl v3)), (h_t_trialNormal, .inl (cI, 3, .inl v5))] H := hP
  have hD : va_D A [(h_t_corners, .inl (cI, 1152, .inl v_t_corners)), (h_t_normals, .inl (cI, 384, .inl v_t_normals)), (h_p3, .inr (6, [.ref h_p3_coordinates, .int v_p3_many])), (h_p3_coordinates, .inl (cI, 9, .inl v_p3_coordinates)), (h_t, .inr (5, [.ref h_t_corners, .ref h_t_normals, .ref h_t_tones, .ref h_t_trial, .ref h_t_trialNormal, .int v_t_many])), (h_t_trial, .inl (cI, 9, .inl v3)), (h_t_trialNormal, .inl (cI, 3, .inl v5))] := hD
  refine lv_if_eq (tgt := 34) hx hb dX5_bend_29 (by decide) (fun c6 => ?_) (fun c6 => ?_)
  · have hF := hF.1 c6
    refine lv_aload_n hx hb dX5_bend_34 rfl (lv_at hl 0 rfl) ?_
    refine lv_iload_n hx hb dX5_bend_35 rfl (lv_at hl 1 rfl) ?_
    refine afterV (wr := [(h_p3, .inr (6, [.ref h_p3_coordinates, .int v_p3_many])), (h_p3_coordinates, .inl (cI, 9, .inl v_p3_coordinates))]) (va_runV (As := [.int p1]) (rest := []) ⟨hx, hb, hml, hown, hts⟩ (c_X5_storeTrial l G cI cL cZ h_t h_t_corners h_t_normals h_t_tones h_t_trial h_t_trialNormal v_t_corners v_t_normals v3 v5 v_t_many p1 _ _ hF) (cwV 1 hts (gV mw_2_122 mw_2_124 mws_2 mw_1_3 mw_2_125) rfl rfl rfl (by decide +kernel) ⟨Nat.le_of_ble_eq_true rfl, Nat.le_of_ble_eq_true rfl⟩) ⟨gP_blind, va_recv hK hP (ci := 5) (q0 := 4) rfl rfl, gP_of hK hnw hP hD [4, 0, 1, 5, 6] (by decide +kernel) rfl rfl⟩ rfl rfl hl.1 rfl (lv_room (Nat.le_of_ble_eq_true rfl)) dX5_bend_36 ⟨Nat.le_of_ble_eq_true rfl, Nat.le_of_ble_eq_true rfl⟩) hP hD hS hA [4, 0, 1, 5, 6] [2, 3] rfl rfl (by decide +kernel) (by decide +kernel) (fun u H locs hF hP hD hS => ?_)
    obtain ⟨v7, v8⟩ := u
    try dsimp only at hF
    have hP : va_P G vwCl [(h_p3, .inr (6, [.ref h_p3_coordinates, .int v_p3_many])), (h_p3_coordinates, .inl (cI, 9, .inl v_p3_coordinates)), (h_t, .inr (5, [.ref h_t_corners, .ref h_t_normals, .ref h_t_tones, .ref h_t_trial, .ref h_t_trialNormal, .int v_t_many])), (h_t_corners, .inl (cI, 1152, .inl v7)), (h_t_normals, .inl (cI, 384, .inl v8)), (h_t_trial, .inl (cI, 9, .inl v3)), (h_t_trialNormal, .inl (cI, 3, .inl v5))] H := hP
    have hD : va_D A [(h_p3, .inr (6, [.ref h_p3_coordinates, .int v_p3_many])), (h_p3_coordinates, .inl (cI, 9, .inl v_p3_coordinates)), (h_t, .inr (5, [.ref h_t_corners, .ref h_t_normals, .ref h_t_tones, .ref h_t_trial, .ref h_t_trialNormal, .int v_t_many])), (h_t_corners, .inl (cI, 1152, .inl v7)), (h_t_normals, .inl (cI, 384, .inl v8)), (h_t_trial, .inl (cI, 9, .inl v3)), (h_t_trialNormal, .inl (cI, 3, .inl v5))] := hD
    refine lv_iconst (v := 1) hx hb dX5_bend_39 (by decide) ?_
    exact hret 40 ls _ _ 1 (v7, v8, v3, v5) dX5_bend_40 (by decide) hF (hP.sub [2, 3, 4, 5, 6, 0, 1] rfl) (hD.sub [2, 3, 4, 5, 6, 0, 1] (by decide +kernel) rfl) hS
  · have hF := hF.2 c6
    refine lv_iconst (v := 0) hx hb dX5_bend_32 (by decide) ?_
    exact hret 33 ls _ _ 0 (v_t_corners, v_t_normals, v3, v5) dX5_bend_33 (by decide) hF (hP.sub [4, 0, 1, 5, 6, 2, 3] rfl) (hD.sub [4, 0, 1, 5, 6, 2, 3] (by decide +kernel) rfl) hS

def rm_X11_move : Room := { frames := 3, cells := 0, slots := 0, locals := 108 }
def F_X11_move (p1 : Int32) (p2 : Int32) (v_t_points_many : Int32) (v_t_points_coordinates : Nat → Int32) (v_t_mesh_many : Int32) (v_t_mesh_corners : Nat → Int32) (v_t_mesh_normals : Nat → Int32) (v_t_mesh_trial : Nat → Int32) (v_t_mesh_trialNormal : Nat → Int32) (post : Int32 → Int32 → (Nat → Int32) → (Nat → Int32) → (Nat → Int32) → (Nat → Int32) → Prop) : Prop := (F_X5_has p1 v_t_mesh_many (fun r1 => ((r1 = 0 → post (-1) v_t_points_many v_t_mesh_corners v_t_mesh_normals v_t_mesh_trial v_t_mesh_trialNormal) ∧ (¬ r1 = 0 → ((p2 < 0 → post (-1) v_t_points_many v_t_mesh_corners v_t_mesh_normals v_t_mesh_trial v_t_mesh_trialNormal) ∧ (¬ p2 < 0 → ((2 < p2 → post (-1) v_t_points_many v_t_mesh_corners v_t_mesh_normals v_t_mesh_trial v_t_mesh_trialNormal) ∧ (¬ 2 < p2 → (F_X6_many v_t_points_many (fun r5 => ((r5 = 1 → (F_X5_bend p1 p2 v_t_mesh_corners v_t_mesh_normals v_t_mesh_trial v_t_mesh_trialNormal v_t_points_coordinates (fun r7 v8 v9 v10 v11 => (F_X6_clear v_t_points_many (fun v12 => ((r7 = 0 → post (-2) v12 v8 v9 v10 v11) ∧ (¬ r7 = 0 → post 0 v12 v8 v9 v10 v11))))))) ∧ (¬ r5 = 1 → post (-1) v_t_points_many v_t_mesh_corners v_t_mesh_normals v_t_mesh_trial v_t_mesh_trialNormal))))))))))))
set_option maxHeartbeats 8000000 in
set_option maxRecDepth 100000 in
theorem c_X11_move (l : Launch) (G : va_G) (cI cL cZ : ClassId) (h_t : Nat) (h_t_points : Nat) (h_t_mesh : Nat) (h_t_camera : Nat) (h_t_lamps : Nat) (h_t_tree : Nat) (h_t_crossings : Nat) (h_t_atHand : Nat) (h_t_view : Nat) (h_t_sight : Nat) (h_t_shade : Nat) (h_t_slope : Nat) (h_t_box : Nat) (h_t_marked : Nat) (h_t_points_coordinates : Nat) (h_t_mesh_corners : Nat) (h_t_mesh_normals : Nat) (h_t_mesh_tones : Nat) (h_t_mesh_trial : Nat) (h_t_mesh_trialNormal : Nat) (v_t_points_many : Int32) (v_t_points_coordinates : Nat → Int32) (v_t_mesh_many : Int32) (v_t_mesh_corners : Nat → Int32) (v_t_mesh_normals : Nat → Int32) (v_t_mesh_trial : Nat → Int32) (v_t_mesh_trialNormal : Nat → Int32) (v_t_back : Int32) (p1 : Int32) (p2 : Int32) (sz : Nat) (post : Int32 → Int32 → (Nat → Int32) → (Nat → Int32) → (Nat → Int32) → (Nat → Int32) → Prop) (hF : F_X11_move p1 p2 v_t_points_many v_t_points_coordinates v_t_mesh_many v_t_mesh_corners v_t_mesh_normals v_t_mesh_trial v_t_mesh_trialNormal post) : MetI l G (gT cI cL cZ) yX11_move (gW yX11_move cX11_move 4 (some .int)) rm_X11_move 0 0 [.ref h_t, .int p1, .int p2] sz [(h_t, .inr (11, [.ref h_t_points, .ref h_t_mesh, .ref h_t_camera, .ref h_t_lamps, .ref h_t_tree, .ref h_t_crossings, .ref h_t_atHand, .ref h_t_view, .ref h_t_sight, .ref h_t_shade, .ref h_t_slope, .ref h_t_box, .ref h_t_marked, .int v_t_back])), (h_t_points, .inr (6, [.ref h_t_points_coordinates, .int v_t_points_many])), (h_t_points_coordinates, .inl (cI, 9, .inl v_t_points_coordinates)), (h_t_mesh, .inr (5, [.ref h_t_mesh_corners, .ref h_t_mesh_normals, .ref h_t_mesh_tones, .ref h_t_mesh_trial, .ref h_t_mesh_trialNormal, .int v_t_mesh_many])), (h_t_mesh_corners, .inl (cI, 1152, .inl v_t_mesh_corners)), (h_t_mesh_normals, .inl (cI, 384, .inl v_t_mesh_normals)), (h_t_mesh_trial, .inl (cI, 9, .inl v_t_mesh_trial)), (h_t_mesh_trialNormal, .inl (cI, 3, .inl v_t_mesh_trialNormal))] (fun (u : Int32 × (Nat → Int32) × (Nat → Int32) × (Nat → Int32) × (Nat → Int32)) => [(h_t, .inr (11, [.ref h_t_points, .ref h_t_mesh, .ref h_t_camera, .ref h_t_lamps, .ref h_t_tree, .ref h_t_crossings, .ref h_t_atHand, .ref h_t_view, .ref h_t_sight, .ref h_t_shade, .ref h_t_slope, .ref h_t_box, .ref h_t_marked, .int v_t_back])), (h_t_points, .inr (6, [.ref h_t_points_coordinates, .int u.1])), (h_t_points_coordinates, .inl (cI, 9, .inl v_t_points_coordinates)), (h_t_mesh, .inr (5, [.ref h_t_mesh_corners, .ref h_t_mesh_normals, .ref h_t_mesh_tones, .ref h_t_mesh_trial, .ref h_t_mesh_trialNormal, .int v_t_mesh_many])), (h_t_mesh_corners, .inl (cI, 1152, .inl u.2.1)), (h_t_mesh_normals, .inl (cI, 384, .inl u.2.2.1)), (h_t_mesh_trial, .inl (cI, 9, .inl u.2.2.2.1)), (h_t_mesh_trialNormal, .inl (cI, 3, .inl u.2.2.2.2))]) (fun (r : Int32) (u : Int32 × (Nat → Int32) × (Nat → Int32) × (Nat → Int32) × (Nat → Int32)) => post r u.1 u.2.1 u.2.2.1 u.2.2.2.1 u.2.2.2.2) := by
  refine startI (cc := cX11_move) (maxL := 4) (ty9 := .int) (by decide +kernel) rfl (Nat.le_of_ble_eq_true rfl) ?_
  intro p e s m args below meth c Q ls A C0 hP hD hS hl hret
  obtain ⟨hx, hb, hml, hown, hts, hnw, hK, hA, hin⟩ := C0
  have hown : s.vm.findClass RX11 = some m.cls := hown
  have hl : lv_has ls 4 [(0, .ref h_t), (1, .int p1), (2, .int p2)] := hl
  refine lv_aload_n hx hb dX11_move_0 rfl (lv_at hl 0 rfl) ?_
  refine va_get (D := G) (ci := 11) (v := .ref h_t_mesh) (C := RX11) (T := TX11) (N := 14) hx hb hts (fun w h => List.mem_cons_of_mem _ (inG_11 w h)) hown hK hP 0 rfl rfl 1 (by decide) (hts _ (List.mem_cons_of_mem _ mw_2_42)) (fun _ h9 => h9) rfl dX11_move_1 ?_
  refine lv_iload_n hx hb dX11_move_4 rfl (lv_at hl 1 rfl) ?_
  refine afterI (wr := [(h_t, .inr (11, [.ref h_t_points, .ref h_t_mesh, .ref h_t_camera, .ref h_t_lamps, .ref h_t_tree, .ref h_t_crossings, .ref h_t_atHand, .ref h_t_view, .ref h_t_sight, .ref h_t_shade, .ref h_t_slope, .ref h_t_box, .ref h_t_marked, .int v_t_back])), (h_t_points, .inr (6, [.ref h_t_points_coordinates, .int v_t_points_many])), (h_t_points_coordinates, .inl (cI, 9, .inl v_t_points_coordinates)), (h_t_mesh_corners, .inl (cI, 1152, .inl v_t_mesh_corners)), (h_t_mesh_normals, .inl (cI, 384, .inl v_t_mesh_normals)), (h_t_mesh_trial, .inl (cI, 9, .inl v_t_mesh_trial)), (h_t_mesh_trialNormal, .inl (cI, 3, .inl v_t_mesh_trialNormal))]) (va_runV (As := [.int p1]) (rest := []) ⟨hx, hb, hml, hown, hts⟩ (c_X5_has l G cI cL cZ h_t_mesh h_t_mesh_corners h_t_mesh_normals h_t_mesh_tones h_t_mesh_trial h_t_mesh_trialNormal v_t_mesh_many p1 _ _ hF) (cwV 1 hts (gV mw_2_141 mw_2_142 mw_2_143 mw_1_3 mw_2_144) rfl rfl rfl (by decide +kernel) ⟨Nat.le_of_ble_eq_true rfl, Nat.le_of_ble_eq_true rfl⟩) ⟨gP_blind, va_recv hK hP (ci := 5) (q0 := 3) rfl rfl, gP_of hK hnw hP hD [3] (by decide +kernel) rfl rfl⟩ rfl rfl hl.1 rfl (lv_room (Nat.le_of_ble_eq_true rfl)) dX11_move_5 ⟨Nat.le_of_ble_eq_true rfl, Nat.le_of_ble_eq_true rfl⟩) hP hD hS hA [3] [0, 1, 2, 4, 5, 6, 7] rfl rfl (by decide +kernel) (by decide +kernel) (fun r1 u H locs hF hP hD hS => ?_)
  try dsimp only at hF
  have hP : va_P G vwCl [(h_t, .inr (11, [.ref h_t_points, .ref h_t_mesh, .ref h_t_camera, .ref h_t_lamps, .ref h_t_tree, .ref h_t_crossings, .ref h_t_atHand, .ref h_t_view, .ref h_t_sight, .ref h_t_shade, .ref h_t_slope, .ref h_t_box, .ref h_t_marked, .int v_t_back])), (h_t_points, .inr (6, [.ref h_t_points_coordinates, .int v_t_points_many])), (h_t_points_coordinates, .inl (cI, 9, .inl v_t_points_coordinates)), (h_t_mesh_corners, .inl (cI, 1152, .inl v_t_mesh_corners)), (h_t_mesh_normals, .inl (cI, 384, .inl v_t_mesh_normals)), (h_t_mesh_trial, .inl (cI, 9, .inl v_t_mesh_trial)), (h_t_mesh_trialNormal, .inl (cI, 3, .inl v_t_mesh_trialNormal)), (h_t_mesh, .inr (5, [.ref h_t_mesh_corners, .ref h_t_mesh_normals, .ref h_t_mesh_tones, .ref h_t_mesh_trial, .ref h_t_mesh_trialNormal, .int v_t_mesh_many]))] H := hP
  have hD : va_D A [(h_t, .inr (11, [.ref h_t_points, .ref h_t_mesh, .ref h_t_camera, .ref h_t_lamps, .ref h_t_tree, .ref h_t_crossings, .ref h_t_atHand, .ref h_t_view, .ref h_t_sight, .ref h_t_shade, .ref h_t_slope, .ref h_t_box, .ref h_t_marked, .int v_t_back])), (h_t_points, .inr (6, [.ref h_t_points_coordinates, .int v_t_points_many])), (h_t_points_coordinates, .inl (cI, 9, .inl v_t_points_coordinates)), (h_t_mesh_corners, .inl (cI, 1152, .inl v_t_mesh_corners)), (h_t_mesh_normals, .inl (cI, 384, .inl v_t_mesh_normals)), (h_t_mesh_trial, .inl (cI, 9, .inl v_t_mesh_trial)), (h_t_mesh_trialNormal, .inl (cI, 3, .inl v_t_mesh_trialNormal)), (h_t_mesh, .inr (5, [.ref h_t_mesh_corners, .ref h_t_mesh_normals, .ref h_t_mesh_tones, .ref h_t_mesh_trial, .ref h_t_mesh_trialNormal, .int v_t_mesh_many]))] := hD
  refine lv_if_eq (tgt := 31) hx hb dX11_move_8 (by decide) (fun c2 => ?_) (fun c2 => ?_)
  · have hF := hF.1 c2
    refine lv_iconst (v := (-1)) hx hb dX11_move_31 (by decide) ?_
    exact hret 32 ls _ _ (-1) (v_t_points_many, v_t_mesh_corners, v_t_mesh_normals, v_t_mesh_trial, v_t_mesh_trialNormal) dX11_move_32 rfl hF (hP.sub [0, 1, 2, 7, 3, 4, 5, 6] rfl) (hD.sub [0, 1, 2, 7, 3, 4, 5, 6] (by decide +kernel) rfl) hS
  · have hF := hF.2 c2
    refine lv_iload_n hx hb dX11_move_11 rfl (lv_at hl 2 rfl) ?_
    refine lv_if_lt (tgt := 31) hx hb dX11_move_12 (by decide) (fun c3 => ?_) (fun c3 => ?_)
    · have hF := hF.1 c3
      refine lv_iconst (v := (-1)) hx hb dX11_move_31 (by decide) ?_
      exact hret 32 ls _ _ (-1) (v_t_points_many, v_t_mesh_corners, v_t_mesh_normals, v_t_mesh_trial, v_t_mesh_trialNormal) dX11_move_32 rfl hF (hP.sub [0, 1, 2, 7, 3, 4, 5, 6] rfl) (hD.sub [0, 1, 2, 7, 3, 4, 5, 6] (by decide +kernel) rfl) hS
    · have hF := hF.2 c3
      refine lv_iload_n hx hb dX11_move_15 rfl (lv_at hl 2 rfl) ?_
      refine lv_iconst (v := 2) hx hb dX11_move_16 (by decide) ?_
      refine lv_icmp_gt (tgt := 31) hx hb dX11_move_17 (by decide) (fun c4 => ?_) (fun c4 => ?_)
      · have hF := hF.1 c4
        refine lv_iconst (v := (-1)) hx hb dX11_move_31 (by decide) ?_
        exact hret 32 ls _ _ (-1) (v_t_points_many, v_t_mesh_corners, v_t_mesh_normals, v_t_mesh_trial, v_t_mesh_trialNormal) dX11_move_32 rfl hF (hP.sub [0, 1, 2, 7, 3, 4, 5, 6] rfl) (hD.sub [0, 1, 2, 7, 3, 4, 5, 6] (by decide +kernel) rfl) hS
      · have hF := hF.2 c4
        refine lv_aload_n hx hb dX11_move_20 rfl (lv_at hl 0 rfl) ?_
        refine va_get (D := G) (ci := 11) (v := .ref h_t_points) (C := RX11) (T := TX11) (N := 14) hx hb hts (fun w h => List.mem_cons_of_mem _ (inG_11 w h)) hown hK hP 0 rfl rfl 0 (by decide) (hts _ (List.mem_cons_of_mem _ mw_2_41)) (fun _ h9 => h9) rfl dX11_move_21 ?_
        refine afterI (wr := [(h_t, .inr (11, [.ref h_t_points, .ref h_t_mesh, .ref h_t_camera, .ref h_t_lamps, .ref h_t_tree, .ref h_t_crossings, .ref h_t_atHand, .ref h_t_view, .ref h_t_sight, .ref h_t_shade, .ref h_t_slope, .ref h_t_box, .ref h_t_marked, .int v_t_back])), (h_t_points_coordinates, .inl (cI, 9, .inl v_t_points_coordinates)), (h_t_mesh_corners, .inl (cI, 1152, .inl v_t_mesh_corners)), (h_t_mesh_normals, .inl (cI, 384, .inl v_t_mesh_normals)), (h_t_mesh_trial, .inl (cI, 9, .inl v_t_mesh_trial)), (h_t_mesh_trialNormal, .inl (cI, 3, .inl v_t_mesh_trialNormal)), (h_t_mesh, .inr (5, [.ref h_t_mesh_corners, .ref h_t_mesh_normals, .ref h_t_mesh_tones, .ref h_t_mesh_trial, .ref h_t_mesh_trialNormal, .int v_t_mesh_many]))]) (va_runV (As := []) (rest := []) ⟨hx, hb, hml, hown, hts⟩ (c_X6_many l G cI cL cZ h_t_points h_t_points_coordinates v_t_points_many _ _ hF) (cwV 0 hts (gV mw_2_95 mw_2_96 mw_2_97 mw_1_2 mw_2_98) rfl rfl rfl (by decide +kernel) ⟨Nat.le_of_ble_eq_true rfl, Nat.le_of_ble_eq_true rfl⟩) ⟨gP_blind, va_recv hK hP (ci := 6) (q0 := 1) rfl rfl, gP_of hK hnw hP hD [1] (by decide +kernel) rfl rfl⟩ rfl rfl hl.1 rfl (lv_room (Nat.le_of_ble_eq_true rfl)) dX11_move_24 ⟨Nat.le_of_ble_eq_true rfl, Nat.le_of_ble_eq_true rfl⟩) hP hD hS hA [1] [0, 2, 3, 4, 5, 6, 7] rfl rfl (by decide +kernel) (by decide +kernel) (fun r5 u H locs hF hP hD hS => ?_)
        try dsimp only at hF
        have hP : va_P G vwCl [(h_t, .inr (11, [.ref h_t_points, .ref h_t_mesh, .ref h_t_camera, .ref h_t_lamps, .ref h_t_tree, .ref h_t_crossings, .ref h_t_atHand, .ref h_t_view, .ref h_t_sight, .ref h_t_shade, .ref h_t_slope, .ref h_t_box, .ref h_t_marked, .int v_t_back])), (h_t_points_coordinates, .inl (cI, 9, .inl v_t_points_coordinates)), (h_t_mesh_corners, .inl (cI, 1152, .inl v_t_mesh_corners)), (h_t_mesh_normals, .inl (cI, 384, .inl v_t_mesh_normals)), (h_t_mesh_trial, .inl (cI, 9, .inl v_t_mesh_trial)), (h_t_mesh_trialNormal, .inl (cI, 3, .inl v_t_mesh_trialNormal)), (h_t_mesh, .inr (5, [.ref h_t_mesh_corners, .ref h_t_mesh_normals, .ref h_t_mesh_tones, .ref h_t_mesh_trial, .ref h_t_mesh_trialNormal, .int v_t_mesh_many])), (h_t_points, .inr (6, [.ref h_t_points_coordinates, .int v_t_points_many]))] H := hP
        have hD : va_D A [(h_t, .inr (11, [.ref h_t_points, .ref h_t_mesh, .ref h_t_camera, .ref h_t_lamps, .ref h_t_tree, .ref h_t_crossings, .ref h_t_atHand, .ref h_t_view, .ref h_t_sight, .ref h_t_shade, .ref h_t_slope, .ref h_t_box, .ref h_t_marked, .int v_t_back])), (h_t_points_coordinates, .inl (cI, 9, .inl v_t_points_coordinates)), (h_t_mesh_corners, .inl (cI, 1152, .inl v_t_mesh_corners)), (h_t_mesh_normals, .inl (cI, 384, .inl v_t_mesh_normals)), (h_t_mesh_trial, .inl (cI, 9, .inl v_t_mesh_trial)), (h_t_mesh_trialNormal, .inl (cI, 3, .inl v_t_mesh_trialNormal)), (h_t_mesh, .inr (5, [.ref h_t_mesh_corners, .ref h_t_mesh_normals, .ref h_t_mesh_tones, .ref h_t_mesh_trial, .ref h_t_mesh_trialNormal, .int v_t_mesh_many])), (h_t_points, .inr (6, [.ref h_t_points_coordinates, .int v_t_points_many]))] := hD
        refine lv_iconst (v := 1) hx hb dX11_move_27 (by decide) ?_
        refine lv_icmp_eq (tgt := 33) hx hb dX11_move_28 (by decide) (fun c6 => ?_) (fun c6 => ?_)
        · have hF := hF.1 c6
          refine lv_aload_n hx hb dX11_move_33 rfl (lv_at hl 0 rfl) ?_
          refine va_get (D := G) (ci := 11) (v := .ref h_t_mesh) (C := RX11) (T := TX11) (N := 14) hx hb hts (fun w h => List.mem_cons_of_mem _ (inG_11 w h)) hown hK hP 0 rfl rfl 1 (by decide) (hts _ (List.mem_cons_of_mem _ mw_2_42)) (fun _ h9 => h9) rfl dX11_move_34 ?_
          refine lv_iload_n hx hb dX11_move_37 rfl (lv_at hl 1 rfl) ?_
          refine lv_iload_n hx hb dX11_move_38 rfl (lv_at hl 2 rfl) ?_
          refine lv_aload_n hx hb dX11_move_39 rfl (lv_at hl 0 rfl) ?_
          refine va_get (D := G) (ci := 11) (v := .ref h_t_points) (C := RX11) (T := TX11) (N := 14) hx hb hts (fun w h => List.mem_cons_of_mem _ (inG_11 w h)) hown hK hP 0 rfl rfl 0 (by decide) (hts _ (List.mem_cons_of_mem _ mw_2_41)) (fun _ h9 => h9) rfl dX11_move_40 ?_
          refine afterI (wr := [(h_t, .inr (11, [.ref h_t_points, .ref h_t_mesh, .ref h_t_camera, .ref h_t_lamps, .ref h_t_tree, .ref h_t_crossings, .ref h_t_atHand, .ref h_t_view, .ref h_t_sight, .ref h_t_shade, .ref h_t_slope, .ref h_t_box, .ref h_t_marked, .int v_t_back]))]) (va_runV (As := [.int p1, .int p2, .ref h_t_points]) (rest := []) ⟨hx, hb, hml, hown, hts⟩ (c_X5_bend l G cI cL cZ h_t_mesh h_t_mesh_corners h_t_mesh_normals h_t_mesh_tones h_t_mesh_trial h_t_mesh_trialNormal h_t_points h_t_points_coordinates v_t_mesh_corners v_t_mesh_normals v_t_mesh_trial v_t_mesh_trialNormal v_t_points_coordinates v_t_mesh_many v_t_points_many p1 p2 _ _ hF) (cwV 3 hts (gV mw_2_145 mw_2_146 mw_2_147 mw_1_3 mw_2_148) rfl rfl rfl (by decide +kernel) ⟨Nat.le_of_ble_eq_true rfl, Nat.le_of_ble_eq_true rfl⟩) ⟨gP_blind, va_recv hK hP (ci := 5) (q0 := 6) rfl rfl, gP_of hK hnw hP hD [6, 2, 3, 4, 5, 7, 1] (by decide +kernel) rfl rfl⟩ rfl rfl hl.1 rfl (lv_room (Nat.le_of_ble_eq_true rfl)) dX11_move_43 ⟨Nat.le_of_ble_eq_true rfl, Nat.le_of_ble_eq_true rfl⟩) hP hD hS hA [6, 2, 3, 4, 5, 7, 1] [0] rfl rfl (by decide +kernel) (by decide +kernel) (fun r7 u H locs hF hP hD hS => ?_)
          obtain ⟨v8, v9, v10, v11⟩ := u
          try dsimp only at hF
          have hP : va_P G vwCl [(h_t, .inr (11, [.ref h_t_points, .ref h_t_mesh, .ref h_t_camera, .ref h_t_lamps, .ref h_t_tree, .ref h_t_crossings, .ref h_t_atHand, .ref h_t_view, .ref h_t_sight, .ref h_t_shade, .ref h_t_slope, .ref h_t_box, .ref h_t_marked, .int v_t_back])), (h_t_mesh, .inr (5, [.ref h_t_mesh_corners, .ref h_t_mesh_normals, .ref h_t_mesh_tones, .ref h_t_mesh_trial, .ref h_t_mesh_trialNormal, .int v_t_mesh_many])), (h_t_mesh_corners, .inl (cI, 1152, .inl v8)), (h_t_mesh_normals, .inl (cI, 384, .inl v9)), (h_t_mesh_trial, .inl (cI, 9, .inl v10)), (h_t_mesh_trialNormal, .inl (cI, 3, .inl v11)), (h_t_points, .inr (6, [.ref h_t_points_coordinates, .int v_t_points_many])), (h_t_points_coordinates, .inl (cI, 9, .inl v_t_points_coordinates))] H := hP
          have hD : va_D A [(h_t, .inr (11, [.ref h_t_points, .ref h_t_mesh, .ref h_t_camera, .ref h_t_lamps, .ref h_t_tree, .ref h_t_crossings, .ref h_t_atHand, .ref h_t_view, .ref h_t_sight, .ref h_t_shade, .ref h_t_slope, .ref h_t_box, .ref h_t_marked, .int v_t_back])), (h_t_mesh, .inr (5, [.ref h_t_mesh_corners, .ref h_t_mesh_normals, .ref h_t_mesh_tones, .ref h_t_mesh_trial, .ref h_t_mesh_trialNormal, .int v_t_mesh_many])), (h_t_mesh_corners, .inl (cI, 1152, .inl v8)), (h_t_mesh_normals, .inl (cI, 384, .inl v9)), (h_t_mesh_trial, .inl (cI, 9, .inl v10)), (h_t_mesh_trialNormal, .inl (cI, 3, .inl v11)), (h_t_points, .inr (6, [.ref h_t_points_coordinates, .int v_t_points_many])), (h_t_points_coordinates, .inl (cI, 9, .inl v_t_points_coordinates))] := hD
          refine lv_istore_n (lv' := [(3, .int r7), (0, .ref h_t), (1, .int p1), (2, .int p2)]) hx hb dX11_move_46 rfl hl (by decide) rfl (fun ls hl => ?_)
          refine lv_aload_n hx hb dX11_move_47 rfl (lv_at hl 1 rfl) ?_
          refine va_get (D := G) (ci := 11) (v := .ref h_t_points) (C := RX11) (T := TX11) (N := 14) hx hb hts (fun w h => List.mem_cons_of_mem _ (inG_11 w h)) hown hK hP 0 rfl rfl 0 (by decide) (hts _ (List.mem_cons_of_mem _ mw_2_41)) (fun _ h9 => h9) rfl dX11_move_48 ?_
          refine afterV (wr := [(h_t, .inr (11, [.ref h_t_points, .ref h_t_mesh, .ref h_t_camera, .ref h_t_lamps, .ref h_t_tree, .ref h_t_crossings, .ref h_t_atHand, .ref h_t_view, .ref h_t_sight, .ref h_t_shade, .ref h_t_slope, .ref h_t_box, .ref h_t_marked, .int v_t_back])), (h_t_mesh, .inr (5, [.ref h_t_mesh_corners, .ref h_t_mesh_normals, .ref h_t_mesh_tones, .ref h_t_mesh_trial, .ref h_t_mesh_trialNormal, .int v_t_mesh_many])), (h_t_mesh_corners, .inl (cI, 1152, .inl v8)), (h_t_mesh_normals, .inl (cI, 384, .inl v9)), (h_t_mesh_trial, .inl (cI, 9, .inl v10)), (h_t_mesh_trialNormal, .inl (cI, 3, .inl v11)), (h_t_points_coordinates, .inl (cI, 9, .inl v_t_points_coordinates))]) (va_runV (As := []) (rest := []) ⟨hx, hb, hml, hown, hts⟩ (c_X6_clear l G cI cL cZ h_t_points h_t_points_coordinates v_t_points_many _ _ hF) (cwV 0 hts (gV mw_2_129 mw_2_130 mw_2_131 mw_1_2 mw_2_132) rfl rfl rfl (by decide +kernel) ⟨Nat.le_of_ble_eq_true rfl, Nat.le_of_ble_eq_true rfl⟩) ⟨gP_blind, va_recv hK hP (ci := 6) (q0 := 6) rfl rfl, gP_of hK hnw hP hD [6] (by decide +kernel) rfl rfl⟩ rfl rfl hl.1 rfl (lv_room (Nat.le_of_ble_eq_true rfl)) dX11_move_51 ⟨Nat.le_of_ble_eq_true rfl, Nat.le_of_ble_eq_true rfl⟩) hP hD hS hA [6] [0, 1, 2, 3, 4, 5, 7] rfl rfl (by decide +kernel) (by decide +kernel) (fun u H locs hF hP hD hS => ?_)
          obtain ⟨v12, rfl⟩ : ∃ z, z = u := ⟨_, rfl⟩
          try dsimp only at hF
          have hP : va_P G vwCl [(h_t, .inr (11, [.ref h_t_points, .ref h_t_mesh, .ref h_t_camera, .ref h_t_lamps, .ref h_t_tree, .ref h_t_crossings, .ref h_t_atHand, .ref h_t_view, .ref h_t_sight, .ref h_t_shade, .ref h_t_slope, .ref h_t_box, .ref h_t_marked, .int v_t_back])), (h_t_mesh, .inr (5, [.ref h_t_mesh_corners, .ref h_t_mesh_normals, .ref h_t_mesh_tones, .ref h_t_mesh_trial, .ref h_t_mesh_trialNormal, .int v_t_mesh_many])), (h_t_mesh_corners, .inl (cI, 1152, .inl v8)), (h_t_mesh_normals, .inl (cI, 384, .inl v9)), (h_t_mesh_trial, .inl (cI, 9, .inl v10)), (h_t_mesh_trialNormal, .inl (cI, 3, .inl v11)), (h_t_points_coordinates, .inl (cI, 9, .inl v_t_points_coordinates)), (h_t_points, .inr (6, [.ref h_t_points_coordinates, .int v12]))] H := hP
          have hD : va_D A [(h_t, .inr (11, [.ref h_t_points, .ref h_t_mesh, .ref h_t_camera, .ref h_t_lamps, .ref h_t_tree, .ref h_t_crossings, .ref h_t_atHand, .ref h_t_view, .ref h_t_sight, .ref h_t_shade, .ref h_t_slope, .ref h_t_box, .ref h_t_marked, .int v_t_back])), (h_t_mesh, .inr (5, [.ref h_t_mesh_corners, .ref h_t_mesh_normals, .ref h_t_mesh_tones, .ref h_t_mesh_trial, .ref h_t_mesh_trialNormal, .int v_t_mesh_many])), (h_t_mesh_corners, .inl (cI, 1152, .inl v8)), (h_t_mesh_normals, .inl (cI, 384, .inl v9)), (h_t_mesh_trial, .inl (cI, 9, .inl v10)), (h_t_mesh_trialNormal, .inl (cI, 3, .inl v11)), (h_t_points_coordinates, .inl (cI, 9, .inl v_t_points_coordinates)), (h_t_points, .inr (6, [.ref h_t_points_coordinates, .int v12]))] := hD
          refine lv_iload_n hx hb dX11_move_54 rfl (lv_at hl 0 rfl) ?_
          refine lv_if_eq (tgt := 62) hx hb dX11_move_55 (by decide) (fun c13 => ?_) (fun c13 => ?_)
          · have hF := hF.1 c13
            refine lv_bipush (v := (-2)) hx hb dX11_move_62 (by decide) ?_
            exact hret 64 ls _ _ (-2) (v12, v8, v9, v10, v11) dX11_move_64 rfl hF (hP.sub [0, 7, 6, 1, 2, 3, 4, 5] rfl) (hD.sub [0, 7, 6, 1, 2, 3, 4, 5] (by decide +kernel) rfl) hS
          · have hF := hF.2 c13
            refine lv_iconst (v := 0) hx hb dX11_move_58 (by decide) ?_
            refine lv_goto (tgt := 64) hx hb dX11_move_59 (by decide) ?_
            exact hret 64 ls _ _ 0 (v12, v8, v9, v10, v11) dX11_move_64 rfl hF (hP.sub [0, 7, 6, 1, 2, 3, 4, 5] rfl) (hD.sub [0, 7, 6, 1, 2, 3, 4, 5] (by decide +kernel) rfl) hS
        · have hF := hF.2 c6
          refine lv_iconst (v := (-1)) hx hb dX11_move_31 (by decide) ?_
          exact hret 32 ls _ _ (-1) (v_t_points_many, v_t_mesh_corners, v_t_mesh_normals, v_t_mesh_trial, v_t_mesh_trialNormal) dX11_move_32 rfl hF (hP.sub [0, 7, 1, 6, 2, 3, 4, 5] rfl) (hD.sub [0, 7, 1, 6, 2, 3, 4, 5] (by decide +kernel) rfl) hS

def rm_X11_drop : Room := { frames := 1, cells := 0, slots := 0, locals := 20 }
def F_X11_drop (v_t_points_many : Int32) (post : Int32 → Int32 → Prop) : Prop := (F_X6_many v_t_points_many (fun r1 => (F_X6_clear v_t_points_many (fun v2 => post r1 v2))))
set_option maxHeartbeats 8000000 in
set_option maxRecDepth 100000 in
theorem c_X11_drop (l : Launch) (G : va_G) (cI cL cZ : ClassId) (h_t : Nat) (h_t_points : Nat) (h_t_mesh : Nat) (h_t_camera : Nat) (h_t_lamps : Nat) (h_t_tree : Nat) (h_t_crossings : Nat) (h_t_atHand : Nat) (h_t_view : Nat) (h_t_sight : Nat) (h_t_shade : Nat) (h_t_slope : Nat) (h_t_box : Nat) (h_t_marked : Nat) (h_t_points_coordinates : Nat) (v_t_points_many : Int32) (v_t_back : Int32) (sz : Nat) (post : Int32 → Int32 → Prop) (hF : F_X11_drop v_t_points_many post) : MetI l G (gT cI cL cZ) yX11_drop (gW yX11_drop cX11_drop 2 (some .int)) rm_X11_drop 0 0 [.ref h_t] sz [(h_t, .inr (11, [.ref h_t_points, .ref h_t_mesh, .ref h_t_camera, .ref h_t_lamps, .ref h_t_tree, .ref h_t_crossings, .ref h_t_atHand, .ref h_t_view, .ref h_t_sight, .ref h_t_shade, .ref h_t_slope, .ref h_t_box, .ref h_t_marked, .int v_t_back])), (h_t_points, .inr (6, [.ref h_t_points_coordinates, .int v_t_points_many]))] (fun (u : Int32) => [(h_t, .inr (11, [.ref h_t_points, .ref h_t_mesh, .ref h_t_camera, .ref h_t_lamps, .ref h_t_tree, .ref h_t_crossings, .ref h_t_atHand, .ref h_t_view, .ref h_t_sight, .ref h_t_shade, .ref h_t_slope, .ref h_t_box, .ref h_t_marked, .int v_t_back])), (h_t_points, .inr (6, [.ref h_t_points_coordinates, .int u]))]) (fun (r : Int32) (u : Int32) => post r u) := by
  refine startI (cc := cX11_drop) (maxL := 2) (ty9 := .int) (by decide +kernel) rfl (Nat.le_of_ble_eq_true rfl) ?_
  intro p e s m args below meth c Q ls A C0 hP hD hS hl hret
  obtain ⟨hx, hb, hml, hown, hts, hnw, hK, hA, hin⟩ := C0
  have hown : s.vm.findClass RX11 = some m.cls := hown
  have hl : lv_has ls 2 [(0, .ref h_t)] := hl
  refine lv_aload_n hx hb dX11_drop_0 rfl (lv_at hl 0 rfl) ?_
  refine va_get (D := G) (ci := 11) (v := .ref h_t_points) (C := RX11) (T := TX11) (N := 14) hx hb hts (fun w h => List.mem_cons_of_mem _ (inG_11 w h)) hown hK hP 0 rfl rfl 0 (by decide) (hts _ (List.mem_cons_of_mem _ mw_2_41)) (fun _ h9 => h9) rfl dX11_drop_1 ?_
  refine afterI (wr := [(h_t, .inr (11, [.ref h_t_points, .ref h_t_mesh, .ref h_t_camera, .ref h_t_lamps, .ref h_t_tree, .ref h_t_crossings, .ref h_t_atHand, .ref h_t_view, .ref h_t_sight, .ref h_t_shade, .ref h_t_slope, .ref h_t_box, .ref h_t_marked, .int v_t_back]))]) (va_runV (As := []) (rest := []) ⟨hx, hb, hml, hown, hts⟩ (c_X6_many l G cI cL cZ h_t_points h_t_points_coordinates v_t_points_many _ _ hF) (cwV 0 hts (gV mw_2_95 mw_2_96 mw_2_97 mw_1_2 mw_2_98) rfl rfl rfl (by decide +kernel) ⟨Nat.le_of_ble_eq_true rfl, Nat.le_of_ble_eq_true rfl⟩) ⟨gP_blind, va_recv hK hP (ci := 6) (q0 := 1) rfl rfl, gP_of hK hnw hP hD [1] (by decide +kernel) rfl rfl⟩ rfl rfl hl.1 rfl (lv_room (Nat.le_of_ble_eq_true rfl)) dX11_drop_4 ⟨Nat.le_of_ble_eq_true rfl, Nat.le_of_ble_eq_true rfl⟩) hP hD hS hA [1] [0] rfl rfl (by decide +kernel) (by decide +kernel) (fun r1 u H locs hF hP hD hS => ?_)
  try dsimp only at hF
  have hP : va_P G vwCl [(h_t, .inr (11, [.ref h_t_points, .ref h_t_mesh, .ref h_t_camera, .ref h_t_lamps, .ref h_t_tree, .ref h_t_crossings, .ref h_t_atHand, .ref h_t_view, .ref h_t_sight, .ref h_t_shade, .ref h_t_slope, .ref h_t_box, .ref h_t_marked, .int v_t_back])), (h_t_points, .inr (6, [.ref h_t_points_coordinates, .int v_t_points_many]))] H := hP
  have hD : va_D A [(h_t, .inr (11, [.ref h_t_points, .ref h_t_mesh, .ref h_t_camera, .ref h_t_lamps, .ref h_t_tree, .ref h_t_crossings, .ref h_t_atHand, .ref h_t_view, .ref h_t_sight, .ref h_t_shade, .ref h_t_slope, .ref h_t_box, .ref h_t_marked, .int v_t_back])), (h_t_points, .inr (6, [.ref h_t_points_coordinates, .int v_t_points_many]))] := hD
  refine lv_istore_n (lv' := [(1, .int r1), (0, .ref h_t)]) hx hb dX11_drop_7 rfl hl (by decide) rfl (fun ls hl => ?_)
  refine lv_aload_n hx hb dX11_drop_8 rfl (lv_at hl 1 rfl) ?_
  refine va_get (D := G) (ci := 11) (v := .ref h_t_points) (C := RX11) (T := TX11) (N := 14) hx hb hts (fun w h => List.mem_cons_of_mem _ (inG_11 w h)) hown hK hP 0 rfl rfl 0 (by decide) (hts _ (List.mem_cons_of_mem _ mw_2_41)) (fun _ h9 => h9) rfl dX11_drop_9 ?_
  refine afterV (wr := [(h_t, .inr (11, [.ref h_t_points, .ref h_t_mesh, .ref h_t_camera, .ref h_t_lamps, .ref h_t_tree, .ref h_t_crossings, .ref h_t_atHand, .ref h_t_view, .ref h_t_sight, .ref h_t_shade, .ref h_t_slope, .ref h_t_box, .ref h_t_marked, .int v_t_back]))]) (va_runV (As := []) (rest := []) ⟨hx, hb, hml, hown, hts⟩ (c_X6_clear l G cI cL cZ h_t_points h_t_points_coordinates v_t_points_many _ _ hF) (cwV 0 hts (gV mw_2_129 mw_2_130 mw_2_131 mw_1_2 mw_2_132) rfl rfl rfl (by decide +kernel) ⟨Nat.le_of_ble_eq_true rfl, Nat.le_of_ble_eq_true rfl⟩) ⟨gP_blind, va_recv hK hP (ci := 6) (q0 := 1) rfl rfl, gP_of hK hnw hP hD [1] (by decide +kernel) rfl rfl⟩ rfl rfl hl.1 rfl (lv_room (Nat.le_of_ble_eq_true rfl)) dX11_drop_12 ⟨Nat.le_of_ble_eq_true rfl, Nat.le_of_ble_eq_true rfl⟩) hP hD hS hA [1] [0] rfl rfl (by decide +kernel) (by decide +kernel) (fun u H locs hF hP hD hS => ?_)
  obtain ⟨v2, rfl⟩ : ∃ z, z = u := ⟨_, rfl⟩
  try dsimp only at hF
  have hP : va_P G vwCl [(h_t, .inr (11, [.ref h_t_points, .ref h_t_mesh, .ref h_t_camera, .ref h_t_lamps, .ref h_t_tree, .ref h_t_crossings, .ref h_t_atHand, .ref h_t_view, .ref h_t_sight, .ref h_t_shade, .ref h_t_slope, .ref h_t_box, .ref h_t_marked, .int v_t_back])), (h_t_points, .inr (6, [.ref h_t_points_coordinates, .int v2]))] H := hP
  have hD : va_D A [(h_t, .inr (11, [.ref h_t_points, .ref h_t_mesh, .ref h_t_camera, .ref h_t_lamps, .ref h_t_tree, .ref h_t_crossings, .ref h_t_atHand, .ref h_t_view, .ref h_t_sight, .ref h_t_shade, .ref h_t_slope, .ref h_t_box, .ref h_t_marked, .int v_t_back])), (h_t_points, .inr (6, [.ref h_t_points_coordinates, .int v2]))] := hD
  refine lv_iload_n hx hb dX11_drop_15 rfl (lv_at hl 0 rfl) ?_
  exact hret 16 ls _ _ r1 v2 dX11_drop_16 rfl hF hP hD hS

def rm_X1_stand : Room := { frames := 1, cells := 0, slots := 0, locals := 22 }
def L_X1_stand_2 (post : (Nat → Int32) → Prop) (v_p1_coordinates : Nat → Int32) : Nat → Int32 → (Nat → Int32) → Prop
  | 0, _, _ => False
  | n_2 + 1, l2, v_t_eye => ((3 ≤ l2 → post v_t_eye) ∧ (¬ 3 ≤ l2 → (F_X6_at 0 l2 v_p1_coordinates (fun r2 => (vp_in l2 3 ∧ (∀ g4 : Nat → Int32, g4 = upd v_t_eye (l2.toNatClampNeg) r2 → (∀ x5 : Int32, x5 = (l2 + 1) → L_X1_stand_2 post v_p1_coordinates n_2 x5 g4)))))))
def F_X1_stand (v_t_eye : Nat → Int32) (v_p1_coordinates : Nat → Int32) (post : (Nat → Int32) → Prop) : Prop := (∃ n0 : Nat, L_X1_stand_2 post v_p1_coordinates n0 0 v_t_eye)
set_option maxHeartbeats 8000000 in
set_option maxRecDepth 100000 in
theorem c_X1_stand (l : Launch) (G : va_G) (cI cL cZ : ClassId) (h_t : Nat) (h_t_eye : Nat) (h_t_axes : Nat) (h_t_trial : Nat) (h_p1 : Nat) (h_p1_coordinates : Nat) (v_t_eye : Nat → Int32) (v_p1_coordinates : Nat → Int32) (v_t_w : Int32) (v_t_h : Int32) (v_p1_many : Int32) (sz : Nat) (post : (Nat → Int32) → Prop) (hF : F_X1_stand v_t_eye v_p1_coordinates post) : MetV l G (gT cI cL cZ) yX1_stand (gW yX1_stand cX1_stand 3 none) rm_X1_stand 0 0 [.ref h_t, .ref h_p1] sz [(h_t, .inr (1, [.ref h_t_eye, .ref h_t_axes, .ref h_t_trial, .int v_t_w, .int v_t_h])), (h_t_eye, .inl (cI, 3, .inl v_t_eye)), (h_p1, .inr (6, [.ref h_p1_coordinates, .int v_p1_many])), (h_p1_coordinates, .inl (cI, 9, .inl v_p1_coordinates))] (fun (u : (Nat → Int32)) => [(h_t, .inr (1, [.ref h_t_eye, .ref h_t_axes, .ref h_t_trial, .int v_t_w, .int v_t_h])), (h_t_eye, .inl (cI, 3, .inl u)), (h_p1, .inr (6, [.ref h_p1_coordinates, .int v_p1_many])), (h_p1_coordinates, .inl (cI, 9, .inl v_p1_coordinates))]) (fun (u : (Nat → Int32)) => post u) := by
  refine startV (cc := cX1_stand) (maxL := 3) (by decide +kernel) rfl (Nat.le_of_ble_eq_true rfl) ?_
  intro p e s m args below meth c Q ls A C0 hP hD hS hl hret
  obtain ⟨hx, hb, hml, hown, hts, hnw, hK, hA, hin⟩ := C0
  have hown : s.vm.findClass RX1 = some m.cls := hown
  have hl : lv_has ls 3 [(0, .ref h_t), (1, .ref h_p1)] := hl
  refine lv_iconst (v := 0) hx hb dX1_stand_0 (by decide) ?_
  refine lv_istore_n (lv' := [(2, .int 0), (0, .ref h_t), (1, .ref h_p1)]) hx hb dX1_stand_1 rfl hl (by decide) rfl (fun ls hl => ?_)
  have k_2 : ∀ (n_2 : Nat) (l2 : Int32) (v_t_eye : Nat → Int32), L_X1_stand_2 post v_p1_coordinates n_2 l2 v_t_eye → ∀ (H : Heap) (locs : List Loc) (ls : Array Slot), va_P G vwCl [(h_t, .inr (1, [.ref h_t_eye, .ref h_t_axes, .ref h_t_trial, .int v_t_w, .int v_t_h])), (h_t_eye, .inl (cI, 3, .inl v_t_eye)), (h_p1, .inr (6, [.ref h_p1_coordinates, .int v_p1_many])), (h_p1_coordinates, .inl (cI, 9, .inl v_p1_coordinates))] H → va_D A [(h_t, .inr (1, [.ref h_t_eye, .ref h_t_axes, .ref h_t_trial, .int v_t_w, .int v_t_h])), (h_t_eye, .inl (cI, 3, .inl v_t_eye)), (h_p1, .inr (6, [.ref h_p1_coordinates, .int v_p1_many])), (h_p1_coordinates, .inl (cI, 9, .inl v_p1_coordinates))] → va_S A s.heap H locs → lv_has ls 3 [(0, .ref h_t), (1, .ref h_p1), (2, .int l2)] → W p l e rm_X1_stand s m args below meth c H locs 0 0 Q (F0 m 2 ls []) := by
    intro n_2
    induction n_2 with
    | zero =>
      intro l2 v_t_eye hF
      exact (show False from hF).elim
    | succ n_2 k_2 =>
      intro l2 v_t_eye hF H locs ls hP hD hS hl
      refine lv_iload_n hx hb dX1_stand_2 rfl (lv_at hl 2 rfl) ?_
      refine lv_iconst (v := 3) hx hb dX1_stand_3 (by decide) ?_
      refine lv_icmp_ge (tgt := 25) hx hb dX1_stand_4 (by decide) (fun c1 => ?_) (fun c1 => ?_)
      · have hF := hF.1 c1
        exact hret 25 ls _ _ v_t_eye dX1_stand_25  hF hP hD hS
      · have hF := hF.2 c1
        refine lv_aload_n hx hb dX1_stand_7 rfl (lv_at hl 0 rfl) ?_
        refine va_get (D := G) (ci := 1) (v := .ref h_t_eye) (C := RX1) (T := TX1) (N := 5) hx hb hts (fun w h => List.mem_cons_of_mem _ (inG_1 w h)) hown hK hP 0 rfl rfl 0 (by decide) (hts _ (List.mem_cons_of_mem _ mw_1_69)) (fun _ h9 => h9) rfl dX1_stand_8 ?_
        refine lv_iload_n hx hb dX1_stand_11 rfl (lv_at hl 2 rfl) ?_
        refine lv_aload_n hx hb dX1_stand_12 rfl (lv_at hl 1 rfl) ?_
        refine lv_iconst (v := 0) hx hb dX1_stand_13 (by decide) ?_
        refine lv_iload_n hx hb dX1_stand_14 rfl (lv_at hl 2 rfl) ?_
        refine afterI (wr := [(h_t, .inr (1, [.ref h_t_eye, .ref h_t_axes, .ref h_t_trial, .int v_t_w, .int v_t_h])), (h_t_eye, .inl (cI, 3, .inl v_t_eye))]) (va_runV (As := [.int 0, .int l2]) (rest := [.int l2, .ref h_t_eye]) ⟨hx, hb, hml, hown, hts⟩ (c_X6_at l G cI cL cZ h_p1 h_p1_coordinates v_p1_coordinates v_p1_many 0 l2 _ _ hF) (cwV 2 hts (gV mw_2_161 mw_2_115 mw_2_116 mw_1_2 mw_2_117) rfl rfl rfl (by decide +kernel) ⟨Nat.le_of_ble_eq_true rfl, Nat.le_of_ble_eq_true rfl⟩) ⟨gP_blind, va_recv hK hP (ci := 6) (q0 := 2) rfl rfl, gP_of hK hnw hP hD [2, 3] (by decide +kernel) rfl rfl⟩ rfl rfl hl.1 rfl (lv_room (Nat.le_of_ble_eq_true rfl)) dX1_stand_15 ⟨Nat.le_of_ble_eq_true rfl, Nat.le_of_ble_eq_true rfl⟩) hP hD hS hA [2, 3] [0, 1] rfl rfl (by decide +kernel) (by decide +kernel) (fun r2 u H locs hF hP hD hS => ?_)
        try dsimp only at hF
        have hP : va_P G vwCl [(h_t, .inr (1, [.ref h_t_eye, .ref h_t_axes, .ref h_t_trial, .int v_t_w, .int v_t_h])), (h_t_eye, .inl (cI, 3, .inl v_t_eye)), (h_p1, .inr (6, [.ref h_p1_coordinates, .int v_p1_many])), (h_p1_coordinates, .inl (cI, 9, .inl v_p1_coordinates))] H := hP
        have hD : va_D A [(h_t, .inr (1, [.ref h_t_eye, .ref h_t_axes, .ref h_t_trial, .int v_t_w, .int v_t_h])), (h_t_eye, .inl (cI, 3, .inl v_t_eye)), (h_p1, .inr (6, [.ref h_p1_coordinates, .int v_p1_many])), (h_p1_coordinates, .inl (cI, 9, .inl v_p1_coordinates))] := hD
        obtain ⟨b3, hF⟩ := hF
        refine g_iast (t0 := 0) hx hb hK hP hD hS 1 rfl rfl b3 dX1_stand_18 (fun g4 H locs eg4 hP hD hS => ?_)
        have hF := hF g4 eg4
        have hP : va_P G vwCl [(h_t, .inr (1, [.ref h_t_eye, .ref h_t_axes, .ref h_t_trial, .int v_t_w, .int v_t_h])), (h_t_eye, .inl (cI, 3, .inl g4)), (h_p1, .inr (6, [.ref h_p1_coordinates, .int v_p1_many])), (h_p1_coordinates, .inl (cI, 9, .inl v_p1_coordinates))] H := hP
        have hD : va_D A [(h_t, .inr (1, [.ref h_t_eye, .ref h_t_axes, .ref h_t_trial, .int v_t_w, .int v_t_h])), (h_t_eye, .inl (cI, 3, .inl g4)), (h_p1, .inr (6, [.ref h_p1_coordinates, .int v_p1_many])), (h_p1_coordinates, .inl (cI, 9, .inl v_p1_coordinates))] := hD
        obtain ⟨x5, ex5⟩ : ∃ z : Int32, z = (l2 + 1) := ⟨_, rfl⟩
        have hF := hF x5 ex5
        refine lv_iinc (v := x5) (lv' := [(2, .int x5), (0, .ref h_t), (1, .ref h_p1)]) hx hb dX1_stand_19 hl (k := 2) rfl (by rw [ex5]; rfl) (by decide) rfl (fun ls hl => ?_)
        refine lv_goto (tgt := 2) hx hb dX1_stand_22 (by decide) ?_
        exact k_2 x5 g4 hF _ _ ls hP hD hS (lv_sub hl [1, 2, 0] rfl)
  obtain ⟨n0, hF⟩ := hF
  exact k_2 n0 0 v_t_eye hF _ _ ls hP hD hS (lv_sub hl [1, 2, 0] rfl)

def rm_X11_eye : Room := { frames := 2, cells := 0, slots := 0, locals := 44 }
def F_X11_eye (v_t_points_many : Int32) (v_t_points_coordinates : Nat → Int32) (v_t_camera_eye : Nat → Int32) (post : Int32 → Int32 → (Nat → Int32) → Prop) : Prop := (F_X6_many v_t_points_many (fun r1 => ((r1 = 1 → (F_X1_stand v_t_camera_eye v_t_points_coordinates (fun v3 => (F_X6_clear v_t_points_many (fun v4 => post 0 v4 v3))))) ∧ (¬ r1 = 1 → post (-1) v_t_points_many v_t_camera_eye))))
set_option maxHeartbeats 8000000 in
set_option maxRecDepth 100000 in
theorem c_X11_eye (l : Launch) (G : va_G) (cI cL cZ : ClassId) (h_t : Nat) (h_t_points : Nat) (h_t_mesh : Nat) (h_t_camera : Nat) (h_t_lamps : Nat) (h_t_tree : Nat) (h_t_crossings : Nat) (h_t_atHand : Nat) (h_t_view : Nat) (h_t_sight : Nat) (h_t_shade : Nat) (h_t_slope : Nat) (h_t_box : Nat) (h_t_marked : Nat) (h_t_points_coordinates : Nat) (h_t_camera_eye : Nat) (h_t_camera_axes : Nat) (h_t_camera_trial : Nat) (v_t_points_many : Int32) (v_t_points_coordinates : Nat → Int32) (v_t_camera_eye : Nat → Int32) (v_t_back : Int32) (v_t_camera_w : Int32) (v_t_camera_h : Int32) (sz : Nat) (post : Int32 → Int32 → (Nat → Int32) → Prop) (hF : F_X11_eye v_t_points_many v_t_points_coordinates v_t_camera_eye post) : MetI l G (gT cI cL cZ) yX11_eye (gW yX11_eye cX11_eye 1 (some .int)) rm_X11_eye 0 0 [.ref h_t] sz [(h_t, .inr (11, [.ref h_t_points, .ref h_t_mesh, .ref h_t_camera, .ref h_t_lamps, .ref h_t_tree, .ref h_t_crossings, .ref h_t_atHand, .ref h_t_view, .ref h_t_sight, .ref h_t_shade, .ref h_t_slope, .ref h_t_box, .ref h_t_marked, .int v_t_back])), (h_t_points, .inr (6, [.ref h_t_points_coordinates, .int v_t_points_many])), (h_t_points_coordinates, .inl (cI, 9, .inl v_t_points_coordinates)), (h_t_camera, .inr (1, [.ref h_t_camera_eye, .ref h_t_camera_axes, .ref h_t_camera_trial, .int v_t_camera_w, .int v_t_camera_h])), (h_t_camera_eye, .inl (cI, 3, .inl v_t_camera_eye))] (fun (u : Int32 × (Nat → Int32)) => [(h_t, .inr (11, [.ref h_t_points, .ref h_t_mesh, .ref h_t_camera, .ref h_t_lamps, .ref h_t_tree, .ref h_t_crossings, .ref h_t_atHand, .ref h_t_view, .ref h_t_sight, .ref h_t_shade, .ref h_t_slope, .ref h_t_box, .ref h_t_marked, .int v_t_back])), (h_t_points, .inr (6, [.ref h_t_points_coordinates, .int u.1])), (h_t_points_coordinates, .inl (cI, 9, .inl v_t_points_coordinates)), (h_t_camera, .inr (1, [.ref h_t_camera_eye, .ref h_t_camera_axes, .ref h_t_camera_trial, .int v_t_camera_w, .int v_t_camera_h])), (h_t_camera_eye, .inl (cI, 3, .inl u.2))]) (fun (r : Int32) (u : Int32 × (Nat → Int32)) => post r u.1 u.2) := by
  refine startI (cc := cX11_eye) (maxL := 1) (ty9 := .int) (by decide +kernel) rfl (Nat.le_of_ble_eq_true rfl) ?_
  intro p e s m args below meth c Q ls A C0 hP hD hS hl hret
  obtain ⟨hx, hb, hml, hown, hts, hnw, hK, hA, hin⟩ := C0
  have hown : s.vm.findClass RX11 = some m.cls := hown
  have hl : lv_has ls 1 [(0, .ref h_t)] := hl
  refine lv_aload_n hx hb dX11_eye_0 rfl (lv_at hl 0 rfl) ?_
  refine va_get (D := G) (ci := 11) (v := .ref h_t_points) (C := RX11) (T := TX11) (N := 14) hx hb hts (fun w h => List.mem_cons_of_mem _ (inG_11 w h)) hown hK hP 0 rfl rfl 0 (by decide) (hts _ (List.mem_cons_of_mem _ mw_2_41)) (fun _ h9 => h9) rfl dX11_eye_1 ?_
  refine afterI (wr := [(h_t, .inr (11, [.ref h_t_points, .ref h_t_mesh, .ref h_t_camera, .ref h_t_lamps, .ref h_t_tree, .ref h_t_crossings, .ref h_t_atHand, .ref h_t_view, .ref h_t_sight, .ref h_t_shade, .ref h_t_slope, .ref h_t_box, .ref h_t_marked, .int v_t_back])), (h_t_points_coordinates, .inl (cI, 9, .inl v_t_points_coordinates)), (h_t_camera, .inr (1, [.ref h_t_camera_eye, .ref h_t_camera_axes, .ref h_t_camera_trial, .int v_t_camera_w, .int v_t_camera_h])), (h_t_camera_eye, .inl (cI, 3, .inl v_t_camera_eye))]) (va_runV (As := []) (rest := []) ⟨hx, hb, hml, hown, hts⟩ (c_X6_many l G cI cL cZ h_t_points h_t_points_coordinates v_t_points_many _ _ hF) (cwV 0 hts (gV mw_2_95 mw_2_96 mw_2_97 mw_1_2 mw_2_98) rfl rfl rfl (by decide +kernel) ⟨Nat.le_of_ble_eq_true rfl, Nat.le_of_ble_eq_true rfl⟩) ⟨gP_blind, va_recv hK hP (ci := 6) (q0 := 1) rfl rfl, gP_of hK hnw hP hD [1] (by decide +kernel) rfl rfl⟩ rfl rfl hl.1 rfl (lv_room (Nat.le_of_ble_eq_true rfl)) dX11_eye_4 ⟨Nat.le_of_ble_eq_true rfl, Nat.le_of_ble_eq_true rfl⟩) hP hD hS hA [1] [0, 2, 3, 4] rfl rfl (by decide +kernel) (by decide +kernel) (fun r1 u H locs hF hP hD hS => ?_)
  try dsimp only at hF
  have hP : va_P G vwCl [(h_t, .inr (11, [.ref h_t_points, .ref h_t_mesh, .ref h_t_camera, .ref h_t_lamps, .ref h_t_tree, .ref h_t_crossings, .ref h_t_atHand, .ref h_t_view, .ref h_t_sight, .ref h_t_shade, .ref h_t_slope, .ref h_t_box, .ref h_t_marked, .int v_t_back])), (h_t_points_coordinates, .inl (cI, 9, .inl v_t_points_coordinates)), (h_t_camera, .inr (1, [.ref h_t_camera_eye, .ref h_t_camera_axes, .ref h_t_camera_trial, .int v_t_camera_w, .int v_t_camera_h])), (h_t_camera_eye, .inl (cI, 3, .inl v_t_camera_eye)), (h_t_points, .inr (6, [.ref h_t_points_coordinates, .int v_t_points_many]))] H := hP
  have hD : va_D A [(h_t, .inr (11, [.ref h_t_points, .ref h_t_mesh, .ref h_t_camera, .ref h_t_lamps, .ref h_t_tree, .ref h_t_crossings, .ref h_t_atHand, .ref h_t_view, .ref h_t_sight, .ref h_t_shade, .ref h_t_slope, .ref h_t_box, .ref h_t_marked, .int v_t_back])), (h_t_points_coordinates, .inl (cI, 9, .inl v_t_points_coordinates)), (h_t_camera, .inr (1, [.ref h_t_camera_eye, .ref h_t_camera_axes, .ref h_t_camera_trial, .int v_t_camera_w, .int v_t_camera_h])), (h_t_camera_eye, .inl (cI, 3, .inl v_t_camera_eye)), (h_t_points, .inr (6, [.ref h_t_points_coordinates, .int v_t_points_many]))] := hD
  refine lv_iconst (v := 1) hx hb dX11_eye_7 (by decide) ?_
  refine lv_icmp_eq (tgt := 13) hx hb dX11_eye_8 (by decide) (fun c2 => ?_) (fun c2 => ?_)
  · have hF := hF.1 c2
    refine lv_aload_n hx hb dX11_eye_13 rfl (lv_at hl 0 rfl) ?_
    refine va_get (D := G) (ci := 11) (v := .ref h_t_camera) (C := RX11) (T := TX11) (N := 14) hx hb hts (fun w h => List.mem_cons_of_mem _ (inG_11 w h)) hown hK hP 0 rfl rfl 2 (by decide) (hts _ (List.mem_cons_of_mem _ mw_2_43)) (fun _ h9 => h9) rfl dX11_eye_14 ?_
    refine lv_aload_n hx hb dX11_eye_17 rfl (lv_at hl 0 rfl) ?_
    refine va_get (D := G) (ci := 11) (v := .ref h_t_points) (C := RX11) (T := TX11) (N := 14) hx hb hts (fun w h => List.mem_cons_of_mem _ (inG_11 w h)) hown hK hP 0 rfl rfl 0 (by decide) (hts _ (List.mem_cons_of_mem _ mw_2_41)) (fun _ h9 => h9) rfl dX11_eye_18 ?_
    refine afterV (wr := [(h_t, .inr (11, [.ref h_t_points, .ref h_t_mesh, .ref h_t_camera, .ref h_t_lamps, .ref h_t_tree, .ref h_t_crossings, .ref h_t_atHand, .ref h_t_view, .ref h_t_sight, .ref h_t_shade, .ref h_t_slope, .ref h_t_box, .ref h_t_marked, .int v_t_back]))]) (va_runV (As := [.ref h_t_points]) (rest := []) ⟨hx, hb, hml, hown, hts⟩ (c_X1_stand l G cI cL cZ h_t_camera h_t_camera_eye h_t_camera_axes h_t_camera_trial h_t_points h_t_points_coordinates v_t_camera_eye v_t_points_coordinates v_t_camera_w v_t_camera_h v_t_points_many _ _ hF) (cwV 1 hts (gV mw_2_157 mw_2_158 mw_2_159 mw_1_4 mw_2_160) rfl rfl rfl (by decide +kernel) ⟨Nat.le_of_ble_eq_true rfl, Nat.le_of_ble_eq_true rfl⟩) ⟨gP_blind, va_recv hK hP (ci := 1) (q0 := 2) rfl rfl, gP_of hK hnw hP hD [2, 3, 4, 1] (by decide +kernel) rfl rfl⟩ rfl rfl hl.1 rfl (lv_room (Nat.le_of_ble_eq_true rfl)) dX11_eye_21 ⟨Nat.le_of_ble_eq_true rfl, Nat.le_of_ble_eq_true rfl⟩) hP hD hS hA [2, 3, 4, 1] [0] rfl rfl (by decide +kernel) (by decide +kernel) (fun u H locs hF hP hD hS => ?_)
    obtain ⟨v3, rfl⟩ : ∃ z, z = u := ⟨_, rfl⟩
    try dsimp only at hF
    have hP : va_P G vwCl [(h_t, .inr (11, [.ref h_t_points, .ref h_t_mesh, .ref h_t_camera, .ref h_t_lamps, .ref h_t_tree, .ref h_t_crossings, .ref h_t_atHand, .ref h_t_view, .ref h_t_sight, .ref h_t_shade, .ref h_t_slope, .ref h_t_box, .ref h_t_marked, .int v_t_back])), (h_t_camera, .inr (1, [.ref h_t_camera_eye, .ref h_t_camera_axes, .ref h_t_camera_trial, .int v_t_camera_w, .int v_t_camera_h])), (h_t_camera_eye, .inl (cI, 3, .inl v3)), (h_t_points, .inr (6, [.ref h_t_points_coordinates, .int v_t_points_many])), (h_t_points_coordinates, .inl (cI, 9, .inl v_t_points_coordinates))] H := hP
    have hD : va_D A [(h_t, .inr (11, [.ref h_t_points, .ref h_t_mesh, .ref h_t_camera, .ref h_t_lamps, .ref h_t_tree, .ref h_t_crossings, .ref h_t_atHand, .ref h_t_view, .ref h_t_sight, .ref h_t_shade, .ref h_t_slope, .ref h_t_box, .ref h_t_marked, .int v_t_back])), (h_t_camera, .inr (1, [.ref h_t_camera_eye, .ref h_t_camera_axes, .ref h_t_camera_trial, .int v_t_camera_w, .int v_t_camera_h])), (h_t_camera_eye, .inl (cI, 3, .inl v3)), (h_t_points, .inr (6, [.ref h_t_points_coordinates, .int v_t_points_many])), (h_t_points_coordinates, .inl (cI, 9, .inl v_t_points_coordinates))] := hD
    refine lv_aload_n hx hb dX11_eye_24 rfl (lv_at hl 0 rfl) ?_
    refine va_get (D := G) (ci := 11) (v := .ref h_t_points) (C := RX11) (T := TX11) (N := 14) hx hb hts (fun w h => List.mem_cons_of_mem _ (inG_11 w h)) hown hK hP 0 rfl rfl 0 (by decide) (hts _ (List.mem_cons_of_mem _ mw_2_41)) (fun _ h9 => h9) rfl dX11_eye_25 ?_
    refine afterV (wr := [(h_t, .inr (11, [.ref h_t_points, .ref h_t_mesh, .ref h_t_camera, .ref h_t_lamps, .ref h_t_tree, .ref h_t_crossings, .ref h_t_atHand, .ref h_t_view, .ref h_t_sight, .ref h_t_shade, .ref h_t_slope, .ref h_t_box, .ref h_t_marked, .int v_t_back])), (h_t_camera, .inr (1, [.ref h_t_camera_eye, .ref h_t_camera_axes, .ref h_t_camera_trial, .int v_t_camera_w, .int v_t_camera_h])), (h_t_camera_eye, .inl (cI, 3, .inl v3)), (h_t_points_coordinates, .inl (cI, 9, .inl v_t_points_coordinates))]) (va_runV (As := []) (rest := []) ⟨hx, hb, hml, hown, hts⟩ (c_X6_clear l G cI cL cZ h_t_points h_t_points_coordinates v_t_points_many _ _ hF) (cwV 0 hts (gV mw_2_129 mw_2_130 mw_2_131 mw_1_2 mw_2_132) rfl rfl rfl (by decide +kernel) ⟨Nat.le_of_ble_eq_true rfl, Nat.le_of_ble_eq_true rfl⟩) ⟨gP_blind, va_recv hK hP (ci := 6) (q0 := 3) rfl rfl, gP_of hK hnw hP hD [3] (by decide +kernel) rfl rfl⟩ rfl rfl hl.1 rfl (lv_room (Nat.le_of_ble_eq_true rfl)) dX11_eye_28 ⟨Nat.le_of_ble_eq_true rfl, Nat.le_of_ble_eq_true rfl⟩) hP hD hS hA [3] [0, 1, 2, 4] rfl rfl (by decide +kernel) (by decide +kernel) (fun u H locs hF hP hD hS => ?_)
    obtain ⟨v4, rfl⟩ : ∃ z, z = u := ⟨_, rfl⟩
    try dsimp only at hF
    have hP : va_P G vwCl [(h_t, .inr (11, [.ref h_t_points, .ref h_t_mesh, .ref h_t_camera, .ref h_t_lamps, .ref h_t_tree, .ref h_t_crossings, .ref h_t_atHand, .ref h_t_view, .ref h_t_sight, .ref h_t_shade, .ref h_t_slope, .ref h_t_box, .ref h_t_marked, .int v_t_back])), (h_t_camera, .inr (1, [.ref h_t_camera_eye, .ref h_t_camera_axes, .ref h_t_camera_trial, .int v_t_camera_w, .int v_t_camera_h])), (h_t_camera_eye, .inl (cI, 3, .inl v3)), (h_t_points_coordinates, .inl (cI, 9, .inl v_t_points_coordinates)), (h_t_points, .inr (6, [.ref h_t_points_coordinates, .int v4]))] H := hP
    have hD : va_D A [(h_t, .inr (11, [.ref h_t_points, .ref h_t_mesh, .ref h_t_camera, .ref h_t_lamps, .ref h_t_tree, .ref h_t_crossings, .ref h_t_atHand, .ref h_t_view, .ref h_t_sight, .ref h_t_shade, .ref h_t_slope, .ref h_t_box, .ref h_t_marked, .int v_t_back])), (h_t_camera, .inr (1, [.ref h_t_camera_eye, .ref h_t_camera_axes, .ref h_t_camera_trial, .int v_t_camera_w, .int v_t_camera_h])), (h_t_camera_eye, .inl (cI, 3, .inl v3)), (h_t_points_coordinates, .inl (cI, 9, .inl v_t_points_coordinates)), (h_t_points, .inr (6, [.ref h_t_points_coordinates, .int v4]))] := hD
    refine lv_iconst (v := 0) hx hb dX11_eye_31 (by decide) ?_
    exact hret 32 ls _ _ 0 (v4, v3) dX11_eye_32 rfl hF (hP.sub [0, 4, 3, 1, 2] rfl) (hD.sub [0, 4, 3, 1, 2] (by decide +kernel) rfl) hS
  · have hF := hF.2 c2
    refine lv_iconst (v := (-1)) hx hb dX11_eye_11 (by decide) ?_
    exact hret 12 ls _ _ (-1) (v_t_points_many, v_t_camera_eye) dX11_eye_12 rfl hF (hP.sub [0, 4, 1, 2, 3] rfl) (hD.sub [0, 4, 1, 2, 3] (by decide +kernel) rfl) hS

def rm_X1_allRaysFit : Room := { frames := 1, cells := 0, slots := 0, locals := 32 }
def L_X1_allRaysFit_2 (post : Int32 → Prop) (n_p0 : Nat) (v_p0 : Nat → Int32) : Nat → Int32 → Int32 → Int32 → Prop
  | 0, _, _, _ => False
  | n_2 + 1, l1, l2, l3 => ((3 ≤ l3 → post 1) ∧ (¬ 3 ≤ l3 → (vp_in (3 + l3) n_p0 ∧ (vp_in (6 + l3) n_p0 ∧ (∀ x4 : Int64, x4 = ((((l1 - 1).toInt64) * (jabsL ((v_p0 (3 + l3).toNatClampNeg).toInt64))) + (((l2 - 1).toInt64) * (jabsL ((v_p0 (6 + l3).toNatClampNeg).toInt64)))) → (vp_in l3 n_p0 ∧ ((0 < (lg_cmp (((v_p0 l3.toNatClampNeg).toInt64) + x4) 1023) → post 0) ∧ (¬ 0 < (lg_cmp (((v_p0 l3.toNatClampNeg).toInt64) + x4) 1023) → (vp_in l3 n_p0 ∧ ((0 ≤ (lg_cmp (((v_p0 l3.toNatClampNeg).toInt64) - x4) (-1023)) → (∀ x9 : Int32, x9 = (l3 + 1) → L_X1_allRaysFit_2 post n_p0 v_p0 n_2 l1 l2 x9)) ∧ (¬ 0 ≤ (lg_cmp (((v_p0 l3.toNatClampNeg).toInt64) - x4) (-1023)) → post 0)))))))))))
def F_X1_allRaysFit (p1 : Int32) (p2 : Int32) (n_p0 : Nat) (v_p0 : Nat → Int32) (post : Int32 → Prop) : Prop := (∃ n0 : Nat, L_X1_allRaysFit_2 post n_p0 v_p0 n0 p1 p2 0)
set_option maxHeartbeats 8000000 in
set_option maxRecDepth 100000 in
theorem c_X1_allRaysFit (l : Launch) (G : va_G) (cI cL cZ : ClassId) (h_p0 : Nat) (n_p0 : Nat) (v_p0 : Nat → Int32) (p1 : Int32) (p2 : Int32) (sz : Nat) (post : Int32 → Prop) (hF : F_X1_allRaysFit p1 p2 n_p0 v_p0 post) : MetI l G (gT cI cL cZ) yX1_allRaysFit (gW yX1_allRaysFit cX1_allRaysFit 6 (some .boolean)) rm_X1_allRaysFit 0 0 [.ref h_p0, .int p1, .int p2] sz [(h_p0, .inl (cI, n_p0, .inl v_p0))] (fun (u : Unit) => [(h_p0, .inl (cI, n_p0, .inl v_p0))]) (fun (r : Int32) (u : Unit) => post r) := by
  refine startI (cc := cX1_allRaysFit) (maxL := 6) (ty9 := .boolean) (by decide +kernel) rfl (Nat.le_of_ble_eq_true rfl) ?_
  intro p e s m args below meth c Q ls A C0 hP hD hS hl hret
  obtain ⟨hx, hb, hml, hown, hts, hnw, hK, hA, hin⟩ := C0
  have hown : s.vm.findClass RX1 = some m.cls := hown
  have hl : lv_has ls 6 [(0, .ref h_p0), (1, .int p1), (2, .int p2)] := hl
  refine lv_iconst (v := 0) hx hb dX1_allRaysFit_0 (by decide) ?_
  refine lv_istore_n (lv' := [(3, .int 0), (0, .ref h_p0), (1, .int p1), (2, .int p2)]) hx hb dX1_allRaysFit_1 rfl hl (by decide) rfl (fun ls hl => ?_)
  have k_2 : ∀ (n_2 : Nat) (l1 : Int32) (l2 : Int32) (l3 : Int32), L_X1_allRaysFit_2 post n_p0 v_p0 n_2 l1 l2 l3 → ∀ (H : Heap) (locs : List Loc) (ls : Array Slot), va_P G vwCl [(h_p0, .inl (cI, n_p0, .inl v_p0))] H → va_D A [(h_p0, .inl (cI, n_p0, .inl v_p0))] → va_S A s.heap H locs → lv_has ls 6 [(0, .ref h_p0), (1, .int l1), (2, .int l2), (3, .int l3)] → W p l e rm_X1_allRaysFit s m args below meth c H locs 0 0 Q (F0 m 2 ls []) := by
    intro n_2
    induction n_2 with
    | zero =>
      intro l1 l2 l3 hF
      exact (show False from hF).elim
    | succ n_2 k_2 =>
      intro l1 l2 l3 hF H locs ls hP hD hS hl
      refine lv_iload_n hx hb dX1_allRaysFit_2 rfl (lv_at hl 3 rfl) ?_
      refine lv_iconst (v := 3) hx hb dX1_allRaysFit_3 (by decide) ?_
      refine lv_icmp_ge (tgt := 75) hx hb dX1_allRaysFit_4 (by decide) (fun c1 => ?_) (fun c1 => ?_)
      · have hF := hF.1 c1
        refine lv_iconst (v := 1) hx hb dX1_allRaysFit_75 (by decide) ?_
        exact hret 76 ls _ _ 1 () dX1_allRaysFit_76 (by decide) hF hP hD hS
      · have hF := hF.2 c1
        refine lv_iload_n hx hb dX1_allRaysFit_7 rfl (lv_at hl 1 rfl) ?_
        refine lv_iconst (v := 1) hx hb dX1_allRaysFit_8 (by decide) ?_
        refine lv_isub hx hb dX1_allRaysFit_9 ?_
        refine lv_i2l (v := (l1 - 1).toInt64) hx hb dX1_allRaysFit_10 rfl ?_
        refine lv_aload_n hx hb dX1_allRaysFit_11 rfl (lv_at hl 0 rfl) ?_
        refine lv_iconst (v := 3) hx hb dX1_allRaysFit_12 (by decide) ?_
        refine lv_iload_n hx hb dX1_allRaysFit_13 rfl (lv_at hl 3 rfl) ?_
        refine lv_iadd hx hb dX1_allRaysFit_14 ?_
        obtain ⟨b2, hF⟩ := hF
        refine va_iald hx hb hK hP 0 0 rfl rfl b2 dX1_allRaysFit_15 ?_
        refine lv_i2l (v := (v_p0 (3 + l3).toNatClampNeg).toInt64) hx hb dX1_allRaysFit_16 rfl ?_
        refine va_mabs_long hx hb (by rw [hml]; exact hl.1.symm) hown (hts _ (List.mem_cons_of_mem _ mw_2_174)) (hts _ (List.mem_cons_of_mem _ mw_2_175)) (hts _ (List.mem_cons_of_mem _ mw_1_15)) (hts _ (List.mem_cons_of_mem _ mw_2_176)) (Nat.le_of_ble_eq_true rfl) (Nat.le_of_ble_eq_true rfl) (Nat.le_of_ble_eq_true rfl) (Nat.le_of_ble_eq_true rfl) dX1_allRaysFit_17 ?_
        refine W.eq (g2 := F0 m 20 ls (.long (jabsL ((v_p0 (3 + l3).toNatClampNeg).toInt64)) :: [.long ((l1 - 1).toInt64)])) rfl ?_
        refine lv_lmul hx hb dX1_allRaysFit_20 ?_
        refine lv_iload_n hx hb dX1_allRaysFit_21 rfl (lv_at hl 2 rfl) ?_
        refine lv_iconst (v := 1) hx hb dX1_allRaysFit_22 (by decide) ?_
        refine lv_isub hx hb dX1_allRaysFit_23 ?_
        refine lv_i2l (v := (l2 - 1).toInt64) hx hb dX1_allRaysFit_24 rfl ?_
        refine lv_aload_n hx hb dX1_allRaysFit_25 rfl (lv_at hl 0 rfl) ?_
        refine lv_bipush (v := 6) hx hb dX1_allRaysFit_26 (by decide) ?_
        refine lv_iload_n hx hb dX1_allRaysFit_28 rfl (lv_at hl 3 rfl) ?_
        refine lv_iadd hx hb dX1_allRaysFit_29 ?_
        obtain ⟨b3, hF⟩ := hF
        refine va_iald hx hb hK hP 0 0 rfl rfl b3 dX1_allRaysFit_30 ?_
        refine lv_i2l (v := (v_p0 (6 + l3).toNatClampNeg).toInt64) hx hb dX1_allRaysFit_31 rfl ?_
        refine va_mabs_long hx hb (by rw [hml]; exact hl.1.symm) hown (hts _ (List.mem_cons_of_mem _ mw_2_174)) (hts _ (List.mem_cons_of_mem _ mw_2_175)) (hts _ (List.mem_cons_of_mem _ mw_1_15)) (hts _ (List.mem_cons_of_mem _ mw_2_176)) (Nat.le_of_ble_eq_true rfl) (Nat.le_of_ble_eq_true rfl) (Nat.le_of_ble_eq_true rfl) (Nat.le_of_ble_eq_true rfl) dX1_allRaysFit_32 ?_
        refine W.eq (g2 := F0 m 35 ls (.long (jabsL ((v_p0 (6 + l3).toNatClampNeg).toInt64)) :: [.long ((l2 - 1).toInt64), .long (((l1 - 1).toInt64) * (jabsL ((v_p0 (3 + l3).toNatClampNeg).toInt64)))])) rfl ?_
        refine lv_lmul hx hb dX1_allRaysFit_35 ?_
        refine lv_ladd hx hb dX1_allRaysFit_36 ?_
        refine lv_topl (fun x4 ex4 => ?_)
        have hF := hF x4 ex4
        refine lv_lstore (lv' := [(4, .long x4), (0, .ref h_p0), (1, .int l1), (2, .int l2), (3, .int l3)]) hx hb dX1_allRaysFit_37 hl (by decide) rfl (fun ls hl => ?_)
        refine lv_aload_n hx hb dX1_allRaysFit_39 rfl (lv_at hl 1 rfl) ?_
        refine lv_iload_n hx hb dX1_allRaysFit_40 rfl (lv_at hl 4 rfl) ?_
        obtain ⟨b5, hF⟩ := hF
        refine va_iald hx hb hK hP 0 0 rfl rfl b5 dX1_allRaysFit_41 ?_
        refine lv_i2l (v := (v_p0 l3.toNatClampNeg).toInt64) hx hb dX1_allRaysFit_42 rfl ?_
        refine lv_lload hx hb dX1_allRaysFit_43 (lv_at hl 0 rfl) ?_
        refine lv_ladd hx hb dX1_allRaysFit_45 ?_
        refine lv_ldc2 (own := RX1) (v := 1023) hx hb hown (hts _ (List.mem_cons_of_mem _ mw_2_177)) dX1_allRaysFit_46 ?_
        refine W.lcmp hx hb dX1_allRaysFit_49 ?_
        refine lv_if_gt (tgt := 67) hx hb dX1_allRaysFit_50 (by decide) (fun c6 => ?_) (fun c6 => ?_)
        · have hF := hF.1 c6
          refine lv_iconst (v := 0) hx hb dX1_allRaysFit_67 (by decide) ?_
          exact hret 68 ls _ _ 0 () dX1_allRaysFit_68 (by decide) hF hP hD hS
        · have hF := hF.2 c6
          refine lv_aload_n hx hb dX1_allRaysFit_53 rfl (lv_at hl 1 rfl) ?_
          refine lv_iload_n hx hb dX1_allRaysFit_54 rfl (lv_at hl 4 rfl) ?_
          obtain ⟨b7, hF⟩ := hF
          refine va_iald hx hb hK hP 0 0 rfl rfl b7 dX1_allRaysFit_55 ?_
          refine lv_i2l (v := (v_p0 l3.toNatClampNeg).toInt64) hx hb dX1_allRaysFit_56 rfl ?_
          refine lv_lload hx hb dX1_allRaysFit_57 (lv_at hl 0 rfl) ?_
          refine lv_lsub hx hb dX1_allRaysFit_59 ?_
          refine lv_ldc2 (own := RX1) (v := (-1023)) hx hb hown (hts _ (List.mem_cons_of_mem _ mw_2_178)) dX1_allRaysFit_60 ?_
          refine W.lcmp hx hb dX1_allRaysFit_63 ?_
          refine lv_if_ge (tgt := 69) hx hb dX1_allRaysFit_64 (by decide) (fun c8 => ?_) (fun c8 => ?_)
          · have hF := hF.1 c8
            obtain ⟨x9, ex9⟩ : ∃ z : Int32, z = (l3 + 1) := ⟨_, rfl⟩
            have hF := hF x9 ex9
            refine lv_iinc (v := x9) (lv' := [(3, .int x9), (4, .long x4), (0, .ref h_p0), (1, .int l1), (2, .int l2)]) hx hb dX1_allRaysFit_69 hl (k := 4) rfl (by rw [ex9]; rfl) (by decide) rfl (fun ls hl => ?_)
            refine lv_goto (tgt := 2) hx hb dX1_allRaysFit_72 (by decide) ?_
            exact k_2 l1 l2 x9 hF _ _ ls hP hD hS (lv_sub hl [2, 3, 4, 0] rfl)
          · have hF := hF.2 c8
            refine lv_iconst (v := 0) hx hb dX1_allRaysFit_67 (by decide) ?_
            exact hret 68 ls _ _ 0 () dX1_allRaysFit_68 (by decide) hF hP hD hS
  obtain ⟨n0, hF⟩ := hF
  exact k_2 n0 p1 p2 0 hF _ _ ls hP hD hS (lv_sub hl [1, 2, 3, 0] rfl)

def rm_X1_turn : Room := { frames := 2, cells := 0, slots := 0, locals := 64 }
def F_X1_turn (p1 : Int32) (p2 : Int32) (p3 : Int32) (p4 : Int32) (v_t_w : Int32) (v_t_h : Int32) (v_t_axes : Nat → Int32) (v_t_trial : Nat → Int32) (post : Int32 → (Nat → Int32) → (Nat → Int32) → Prop) : Prop := (cpok 0 0 9 9 9 ∧ (∀ g2 : Nat → Int32, g2 = va_cpy v_t_axes v_t_trial (0 : Int32).toNatClampNeg (0 : Int32).toNatClampNeg (9 : Int32).toNatClampNeg → (vp_in (3 * p1) 9 ∧ (∀ g4 : Nat → Int32, g4 = upd g2 ((3 * p1).toNatClampNeg) p2 → (vp_in ((3 * p1) + 1) 9 ∧ (∀ g6 : Nat → Int32, g6 = upd g4 (((3 * p1) + 1).toNatClampNeg) p3 → (vp_in ((3 * p1) + 2) 9 ∧ (∀ g8 : Nat → Int32, g8 = upd g6 (((3 * p1) + 2).toNatClampNeg) p4 → (F_X1_allRaysFit v_t_w v_t_h 9 g8 (fun r9 => ((¬ r9 = 0 → (cpok 0 0 9 9 9 ∧ (∀ g12 : Nat → Int32, g12 = va_cpy g8 v_t_axes (0 : Int32).toNatClampNeg (0 : Int32).toNatClampNeg (9 : Int32).toNatClampNeg → post 1 g12 g8))) ∧ (r9 = 0 → post 0 v_t_axes g8))))))))))))
set_option maxHeartbeats 8000000 in
set_option maxRecDepth 100000 in
theorem c_X1_turn (l : Launch) (G : va_G) (cI cL cZ : ClassId) (h_t : Nat) (h_t_eye : Nat) (h_t_axes : Nat) (h_t_trial : Nat) (v_t_w : Int32) (v_t_h : Int32) (v_t_axes : Nat → Int32) (v_t_trial : Nat → Int32) (p1 : Int32) (p2 : Int32) (p3 : Int32) (p4 : Int32) (sz : Nat) (post : Int32 → (Nat → Int32) → (Nat → Int32) → Prop) (hF : F_X1_turn p1 p2 p3 p4 v_t_w v_t_h v_t_axes v_t_trial post) : MetI l G (gT cI cL cZ) yX1_turn (gW yX1_turn cX1_turn 5 (some .boolean)) rm_X1_turn 0 0 [.ref h_t, .int p1, .int p2, .int p3, .int p4] sz [(h_t, .inr (1, [.ref h_t_eye, .ref h_t_axes, .ref h_t_trial, .int v_t_w, .int v_t_h])), (h_t_axes, .inl (cI, 9, .inl v_t_axes)), (h_t_trial, .inl (cI, 9, .inl v_t_trial))] (fun (u : (Nat → Int32) × (Nat → Int32)) => [(h_t, .inr (1, [.ref h_t_eye, .ref h_t_axes, .ref h_t_trial, .int v_t_w, .int v_t_h])), (h_t_axes, .inl (cI, 9, .inl u.1)), (h_t_trial, .inl (cI, 9, .inl u.2))]) (fun (r : Int32) (u : (Nat → Int32) × (Nat → Int32)) => post r u.1 u.2) := by
  refine startI (cc := cX1_turn) (maxL := 5) (ty9 := .boolean) (by decide +kernel) rfl (Nat.le_of_ble_eq_true rfl) ?_
  intro p e s m args below meth c Q ls A C0 hP hD hS hl hret
  obtain ⟨hx, hb, hml, hown, hts, hnw, hK, hA, hin⟩ := C0
  have hown : s.vm.findClass RX1 = some m.cls := hown
  have hl : lv_has ls 5 [(0, .ref h_t), (1, .int p1), (2, .int p2), (3, .int p3), (4, .int p4)] := hl
  refine lv_aload_n hx hb dX1_turn_0 rfl (lv_at hl 0 rfl) ?_
  refine va_get (D := G) (ci := 1) (v := .ref h_t_axes) (C := RX1) (T := TX1) (N := 5) hx hb hts (fun w h => List.mem_cons_of_mem _ (inG_1 w h)) hown hK hP 0 rfl rfl 1 (by decide) (hts _ (List.mem_cons_of_mem _ mw_1_71)) (fun _ h9 => h9) rfl dX1_turn_1 ?_
  refine lv_iconst (v := 0) hx hb dX1_turn_4 (by decide) ?_
  refine lv_aload_n hx hb dX1_turn_5 rfl (lv_at hl 0 rfl) ?_
  refine va_get (D := G) (ci := 1) (v := .ref h_t_trial) (C := RX1) (T := TX1) (N := 5) hx hb hts (fun w h => List.mem_cons_of_mem _ (inG_1 w h)) hown hK hP 0 rfl rfl 2 (by decide) (hts _ (List.mem_cons_of_mem _ mw_1_72)) (fun _ h9 => h9) rfl dX1_turn_6 ?_
  refine lv_iconst (v := 0) hx hb dX1_turn_9 (by decide) ?_
  refine lv_bipush (v := 9) hx hb dX1_turn_10 (by decide) ?_
  obtain ⟨b1, hF⟩ := hF
  refine g_copyi hx hb (by rw [hml]; exact hl.1.symm) hown (hts _ (List.mem_cons_of_mem _ mw_2_170)) (hts _ (List.mem_cons_of_mem _ mw_2_128)) (hts _ (List.mem_cons_of_mem _ mw_2_127)) (hts _ (List.mem_cons_of_mem _ mw_1_14)) hK hP hD hS 1 2 rfl rfl rfl rfl b1 (Nat.le_of_ble_eq_true rfl) (by decide) dX1_turn_12 (fun g2 H locs eg2 hP hD hS => ?_)
  have hF := hF g2 eg2
  have hP : va_P G vwCl [(h_t, .inr (1, [.ref h_t_eye, .ref h_t_axes, .ref h_t_trial, .int v_t_w, .int v_t_h])), (h_t_axes, .inl (cI, 9, .inl v_t_axes)), (h_t_trial, .inl (cI, 9, .inl g2))] H := hP
  have hD : va_D A [(h_t, .inr (1, [.ref h_t_eye, .ref h_t_axes, .ref h_t_trial, .int v_t_w, .int v_t_h])), (h_t_axes, .inl (cI, 9, .inl v_t_axes)), (h_t_trial, .inl (cI, 9, .inl g2))] := hD
  refine lv_aload_n hx hb dX1_turn_15 rfl (lv_at hl 0 rfl) ?_
  refine va_get (D := G) (ci := 1) (v := .ref h_t_trial) (C := RX1) (T := TX1) (N := 5) hx hb hts (fun w h => List.mem_cons_of_mem _ (inG_1 w h)) hown hK hP 0 rfl rfl 2 (by decide) (hts _ (List.mem_cons_of_mem _ mw_1_72)) (fun _ h9 => h9) rfl dX1_turn_16 ?_
  refine lv_iconst (v := 3) hx hb dX1_turn_19 (by decide) ?_
  refine lv_iload_n hx hb dX1_turn_20 rfl (lv_at hl 1 rfl) ?_
  refine lv_imul hx hb dX1_turn_21 ?_
  refine lv_iload_n hx hb dX1_turn_22 rfl (lv_at hl 2 rfl) ?_
  obtain ⟨b3, hF⟩ := hF
  refine g_iast (t0 := 0) hx hb hK hP hD hS 2 rfl rfl b3 dX1_turn_23 (fun g4 H locs eg4 hP hD hS => ?_)
  have hF := hF g4 eg4
  have hP : va_P G vwCl [(h_t, .inr (1, [.ref h_t_eye, .ref h_t_axes, .ref h_t_trial, .int v_t_w, .int v_t_h])), (h_t_axes, .inl (cI, 9, .inl v_t_axes)), (h_t_trial, .inl (cI, 9, .inl g4))] H := hP
  have hD : va_D A [(h_t, .inr (1, [.ref h_t_eye, .ref h_t_axes, .ref h_t_trial, .int v_t_w, .int v_t_h])), (h_t_axes, .inl (cI, 9, .inl v_t_axes)), (h_t_trial, .inl (cI, 9, .inl g4))] := hD
  refine lv_aload_n hx hb dX1_turn_24 rfl (lv_at hl 0 rfl) ?_
  refine va_get (D := G) (ci := 1) (v := .ref h_t_trial) (C := RX1) (T := TX1) (N := 5) hx hb hts (fun w h => List.mem_cons_of_mem _ (inG_1 w h)) hown hK hP 0 rfl rfl 2 (by decide) (hts _ (List.mem_cons_of_mem _ mw_1_72)) (fun _ h9 => h9) rfl dX1_turn_25 ?_
  refine lv_iconst (v := 3) hx hb dX1_turn_28 (by decide) ?_
  refine lv_iload_n hx hb dX1_turn_29 rfl (lv_at hl 1 rfl) ?_
  refine lv_imul hx hb dX1_turn_30 ?_
  refine lv_iconst (v := 1) hx hb dX1_turn_31 (by decide) ?_
  refine lv_iadd hx hb dX1_turn_32 ?_
  refine lv_iload_n hx hb dX1_turn_33 rfl (lv_at hl 3 rfl) ?_
  obtain ⟨b5, hF⟩ := hF
  refine g_iast (t0 := 0) hx hb hK hP hD hS 2 rfl rfl b5 dX1_turn_34 (fun g6 H locs eg6 hP hD hS => ?_)
  have hF := hF g6 eg6
  have hP : va_P G vwCl [(h_t, .inr (1, [.ref h_t_eye, .ref h_t_axes, .ref h_t_trial, .int v_t_w, .int v_t_h])), (h_t_axes, .inl (cI, 9, .inl v_t_axes)), (h_t_trial, .inl (cI, 9, .inl g6))] H := hP
  have hD : va_D A [(h_t, .inr (1, [.ref h_t_eye, .ref h_t_axes, .ref h_t_trial, .int v_t_w, .int v_t_h])), (h_t_axes, .inl (cI, 9, .inl v_t_axes)), (h_t_trial, .inl (cI, 9, .inl g6))] := hD
  refine lv_aload_n hx hb dX1_turn_35 rfl (lv_at hl 0 rfl) ?_
  refine va_get (D := G) (ci := 1) (v := .ref h_t_trial) (C := RX1) (T := TX1) (N := 5) hx hb hts (fun w h => List.mem_cons_of_mem _ (inG_1 w h)) hown hK hP 0 rfl rfl 2 (by decide) (hts _ (List.mem_cons_of_mem _ mw_1_72)) (fun _ h9 => h9) rfl dX1_turn_36 ?_
  refine lv_iconst (v := 3) hx hb dX1_turn_39 (by decide) ?_
  refine lv_iload_n hx hb dX1_turn_40 rfl (lv_at hl 1 rfl) ?_
  refine lv_imul hx hb dX1_turn_41 ?_
  refine lv_iconst (v := 2) hx hb dX1_turn_42 (by decide) ?_
  refine lv_iadd hx hb dX1_turn_43 ?_
  refine lv_iload hx hb dX1_turn_44 (lv_at hl 4 rfl) ?_
  obtain ⟨b7, hF⟩ := hF
  refine g_iast (t0 := 0) hx hb hK hP hD hS 2 rfl rfl b7 dX1_turn_46 (fun g8 H locs eg8 hP hD hS => ?_)
  have hF := hF g8 eg8
  have hP : va_P G vwCl [(h_t, .inr (1, [.ref h_t_eye, .ref h_t_axes, .ref h_t_trial, .int v_t_w, .int v_t_h])), (h_t_axes, .inl (cI, 9, .inl v_t_axes)), (h_t_trial, .inl (cI, 9, .inl g8))] H := hP
  have hD : va_D A [(h_t, .inr (1, [.ref h_t_eye, .ref h_t_axes, .ref h_t_trial, .int v_t_w, .int v_t_h])), (h_t_axes, .inl (cI, 9, .inl v_t_axes)), (h_t_trial, .inl (cI, 9, .inl g8))] := hD
  refine lv_aload_n hx hb dX1_turn_47 rfl (lv_at hl 0 rfl) ?_
  refine va_get (D := G) (ci := 1) (v := .ref h_t_trial) (C := RX1) (T := TX1) (N := 5) hx hb hts (fun w h => List.mem_cons_of_mem _ (inG_1 w h)) hown hK hP 0 rfl rfl 2 (by decide) (hts _ (List.mem_cons_of_mem _ mw_1_72)) (fun _ h9 => h9) rfl dX1_turn_48 ?_
  refine lv_aload_n hx hb dX1_turn_51 rfl (lv_at hl 0 rfl) ?_
  refine va_get (D := G) (ci := 1) (v := .int v_t_w) (C := RX1) (T := TX1) (N := 5) hx hb hts (fun w h => List.mem_cons_of_mem _ (inG_1 w h)) hown hK hP 0 rfl rfl 3 (by decide) (hts _ (List.mem_cons_of_mem _ mw_1_73)) (fun _ h9 => h9) rfl dX1_turn_52 ?_
  refine lv_aload_n hx hb dX1_turn_55 rfl (lv_at hl 0 rfl) ?_
  refine va_get (D := G) (ci := 1) (v := .int v_t_h) (C := RX1) (T := TX1) (N := 5) hx hb hts (fun w h => List.mem_cons_of_mem _ (inG_1 w h)) hown hK hP 0 rfl rfl 4 (by decide) (hts _ (List.mem_cons_of_mem _ mw_1_75)) (fun _ h9 => h9) rfl dX1_turn_56 ?_
  refine afterI (wr := [(h_t, .inr (1, [.ref h_t_eye, .ref h_t_axes, .ref h_t_trial, .int v_t_w, .int v_t_h])), (h_t_axes, .inl (cI, 9, .inl v_t_axes))]) (va_runS (As := [.ref h_t_trial, .int v_t_w, .int v_t_h]) (rest := []) ⟨hx, hb, hml, hown, hts⟩ (c_X1_allRaysFit l G cI cL cZ h_t_trial 9 g8 v_t_w v_t_h _ _ hF) (va_cwS 3 hts (gS mw_2_171 mw_2_172 mw_1_4 mw_2_173) rfl rfl rfl (by decide +kernel) ⟨Nat.le_of_ble_eq_true rfl, Nat.le_of_ble_eq_true rfl⟩) ⟨gP_blind, gP_of hK hnw hP hD [2] (by decide +kernel) rfl rfl⟩ rfl rfl hl.1 rfl (lv_room (Nat.le_of_ble_eq_true rfl)) dX1_turn_59 ⟨Nat.le_of_ble_eq_true rfl, Nat.le_of_ble_eq_true rfl⟩) hP hD hS hA [2] [0, 1] rfl rfl (by decide +kernel) (by decide +kernel) (fun r9 u H locs hF hP hD hS => ?_)
  try dsimp only at hF
  have hP : va_P G vwCl [(h_t, .inr (1, [.ref h_t_eye, .ref h_t_axes, .ref h_t_trial, .int v_t_w, .int v_t_h])), (h_t_axes, .inl (cI, 9, .inl v_t_axes)), (h_t_trial, .inl (cI, 9, .inl g8))] H := hP
  have hD : va_D A [(h_t, .inr (1, [.ref h_t_eye, .ref h_t_axes, .ref h_t_trial, .int v_t_w, .int v_t_h])), (h_t_axes, .inl (cI, 9, .inl v_t_axes)), (h_t_trial, .inl (cI, 9, .inl g8))] := hD
  refine lv_if_ne (tgt := 67) hx hb dX1_turn_62 (by decide) (fun c10 => ?_) (fun c10 => ?_)
  · have hF := hF.1 c10
    refine lv_aload_n hx hb dX1_turn_67 rfl (lv_at hl 0 rfl) ?_
    refine va_get (D := G) (ci := 1) (v := .ref h_t_trial) (C := RX1) (T := TX1) (N := 5) hx hb hts (fun w h => List.mem_cons_of_mem _ (inG_1 w h)) hown hK hP 0 rfl rfl 2 (by decide) (hts _ (List.mem_cons_of_mem _ mw_1_72)) (fun _ h9 => h9) rfl dX1_turn_68 ?_
    refine lv_iconst (v := 0) hx hb dX1_turn_71 (by decide) ?_
    refine lv_aload_n hx hb dX1_turn_72 rfl (lv_at hl 0 rfl) ?_
    refine va_get (D := G) (ci := 1) (v := .ref h_t_axes) (C := RX1) (T := TX1) (N := 5) hx hb hts (fun w h => List.mem_cons_of_mem _ (inG_1 w h)) hown hK hP 0 rfl rfl 1 (by decide) (hts _ (List.mem_cons_of_mem _ mw_1_71)) (fun _ h9 => h9) rfl dX1_turn_73 ?_
    refine lv_iconst (v := 0) hx hb dX1_turn_76 (by decide) ?_
    refine lv_bipush (v := 9) hx hb dX1_turn_77 (by decide) ?_
    obtain ⟨b11, hF⟩ := hF
    refine g_copyi hx hb (by rw [hml]; exact hl.1.symm) hown (hts _ (List.mem_cons_of_mem _ mw_2_170)) (hts _ (List.mem_cons_of_mem _ mw_2_128)) (hts _ (List.mem_cons_of_mem _ mw_2_127)) (hts _ (List.mem_cons_of_mem _ mw_1_14)) hK hP hD hS 2 1 rfl rfl rfl rfl b11 (Nat.le_of_ble_eq_true rfl) (by decide) dX1_turn_79 (fun g12 H locs eg12 hP hD hS => ?_)
    have hF := hF g12 eg12
    have hP : va_P G vwCl [(h_t, .inr (1, [.ref h_t_eye, .ref h_t_axes, .ref h_t_trial, .int v_t_w, .int v_t_h])), (h_t_axes, .inl (cI, 9, .inl g12)), (h_t_trial, .inl (cI, 9, .inl g8))] H := hP
    have hD : va_D A [(h_t, .inr (1, [.ref h_t_eye, .ref h_t_axes, .ref h_t_trial, .int v_t_w, .int v_t_h])), (h_t_axes, .inl (cI, 9, .inl g12)), (h_t_trial, .inl (cI, 9, .inl g8))] := hD
    refine lv_iconst (v := 1) hx hb dX1_turn_82 (by decide) ?_
    exact hret 83 ls _ _ 1 (g12, g8) dX1_turn_83 (by decide) hF hP hD hS
  · have hF := hF.2 c10
    refine lv_iconst (v := 0) hx hb dX1_turn_65 (by decide) ?_
    exact hret 66 ls _ _ 0 (v_t_axes, g8) dX1_turn_66 (by decide) hF hP hD hS

def rm_X11_axis : Room := { frames := 3, cells := 0, slots := 0, locals := 88 }
def F_X11_axis (p1 : Int32) (p2 : Int32) (p3 : Int32) (p4 : Int32) (v_t_camera_w : Int32) (v_t_camera_h : Int32) (v_t_camera_axes : Nat → Int32) (v_t_camera_trial : Nat → Int32) (post : Int32 → (Nat → Int32) → (Nat → Int32) → Prop) : Prop := ((p1 < 0 → post (-1) v_t_camera_axes v_t_camera_trial) ∧ (¬ p1 < 0 → ((p1 ≤ 2 → (F_X1_turn p1 p2 p3 p4 v_t_camera_w v_t_camera_h v_t_camera_axes v_t_camera_trial (fun r3 v4 v5 => ((r3 = 0 → post (-1) v4 v5) ∧ (¬ r3 = 0 → post 0 v4 v5))))) ∧ (¬ p1 ≤ 2 → post (-1) v_t_camera_axes v_t_camera_trial))))
set_option maxHeartbeats 8000000 in
set_option maxRecDepth 100000 in
theorem c_X11_axis (l : Launch) (G : va_G) (cI cL cZ : ClassId) (h_t : Nat) (h_t_points : Nat) (h_t_mesh : Nat) (h_t_camera : Nat) (h_t_lamps : Nat) (h_t_tree : Nat) (h_t_crossings : Nat) (h_t_atHand : Nat) (h_t_view : Nat) (h_t_sight : Nat) (h_t_shade : Nat) (h_t_slope : Nat) (h_t_box : Nat) (h_t_marked : Nat) (h_t_camera_eye : Nat) (h_t_camera_axes : Nat) (h_t_camera_trial : Nat) (v_t_camera_w : Int32) (v_t_camera_h : Int32) (v_t_camera_axes : Nat → Int32) (v_t_camera_trial : Nat → Int32) (v_t_back : Int32) (p1 : Int32) (p2 : Int32) (p3 : Int32) (p4 : Int32) (sz : Nat) (post : Int32 → (Nat → Int32) → (Nat → Int32) → Prop) (hF : F_X11_axis p1 p2 p3 p4 v_t_camera_w v_t_camera_h v_t_camera_axes v_t_camera_trial post) : MetI l G (gT cI cL cZ) yX11_axis (gW yX11_axis cX11_axis 5 (some .int)) rm_X11_axis 0 0 [.ref h_t, .int p1, .int p2, .int p3, .int p4] sz [(h_t, .inr (11, [.ref h_t_points, .ref h_t_mesh, .ref h_t_camera, .ref h_t_lamps, .ref h_t_tree, .ref h_t_crossings, .ref h_t_atHand, .ref h_t_view, .ref h_t_sight, .ref h_t_shade, .ref h_t_slope, .ref h_t_box, .ref h_t_marked, .int v_t_back])), (h_t_camera, .inr (1, [.ref h_t_camera_eye, .ref h_t_camera_axes, .ref h_t_camera_trial, .int v_t_camera_w, .int v_t_camera_h])), (h_t_camera_axes, .inl (cI, 9, .inl v_t_camera_axes)), (h_t_camera_trial, .inl (cI, 9, .inl v_t_camera_trial))] (fun (u : (Nat → Int32) × (Nat → Int32)) => [(h_t, .inr (11, [.ref h_t_points, .ref h_t_mesh, .ref h_t_camera, .ref h_t_lamps, .ref h_t_tree, .ref h_t_crossings, .ref h_t_atHand, .ref h_t_view, .ref h_t_sight, .ref h_t_shade, .ref h_t_slope, .ref h_t_box, .ref h_t_marked, .int v_t_back])), (h_t_camera, .inr (1, [.ref h_t_camera_eye, .ref h_t_camera_axes, .ref h_t_camera_trial, .int v_t_camera_w, .int v_t_camera_h])), (h_t_camera_axes, .inl (cI, 9, .inl u.1)), (h_t_camera_trial, .inl (cI, 9, .inl u.2))]) (fun (r : Int32) (u : (Nat → Int32) × (Nat → Int32)) => post r u.1 u.2) := by
  refine startI (cc := cX11_axis) (maxL := 5) (ty9 := .int) (by decide +kernel) rfl (Nat.le_of_ble_eq_true rfl) ?_
  intro p e s m args below meth c Q ls A C0 hP hD hS hl hret
  obtain ⟨hx, hb, hml, hown, hts, hnw, hK, hA, hin⟩ := C0
  have hown : s.vm.findClass RX11 = some m.cls := hown
  have hl : lv_has ls 5 [(0, .ref h_t), (1, .int p1), (2, .int p2), (3, .int p3), (4, .int p4)] := hl
  refine lv_iload_n hx hb dX11_axis_0 rfl (lv_at hl 1 rfl) ?_
  refine lv_if_lt (tgt := 9) hx hb dX11_axis_1 (by decide) (fun c1 => ?_) (fun c1 => ?_)
  · have hF := hF.1 c1
    refine lv_iconst (v := (-1)) hx hb dX11_axis_9 (by decide) ?_
    exact hret 10 ls _ _ (-1) (v_t_camera_axes, v_t_camera_trial) dX11_axis_10 rfl hF hP hD hS
  · have hF := hF.2 c1
    refine lv_iload_n hx hb dX11_axis_4 rfl (lv_at hl 1 rfl) ?_
    refine lv_iconst (v := 2) hx hb dX11_axis_5 (by decide) ?_
    refine lv_icmp_le (tgt := 11) hx hb dX11_axis_6 (by decide) (fun c2 => ?_) (fun c2 => ?_)
    · have hF := hF.1 c2
      refine lv_aload_n hx hb dX11_axis_11 rfl (lv_at hl 0 rfl) ?_
      refine va_get (D := G) (ci := 11) (v := .ref h_t_camera) (C := RX11) (T := TX11) (N := 14) hx hb hts (fun w h => List.mem_cons_of_mem _ (inG_11 w h)) hown hK hP 0 rfl rfl 2 (by decide) (hts _ (List.mem_cons_of_mem _ mw_2_43)) (fun _ h9 => h9) rfl dX11_axis_12 ?_
      refine lv_iload_n hx hb dX11_axis_15 rfl (lv_at hl 1 rfl) ?_
      refine lv_iload_n hx hb dX11_axis_16 rfl (lv_at hl 2 rfl) ?_
      refine lv_iload_n hx hb dX11_axis_17 rfl (lv_at hl 3 rfl) ?_
      refine lv_iload hx hb dX11_axis_18 (lv_at hl 4 rfl) ?_
      refine afterI (wr := [(h_t, .inr (11, [.ref h_t_points, .ref h_t_mesh, .ref h_t_camera, .ref h_t_lamps, .ref h_t_tree, .ref h_t_crossings, .ref h_t_atHand, .ref h_t_view, .ref h_t_sight, .ref h_t_shade, .ref h_t_slope, .ref h_t_box, .ref h_t_marked, .int v_t_back]))]) (va_runV (As := [.int p1, .int p2, .int p3, .int p4]) (rest := []) ⟨hx, hb, hml, hown, hts⟩ (c_X1_turn l G cI cL cZ h_t_camera h_t_camera_eye h_t_camera_axes h_t_camera_trial v_t_camera_w v_t_camera_h v_t_camera_axes v_t_camera_trial p1 p2 p3 p4 _ _ hF) (cwV 4 hts (gV mw_2_166 mw_2_167 mw_2_168 mw_1_4 mw_2_169) rfl rfl rfl (by decide +kernel) ⟨Nat.le_of_ble_eq_true rfl, Nat.le_of_ble_eq_true rfl⟩) ⟨gP_blind, va_recv hK hP (ci := 1) (q0 := 1) rfl rfl, gP_of hK hnw hP hD [1, 2, 3] (by decide +kernel) rfl rfl⟩ rfl rfl hl.1 rfl (lv_room (Nat.le_of_ble_eq_true rfl)) dX11_axis_20 ⟨Nat.le_of_ble_eq_true rfl, Nat.le_of_ble_eq_true rfl⟩) hP hD hS hA [1, 2, 3] [0] rfl rfl (by decide +kernel) (by decide +kernel) (fun r3 u H locs hF hP hD hS => ?_)
      obtain ⟨v4, v5⟩ := u
      try dsimp only at hF
      have hP : va_P G vwCl [(h_t, .inr (11, [.ref h_t_points, .ref h_t_mesh, .ref h_t_camera, .ref h_t_lamps, .ref h_t_tree, .ref h_t_crossings, .ref h_t_atHand, .ref h_t_view, .ref h_t_sight, .ref h_t_shade, .ref h_t_slope, .ref h_t_box, .ref h_t_marked, .int v_t_back])), (h_t_camera, .inr (1, [.ref h_t_camera_eye, .ref h_t_camera_axes, .ref h_t_camera_trial, .int v_t_camera_w, .int v_t_camera_h])), (h_t_camera_axes, .inl (cI, 9, .inl v4)), (h_t_camera_trial, .inl (cI, 9, .inl v5))] H := hP
      have hD : va_D A [(h_t, .inr (11, [.ref h_t_points, .ref h_t_mesh, .ref h_t_camera, .ref h_t_lamps, .ref h_t_tree, .ref h_t_crossings, .ref h_t_atHand, .ref h_t_view, .ref h_t_sight, .ref h_t_shade, .ref h_t_slope, .ref h_t_box, .ref h_t_marked, .int v_t_back])), (h_t_camera, .inr (1, [.ref h_t_camera_eye, .ref h_t_camera_axes, .ref h_t_camera_trial, .int v_t_camera_w, .int v_t_camera_h])), (h_t_camera_axes, .inl (cI, 9, .inl v4)), (h_t_camera_trial, .inl (cI, 9, .inl v5))] := hD
      refine lv_if_eq (tgt := 30) hx hb dX11_axis_23 (by decide) (fun c6 => ?_) (fun c6 => ?_)
      · have hF := hF.1 c6
        refine lv_iconst (v := (-1)) hx hb dX11_axis_30 (by decide) ?_
        exact hret 31 ls _ _ (-1) (v4, v5) dX11_axis_31 rfl hF hP hD hS
      · have hF := hF.2 c6
        refine lv_iconst (v := 0) hx hb dX11_axis_26 (by decide) ?_
        refine lv_goto (tgt := 31) hx hb dX11_axis_27 (by decide) ?_
        exact hret 31 ls _ _ 0 (v4, v5) dX11_axis_31 rfl hF hP hD hS
    · have hF := hF.2 c2
      refine lv_iconst (v := (-1)) hx hb dX11_axis_9 (by decide) ?_
      exact hret 10 ls _ _ (-1) (v_t_camera_axes, v_t_camera_trial) dX11_axis_10 rfl hF hP hD hS

def rm_X1_frame : Room := { frames := 2, cells := 0, slots := 0, locals := 57 }
def F_X1_frame (p1 : Int32) (p2 : Int32) (v_t_w : Int32) (v_t_h : Int32) (v_t_axes : Nat → Int32) (post : Int32 → Int32 → Int32 → Prop) : Prop := ((p1 < 1 → post 0 v_t_w v_t_h) ∧ (¬ p1 < 1 → ((32 < p1 → post 0 v_t_w v_t_h) ∧ (¬ 32 < p1 → ((p2 < 1 → post 0 v_t_w v_t_h) ∧ (¬ p2 < 1 → ((32 < p2 → post 0 v_t_w v_t_h) ∧ (¬ 32 < p2 → (F_X1_allRaysFit p1 p2 9 v_t_axes (fun r5 => ((¬ r5 = 0 → post 1 p1 p2) ∧ (r5 = 0 → post 0 v_t_w v_t_h))))))))))))
set_option maxHeartbeats 8000000 in
set_option maxRecDepth 100000 in
theorem c_X1_frame (l : Launch) (G : va_G) (cI cL cZ : ClassId) (h_t : Nat) (h_t_eye : Nat) (h_t_axes : Nat) (h_t_trial : Nat) (v_t_w : Int32) (v_t_h : Int32) (v_t_axes : Nat → Int32) (p1 : Int32) (p2 : Int32) (sz : Nat) (post : Int32 → Int32 → Int32 → Prop) (hF : F_X1_frame p1 p2 v_t_w v_t_h v_t_axes post) : MetI l G (gT cI cL cZ) yX1_frame (gW yX1_frame cX1_frame 3 (some .boolean)) rm_X1_frame 0 0 [.ref h_t, .int p1, .int p2] sz [(h_t, .inr (1, [.ref h_t_eye, .ref h_t_axes, .ref h_t_trial, .int v_t_w, .int v_t_h])), (h_t_axes, .inl (cI, 9, .inl v_t_axes))] (fun (u : Int32 × Int32) => [(h_t, .inr (1, [.ref h_t_eye, .ref h_t_axes, .ref h_t_trial, .int u.1, .int u.2])), (h_t_axes, .inl (cI, 9, .inl v_t_axes))]) (fun (r : Int32) (u : Int32 × Int32) => post r u.1 u.2) := by
  refine startI (cc := cX1_frame) (maxL := 3) (ty9 := .boolean) (by decide +kernel) rfl (Nat.le_of_ble_eq_true rfl) ?_
  intro p e s m args below meth c Q ls A C0 hP hD hS hl hret
  obtain ⟨hx, hb, hml, hown, hts, hnw, hK, hA, hin⟩ := C0
  have hown : s.vm.findClass RX1 = some m.cls := hown
  have hl : lv_has ls 3 [(0, .ref h_t), (1, .int p1), (2, .int p2)] := hl
  refine lv_iload_n hx hb dX1_frame_0 rfl (lv_at hl 1 rfl) ?_
  refine lv_iconst (v := 1) hx hb dX1_frame_1 (by decide) ?_
  refine lv_icmp_lt (tgt := 34) hx hb dX1_frame_2 (by decide) (fun c1 => ?_) (fun c1 => ?_)
  · have hF := hF.1 c1
    refine lv_iconst (v := 0) hx hb dX1_frame_34 (by decide) ?_
    exact hret 35 ls _ _ 0 (v_t_w, v_t_h) dX1_frame_35 (by decide) hF hP hD hS
  · have hF := hF.2 c1
    refine lv_iload_n hx hb dX1_frame_5 rfl (lv_at hl 1 rfl) ?_
    refine lv_bipush (v := 32) hx hb dX1_frame_6 (by decide) ?_
    refine lv_icmp_gt (tgt := 34) hx hb dX1_frame_8 (by decide) (fun c2 => ?_) (fun c2 => ?_)
    · have hF := hF.1 c2
      refine lv_iconst (v := 0) hx hb dX1_frame_34 (by decide) ?_
      exact hret 35 ls _ _ 0 (v_t_w, v_t_h) dX1_frame_35 (by decide) hF hP hD hS
    · have hF := hF.2 c2
      refine lv_iload_n hx hb dX1_frame_11 rfl (lv_at hl 2 rfl) ?_
      refine lv_iconst (v := 1) hx hb dX1_frame_12 (by decide) ?_
      refine lv_icmp_lt (tgt := 34) hx hb dX1_frame_13 (by decide) (fun c3 => ?_) (fun c3 => ?_)
      · have hF := hF.1 c3
        refine lv_iconst (v := 0) hx hb dX1_frame_34 (by decide) ?_
        exact hret 35 ls _ _ 0 (v_t_w, v_t_h) dX1_frame_35 (by decide) hF hP hD hS
      · have hF := hF.2 c3
        refine lv_iload_n hx hb dX1_frame_16 rfl (lv_at hl 2 rfl) ?_
        refine lv_bipush (v := 32) hx hb dX1_frame_17 (by decide) ?_
        refine lv_icmp_gt (tgt := 34) hx hb dX1_frame_19 (by decide) (fun c4 => ?_) (fun c4 => ?_)
        · have hF := hF.1 c4
          refine lv_iconst (v := 0) hx hb dX1_frame_34 (by decide) ?_
          exact hret 35 ls _ _ 0 (v_t_w, v_t_h) dX1_frame_35 (by decide) hF hP hD hS
        · have hF := hF.2 c4
          refine lv_aload_n hx hb dX1_frame_22 rfl (lv_at hl 0 rfl) ?_
          refine va_get (D := G) (ci := 1) (v := .ref h_t_axes) (C := RX1) (T := TX1) (N := 5) hx hb hts (fun w h => List.mem_cons_of_mem _ (inG_1 w h)) hown hK hP 0 rfl rfl 1 (by decide) (hts _ (List.mem_cons_of_mem _ mw_1_71)) (fun _ h9 => h9) rfl dX1_frame_23 ?_
          refine lv_iload_n hx hb dX1_frame_26 rfl (lv_at hl 1 rfl) ?_
          refine lv_iload_n hx hb dX1_frame_27 rfl (lv_at hl 2 rfl) ?_
          refine afterI (wr := [(h_t, .inr (1, [.ref h_t_eye, .ref h_t_axes, .ref h_t_trial, .int v_t_w, .int v_t_h]))]) (va_runS (As := [.ref h_t_axes, .int p1, .int p2]) (rest := []) ⟨hx, hb, hml, hown, hts⟩ (c_X1_allRaysFit l G cI cL cZ h_t_axes 9 v_t_axes p1 p2 _ _ hF) (va_cwS 3 hts (gS mw_2_171 mw_2_172 mw_1_4 mw_2_173) rfl rfl rfl (by decide +kernel) ⟨Nat.le_of_ble_eq_true rfl, Nat.le_of_ble_eq_true rfl⟩) ⟨gP_blind, gP_of hK hnw hP hD [1] (by decide +kernel) rfl rfl⟩ rfl rfl hl.1 rfl (lv_room (Nat.le_of_ble_eq_true rfl)) dX1_frame_28 ⟨Nat.le_of_ble_eq_true rfl, Nat.le_of_ble_eq_true rfl⟩) hP hD hS hA [1] [0] rfl rfl (by decide +kernel) (by decide +kernel) (fun r5 u H locs hF hP hD hS => ?_)
          try dsimp only at hF
          have hP : va_P G vwCl [(h_t, .inr (1, [.ref h_t_eye, .ref h_t_axes, .ref h_t_trial, .int v_t_w, .int v_t_h])), (h_t_axes, .inl (cI, 9, .inl v_t_axes))] H := hP
          have hD : va_D A [(h_t, .inr (1, [.ref h_t_eye, .ref h_t_axes, .ref h_t_trial, .int v_t_w, .int v_t_h])), (h_t_axes, .inl (cI, 9, .inl v_t_axes))] := hD
          refine lv_if_ne (tgt := 36) hx hb dX1_frame_31 (by decide) (fun c6 => ?_) (fun c6 => ?_)
          · have hF := hF.1 c6
            refine lv_aload_n hx hb dX1_frame_36 rfl (lv_at hl 0 rfl) ?_
            refine lv_iload_n hx hb dX1_frame_37 rfl (lv_at hl 1 rfl) ?_
            refine va_put (D := G) (ci := 1) (v := .int p1) (ty := .int) (C := RX1) (T := TX1) (N := 5) hx hb hts (fun w h => List.mem_cons_of_mem _ (inG_1 w h)) tyX1 tyX1_ok nmX1 hown hK hP hD hS 0 rfl rfl 3 (by decide) (hts _ (List.mem_cons_of_mem _ mw_1_73)) (fun _ h9 => h9) rfl (by decide +kernel) rfl rfl (Nat.le_of_ble_eq_true rfl) dX1_frame_38 (fun H locs hP hD hS => ?_)
            have hP : va_P G vwCl [(h_t, .inr (1, [.ref h_t_eye, .ref h_t_axes, .ref h_t_trial, .int p1, .int v_t_h])), (h_t_axes, .inl (cI, 9, .inl v_t_axes))] H := hP
            have hD : va_D A [(h_t, .inr (1, [.ref h_t_eye, .ref h_t_axes, .ref h_t_trial, .int p1, .int v_t_h])), (h_t_axes, .inl (cI, 9, .inl v_t_axes))] := hD
            refine lv_aload_n hx hb dX1_frame_41 rfl (lv_at hl 0 rfl) ?_
            refine lv_iload_n hx hb dX1_frame_42 rfl (lv_at hl 2 rfl) ?_
            refine va_put (D := G) (ci := 1) (v := .int p2) (ty := .int) (C := RX1) (T := TX1) (N := 5) hx hb hts (fun w h => List.mem_cons_of_mem _ (inG_1 w h)) tyX1 tyX1_ok nmX1 hown hK hP hD hS 0 rfl rfl 4 (by decide) (hts _ (List.mem_cons_of_mem _ mw_1_75)) (fun _ h9 => h9) rfl (by decide +kernel) rfl rfl (Nat.le_of_ble_eq_true rfl) dX1_frame_43 (fun H locs hP hD hS => ?_)
            have hP : va_P G vwCl [(h_t, .inr (1, [.ref h_t_eye, .ref h_t_axes, .ref h_t_trial, .int p1, .int p2])), (h_t_axes, .inl (cI, 9, .inl v_t_axes))] H := hP
            have hD : va_D A [(h_t, .inr (1, [.ref h_t_eye, .ref h_t_axes, .ref h_t_trial, .int p1, .int p2])), (h_t_axes, .inl (cI, 9, .inl v_t_axes))] := hD
            refine lv_iconst (v := 1) hx hb dX1_frame_46 (by decide) ?_
            exact hret 47 ls _ _ 1 (p1, p2) dX1_frame_47 (by decide) hF hP hD hS
          · have hF := hF.2 c6
            refine lv_iconst (v := 0) hx hb dX1_frame_34 (by decide) ?_
            exact hret 35 ls _ _ 0 (v_t_w, v_t_h) dX1_frame_35 (by decide) hF hP hD hS

def rm_X11_size : Room := { frames := 3, cells := 0, slots := 0, locals := 79 }
def F_X11_size (p1 : Int32) (p2 : Int32) (v_t_camera_w : Int32) (v_t_camera_h : Int32) (v_t_camera_axes : Nat → Int32) (post : Int32 → Int32 → Int32 → Prop) : Prop := (F_X1_frame p1 p2 v_t_camera_w v_t_camera_h v_t_camera_axes (fun r1 v2 v3 => ((r1 = 0 → post (-1) v2 v3) ∧ (¬ r1 = 0 → post 0 v2 v3))))
set_option maxHeartbeats 8000000 in
set_option maxRecDepth 100000 in
theorem c_X11_size (l : Launch) (G : va_G) (cI cL cZ : ClassId) (h_t : Nat) (h_t_points : Nat) (h_t_mesh : Nat) (h_t_camera : Nat) (h_t_lamps : Nat) (h_t_tree : Nat) (h_t_crossings : Nat) (h_t_atHand : Nat) (h_t_view : Nat) (h_t_sight : Nat) (h_t_shade : Nat) (h_t_slope : Nat) (h_t_box : Nat) (h_t_marked : Nat) (h_t_camera_eye : Nat) (h_t_camera_axes : Nat) (h_t_camera_trial : Nat) (v_t_camera_w : Int32) (v_t_camera_h : Int32) (v_t_camera_axes : Nat → Int32) (v_t_back : Int32) (p1 : Int32) (p2 : Int32) (sz : Nat) (post : Int32 → Int32 → Int32 → Prop) (hF : F_X11_size p1 p2 v_t_camera_w v_t_camera_h v_t_camera_axes post) : MetI l G (gT cI cL cZ) yX11_size (gW yX11_size cX11_size 3 (some .int)) rm_X11_size 0 0 [.ref h_t, .int p1, .int p2] sz [(h_t, .inr (11, [.ref h_t_points, .ref h_t_mesh, .ref h_t_camera, .ref h_t_lamps, .ref h_t_tree, .ref h_t_crossings, .ref h_t_atHand, .ref h_t_view, .ref h_t_sight, .ref h_t_shade, .ref h_t_slope, .ref h_t_box, .ref h_t_marked, .int v_t_back])), (h_t_camera, .inr (1, [.ref h_t_camera_eye, .ref h_t_camera_axes, .ref h_t_camera_trial, .int v_t_camera_w, .int v_t_camera_h])), (h_t_camera_axes, .inl (cI, 9, .inl v_t_camera_axes))] (fun (u : Int32 × Int32) => [(h_t, .inr (11, [.ref h_t_points, .ref h_t_mesh, .ref h_t_camera, .ref h_t_lamps, .ref h_t_tree, .ref h_t_crossings, .ref h_t_atHand, .ref h_t_view, .ref h_t_sight, .ref h_t_shade, .ref h_t_slope, .ref h_t_box, .ref h_t_marked, .int v_t_back])), (h_t_camera, .inr (1, [.ref h_t_camera_eye, .ref h_t_camera_axes, .ref h_t_camera_trial, .int u.1, .int u.2])), (h_t_camera_axes, .inl (cI, 9, .inl v_t_camera_axes))]) (fun (r : Int32) (u : Int32 × Int32) => post r u.1 u.2) := by
  refine startI (cc := cX11_size) (maxL := 3) (ty9 := .int) (by decide +kernel) rfl (Nat.le_of_ble_eq_true rfl) ?_
  intro p e s m args below meth c Q ls A C0 hP hD hS hl hret
  obtain ⟨hx, hb, hml, hown, hts, hnw, hK, hA, hin⟩ := C0
  have hown : s.vm.findClass RX11 = some m.cls := hown
  have hl : lv_has ls 3 [(0, .ref h_t), (1, .int p1), (2, .int p2)] := hl
  refine lv_aload_n hx hb dX11_size_0 rfl (lv_at hl 0 rfl) ?_
  refine va_get (D := G) (ci := 11) (v := .ref h_t_camera) (C := RX11) (T := TX11) (N := 14) hx hb hts (fun w h => List.mem_cons_of_mem _ (inG_11 w h)) hown hK hP 0 rfl rfl 2 (by decide) (hts _ (List.mem_cons_of_mem _ mw_2_43)) (fun _ h9 => h9) rfl dX11_size_1 ?_
  refine lv_iload_n hx hb dX11_size_4 rfl (lv_at hl 1 rfl) ?_
  refine lv_iload_n hx hb dX11_size_5 rfl (lv_at hl 2 rfl) ?_
  refine afterI (wr := [(h_t, .inr (11, [.ref h_t_points, .ref h_t_mesh, .ref h_t_camera, .ref h_t_lamps, .ref h_t_tree, .ref h_t_crossings, .ref h_t_atHand, .ref h_t_view, .ref h_t_sight, .ref h_t_shade, .ref h_t_slope, .ref h_t_box, .ref h_t_marked, .int v_t_back]))]) (va_runV (As := [.int p1, .int p2]) (rest := []) ⟨hx, hb, hml, hown, hts⟩ (c_X1_frame l G cI cL cZ h_t_camera h_t_camera_eye h_t_camera_axes h_t_camera_trial v_t_camera_w v_t_camera_h v_t_camera_axes p1 p2 _ _ hF) (cwV 2 hts (gV mw_2_183 mw_2_184 mw_2_185 mw_1_4 mw_2_186) rfl rfl rfl (by decide +kernel) ⟨Nat.le_of_ble_eq_true rfl, Nat.le_of_ble_eq_true rfl⟩) ⟨gP_blind, va_recv hK hP (ci := 1) (q0 := 1) rfl rfl, gP_of hK hnw hP hD [1, 2] (by decide +kernel) rfl rfl⟩ rfl rfl hl.1 rfl (lv_room (Nat.le_of_ble_eq_true rfl)) dX11_size_6 ⟨Nat.le_of_ble_eq_true rfl, Nat.le_of_ble_eq_true rfl⟩) hP hD hS hA [1, 2] [0] rfl rfl (by decide +kernel) (by decide +kernel) (fun r1 u H locs hF hP hD hS => ?_)
  obtain ⟨v2, v3⟩ := u
  try dsimp only at hF
  have hP : va_P G vwCl [(h_t, .inr (11, [.ref h_t_points, .ref h_t_mesh, .ref h_t_camera, .ref h_t_lamps, .ref h_t_tree, .ref h_t_crossings, .ref h_t_atHand, .ref h_t_view, .ref h_t_sight, .ref h_t_shade, .ref h_t_slope, .ref h_t_box, .ref h_t_marked, .int v_t_back])), (h_t_camera, .inr (1, [.ref h_t_camera_eye, .ref h_t_camera_axes, .ref h_t_camera_trial, .int v2, .int v3])), (h_t_camera_axes, .inl (cI, 9, .inl v_t_camera_axes))] H := hP
  have hD : va_D A [(h_t, .inr (11, [.ref h_t_points, .ref h_t_mesh, .ref h_t_camera, .ref h_t_lamps, .ref h_t_tree, .ref h_t_crossings, .ref h_t_atHand, .ref h_t_view, .ref h_t_sight, .ref h_t_shade, .ref h_t_slope, .ref h_t_box, .ref h_t_marked, .int v_t_back])), (h_t_camera, .inr (1, [.ref h_t_camera_eye, .ref h_t_camera_axes, .ref h_t_camera_trial, .int v2, .int v3])), (h_t_camera_axes, .inl (cI, 9, .inl v_t_camera_axes))] := hD
  refine lv_if_eq (tgt := 16) hx hb dX11_size_9 (by decide) (fun c4 => ?_) (fun c4 => ?_)
  · have hF := hF.1 c4
    refine lv_iconst (v := (-1)) hx hb dX11_size_16 (by decide) ?_
    exact hret 17 ls _ _ (-1) (v2, v3) dX11_size_17 rfl hF hP hD hS
  · have hF := hF.2 c4
    refine lv_iconst (v := 0) hx hb dX11_size_12 (by decide) ?_
    refine lv_goto (tgt := 17) hx hb dX11_size_13 (by decide) ?_
    exact hret 17 ls _ _ 0 (v2, v3) dX11_size_17 rfl hF hP hD hS

def rm_X4_has : Room := { frames := 0, cells := 0, slots := 0, locals := 0 }
def F_X4_has (p0 : Int32) (post : Int32 → Prop) : Prop := ((p0 < 0 → post 0) ∧ (¬ p0 < 0 → ((4 ≤ p0 → post 0) ∧ (¬ 4 ≤ p0 → post 1))))
set_option maxHeartbeats 8000000 in
set_option maxRecDepth 100000 in
theorem c_X4_has (l : Launch) (G : va_G) (cI cL cZ : ClassId) (p0 : Int32) (sz : Nat) (post : Int32 → Prop) (hF : F_X4_has p0 post) : MetI l G (gT cI cL cZ) yX4_has (gW yX4_has cX4_has 1 (some .boolean)) rm_X4_has 0 0 [.int p0] sz [] (fun (u : Unit) => []) (fun (r : Int32) (u : Unit) => post r) := by
  refine startI (cc := cX4_has) (maxL := 1) (ty9 := .boolean) (by decide +kernel) rfl (Nat.le_of_ble_eq_true rfl) ?_
  intro p e s m args below meth c Q ls A C0 hP hD hS hl hret
  obtain ⟨hx, hb, hml, hown, hts, hnw, hK, hA, hin⟩ := C0
  have hown : s.vm.findClass RX4 = some m.cls := hown
  have hl : lv_has ls 1 [(0, .int p0)] := hl
  refine lv_iload_n hx hb dX4_has_0 rfl (lv_at hl 0 rfl) ?_
  refine lv_if_lt (tgt := 13) hx hb dX4_has_1 (by decide) (fun c1 => ?_) (fun c1 => ?_)
  · have hF := hF.1 c1
    refine lv_iconst (v := 0) hx hb dX4_has_13 (by decide) ?_
    exact hret 14 ls _ _ 0 () dX4_has_14 (by decide) hF hP hD hS
  · have hF := hF.2 c1
    refine lv_iload_n hx hb dX4_has_4 rfl (lv_at hl 0 rfl) ?_
    refine lv_iconst (v := 4) hx hb dX4_has_5 (by decide) ?_
    refine lv_icmp_ge (tgt := 13) hx hb dX4_has_6 (by decide) (fun c2 => ?_) (fun c2 => ?_)
    · have hF := hF.1 c2
      refine lv_iconst (v := 0) hx hb dX4_has_13 (by decide) ?_
      exact hret 14 ls _ _ 0 () dX4_has_14 (by decide) hF hP hD hS
    · have hF := hF.2 c2
      refine lv_iconst (v := 1) hx hb dX4_has_9 (by decide) ?_
      refine lv_goto (tgt := 14) hx hb dX4_has_10 (by decide) ?_
      exact hret 14 ls _ _ 1 () dX4_has_14 (by decide) hF hP hD hS
