def rm_X9_branch (d : Nat) : Room := { frames := 4 + d, cells := 0, slots := 0, locals := 100 + 28 * d }
def F_X9_branch : Nat → Int32 → Int32 → Int32 → Int32 → Int32 → Int32 → Int32 → (Nat → Int32) → (Nat → Int32) → (Nat → Int32) → (Nat → Int32) → (Nat → Int32) → (Nat → Int32) → (Nat → Int32) → (Nat → Int32) → (Int32 → Int32 → Int32 → (Nat → Int32) → (Nat → Int32) → (Nat → Int32) → (Nat → Int32) → (Nat → Int32) → (Nat → Int32) → (Nat → Int32) → Prop) → Prop
  | 0 => fun _ _ _ _ _ _ _ _ _ _ _ _ _ _ _ _ => False
  | d0 + 1 => fun p2 p3 p4 p5 p6 v_t_nodes v_t_deepest v_t_order v_t_first v_t_many v_t_lower v_t_upper v_t_above v_t_bounds v_p1_corners post => (fun (d : Int32 → Int32 → Int32 → Int32 → Int32 → Int32 → Int32 → (Nat → Int32) → (Nat → Int32) → (Nat → Int32) → (Nat → Int32) → (Nat → Int32) → (Nat → Int32) → (Nat → Int32) → (Nat → Int32) → (Int32 → Int32 → Int32 → (Nat → Int32) → (Nat → Int32) → (Nat → Int32) → (Nat → Int32) → (Nat → Int32) → (Nat → Int32) → (Nat → Int32) → Prop) → Prop) => ((16 < p6 → post (-2) v_t_nodes v_t_deepest v_t_order v_t_first v_t_many v_t_lower v_t_upper v_t_above v_t_bounds) ∧ (¬ 16 < p6 → ((v_t_nodes < 255 → (∀ x3 : Int32, x3 = (v_t_nodes + 1) → (∀ x4 : Int32, x4 = (jmaxI v_t_deepest p6) → (vp_in v_t_nodes 255 ∧ (∀ g6 : Nat → Int32, g6 = upd v_t_first (v_t_nodes.toNatClampNeg) p3 → (vp_in v_t_nodes 255 ∧ (∀ g8 : Nat → Int32, g8 = upd v_t_many (v_t_nodes.toNatClampNeg) p4 → (vp_in v_t_nodes 255 ∧ (∀ g10 : Nat → Int32, g10 = upd v_t_above (v_t_nodes.toNatClampNeg) p5 → (vp_in v_t_nodes 255 ∧ (∀ g12 : Nat → Int32, g12 = upd v_t_lower (v_t_nodes.toNatClampNeg) (-2) → (vp_in v_t_nodes 255 ∧ (∀ g14 : Nat → Int32, g14 = upd v_t_upper (v_t_nodes.toNatClampNeg) (-2) → (F_X9_fitBox v_t_nodes v_t_order g6 g8 v_t_bounds v_p1_corners (fun r15 v16 => ((p4 ≤ p2 → post v_t_nodes x3 x4 v_t_order g6 g8 g12 g14 g10 v16) ∧ (¬ p4 ≤ p2 → (∀ x18 : Int32, x18 = (p4 / 2) → (F_X9_widestAxis p3 p4 v_t_order v_p1_corners (fun r19 => (F_X9_sortAlong p3 p4 r19 v_t_order v_p1_corners (fun v20 => (d p2 p3 x18 v_t_nodes (p6 + 1) x3 x4 v20 g6 g8 g12 g14 g10 v16 v_p1_corners (fun r21 v22 v23 v24 v25 v26 v27 v28 v29 v30 => (vp_in v_t_nodes 255 ∧ (∀ g32 : Nat → Int32, g32 = upd v27 (v_t_nodes.toNatClampNeg) r21 → (d p2 (p3 + x18) (p4 - x18) v_t_nodes (p6 + 1) v22 v23 v24 v25 v26 g32 v28 v29 v30 v_p1_corners (fun r33 v34 v35 v36 v37 v38 v39 v40 v41 v42 => (vp_in v_t_nodes 255 ∧ (∀ g44 : Nat → Int32, g44 = upd v40 (v_t_nodes.toNatClampNeg) r33 → post v_t_nodes v34 v35 v36 v37 v38 v39 g44 v41 v42)))))))))))))))))))))))))))))) ∧ (¬ v_t_nodes < 255 → post (-2) v_t_nodes v_t_deepest v_t_order v_t_first v_t_many v_t_lower v_t_upper v_t_above v_t_bounds))))) (F_X9_branch d0)
set_option maxHeartbeats 8000000 in
set_option maxRecDepth 100000 in
theorem c_X9_branch (l : Launch) (G : va_G) (cI cL cZ : ClassId) : ∀ (d : Nat) (h_t : Nat) (h_t_order : Nat) (h_t_first : Nat) (h_t_many : Nat) (h_t_lower : Nat) (h_t_upper : Nat) (h_t_above : Nat) (h_t_bounds : Nat) (h_t_met : Nat) (h_p1 : Nat) (h_p1_corners : Nat) (h_p1_normals : Nat) (h_p1_tones : Nat) (h_p1_trial : Nat) (h_p1_trialNormal : Nat) (v_t_nodes : Int32) (v_t_deepest : Int32) (v_t_order : Nat → Int32) (v_t_first : Nat → Int32) (v_t_many : Nat → Int32) (v_t_lower : Nat → Int32) (v_t_upper : Nat → Int32) (v_t_above : Nat → Int32) (v_t_bounds : Nat → Int32) (v_p1_corners : Nat → Int32) (v_p1_many : Int32) (p2 : Int32) (p3 : Int32) (p4 : Int32) (p5 : Int32) (p6 : Int32) (sz : Nat) (post : Int32 → Int32 → Int32 → (Nat → Int32) → (Nat → Int32) → (Nat → Int32) → (Nat → Int32) → (Nat → Int32) → (Nat → Int32) → (Nat → Int32) → Prop) (hF : F_X9_branch d p2 p3 p4 p5 p6 v_t_nodes v_t_deepest v_t_order v_t_first v_t_many v_t_lower v_t_upper v_t_above v_t_bounds v_p1_corners post), MetI l G (gT cI cL cZ) yX9_branch (gW yX9_branch cX9_branch 9 (some .int)) (rm_X9_branch d) 0 0 [.ref h_t, .ref h_p1, .int p2, .int p3, .int p4, .int p5, .int p6] sz [(h_t, .inr (9, [.ref h_t_order, .ref h_t_first, .ref h_t_many, .ref h_t_lower, .ref h_t_upper, .ref h_t_above, .ref h_t_bounds, .ref h_t_met, .int v_t_nodes, .int v_t_deepest])), (h_t_order, .inl (cI, 128, .inl v_t_order)), (h_t_first, .inl (cI, 255, .inl v_t_first)), (h_t_many, .inl (cI, 255, .inl v_t_many)), (h_t_lower, .inl (cI, 255, .inl v_t_lower)), (h_t_upper, .inl (cI, 255, .inl v_t_upper)), (h_t_above, .inl (cI, 255, .inl v_t_above)), (h_t_bounds, .inl (cI, 1530, .inl v_t_bounds)), (h_p1, .inr (5, [.ref h_p1_corners, .ref h_p1_normals, .ref h_p1_tones, .ref h_p1_trial, .ref h_p1_trialNormal, .int v_p1_many])), (h_p1_corners, .inl (cI, 1152, .inl v_p1_corners))] (fun (u : Int32 × Int32 × (Nat → Int32) × (Nat → Int32) × (Nat → Int32) × (Nat → Int32) × (Nat → Int32) × (Nat → Int32) × (Nat → Int32)) => [(h_t, .inr (9, [.ref h_t_order, .ref h_t_first, .ref h_t_many, .ref h_t_lower, .ref h_t_upper, .ref h_t_above, .ref h_t_bounds, .ref h_t_met, .int u.1, .int u.2.1])), (h_t_order, .inl (cI, 128, .inl u.2.2.1)), (h_t_first, .inl (cI, 255, .inl u.2.2.2.1)), (h_t_many, .inl (cI, 255, .inl u.2.2.2.2.1)), (h_t_lower, .inl (cI, 255, .inl u.2.2.2.2.2.1)), (h_t_upper, .inl (cI, 255, .inl u.2.2.2.2.2.2.1)), (h_t_above, .inl (cI, 255, .inl u.2.2.2.2.2.2.2.1)), (h_t_bounds, .inl (cI, 1530, .inl u.2.2.2.2.2.2.2.2)), (h_p1, .inr (5, [.ref h_p1_corners, .ref h_p1_normals, .ref h_p1_tones, .ref h_p1_trial, .ref h_p1_trialNormal, .int v_p1_many])), (h_p1_corners, .inl (cI, 1152, .inl v_p1_corners))]) (fun (r : Int32) (u : Int32 × Int32 × (Nat → Int32) × (Nat → Int32) × (Nat → Int32) × (Nat → Int32) × (Nat → Int32) × (Nat → Int32) × (Nat → Int32)) => post r u.1 u.2.1 u.2.2.1 u.2.2.2.1 u.2.2.2.2.1 u.2.2.2.2.2.1 u.2.2.2.2.2.2.1 u.2.2.2.2.2.2.2.1 u.2.2.2.2.2.2.2.2) := by
  intro d
  induction d with
  | zero =>
    intro h_t h_t_order h_t_first h_t_many h_t_lower h_t_upper h_t_above h_t_bounds h_t_met h_p1 h_p1_corners h_p1_normals h_p1_tones h_p1_trial h_p1_trialNormal v_t_nodes v_t_deepest v_t_order v_t_first v_t_many v_t_lower v_t_upper v_t_above v_t_bounds v_p1_corners v_p1_many p2 p3 p4 p5 p6 sz post hF
    exact (show False from hF).elim
  | succ d0 ih =>
    intro h_t h_t_order h_t_first h_t_many h_t_lower h_t_upper h_t_above h_t_bounds h_t_met h_p1 h_p1_corners h_p1_normals h_p1_tones h_p1_trial h_p1_trialNormal v_t_nodes v_t_deepest v_t_order v_t_first v_t_many v_t_lower v_t_upper v_t_above v_t_bounds v_p1_corners v_p1_many p2 p3 p4 p5 p6 sz post hF
    refine startI (cc := cX9_branch) (maxL := 9) (ty9 := .int) (by decide +kernel) rfl (Nat.le_of_ble_eq_true rfl) ?_
    intro p e s m args below meth c Q ls A C0 hP hD hS hl hret
    obtain ⟨hx, hb, hml, hown, hts, hnw, hK, hA, hin⟩ := C0
    have hown : s.vm.findClass RX9 = some m.cls := hown
    have hl : lv_has ls 9 [(0, .ref h_t), (1, .ref h_p1), (2, .int p2), (3, .int p3), (4, .int p4), (5, .int p5), (6, .int p6)] := hl
    refine lv_iload hx hb dX9_branch_0 (lv_at hl 6 rfl) ?_
    refine lv_bipush (v := 16) hx hb dX9_branch_2 (by decide) ?_
    refine lv_icmp_gt (tgt := 17) hx hb dX9_branch_4 (by decide) (fun c1 => ?_) (fun c1 => ?_)
    · have hF := hF.1 c1
      refine lv_bipush (v := (-2)) hx hb dX9_branch_17 (by decide) ?_
      exact hret 19 ls _ _ (-2) (v_t_nodes, v_t_deepest, v_t_order, v_t_first, v_t_many, v_t_lower, v_t_upper, v_t_above, v_t_bounds) dX9_branch_19 rfl hF hP hD hS
    · have hF := hF.2 c1
      refine lv_aload_n hx hb dX9_branch_7 rfl (lv_at hl 0 rfl) ?_
      refine va_get (D := G) (ci := 9) (v := .int v_t_nodes) (C := RX9) (T := TX9) (N := 10) hx hb hts (fun w h => List.mem_cons_of_mem _ (inG_9 w h)) hown hK hP 0 rfl rfl 8 (by decide) (hts _ (List.mem_cons_of_mem _ mw_1_121)) (fun _ h9 => h9) rfl dX9_branch_8 ?_
      refine lv_sipush (v := 255) hx hb dX9_branch_11 (by decide) ?_
      refine lv_icmp_lt (tgt := 20) hx hb dX9_branch_14 (by decide) (fun c2 => ?_) (fun c2 => ?_)
      · have hF := hF.1 c2
        refine lv_aload_n hx hb dX9_branch_20 rfl (lv_at hl 0 rfl) ?_
        refine va_get (D := G) (ci := 9) (v := .int v_t_nodes) (C := RX9) (T := TX9) (N := 10) hx hb hts (fun w h => List.mem_cons_of_mem _ (inG_9 w h)) hown hK hP 0 rfl rfl 8 (by decide) (hts _ (List.mem_cons_of_mem _ mw_1_121)) (fun _ h9 => h9) rfl dX9_branch_21 ?_
        refine lv_istore (lv' := [(7, .int v_t_nodes), (0, .ref h_t), (1, .ref h_p1), (2, .int p2), (3, .int p3), (4, .int p4), (5, .int p5), (6, .int p6)]) hx hb dX9_branch_24 hl (by decide) rfl (fun ls hl => ?_)
        refine lv_aload_n hx hb dX9_branch_26 rfl (lv_at hl 1 rfl) ?_
        refine lv_dup hx hb dX9_branch_27 rfl ?_
        refine va_get (D := G) (ci := 9) (v := .int v_t_nodes) (C := RX9) (T := TX9) (N := 10) hx hb hts (fun w h => List.mem_cons_of_mem _ (inG_9 w h)) hown hK hP 0 rfl rfl 8 (by decide) (hts _ (List.mem_cons_of_mem _ mw_1_121)) (fun _ h9 => h9) rfl dX9_branch_28 ?_
        refine lv_iconst (v := 1) hx hb dX9_branch_31 (by decide) ?_
        refine lv_iadd hx hb dX9_branch_32 ?_
        refine lv_topi (fun x3 ex3 => ?_)
        have hF := hF x3 ex3
        refine va_put (D := G) (ci := 9) (v := .int x3) (ty := .int) (C := RX9) (T := TX9) (N := 10) hx hb hts (fun w h => List.mem_cons_of_mem _ (inG_9 w h)) tyX9 tyX9_ok nmX9 hown hK hP hD hS 0 rfl rfl 8 (by decide) (hts _ (List.mem_cons_of_mem _ mw_1_121)) (fun _ h9 => h9) rfl (by decide +kernel) rfl rfl (Nat.le_of_ble_eq_true rfl) dX9_branch_33 (fun H locs hP hD hS => ?_)
        have hP : va_P G vwCl [(h_t, .inr (9, [.ref h_t_order, .ref h_t_first, .ref h_t_many, .ref h_t_lower, .ref h_t_upper, .ref h_t_above, .ref h_t_bounds, .ref h_t_met, .int x3, .int v_t_deepest])), (h_t_order, .inl (cI, 128, .inl v_t_order)), (h_t_first, .inl (cI, 255, .inl v_t_first)), (h_t_many, .inl (cI, 255, .inl v_t_many)), (h_t_lower, .inl (cI, 255, .inl v_t_lower)), (h_t_upper, .inl (cI, 255, .inl v_t_upper)), (h_t_above, .inl (cI, 255, .inl v_t_above)), (h_t_bounds, .inl (cI, 1530, .inl v_t_bounds)), (h_p1, .inr (5, [.ref h_p1_corners, .ref h_p1_normals, .ref h_p1_tones, .ref h_p1_trial, .ref h_p1_trialNormal, .int v_p1_many])), (h_p1_corners, .inl (cI, 1152, .inl v_p1_corners))] H := hP
        have hD : va_D A [(h_t, .inr (9, [.ref h_t_order, .ref h_t_first, .ref h_t_many, .ref h_t_lower, .ref h_t_upper, .ref h_t_above, .ref h_t_bounds, .ref h_t_met, .int x3, .int v_t_deepest])), (h_t_order, .inl (cI, 128, .inl v_t_order)), (h_t_first, .inl (cI, 255, .inl v_t_first)), (h_t_many, .inl (cI, 255, .inl v_t_many)), (h_t_lower, .inl (cI, 255, .inl v_t_lower)), (h_t_upper, .inl (cI, 255, .inl v_t_upper)), (h_t_above, .inl (cI, 255, .inl v_t_above)), (h_t_bounds, .inl (cI, 1530, .inl v_t_bounds)), (h_p1, .inr (5, [.ref h_p1_corners, .ref h_p1_normals, .ref h_p1_tones, .ref h_p1_trial, .ref h_p1_trialNormal, .int v_p1_many])), (h_p1_corners, .inl (cI, 1152, .inl v_p1_corners))] := hD
        refine lv_aload_n hx hb dX9_branch_36 rfl (lv_at hl 1 rfl) ?_
        refine lv_aload_n hx hb dX9_branch_37 rfl (lv_at hl 1 rfl) ?_
        refine va_get (D := G) (ci := 9) (v := .int v_t_deepest) (C := RX9) (T := TX9) (N := 10) hx hb hts (fun w h => List.mem_cons_of_mem _ (inG_9 w h)) hown hK hP 0 rfl rfl 9 (by decide) (hts _ (List.mem_cons_of_mem _ mw_1_122)) (fun _ h9 => h9) rfl dX9_branch_38 ?_
        refine lv_iload hx hb dX9_branch_41 (lv_at hl 7 rfl) ?_
        refine va_mmax hx hb (by rw [hml]; exact hl.1.symm) hown (hts _ (List.mem_cons_of_mem _ mw_2_232)) (hts _ (List.mem_cons_of_mem _ mw_2_233)) (hts _ (List.mem_cons_of_mem _ mw_1_15)) (hts _ (List.mem_cons_of_mem _ mw_2_234)) (by simp only [rm_X9_branch]; omega) (Nat.le_trans (m := 32) (Nat.le_of_ble_eq_true rfl) (by simp only [rm_X9_branch]; omega)) (Nat.le_of_ble_eq_true rfl) (Nat.le_of_ble_eq_true rfl) dX9_branch_43 ?_
        refine W.eq (g2 := F0 m 46 ls (.int (jmaxI v_t_deepest p6) :: [.ref h_t])) rfl ?_
        refine lv_topi (fun x4 ex4 => ?_)
        have hF := hF x4 ex4
        refine va_put (D := G) (ci := 9) (v := .int x4) (ty := .int) (C := RX9) (T := TX9) (N := 10) hx hb hts (fun w h => List.mem_cons_of_mem _ (inG_9 w h)) tyX9 tyX9_ok nmX9 hown hK hP hD hS 0 rfl rfl 9 (by decide) (hts _ (List.mem_cons_of_mem _ mw_1_122)) (fun _ h9 => h9) rfl (by decide +kernel) rfl rfl (Nat.le_of_ble_eq_true rfl) dX9_branch_46 (fun H locs hP hD hS => ?_)
        have hP : va_P G vwCl [(h_t, .inr (9, [.ref h_t_order, .ref h_t_first, .ref h_t_many, .ref h_t_lower, .ref h_t_upper, .ref h_t_above, .ref h_t_bounds, .ref h_t_met, .int x3, .int x4])), (h_t_order, .inl (cI, 128, .inl v_t_order)), (h_t_first, .inl (cI, 255, .inl v_t_first)), (h_t_many, .inl (cI, 255, .inl v_t_many)), (h_t_lower, .inl (cI, 255, .inl v_t_lower)), (h_t_upper, .inl (cI, 255, .inl v_t_upper)), (h_t_above, .inl (cI, 255, .inl v_t_above)), (h_t_bounds, .inl (cI, 1530, .inl v_t_bounds)), (h_p1, .inr (5, [.ref h_p1_corners, .ref h_p1_normals, .ref h_p1_tones, .ref h_p1_trial, .ref h_p1_trialNormal, .int v_p1_many])), (h_p1_corners, .inl (cI, 1152, .inl v_p1_corners))] H := hP
        have hD : va_D A [(h_t, .inr (9, [.ref h_t_order, .ref h_t_first, .ref h_t_many, .ref h_t_lower, .ref h_t_upper, .ref h_t_above, .ref h_t_bounds, .ref h_t_met, .int x3, .int x4])), (h_t_order, .inl (cI, 128, .inl v_t_order)), (h_t_first, .inl (cI, 255, .inl v_t_first)), (h_t_many, .inl (cI, 255, .inl v_t_many)), (h_t_lower, .inl (cI, 255, .inl v_t_lower)), (h_t_upper, .inl (cI, 255, .inl v_t_upper)), (h_t_above, .inl (cI, 255, .inl v_t_above)), (h_t_bounds, .inl (cI, 1530, .inl v_t_bounds)), (h_p1, .inr (5, [.ref h_p1_corners, .ref h_p1_normals, .ref h_p1_tones, .ref h_p1_trial, .ref h_p1_trialNormal, .int v_p1_many])), (h_p1_corners, .inl (cI, 1152, .inl v_p1_corners))] := hD
        refine lv_aload_n hx hb dX9_branch_49 rfl (lv_at hl 1 rfl) ?_
        refine va_get (D := G) (ci := 9) (v := .ref h_t_first) (C := RX9) (T := TX9) (N := 10) hx hb hts (fun w h => List.mem_cons_of_mem _ (inG_9 w h)) hown hK hP 0 rfl rfl 1 (by decide) (hts _ (List.mem_cons_of_mem _ mw_1_114)) (fun _ h9 => h9) rfl dX9_branch_50 ?_
        refine lv_iload hx hb dX9_branch_53 (lv_at hl 0 rfl) ?_
        refine lv_iload_n hx hb dX9_branch_55 rfl (lv_at hl 4 rfl) ?_
        obtain ⟨b5, hF⟩ := hF
        refine g_iast (t0 := 0) hx hb hK hP hD hS 2 rfl rfl b5 dX9_branch_56 (fun g6 H locs eg6 hP hD hS => ?_)
        have hF := hF g6 eg6
        have hP : va_P G vwCl [(h_t, .inr (9, [.ref h_t_order, .ref h_t_first, .ref h_t_many, .ref h_t_lower, .ref h_t_upper, .ref h_t_above, .ref h_t_bounds, .ref h_t_met, .int x3, .int x4])), (h_t_order, .inl (cI, 128, .inl v_t_order)), (h_t_first, .inl (cI, 255, .inl g6)), (h_t_many, .inl (cI, 255, .inl v_t_many)), (h_t_lower, .inl (cI, 255, .inl v_t_lower)), (h_t_upper, .inl (cI, 255, .inl v_t_upper)), (h_t_above, .inl (cI, 255, .inl v_t_above)), (h_t_bounds, .inl (cI, 1530, .inl v_t_bounds)), (h_p1, .inr (5, [.ref h_p1_corners, .ref h_p1_normals, .ref h_p1_tones, .ref h_p1_trial, .ref h_p1_trialNormal, .int v_p1_many])), (h_p1_corners, .inl (cI, 1152, .inl v_p1_corners))] H := hP
        have hD : va_D A [(h_t, .inr (9, [.ref h_t_order, .ref h_t_first, .ref h_t_many, .ref h_t_lower, .ref h_t_upper, .ref h_t_above, .ref h_t_bounds, .ref h_t_met, .int x3, .int x4])), (h_t_order, .inl (cI, 128, .inl v_t_order)), (h_t_first, .inl (cI, 255, .inl g6)), (h_t_many, .inl (cI, 255, .inl v_t_many)), (h_t_lower, .inl (cI, 255, .inl v_t_lower)), (h_t_upper, .inl (cI, 255, .inl v_t_upper)), (h_t_above, .inl (cI, 255, .inl v_t_above)), (h_t_bounds, .inl (cI, 1530, .inl v_t_bounds)), (h_p1, .inr (5, [.ref h_p1_corners, .ref h_p1_normals, .ref h_p1_tones, .ref h_p1_trial, .ref h_p1_trialNormal, .int v_p1_many])), (h_p1_corners, .inl (cI, 1152, .inl v_p1_corners))] := hD
        refine lv_aload_n hx hb dX9_branch_57 rfl (lv_at hl 1 rfl) ?_
        refine va_get (D := G) (ci := 9) (v := .ref h_t_many) (C := RX9) (T := TX9) (N := 10) hx hb hts (fun w h => List.mem_cons_of_mem _ (inG_9 w h)) hown hK hP 0 rfl rfl 2 (by decide) (hts _ (List.mem_cons_of_mem _ mw_1_115)) (fun _ h9 => h9) rfl dX9_branch_58 ?_
        refine lv_iload hx hb dX9_branch_61 (lv_at hl 0 rfl) ?_
        refine lv_iload hx hb dX9_branch_63 (lv_at hl 5 rfl) ?_
        obtain ⟨b7, hF⟩ := hF
        refine g_iast (t0 := 0) hx hb hK hP hD hS 3 rfl rfl b7 dX9_branch_65 (fun g8 H locs eg8 hP hD hS => ?_)
        have hF := hF g8 eg8
        have hP : va_P G vwCl [(h_t, .inr (9, [.ref h_t_order, .ref h_t_first, .ref h_t_many, .ref h_t_lower, .ref h_t_upper, .ref h_t_above, .ref h_t_bounds, .ref h_t_met, .int x3, .int x4])), (h_t_order, .inl (cI, 128, .inl v_t_order)), (h_t_first, .inl (cI, 255, .inl g6)), (h_t_many, .inl (cI, 255, .inl g8)), (h_t_lower, .inl (cI, 255, .inl v_t_lower)), (h_t_upper, .inl (cI, 255, .inl v_t_upper)), (h_t_above, .inl (cI, 255, .inl v_t_above)), (h_t_bounds, .inl (cI, 1530, .inl v_t_bounds)), (h_p1, .inr (5, [.ref h_p1_corners, .ref h_p1_normals, .ref h_p1_tones, .ref h_p1_trial, .ref h_p1_trialNormal, .int v_p1_many])), (h_p1_corners, .inl (cI, 1152, .inl v_p1_corners))] H := hP
        have hD : va_D A [(h_t, .inr (9, [.ref h_t_order, .ref h_t_first, .ref h_t_many, .ref h_t_lower, .ref h_t_upper, .ref h_t_above, .ref h_t_bounds, .ref h_t_met, .int x3, .int x4])), (h_t_order, .inl (cI, 128, .inl v_t_order)), (h_t_first, .inl (cI, 255, .inl g6)), (h_t_many, .inl (cI, 255, .inl g8)), (h_t_lower, .inl (cI, 255, .inl v_t_lower)), (h_t_upper, .inl (cI, 255, .inl v_t_upper)), (h_t_above, .inl (cI, 255, .inl v_t_above)), (h_t_bounds, .inl (cI, 1530, .inl v_t_bounds)), (h_p1, .inr (5, [.ref h_p1_corners, .ref h_p1_normals, .ref h_p1_tones, .ref h_p1_trial, .ref h_p1_trialNormal, .int v_p1_many])), (h_p1_corners, .inl (cI, 1152, .inl v_p1_corners))] := hD
        refine lv_aload_n hx hb dX9_branch_66 rfl (lv_at hl 1 rfl) ?_
        refine va_get (D := G) (ci := 9) (v := .ref h_t_above) (C := RX9) (T := TX9) (N := 10) hx hb hts (fun w h => List.mem_cons_of_mem _ (inG_9 w h)) hown hK hP 0 rfl rfl 5 (by decide) (hts _ (List.mem_cons_of_mem _ mw_1_118)) (fun _ h9 => h9) rfl dX9_branch_67 ?_
        refine lv_iload hx hb dX9_branch_70 (lv_at hl 0 rfl) ?_
        refine lv_iload hx hb dX9_branch_72 (lv_at hl 6 rfl) ?_
        obtain ⟨b9, hF⟩ := hF
        refine g_iast (t0 := 0) hx hb hK hP hD hS 6 rfl rfl b9 dX9_branch_74 (fun g10 H locs eg10 hP hD hS => ?_)
        have hF := hF g10 eg10
        have hP : va_P G vwCl [(h_t, .inr (9, [.ref h_t_order, .ref h_t_first, .ref h_t_many, .ref h_t_lower, .ref h_t_upper, .ref h_t_above, .ref h_t_bounds, .ref h_t_met, .int x3, .int x4])), (h_t_order, .inl (cI, 128, .inl v_t_order)), (h_t_first, .inl (cI, 255, .inl g6)), (h_t_many, .inl (cI, 255, .inl g8)), (h_t_lower, .inl (cI, 255, .inl v_t_lower)), (h_t_upper, .inl (cI, 255, .inl v_t_upper)), (h_t_above, .inl (cI, 255, .inl g10)), (h_t_bounds, .inl (cI, 1530, .inl v_t_bounds)), (h_p1, .inr (5, [.ref h_p1_corners, .ref h_p1_normals, .ref h_p1_tones, .ref h_p1_trial, .ref h_p1_trialNormal, .int v_p1_many])), (h_p1_corners, .inl (cI, 1152, .inl v_p1_corners))] H := hP
        have hD : va_D A [(h_t, .inr (9, [.ref h_t_order, .ref h_t_first, .ref h_t_many, .ref h_t_lower, .ref h_t_upper, .ref h_t_above, .ref h_t_bounds, .ref h_t_met, .int x3, .int x4])), (h_t_order, .inl (cI, 128, .inl v_t_order)), (h_t_first, .inl (cI, 255, .inl g6)), (h_t_many, .inl (cI, 255, .inl g8)), (h_t_lower, .inl (cI, 255, .inl v_t_lower)), (h_t_upper, .inl (cI, 255, .inl v_t_upper)), (h_t_above, .inl (cI, 255, .inl g10)), (h_t_bounds, .inl (cI, 1530, .inl v_t_bounds)), (h_p1, .inr (5, [.ref h_p1_corners, .ref h_p1_normals, .ref h_p1_tones, .ref h_p1_trial, .ref h_p1_trialNormal, .int v_p1_many])), (h_p1_corners, .inl (cI, 1152, .inl v_p1_corners))] := hD
        refine lv_aload_n hx hb dX9_branch_75 rfl (lv_at hl 1 rfl) ?_
        refine va_get (D := G) (ci := 9) (v := .ref h_t_lower) (C := RX9) (T := TX9) (N := 10) hx hb hts (fun w h => List.mem_cons_of_mem _ (inG_9 w h)) hown hK hP 0 rfl rfl 3 (by decide) (hts _ (List.mem_cons_of_mem _ mw_1_116)) (fun _ h9 => h9) rfl dX9_branch_76 ?_
        refine lv_iload hx hb dX9_branch_79 (lv_at hl 0 rfl) ?_
        refine lv_bipush (v := (-2)) hx hb dX9_branch_81 (by decide) ?_
        obtain ⟨b11, hF⟩ := hF
        refine g_iast (t0 := 0) hx hb hK hP hD hS 4 rfl rfl b11 dX9_branch_83 (fun g12 H locs eg12 hP hD hS => ?_)
        have hF := hF g12 eg12
        have hP : va_P G vwCl [(h_t, .inr (9, [.ref h_t_order, .ref h_t_first, .ref h_t_many, .ref h_t_lower, .ref h_t_upper, .ref h_t_above, .ref h_t_bounds, .ref h_t_met, .int x3, .int x4])), (h_t_order, .inl (cI, 128, .inl v_t_order)), (h_t_first, .inl (cI, 255, .inl g6)), (h_t_many, .inl (cI, 255, .inl g8)), (h_t_lower, .inl (cI, 255, .inl g12)), (h_t_upper, .inl (cI, 255, .inl v_t_upper)), (h_t_above, .inl (cI, 255, .inl g10)), (h_t_bounds, .inl (cI, 1530, .inl v_t_bounds)), (h_p1, .inr (5, [.ref h_p1_corners, .ref h_p1_normals, .ref h_p1_tones, .ref h_p1_trial, .ref h_p1_trialNormal, .int v_p1_many])), (h_p1_corners, .inl (cI, 1152, .inl v_p1_corners))] H := hP
        have hD : va_D A [(h_t, .inr (9, [.ref h_t_order, .ref h_t_first, .ref h_t_many, .ref h_t_lower, .ref h_t_upper, .ref h_t_above, .ref h_t_bounds, .ref h_t_met, .int x3, .int x4])), (h_t_order, .inl (cI, 128, .inl v_t_order)), (h_t_first, .inl (cI, 255, .inl g6)), (h_t_many, .inl (cI, 255, .inl g8)), (h_t_lower, .inl (cI, 255, .inl g12)), (h_t_upper, .inl (cI, 255, .inl v_t_upper)), (h_t_above, .inl (cI, 255, .inl g10)), (h_t_bounds, .inl (cI, 1530, .inl v_t_bounds)), (h_p1, .inr (5, [.ref h_p1_corners, .ref h_p1_normals, .ref h_p1_tones, .ref h_p1_trial, .ref h_p1_trialNormal, .int v_p1_many])), (h_p1_corners, .inl (cI, 1152, .inl v_p1_corners))] := hD
        refine lv_aload_n hx hb dX9_branch_84 rfl (lv_at hl 1 rfl) ?_
        refine va_get (D := G) (ci := 9) (v := .ref h_t_upper) (C := RX9) (T := TX9) (N := 10) hx hb hts (fun w h => List.mem_cons_of_mem _ (inG_9 w h)) hown hK hP 0 rfl rfl 4 (by decide) (hts _ (List.mem_cons_of_mem _ mw_1_117)) (fun _ h9 => h9) rfl dX9_branch_85 ?_
        refine lv_iload hx hb dX9_branch_88 (lv_at hl 0 rfl) ?_
        refine lv_bipush (v := (-2)) hx hb dX9_branch_90 (by decide) ?_
        obtain ⟨b13, hF⟩ := hF
        refine g_iast (t0 := 0) hx hb hK hP hD hS 5 rfl rfl b13 dX9_branch_92 (fun g14 H locs eg14 hP hD hS => ?_)
        have hF := hF g14 eg14
        have hP : va_P G vwCl [(h_t, .inr (9, [.ref h_t_order, .ref h_t_first, .ref h_t_many, .ref h_t_lower, .ref h_t_upper, .ref h_t_above, .ref h_t_bounds, .ref h_t_met, .int x3, .int x4])), (h_t_order, .inl (cI, 128, .inl v_t_order)), (h_t_first, .inl (cI, 255, .inl g6)), (h_t_many, .inl (cI, 255, .inl g8)), (h_t_lower, .inl (cI, 255, .inl g12)), (h_t_upper, .inl (cI, 255, .inl g14)), (h_t_above, .inl (cI, 255, .inl g10)), (h_t_bounds, .inl (cI, 1530, .inl v_t_bounds)), (h_p1, .inr (5, [.ref h_p1_corners, .ref h_p1_normals, .ref h_p1_tones, .ref h_p1_trial, .ref h_p1_trialNormal, .int v_p1_many])), (h_p1_corners, .inl (cI, 1152, .inl v_p1_corners))] H := hP
        have hD : va_D A [(h_t, .inr (9, [.ref h_t_order, .ref h_t_first, .ref h_t_many, .ref h_t_lower, .ref h_t_upper, .ref h_t_above, .ref h_t_bounds, .ref h_t_met, .int x3, .int x4])), (h_t_order, .inl (cI, 128, .inl v_t_order)), (h_t_first, .inl (cI, 255, .inl g6)), (h_t_many, .inl (cI, 255, .inl g8)), (h_t_lower, .inl (cI, 255, .inl g12)), (h_t_upper, .inl (cI, 255, .inl g14)), (h_t_above, .inl (cI, 255, .inl g10)), (h_t_bounds, .inl (cI, 1530, .inl v_t_bounds)), (h_p1, .inr (5, [.ref h_p1_corners, .ref h_p1_normals, .ref h_p1_tones, .ref h_p1_trial, .ref h_p1_trialNormal, .int v_p1_many])), (h_p1_corners, .inl (cI, 1152, .inl v_p1_corners))] := hD
        refine lv_aload_n hx hb dX9_branch_93 rfl (lv_at hl 1 rfl) ?_
        refine lv_aload_n hx hb dX9_branch_94 rfl (lv_at hl 2 rfl) ?_
        refine lv_iload hx hb dX9_branch_95 (lv_at hl 0 rfl) ?_
        refine afterI (wr := [(h_t_lower, .inl (cI, 255, .inl g12)), (h_t_upper, .inl (cI, 255, .inl g14)), (h_t_above, .inl (cI, 255, .inl g10))]) (va_runV (As := [.ref h_p1, .int v_t_nodes]) (rest := []) ⟨hx, hb, hml, hown, hts⟩ (c_X9_fitBox l G cI cL cZ h_t h_t_order h_t_first h_t_many h_t_lower h_t_upper h_t_above h_t_bounds h_t_met h_p1 h_p1_corners h_p1_normals h_p1_tones h_p1_trial h_p1_trialNormal v_t_order g6 g8 v_t_bounds v_p1_corners x3 x4 v_p1_many v_t_nodes _ _ hF) (cwV 2 hts (gV mw_2_235 mw_2_237 mws_4 mw_1_6 mw_2_238) rfl rfl rfl (by decide +kernel) ⟨by simp only [rm_X9_fitBox, rm_X9_branch]; omega, by simp only [rm_X9_fitBox, rm_X9_branch]; omega⟩) ⟨gP_blind, va_recv hK hP (ci := 9) (q0 := 0) rfl rfl, gP_of hK hnw hP hD [0, 1, 2, 3, 7, 8, 9] (by decide +kernel) rfl rfl⟩ rfl rfl hl.1 rfl (lv_room (Nat.le_of_ble_eq_true rfl)) dX9_branch_97 ⟨Nat.le_of_ble_eq_true rfl, Nat.le_of_ble_eq_true rfl⟩) hP hD hS hA [0, 1, 2, 3, 7, 8, 9] [4, 5, 6] rfl rfl (by decide +kernel) (by decide +kernel) (fun r15 u H locs hF hP hD hS => ?_)
        obtain ⟨v16, rfl⟩ : ∃ z, z = u := ⟨_, rfl⟩
        try dsimp only at hF
        have hP : va_P G vwCl [(h_t_lower, .inl (cI, 255, .inl g12)), (h_t_upper, .inl (cI, 255, .inl g14)), (h_t_above, .inl (cI, 255, .inl g10)), (h_t, .inr (9, [.ref h_t_order, .ref h_t_first, .ref h_t_many, .ref h_t_lower, .ref h_t_upper, .ref h_t_above, .ref h_t_bounds, .ref h_t_met, .int x3, .int x4])), (h_t_order, .inl (cI, 128, .inl v_t_order)), (h_t_first, .inl (cI, 255, .inl g6)), (h_t_many, .inl (cI, 255, .inl g8)), (h_t_bounds, .inl (cI, 1530, .inl v16)), (h_p1, .inr (5, [.ref h_p1_corners, .ref h_p1_normals, .ref h_p1_tones, .ref h_p1_trial, .ref h_p1_trialNormal, .int v_p1_many])), (h_p1_corners, .inl (cI, 1152, .inl v_p1_corners))] H := hP
        have hD : va_D A [(h_t_lower, .inl (cI, 255, .inl g12)), (h_t_upper, .inl (cI, 255, .inl g14)), (h_t_above, .inl (cI, 255, .inl g10)), (h_t, .inr (9, [.ref h_t_order, .ref h_t_first, .ref h_t_many, .ref h_t_lower, .ref h_t_upper, .ref h_t_above, .ref h_t_bounds, .ref h_t_met, .int x3, .int x4])), (h_t_order, .inl (cI, 128, .inl v_t_order)), (h_t_first, .inl (cI, 255, .inl g6)), (h_t_many, .inl (cI, 255, .inl g8)), (h_t_bounds, .inl (cI, 1530, .inl v16)), (h_p1, .inr (5, [.ref h_p1_corners, .ref h_p1_normals, .ref h_p1_tones, .ref h_p1_trial, .ref h_p1_trialNormal, .int v_p1_many])), (h_p1_corners, .inl (cI, 1152, .inl v_p1_corners))] := hD
        refine lv_pop hx hb dX9_branch_100 rfl ?_
        refine lv_iload hx hb dX9_branch_101 (lv_at hl 5 rfl) ?_
        refine lv_iload_n hx hb dX9_branch_103 rfl (lv_at hl 3 rfl) ?_
        refine lv_icmp_le (tgt := 179) hx hb dX9_branch_104 (by decide) (fun c17 => ?_) (fun c17 => ?_)
        · have hF := hF.1 c17
          refine lv_iload hx hb dX9_branch_179 (lv_at hl 0 rfl) ?_
          exact hret 181 ls _ _ v_t_nodes (x3, x4, v_t_order, g6, g8, g12, g14, g10, v16) dX9_branch_181 rfl hF (hP.sub [3, 4, 5, 6, 0, 1, 2, 7, 8, 9] rfl) (hD.sub [3, 4, 5, 6, 0, 1, 2, 7, 8, 9] (by decide +kernel) rfl) hS
        · have hF := hF.2 c17
          refine lv_iload hx hb dX9_branch_107 (lv_at hl 5 rfl) ?_
          refine lv_iconst (v := 2) hx hb dX9_branch_109 (by decide) ?_
          refine lv_idiv hx hb dX9_branch_110 (by decide) ?_
          refine lv_topi (fun x18 ex18 => ?_)
          have hF := hF x18 ex18
          refine lv_istore (lv' := [(8, .int x18), (7, .int v_t_nodes), (0, .ref h_t), (1, .ref h_p1), (2, .int p2), (3, .int p3), (4, .int p4), (5, .int p5), (6, .int p6)]) hx hb dX9_branch_111 hl (by decide) rfl (fun ls hl => ?_)
          refine lv_aload_n hx hb dX9_branch_113 rfl (lv_at hl 2 rfl) ?_
          refine lv_aload_n hx hb dX9_branch_114 rfl (lv_at hl 3 rfl) ?_
          refine lv_iload_n hx hb dX9_branch_115 rfl (lv_at hl 5 rfl) ?_
          refine lv_iload hx hb dX9_branch_116 (lv_at hl 6 rfl) ?_
          refine lv_aload_n hx hb dX9_branch_118 rfl (lv_at hl 2 rfl) ?_
          refine lv_aload_n hx hb dX9_branch_119 rfl (lv_at hl 3 rfl) ?_
          refine lv_iload_n hx hb dX9_branch_120 rfl (lv_at hl 5 rfl) ?_
          refine lv_iload hx hb dX9_branch_121 (lv_at hl 6 rfl) ?_
          refine afterI (wr := [(h_t_lower, .inl (cI, 255, .inl g12)), (h_t_upper, .inl (cI, 255, .inl g14)), (h_t_above, .inl (cI, 255, .inl g10)), (h_t_first, .inl (cI, 255, .inl g6)), (h_t_many, .inl (cI, 255, .inl g8)), (h_t_bounds, .inl (cI, 1530, .inl v16))]) (va_runV (As := [.ref h_p1, .int p3, .int p4]) (rest := [.int p4, .int p3, .ref h_p1, .ref h_t]) ⟨hx, hb, hml, hown, hts⟩ (c_X9_widestAxis l G cI cL cZ h_t h_t_order h_t_first h_t_many h_t_lower h_t_upper h_t_above h_t_bounds h_t_met h_p1 h_p1_corners h_p1_normals h_p1_tones h_p1_trial h_p1_trialNormal v_t_order v_p1_corners x3 x4 v_p1_many p3 p4 _ _ hF) (cwV 3 hts (gV mw_3_16 mw_3_18 mws_5 mw_1_6 mw_3_19) rfl rfl rfl (by decide +kernel) ⟨by simp only [rm_X9_widestAxis, rm_X9_branch]; omega, by simp only [rm_X9_widestAxis, rm_X9_branch]; omega⟩) ⟨gP_blind, va_recv hK hP (ci := 9) (q0 := 3) rfl rfl, gP_of hK hnw hP hD [3, 4, 8, 9] (by decide +kernel) rfl rfl⟩ rfl rfl hl.1 rfl (lv_room (Nat.le_of_ble_eq_true rfl)) dX9_branch_123 ⟨Nat.le_of_ble_eq_true rfl, Nat.le_of_ble_eq_true rfl⟩) hP hD hS hA [3, 4, 8, 9] [0, 1, 2, 5, 6, 7] rfl rfl (by decide +kernel) (by decide +kernel) (fun r19 u H locs hF hP hD hS => ?_)
          try dsimp only at hF
          have hP : va_P G vwCl [(h_t_lower, .inl (cI, 255, .inl g12)), (h_t_upper, .inl (cI, 255, .inl g14)), (h_t_above, .inl (cI, 255, .inl g10)), (h_t_first, .inl (cI, 255, .inl g6)), (h_t_many, .inl (cI, 255, .inl g8)), (h_t_bounds, .inl (cI, 1530, .inl v16)), (h_t, .inr (9, [.ref h_t_order, .ref h_t_first, .ref h_t_many, .ref h_t_lower, .ref h_t_upper, .ref h_t_above, .ref h_t_bounds, .ref h_t_met, .int x3, .int x4])), (h_t_order, .inl (cI, 128, .inl v_t_order)), (h_p1, .inr (5, [.ref h_p1_corners, .ref h_p1_normals, .ref h_p1_tones, .ref h_p1_trial, .ref h_p1_trialNormal, .int v_p1_many])), (h_p1_corners, .inl (cI, 1152, .inl v_p1_corners))] H := hP
          have hD : va_D A [(h_t_lower, .inl (cI, 255, .inl g12)), (h_t_upper, .inl (cI, 255, .inl g14)), (h_t_above, .inl (cI, 255, .inl g10)), (h_t_first, .inl (cI, 255, .inl g6)), (h_t_many, .inl (cI, 255, .inl g8)), (h_t_bounds, .inl (cI, 1530, .inl v16)), (h_t, .inr (9, [.ref h_t_order, .ref h_t_first, .ref h_t_many, .ref h_t_lower, .ref h_t_upper, .ref h_t_above, .ref h_t_bounds, .ref h_t_met, .int x3, .int x4])), (h_t_order, .inl (cI, 128, .inl v_t_order)), (h_p1, .inr (5, [.ref h_p1_corners, .ref h_p1_normals, .ref h_p1_tones, .ref h_p1_trial, .ref h_p1_trialNormal, .int v_p1_many])), (h_p1_corners, .inl (cI, 1152, .inl v_p1_corners))] := hD
          refine afterV (wr := [(h_t_lower, .inl (cI, 255, .inl g12)), (h_t_upper, .inl (cI, 255, .inl g14)), (h_t_above, .inl (cI, 255, .inl g10)), (h_t_first, .inl (cI, 255, .inl g6)), (h_t_many, .inl (cI, 255, .inl g8)), (h_t_bounds, .inl (cI, 1530, .inl v16))]) (va_runV (As := [.ref h_p1, .int p3, .int p4, .int r19]) (rest := []) ⟨hx, hb, hml, hown, hts⟩ (c_X9_sortAlong l G cI cL cZ h_t h_t_order h_t_first h_t_many h_t_lower h_t_upper h_t_above h_t_bounds h_t_met h_p1 h_p1_corners h_p1_normals h_p1_tones h_p1_trial h_p1_trialNormal v_t_order v_p1_corners x3 x4 v_p1_many p3 p4 r19 _ _ hF) (cwV 4 hts (gV mw_3_28 mw_3_30 mws_7 mw_1_6 mw_3_31) rfl rfl rfl (by decide +kernel) ⟨by simp only [rm_X9_sortAlong, rm_X9_branch]; omega, by simp only [rm_X9_sortAlong, rm_X9_branch]; omega⟩) ⟨gP_blind, va_recv hK hP (ci := 9) (q0 := 6) rfl rfl, gP_of hK hnw hP hD [6, 7, 8, 9] (by decide +kernel) rfl rfl⟩ rfl rfl hl.1 rfl (lv_room (Nat.le_of_ble_eq_true rfl)) dX9_branch_126 ⟨Nat.le_of_ble_eq_true rfl, Nat.le_of_ble_eq_true rfl⟩) hP hD hS hA [6, 7, 8, 9] [0, 1, 2, 3, 4, 5] rfl rfl (by decide +kernel) (by decide +kernel) (fun u H locs hF hP hD hS => ?_)
          obtain ⟨v20, rfl⟩ : ∃ z, z = u := ⟨_, rfl⟩
          try dsimp only at hF
          have hP : va_P G vwCl [(h_t_lower, .inl (cI, 255, .inl g12)), (h_t_upper, .inl (cI, 255, .inl g14)), (h_t_above, .inl (cI, 255, .inl g10)), (h_t_first, .inl (cI, 255, .inl g6)), (h_t_many, .inl (cI, 255, .inl g8)), (h_t_bounds, .inl (cI, 1530, .inl v16)), (h_t, .inr (9, [.ref h_t_order, .ref h_t_first, .ref h_t_many, .ref h_t_lower, .ref h_t_upper, .ref h_t_above, .ref h_t_bounds, .ref h_t_met, .int x3, .int x4])), (h_t_order, .inl (cI, 128, .inl v20)), (h_p1, .inr (5, [.ref h_p1_corners, .ref h_p1_normals, .ref h_p1_tones, .ref h_p1_trial, .ref h_p1_trialNormal, .int v_p1_many])), (h_p1_corners, .inl (cI, 1152, .inl v_p1_corners))] H := hP
          have hD : va_D A [(h_t_lower, .inl (cI, 255, .inl g12)), (h_t_upper, .inl (cI, 255, .inl g14)), (h_t_above, .inl (cI, 255, .inl g10)), (h_t_first, .inl (cI, 255, .inl g6)), (h_t_many, .inl (cI, 255, .inl g8)), (h_t_bounds, .inl (cI, 1530, .inl v16)), (h_t, .inr (9, [.ref h_t_order, .ref h_t_first, .ref h_t_many, .ref h_t_lower, .ref h_t_upper, .ref h_t_above, .ref h_t_bounds, .ref h_t_met, .int x3, .int x4])), (h_t_order, .inl (cI, 128, .inl v20)), (h_p1, .inr (5, [.ref h_p1_corners, .ref h_p1_normals, .ref h_p1_tones, .ref h_p1_trial, .ref h_p1_trialNormal, .int v_p1_many])), (h_p1_corners, .inl (cI, 1152, .inl v_p1_corners))] := hD
          refine lv_aload_n hx hb dX9_branch_129 rfl (lv_at hl 2 rfl) ?_
          refine va_get (D := G) (ci := 9) (v := .ref h_t_lower) (C := RX9) (T := TX9) (N := 10) hx hb hts (fun w h => List.mem_cons_of_mem _ (inG_9 w h)) hown hK hP 6 rfl rfl 3 (by decide) (hts _ (List.mem_cons_of_mem _ mw_1_116)) (fun _ h9 => h9) rfl dX9_branch_130 ?_
          refine lv_iload hx hb dX9_branch_133 (lv_at hl 1 rfl) ?_
          refine lv_aload_n hx hb dX9_branch_135 rfl (lv_at hl 2 rfl) ?_
          refine lv_aload_n hx hb dX9_branch_136 rfl (lv_at hl 3 rfl) ?_
          refine lv_iload_n hx hb dX9_branch_137 rfl (lv_at hl 4 rfl) ?_
          refine lv_iload_n hx hb dX9_branch_138 rfl (lv_at hl 5 rfl) ?_
          refine lv_iload hx hb dX9_branch_139 (lv_at hl 0 rfl) ?_
          refine lv_iload hx hb dX9_branch_141 (lv_at hl 1 rfl) ?_
          refine lv_iload hx hb dX9_branch_143 (lv_at hl 8 rfl) ?_
          refine lv_iconst (v := 1) hx hb dX9_branch_145 (by decide) ?_
          refine lv_iadd hx hb dX9_branch_146 ?_
          refine afterI (wr := []) (va_runV (As := [.ref h_p1, .int p2, .int p3, .int x18, .int v_t_nodes, .int (p6 + 1)]) (rest := [.int v_t_nodes, .ref h_t_lower]) ⟨hx, hb, hml, hown, hts⟩ (ih h_t h_t_order h_t_first h_t_many h_t_lower h_t_upper h_t_above h_t_bounds h_t_met h_p1 h_p1_corners h_p1_normals h_p1_tones h_p1_trial h_p1_trialNormal x3 x4 v20 g6 g8 g12 g14 g10 v16 v_p1_corners v_p1_many p2 p3 x18 v_t_nodes (p6 + 1) _ _ hF) (cwV 6 hts (gV mw_2_228 mw_2_230 mws_3 mw_1_6 mw_2_231) rfl rfl rfl (by decide +kernel) ⟨by simp only [rm_X9_branch, rm_X9_branch]; omega, by simp only [rm_X9_branch, rm_X9_branch]; omega⟩) ⟨gP_blind, va_recv hK hP (ci := 9) (q0 := 6) rfl rfl, gP_of hK hnw hP hD [6, 7, 3, 4, 0, 1, 2, 5, 8, 9] (by decide +kernel) rfl rfl⟩ rfl rfl hl.1 rfl (lv_room (Nat.le_of_ble_eq_true rfl)) dX9_branch_147 ⟨Nat.le_of_ble_eq_true rfl, Nat.le_of_ble_eq_true rfl⟩) hP hD hS hA [6, 7, 3, 4, 0, 1, 2, 5, 8, 9] [] rfl rfl (by decide +kernel) (by decide +kernel) (fun r21 u H locs hF hP hD hS => ?_)
          obtain ⟨v22, v23, v24, v25, v26, v27, v28, v29, v30⟩ := u
          try dsimp only at hF
          have hP : va_P G vwCl [(h_t, .inr (9, [.ref h_t_order, .ref h_t_first, .ref h_t_many, .ref h_t_lower, .ref h_t_upper, .ref h_t_above, .ref h_t_bounds, .ref h_t_met, .int v22, .int v23])), (h_t_order, .inl (cI, 128, .inl v24)), (h_t_first, .inl (cI, 255, .inl v25)), (h_t_many, .inl (cI, 255, .inl v26)), (h_t_lower, .inl (cI, 255, .inl v27)), (h_t_upper, .inl (cI, 255, .inl v28)), (h_t_above, .inl (cI, 255, .inl v29)), (h_t_bounds, .inl (cI, 1530, .inl v30)), (h_p1, .inr (5, [.ref h_p1_corners, .ref h_p1_normals, .ref h_p1_tones, .ref h_p1_trial, .ref h_p1_trialNormal, .int v_p1_many])), (h_p1_corners, .inl (cI, 1152, .inl v_p1_corners))] H := hP
          have hD : va_D A [(h_t, .inr (9, [.ref h_t_order, .ref h_t_first, .ref h_t_many, .ref h_t_lower, .ref h_t_upper, .ref h_t_above, .ref h_t_bounds, .ref h_t_met, .int v22, .int v23])), (h_t_order, .inl (cI, 128, .inl v24)), (h_t_first, .inl (cI, 255, .inl v25)), (h_t_many, .inl (cI, 255, .inl v26)), (h_t_lower, .inl (cI, 255, .inl v27)), (h_t_upper, .inl (cI, 255, .inl v28)), (h_t_above, .inl (cI, 255, .inl v29)), (h_t_bounds, .inl (cI, 1530, .inl v30)), (h_p1, .inr (5, [.ref h_p1_corners, .ref h_p1_normals, .ref h_p1_tones, .ref h_p1_trial, .ref h_p1_trialNormal, .int v_p1_many])), (h_p1_corners, .inl (cI, 1152, .inl v_p1_corners))] := hD
          obtain ⟨b31, hF⟩ := hF
          refine g_iast (t0 := 0) hx hb hK hP hD hS 4 rfl rfl b31 dX9_branch_150 (fun g32 H locs eg32 hP hD hS => ?_)
          have hF := hF g32 eg32
          have hP : va_P G vwCl [(h_t, .inr (9, [.ref h_t_order, .ref h_t_first, .ref h_t_many, .ref h_t_lower, .ref h_t_upper, .ref h_t_above, .ref h_t_bounds, .ref h_t_met, .int v22, .int v23])), (h_t_order, .inl (cI, 128, .inl v24)), (h_t_first, .inl (cI, 255, .inl v25)), (h_t_many, .inl (cI, 255, .inl v26)), (h_t_lower, .inl (cI, 255, .inl g32)), (h_t_upper, .inl (cI, 255, .inl v28)), (h_t_above, .inl (cI, 255, .inl v29)), (h_t_bounds, .inl (cI, 1530, .inl v30)), (h_p1, .inr (5, [.ref h_p1_corners, .ref h_p1_normals, .ref h_p1_tones, .ref h_p1_trial, .ref h_p1_trialNormal, .int v_p1_many])), (h_p1_corners, .inl (cI, 1152, .inl v_p1_corners))] H := hP
          have hD : va_D A [(h_t, .inr (9, [.ref h_t_order, .ref h_t_first, .ref h_t_many, .ref h_t_lower, .ref h_t_upper, .ref h_t_above, .ref h_t_bounds, .ref h_t_met, .int v22, .int v23])), (h_t_order, .inl (cI, 128, .inl v24)), (h_t_first, .inl (cI, 255, .inl v25)), (h_t_many, .inl (cI, 255, .inl v26)), (h_t_lower, .inl (cI, 255, .inl g32)), (h_t_upper, .inl (cI, 255, .inl v28)), (h_t_above, .inl (cI, 255, .inl v29)), (h_t_bounds, .inl (cI, 1530, .inl v30)), (h_p1, .inr (5, [.ref h_p1_corners, .ref h_p1_normals, .ref h_p1_tones, .ref h_p1_trial, .ref h_p1_trialNormal, .int v_p1_many])), (h_p1_corners, .inl (cI, 1152, .inl v_p1_corners))] := hD
          refine lv_aload_n hx hb dX9_branch_151 rfl (lv_at hl 2 rfl) ?_
          refine va_get (D := G) (ci := 9) (v := .ref h_t_upper) (C := RX9) (T := TX9) (N := 10) hx hb hts (fun w h => List.mem_cons_of_mem _ (inG_9 w h)) hown hK hP 0 rfl rfl 4 (by decide) (hts _ (List.mem_cons_of_mem _ mw_1_117)) (fun _ h9 => h9) rfl dX9_branch_152 ?_
          refine lv_iload hx hb dX9_branch_155 (lv_at hl 1 rfl) ?_
          refine lv_aload_n hx hb dX9_branch_157 rfl (lv_at hl 2 rfl) ?_
          refine lv_aload_n hx hb dX9_branch_158 rfl (lv_at hl 3 rfl) ?_
          refine lv_iload_n hx hb dX9_branch_159 rfl (lv_at hl 4 rfl) ?_
          refine lv_iload_n hx hb dX9_branch_160 rfl (lv_at hl 5 rfl) ?_
          refine lv_iload hx hb dX9_branch_161 (lv_at hl 0 rfl) ?_
          refine lv_iadd hx hb dX9_branch_163 ?_
          refine lv_iload hx hb dX9_branch_164 (lv_at hl 6 rfl) ?_
          refine lv_iload hx hb dX9_branch_166 (lv_at hl 0 rfl) ?_
          refine lv_isub hx hb dX9_branch_168 ?_
          refine lv_iload hx hb dX9_branch_169 (lv_at hl 1 rfl) ?_
          refine lv_iload hx hb dX9_branch_171 (lv_at hl 8 rfl) ?_
          refine lv_iconst (v := 1) hx hb dX9_branch_173 (by decide) ?_
          refine lv_iadd hx hb dX9_branch_174 ?_
          refine afterI (wr := []) (va_runV (As := [.ref h_p1, .int p2, .int (p3 + x18), .int (p4 - x18), .int v_t_nodes, .int (p6 + 1)]) (rest := [.int v_t_nodes, .ref h_t_upper]) ⟨hx, hb, hml, hown, hts⟩ (ih h_t h_t_order h_t_first h_t_many h_t_lower h_t_upper h_t_above h_t_bounds h_t_met h_p1 h_p1_corners h_p1_normals h_p1_tones h_p1_trial h_p1_trialNormal v22 v23 v24 v25 v26 g32 v28 v29 v30 v_p1_corners v_p1_many p2 (p3 + x18) (p4 - x18) v_t_nodes (p6 + 1) _ _ hF) (cwV 6 hts (gV mw_2_228 mw_2_230 mws_3 mw_1_6 mw_2_231) rfl rfl rfl (by decide +kernel) ⟨by simp only [rm_X9_branch, rm_X9_branch]; omega, by simp only [rm_X9_branch, rm_X9_branch]; omega⟩) ⟨gP_blind, va_recv hK hP (ci := 9) (q0 := 0) rfl rfl, gP_of hK hnw hP hD [0, 1, 2, 3, 4, 5, 6, 7, 8, 9] (by decide +kernel) rfl rfl⟩ rfl rfl hl.1 rfl (lv_room (Nat.le_of_ble_eq_true rfl)) dX9_branch_175 ⟨Nat.le_of_ble_eq_true rfl, Nat.le_of_ble_eq_true rfl⟩) hP hD hS hA [0, 1, 2, 3, 4, 5, 6, 7, 8, 9] [] rfl rfl (by decide +kernel) (by decide +kernel) (fun r33 u H locs hF hP hD hS => ?_)
          obtain ⟨v34, v35, v36, v37, v38, v39, v40, v41, v42⟩ := u
          try dsimp only at hF
          have hP : va_P G vwCl [(h_t, .inr (9, [.ref h_t_order, .ref h_t_first, .ref h_t_many, .ref h_t_lower, .ref h_t_upper, .ref h_t_above, .ref h_t_bounds, .ref h_t_met, .int v34, .int v35])), (h_t_order, .inl (cI, 128, .inl v36)), (h_t_first, .inl (cI, 255, .inl v37)), (h_t_many, .inl (cI, 255, .inl v38)), (h_t_lower, .inl (cI, 255, .inl v39)), (h_t_upper, .inl (cI, 255, .inl v40)), (h_t_above, .inl (cI, 255, .inl v41)), (h_t_bounds, .inl (cI, 1530, .inl v42)), (h_p1, .inr (5, [.ref h_p1_corners, .ref h_p1_normals, .ref h_p1_tones, .ref h_p1_trial, .ref h_p1_trialNormal, .int v_p1_many])), (h_p1_corners, .inl (cI, 1152, .inl v_p1_corners))] H := hP
          have hD : va_D A [(h_t, .inr (9, [.ref h_t_order, .ref h_t_first, .ref h_t_many, .ref h_t_lower, .ref h_t_upper, .ref h_t_above, .ref h_t_bounds, .ref h_t_met, .int v34, .int v35])), (h_t_order, .inl (cI, 128, .inl v36)), (h_t_first, .inl (cI, 255, .inl v37)), (h_t_many, .inl (cI, 255, .inl v38)), (h_t_lower, .inl (cI, 255, .inl v39)), (h_t_upper, .inl (cI, 255, .inl v40)), (h_t_above, .inl (cI, 255, .inl v41)), (h_t_bounds, .inl (cI, 1530, .inl v42)), (h_p1, .inr (5, [.ref h_p1_corners, .ref h_p1_normals, .ref h_p1_tones, .ref h_p1_trial, .ref h_p1_trialNormal, .int v_p1_many])), (h_p1_corners, .inl (cI, 1152, .inl v_p1_corners))] := hD
          obtain ⟨b43, hF⟩ := hF
          refine g_iast (t0 := 0) hx hb hK hP hD hS 5 rfl rfl b43 dX9_branch_178 (fun g44 H locs eg44 hP hD hS => ?_)
          have hF := hF g44 eg44
          have hP : va_P G vwCl [(h_t, .inr (9, [.ref h_t_order, .ref h_t_first, .ref h_t_many, .ref h_t_lower, .ref h_t_upper, .ref h_t_above, .ref h_t_bounds, .ref h_t_met, .int v34, .int v35])), (h_t_order, .inl (cI, 128, .inl v36)), (h_t_first, .inl (cI, 255, .inl v37)), (h_t_many, .inl (cI, 255, .inl v38)), (h_t_lower, .inl (cI, 255, .inl v39)), (h_t_upper, .inl (cI, 255, .inl g44)), (h_t_above, .inl (cI, 255, .inl v41)), (h_t_bounds, .inl (cI, 1530, .inl v42)), (h_p1, .inr (5, [.ref h_p1_corners, .ref h_p1_normals, .ref h_p1_tones, .ref h_p1_trial, .ref h_p1_trialNormal, .int v_p1_many])), (h_p1_corners, .inl (cI, 1152, .inl v_p1_corners))] H := hP
          have hD : va_D A [(h_t, .inr (9, [.ref h_t_order, .ref h_t_first, .ref h_t_many, .ref h_t_lower, .ref h_t_upper, .ref h_t_above, .ref h_t_bounds, .ref h_t_met, .int v34, .int v35])), (h_t_order, .inl (cI, 128, .inl v36)), (h_t_first, .inl (cI, 255, .inl v37)), (h_t_many, .inl (cI, 255, .inl v38)), (h_t_lower, .inl (cI, 255, .inl v39)), (h_t_upper, .inl (cI, 255, .inl g44)), (h_t_above, .inl (cI, 255, .inl v41)), (h_t_bounds, .inl (cI, 1530, .inl v42)), (h_p1, .inr (5, [.ref h_p1_corners, .ref h_p1_normals, .ref h_p1_tones, .ref h_p1_trial, .ref h_p1_trialNormal, .int v_p1_many])), (h_p1_corners, .inl (cI, 1152, .inl v_p1_corners))] := hD
          refine lv_iload hx hb dX9_branch_179 (lv_at hl 1 rfl) ?_
          exact hret 181 ls _ _ v_t_nodes (v34, v35, v36, v37, v38, v39, g44, v41, v42) dX9_branch_181 rfl hF hP hD hS
      · have hF := hF.2 c2
        refine lv_bipush (v := (-2)) hx hb dX9_branch_17 (by decide) ?_
        exact hret 19 ls _ _ (-2) (v_t_nodes, v_t_deepest, v_t_order, v_t_first, v_t_many, v_t_lower, v_t_upper, v_t_above, v_t_bounds) dX9_branch_19 rfl hF hP hD hS

def rm_X9_grow : Room := { frames := 25, cells := 0, slots := 0, locals := 688 }
def L_X9_grow_6 (post : Int32 → Int32 → (Nat → Int32) → (Nat → Int32) → (Nat → Int32) → (Nat → Int32) → (Nat → Int32) → (Nat → Int32) → (Nat → Int32) → Prop) (v_p1_many : Int32) (v_p1_corners : Nat → Int32) : Nat → Int32 → Int32 → Int32 → Int32 → (Nat → Int32) → (Nat → Int32) → (Nat → Int32) → (Nat → Int32) → (Nat → Int32) → (Nat → Int32) → (Nat → Int32) → Prop
  | 0, _, _, _, _, _, _, _, _, _, _, _ => False
  | n_6 + 1, l2, l3, v_t_nodes, v_t_deepest, v_t_order, v_t_first, v_t_many, v_t_lower, v_t_upper, v_t_above, v_t_bounds => (F_X5_many v_p1_many (fun r3 => ((r3 ≤ l3 → (F_X5_many v_p1_many (fun r5 => ((r5 ≤ 0 → post v_t_nodes v_t_deepest v_t_order v_t_first v_t_many v_t_lower v_t_upper v_t_above v_t_bounds) ∧ (¬ r5 ≤ 0 → (F_X5_many v_p1_many (fun r7 => (F_X9_branch 20 l2 0 r7 (-2) 0 v_t_nodes v_t_deepest v_t_order v_t_first v_t_many v_t_lower v_t_upper v_t_above v_t_bounds v_p1_corners (fun r8 v9 v10 v11 v12 v13 v14 v15 v16 v17 => post v9 v10 v11 v12 v13 v14 v15 v16 v17))))))))) ∧ (¬ r3 ≤ l3 → (vp_in l3 128 ∧ (∀ g19 : Nat → Int32, g19 = upd v_t_order (l3.toNatClampNeg) l3 → (∀ x20 : Int32, x20 = (l3 + 1) → L_X9_grow_6 post v_p1_many v_p1_corners n_6 l2 x20 v_t_nodes v_t_deepest g19 v_t_first v_t_many v_t_lower v_t_upper v_t_above v_t_bounds)))))))
def F_X9_grow (p2 : Int32) (v_t_nodes : Int32) (v_t_deepest : Int32) (v_t_order : Nat → Int32) (v_t_first : Nat → Int32) (v_t_many : Nat → Int32) (v_t_lower : Nat → Int32) (v_t_upper : Nat → Int32) (v_t_above : Nat → Int32) (v_t_bounds : Nat → Int32) (v_p1_many : Int32) (v_p1_corners : Nat → Int32) (post : Int32 → Int32 → (Nat → Int32) → (Nat → Int32) → (Nat → Int32) → (Nat → Int32) → (Nat → Int32) → (Nat → Int32) → (Nat → Int32) → Prop) : Prop := (F_X9_clear v_t_nodes v_t_deepest (fun v1 v2 => (∃ n0 : Nat, L_X9_grow_6 post v_p1_many v_p1_corners n0 p2 0 v1 v2 v_t_order v_t_first v_t_many v_t_lower v_t_upper v_t_above v_t_bounds)))
set_option maxHeartbeats 8000000 in
set_option maxRecDepth 100000 in
theorem c_X9_grow (l : Launch) (G : va_G) (cI cL cZ : ClassId) (h_t : Nat) (h_t_order : Nat) (h_t_first : Nat) (h_t_many : Nat) (h_t_lower : Nat) (h_t_upper : Nat) (h_t_above : Nat) (h_t_bounds : Nat) (h_t_met : Nat) (h_p1 : Nat) (h_p1_corners : Nat) (h_p1_normals : Nat) (h_p1_tones : Nat) (h_p1_trial : Nat) (h_p1_trialNormal : Nat) (v_t_nodes : Int32) (v_t_deepest : Int32) (v_t_order : Nat → Int32) (v_t_first : Nat → Int32) (v_t_many : Nat → Int32) (v_t_lower : Nat → Int32) (v_t_upper : Nat → Int32) (v_t_above : Nat → Int32) (v_t_bounds : Nat → Int32) (v_p1_many : Int32) (v_p1_corners : Nat → Int32) (p2 : Int32) (sz : Nat) (post : Int32 → Int32 → (Nat → Int32) → (Nat → Int32) → (Nat → Int32) → (Nat → Int32) → (Nat → Int32) → (Nat → Int32) → (Nat → Int32) → Prop) (hF : F_X9_grow p2 v_t_nodes v_t_deepest v_t_order v_t_first v_t_many v_t_lower v_t_upper v_t_above v_t_bounds v_p1_many v_p1_corners post) : MetV l G (gT cI cL cZ) yX9_grow (gW yX9_grow cX9_grow 4 none) rm_X9_grow 0 0 [.ref h_t, .ref h_p1, .int p2] sz [(h_t, .inr (9, [.ref h_t_order, .ref h_t_first, .ref h_t_many, .ref h_t_lower, .ref h_t_upper, .ref h_t_above, .ref h_t_bounds, .ref h_t_met, .int v_t_nodes, .int v_t_deepest])), (h_t_order, .inl (cI, 128, .inl v_t_order)), (h_t_first, .inl (cI, 255, .inl v_t_first)), (h_t_many, .inl (cI, 255, .inl v_t_many)), (h_t_lower, .inl (cI, 255, .inl v_t_lower)), (h_t_upper, .inl (cI, 255, .inl v_t_upper)), (h_t_above, .inl (cI, 255, .inl v_t_above)), (h_t_bounds, .inl (cI, 1530, .inl v_t_bounds)), (h_p1, .inr (5, [.ref h_p1_corners, .ref h_p1_normals, .ref h_p1_tones, .ref h_p1_trial, .ref h_p1_trialNormal, .int v_p1_many])), (h_p1_corners, .inl (cI, 1152, .inl v_p1_corners))] (fun (u : Int32 × Int32 × (Nat → Int32) × (Nat → Int32) × (Nat → Int32) × (Nat → Int32) × (Nat → Int32) × (Nat → Int32) × (Nat → Int32)) => [(h_t, .inr (9, [.ref h_t_order, .ref h_t_first, .ref h_t_many, .ref h_t_lower, .ref h_t_upper, .ref h_t_above, .ref h_t_bounds, .ref h_t_met, .int u.1, .int u.2.1])), (h_t_order, .inl (cI, 128, .inl u.2.2.1)), (h_t_first, .inl (cI, 255, .inl u.2.2.2.1)), (h_t_many, .inl (cI, 255, .inl u.2.2.2.2.1)), (h_t_lower, .inl (cI, 255, .inl u.2.2.2.2.2.1)), (h_t_upper, .inl (cI, 255, .inl u.2.2.2.2.2.2.1)), (h_t_above, .inl (cI, 255, .inl u.2.2.2.2.2.2.2.1)), (h_t_bounds, .inl (cI, 1530, .inl u.2.2.2.2.2.2.2.2)), (h_p1, .inr (5, [.ref h_p1_corners, .ref h_p1_normals, .ref h_p1_tones, .ref h_p1_trial, .ref h_p1_trialNormal, .int v_p1_many])), (h_p1_corners, .inl (cI, 1152, .inl v_p1_corners))]) (fun (u : Int32 × Int32 × (Nat → Int32) × (Nat → Int32) × (Nat → Int32) × (Nat → Int32) × (Nat → Int32) × (Nat → Int32) × (Nat → Int32)) => post u.1 u.2.1 u.2.2.1 u.2.2.2.1 u.2.2.2.2.1 u.2.2.2.2.2.1 u.2.2.2.2.2.2.1 u.2.2.2.2.2.2.2.1 u.2.2.2.2.2.2.2.2) := by
  refine startV (cc := cX9_grow) (maxL := 4) (by decide +kernel) rfl (Nat.le_of_ble_eq_true rfl) ?_
  intro p e s m args below meth c Q ls A C0 hP hD hS hl hret
  obtain ⟨hx, hb, hml, hown, hts, hnw, hK, hA, hin⟩ := C0
  have hown : s.vm.findClass RX9 = some m.cls := hown
  have hl : lv_has ls 4 [(0, .ref h_t), (1, .ref h_p1), (2, .int p2)] := hl
  refine lv_aload_n hx hb dX9_grow_0 rfl (lv_at hl 0 rfl) ?_
  refine afterV (wr := [(h_t_order, .inl (cI, 128, .inl v_t_order)), (h_t_first, .inl (cI, 255, .inl v_t_first)), (h_t_many, .inl (cI, 255, .inl v_t_many)), (h_t_lower, .inl (cI, 255, .inl v_t_lower)), (h_t_upper, .inl (cI, 255, .inl v_t_upper)), (h_t_above, .inl (cI, 255, .inl v_t_above)), (h_t_bounds, .inl (cI, 1530, .inl v_t_bounds)), (h_p1, .inr (5, [.ref h_p1_corners, .ref h_p1_normals, .ref h_p1_tones, .ref h_p1_trial, .ref h_p1_trialNormal, .int v_p1_many])), (h_p1_corners, .inl (cI, 1152, .inl v_p1_corners))]) (va_runV (As := []) (rest := []) ⟨hx, hb, hml, hown, hts⟩ (c_X9_clear l G cI cL cZ h_t h_t_order h_t_first h_t_many h_t_lower h_t_upper h_t_above h_t_bounds h_t_met v_t_nodes v_t_deepest _ _ hF) (cwV 0 hts (gV mw_2_223 mw_2_134 mw_2_135 mw_1_6 mw_2_136) rfl rfl rfl (by decide +kernel) ⟨Nat.le_of_ble_eq_true rfl, Nat.le_of_ble_eq_true rfl⟩) ⟨gP_blind, va_recv hK hP (ci := 9) (q0 := 0) rfl rfl, gP_of hK hnw hP hD [0] (by decide +kernel) rfl rfl⟩ rfl rfl hl.1 rfl (lv_room (Nat.le_of_ble_eq_true rfl)) dX9_grow_1 ⟨Nat.le_of_ble_eq_true rfl, Nat.le_of_ble_eq_true rfl⟩) hP hD hS hA [0] [1, 2, 3, 4, 5, 6, 7, 8, 9] rfl rfl (by decide +kernel) (by decide +kernel) (fun u H locs hF hP hD hS => ?_)
  obtain ⟨v1, v2⟩ := u
  try dsimp only at hF
  have hP : va_P G vwCl [(h_t_order, .inl (cI, 128, .inl v_t_order)), (h_t_first, .inl (cI, 255, .inl v_t_first)), (h_t_many, .inl (cI, 255, .inl v_t_many)), (h_t_lower, .inl (cI, 255, .inl v_t_lower)), (h_t_upper, .inl (cI, 255, .inl v_t_upper)), (h_t_above, .inl (cI, 255, .inl v_t_above)), (h_t_bounds, .inl (cI, 1530, .inl v_t_bounds)), (h_p1, .inr (5, [.ref h_p1_corners, .ref h_p1_normals, .ref h_p1_tones, .ref h_p1_trial, .ref h_p1_trialNormal, .int v_p1_many])), (h_p1_corners, .inl (cI, 1152, .inl v_p1_corners)), (h_t, .inr (9, [.ref h_t_order, .ref h_t_first, .ref h_t_many, .ref h_t_lower, .ref h_t_upper, .ref h_t_above, .ref h_t_bounds, .ref h_t_met, .int v1, .int v2]))] H := hP
  have hD : va_D A [(h_t_order, .inl (cI, 128, .inl v_t_order)), (h_t_first, .inl (cI, 255, .inl v_t_first)), (h_t_many, .inl (cI, 255, .inl v_t_many)), (h_t_lower, .inl (cI, 255, .inl v_t_lower)), (h_t_upper, .inl (cI, 255, .inl v_t_upper)), (h_t_above, .inl (cI, 255, .inl v_t_above)), (h_t_bounds, .inl (cI, 1530, .inl v_t_bounds)), (h_p1, .inr (5, [.ref h_p1_corners, .ref h_p1_normals, .ref h_p1_tones, .ref h_p1_trial, .ref h_p1_trialNormal, .int v_p1_many])), (h_p1_corners, .inl (cI, 1152, .inl v_p1_corners)), (h_t, .inr (9, [.ref h_t_order, .ref h_t_first, .ref h_t_many, .ref h_t_lower, .ref h_t_upper, .ref h_t_above, .ref h_t_bounds, .ref h_t_met, .int v1, .int v2]))] := hD
  refine lv_iconst (v := 0) hx hb dX9_grow_4 (by decide) ?_
  refine lv_istore_n (lv' := [(3, .int 0), (0, .ref h_t), (1, .ref h_p1), (2, .int p2)]) hx hb dX9_grow_5 rfl hl (by decide) rfl (fun ls hl => ?_)
  have k_6 : ∀ (n_6 : Nat) (l2 : Int32) (l3 : Int32) (v_t_nodes : Int32) (v_t_deepest : Int32) (v_t_order : Nat → Int32) (v_t_first : Nat → Int32) (v_t_many : Nat → Int32) (v_t_lower : Nat → Int32) (v_t_upper : Nat → Int32) (v_t_above : Nat → Int32) (v_t_bounds : Nat → Int32), L_X9_grow_6 post v_p1_many v_p1_corners n_6 l2 l3 v_t_nodes v_t_deepest v_t_order v_t_first v_t_many v_t_lower v_t_upper v_t_above v_t_bounds → ∀ (H : Heap) (locs : List Loc) (ls : Array Slot), va_P G vwCl [(h_t, .inr (9, [.ref h_t_order, .ref h_t_first, .ref h_t_many, .ref h_t_lower, .ref h_t_upper, .ref h_t_above, .ref h_t_bounds, .ref h_t_met, .int v_t_nodes, .int v_t_deepest])), (h_t_order, .inl (cI, 128, .inl v_t_order)), (h_t_first, .inl (cI, 255, .inl v_t_first)), (h_t_many, .inl (cI, 255, .inl v_t_many)), (h_t_lower, .inl (cI, 255, .inl v_t_lower)), (h_t_upper, .inl (cI, 255, .inl v_t_upper)), (h_t_above, .inl (cI, 255, .inl v_t_above)), (h_t_bounds, .inl (cI, 1530, .inl v_t_bounds)), (h_p1, .inr (5, [.ref h_p1_corners, .ref h_p1_normals, .ref h_p1_tones, .ref h_p1_trial, .ref h_p1_trialNormal, .int v_p1_many])), (h_p1_corners, .inl (cI, 1152, .inl v_p1_corners))] H → va_D A [(h_t, .inr (9, [.ref h_t_order, .ref h_t_first, .ref h_t_many, .ref h_t_lower, .ref h_t_upper, .ref h_t_above, .ref h_t_bounds, .ref h_t_met, .int v_t_nodes, .int v_t_deepest])), (h_t_order, .inl (cI, 128, .inl v_t_order)), (h_t_first, .inl (cI, 255, .inl v_t_first)), (h_t_many, .inl (cI, 255, .inl v_t_many)), (h_t_lower, .inl (cI, 255, .inl v_t_lower)), (h_t_upper, .inl (cI, 255, .inl v_t_upper)), (h_t_above, .inl (cI, 255, .inl v_t_above)), (h_t_bounds, .inl (cI, 1530, .inl v_t_bounds)), (h_p1, .inr (5, [.ref h_p1_corners, .ref h_p1_normals, .ref h_p1_tones, .ref h_p1_trial, .ref h_p1_trialNormal, .int v_p1_many])), (h_p1_corners, .inl (cI, 1152, .inl v_p1_corners))] → va_S A s.heap H locs → lv_has ls 4 [(0, .ref h_t), (1, .ref h_p1), (2, .int l2), (3, .int l3)] → W p l e rm_X9_grow s m args below meth c H locs 0 0 Q (F0 m 6 ls []) := by
    intro n_6
    induction n_6 with
    | zero =>
      intro l2 l3 v_t_nodes v_t_deepest v_t_order v_t_first v_t_many v_t_lower v_t_upper v_t_above v_t_bounds hF
      exact (show False from hF).elim
    | succ n_6 k_6 =>
      intro l2 l3 v_t_nodes v_t_deepest v_t_order v_t_first v_t_many v_t_lower v_t_upper v_t_above v_t_bounds hF H locs ls hP hD hS hl
      refine lv_iload_n hx hb dX9_grow_6 rfl (lv_at hl 3 rfl) ?_
      refine lv_aload_n hx hb dX9_grow_7 rfl (lv_at hl 1 rfl) ?_
      refine afterI (wr := [(h_t, .inr (9, [.ref h_t_order, .ref h_t_first, .ref h_t_many, .ref h_t_lower, .ref h_t_upper, .ref h_t_above, .ref h_t_bounds, .ref h_t_met, .int v_t_nodes, .int v_t_deepest])), (h_t_order, .inl (cI, 128, .inl v_t_order)), (h_t_first, .inl (cI, 255, .inl v_t_first)), (h_t_many, .inl (cI, 255, .inl v_t_many)), (h_t_lower, .inl (cI, 255, .inl v_t_lower)), (h_t_upper, .inl (cI, 255, .inl v_t_upper)), (h_t_above, .inl (cI, 255, .inl v_t_above)), (h_t_bounds, .inl (cI, 1530, .inl v_t_bounds)), (h_p1_corners, .inl (cI, 1152, .inl v_p1_corners))]) (va_runV (As := []) (rest := [.int l3]) ⟨hx, hb, hml, hown, hts⟩ (c_X5_many l G cI cL cZ h_p1 h_p1_corners h_p1_normals h_p1_tones h_p1_trial h_p1_trialNormal v_p1_many _ _ hF) (cwV 0 hts (gV mw_2_224 mw_2_225 mw_2_226 mw_1_3 mw_2_227) rfl rfl rfl (by decide +kernel) ⟨Nat.le_of_ble_eq_true rfl, Nat.le_of_ble_eq_true rfl⟩) ⟨gP_blind, va_recv hK hP (ci := 5) (q0 := 8) rfl rfl, gP_of hK hnw hP hD [8] (by decide +kernel) rfl rfl⟩ rfl rfl hl.1 rfl (lv_room (Nat.le_of_ble_eq_true rfl)) dX9_grow_8 ⟨Nat.le_of_ble_eq_true rfl, Nat.le_of_ble_eq_true rfl⟩) hP hD hS hA [8] [0, 1, 2, 3, 4, 5, 6, 7, 9] rfl rfl (by decide +kernel) (by decide +kernel) (fun r3 u H locs hF hP hD hS => ?_)
      try dsimp only at hF
      have hP : va_P G vwCl [(h_t, .inr (9, [.ref h_t_order, .ref h_t_first, .ref h_t_many, .ref h_t_lower, .ref h_t_upper, .ref h_t_above, .ref h_t_bounds, .ref h_t_met, .int v_t_nodes, .int v_t_deepest])), (h_t_order, .inl (cI, 128, .inl v_t_order)), (h_t_first, .inl (cI, 255, .inl v_t_first)), (h_t_many, .inl (cI, 255, .inl v_t_many)), (h_t_lower, .inl (cI, 255, .inl v_t_lower)), (h_t_upper, .inl (cI, 255, .inl v_t_upper)), (h_t_above, .inl (cI, 255, .inl v_t_above)), (h_t_bounds, .inl (cI, 1530, .inl v_t_bounds)), (h_p1_corners, .inl (cI, 1152, .inl v_p1_corners)), (h_p1, .inr (5, [.ref h_p1_corners, .ref h_p1_normals, .ref h_p1_tones, .ref h_p1_trial, .ref h_p1_trialNormal, .int v_p1_many]))] H := hP
      have hD : va_D A [(h_t, .inr (9, [.ref h_t_order, .ref h_t_first, .ref h_t_many, .ref h_t_lower, .ref h_t_upper, .ref h_t_above, .ref h_t_bounds, .ref h_t_met, .int v_t_nodes, .int v_t_deepest])), (h_t_order, .inl (cI, 128, .inl v_t_order)), (h_t_first, .inl (cI, 255, .inl v_t_first)), (h_t_many, .inl (cI, 255, .inl v_t_many)), (h_t_lower, .inl (cI, 255, .inl v_t_lower)), (h_t_upper, .inl (cI, 255, .inl v_t_upper)), (h_t_above, .inl (cI, 255, .inl v_t_above)), (h_t_bounds, .inl (cI, 1530, .inl v_t_bounds)), (h_p1_corners, .inl (cI, 1152, .inl v_p1_corners)), (h_p1, .inr (5, [.ref h_p1_corners, .ref h_p1_normals, .ref h_p1_tones, .ref h_p1_trial, .ref h_p1_trialNormal, .int v_p1_many]))] := hD
      refine lv_icmp_ge (tgt := 27) hx hb dX9_grow_11 (by decide) (fun c4 => ?_) (fun c4 => ?_)
      · have hF := hF.1 c4
        refine lv_aload_n hx hb dX9_grow_27 rfl (lv_at hl 1 rfl) ?_
        refine afterI (wr := [(h_t, .inr (9, [.ref h_t_order, .ref h_t_first, .ref h_t_many, .ref h_t_lower, .ref h_t_upper, .ref h_t_above, .ref h_t_bounds, .ref h_t_met, .int v_t_nodes, .int v_t_deepest])), (h_t_order, .inl (cI, 128, .inl v_t_order)), (h_t_first, .inl (cI, 255, .inl v_t_first)), (h_t_many, .inl (cI, 255, .inl v_t_many)), (h_t_lower, .inl (cI, 255, .inl v_t_lower)), (h_t_upper, .inl (cI, 255, .inl v_t_upper)), (h_t_above, .inl (cI, 255, .inl v_t_above)), (h_t_bounds, .inl (cI, 1530, .inl v_t_bounds)), (h_p1_corners, .inl (cI, 1152, .inl v_p1_corners))]) (va_runV (As := []) (rest := []) ⟨hx, hb, hml, hown, hts⟩ (c_X5_many l G cI cL cZ h_p1 h_p1_corners h_p1_normals h_p1_tones h_p1_trial h_p1_trialNormal v_p1_many _ _ hF) (cwV 0 hts (gV mw_2_224 mw_2_225 mw_2_226 mw_1_3 mw_2_227) rfl rfl rfl (by decide +kernel) ⟨Nat.le_of_ble_eq_true rfl, Nat.le_of_ble_eq_true rfl⟩) ⟨gP_blind, va_recv hK hP (ci := 5) (q0 := 9) rfl rfl, gP_of hK hnw hP hD [9] (by decide +kernel) rfl rfl⟩ rfl rfl hl.1 rfl (lv_room (Nat.le_of_ble_eq_true rfl)) dX9_grow_28 ⟨Nat.le_of_ble_eq_true rfl, Nat.le_of_ble_eq_true rfl⟩) hP hD hS hA [9] [0, 1, 2, 3, 4, 5, 6, 7, 8] rfl rfl (by decide +kernel) (by decide +kernel) (fun r5 u H locs hF hP hD hS => ?_)
        try dsimp only at hF
        have hP : va_P G vwCl [(h_t, .inr (9, [.ref h_t_order, .ref h_t_first, .ref h_t_many, .ref h_t_lower, .ref h_t_upper, .ref h_t_above, .ref h_t_bounds, .ref h_t_met, .int v_t_nodes, .int v_t_deepest])), (h_t_order, .inl (cI, 128, .inl v_t_order)), (h_t_first, .inl (cI, 255, .inl v_t_first)), (h_t_many, .inl (cI, 255, .inl v_t_many)), (h_t_lower, .inl (cI, 255, .inl v_t_lower)), (h_t_upper, .inl (cI, 255, .inl v_t_upper)), (h_t_above, .inl (cI, 255, .inl v_t_above)), (h_t_bounds, .inl (cI, 1530, .inl v_t_bounds)), (h_p1_corners, .inl (cI, 1152, .inl v_p1_corners)), (h_p1, .inr (5, [.ref h_p1_corners, .ref h_p1_normals, .ref h_p1_tones, .ref h_p1_trial, .ref h_p1_trialNormal, .int v_p1_many]))] H := hP
        have hD : va_D A [(h_t, .inr (9, [.ref h_t_order, .ref h_t_first, .ref h_t_many, .ref h_t_lower, .ref h_t_upper, .ref h_t_above, .ref h_t_bounds, .ref h_t_met, .int v_t_nodes, .int v_t_deepest])), (h_t_order, .inl (cI, 128, .inl v_t_order)), (h_t_first, .inl (cI, 255, .inl v_t_first)), (h_t_many, .inl (cI, 255, .inl v_t_many)), (h_t_lower, .inl (cI, 255, .inl v_t_lower)), (h_t_upper, .inl (cI, 255, .inl v_t_upper)), (h_t_above, .inl (cI, 255, .inl v_t_above)), (h_t_bounds, .inl (cI, 1530, .inl v_t_bounds)), (h_p1_corners, .inl (cI, 1152, .inl v_p1_corners)), (h_p1, .inr (5, [.ref h_p1_corners, .ref h_p1_normals, .ref h_p1_tones, .ref h_p1_trial, .ref h_p1_trialNormal, .int v_p1_many]))] := hD
        refine lv_if_le (tgt := 49) hx hb dX9_grow_31 (by decide) (fun c6 => ?_) (fun c6 => ?_)
        · have hF := hF.1 c6
          exact hret 49 ls _ _ (v_t_nodes, v_t_deepest, v_t_order, v_t_first, v_t_many, v_t_lower, v_t_upper, v_t_above, v_t_bounds) dX9_grow_49  hF (hP.sub [0, 1, 2, 3, 4, 5, 6, 7, 9, 8] rfl) (hD.sub [0, 1, 2, 3, 4, 5, 6, 7, 9, 8] (by decide +kernel) rfl) hS
        · have hF := hF.2 c6
          refine lv_aload_n hx hb dX9_grow_34 rfl (lv_at hl 0 rfl) ?_
          refine lv_aload_n hx hb dX9_grow_35 rfl (lv_at hl 1 rfl) ?_
          refine lv_iload_n hx hb dX9_grow_36 rfl (lv_at hl 2 rfl) ?_
          refine lv_iconst (v := 0) hx hb dX9_grow_37 (by decide) ?_
          refine lv_aload_n hx hb dX9_grow_38 rfl (lv_at hl 1 rfl) ?_
          refine afterI (wr := [(h_t, .inr (9, [.ref h_t_order, .ref h_t_first, .ref h_t_many, .ref h_t_lower, .ref h_t_upper, .ref h_t_above, .ref h_t_bounds, .ref h_t_met, .int v_t_nodes, .int v_t_deepest])), (h_t_order, .inl (cI, 128, .inl v_t_order)), (h_t_first, .inl (cI, 255, .inl v_t_first)), (h_t_many, .inl (cI, 255, .inl v_t_many)), (h_t_lower, .inl (cI, 255, .inl v_t_lower)), (h_t_upper, .inl (cI, 255, .inl v_t_upper)), (h_t_above, .inl (cI, 255, .inl v_t_above)), (h_t_bounds, .inl (cI, 1530, .inl v_t_bounds)), (h_p1_corners, .inl (cI, 1152, .inl v_p1_corners))]) (va_runV (As := []) (rest := [.int 0, .int l2, .ref h_p1, .ref h_t]) ⟨hx, hb, hml, hown, hts⟩ (c_X5_many l G cI cL cZ h_p1 h_p1_corners h_p1_normals h_p1_tones h_p1_trial h_p1_trialNormal v_p1_many _ _ hF) (cwV 0 hts (gV mw_2_224 mw_2_225 mw_2_226 mw_1_3 mw_2_227) rfl rfl rfl (by decide +kernel) ⟨Nat.le_of_ble_eq_true rfl, Nat.le_of_ble_eq_true rfl⟩) ⟨gP_blind, va_recv hK hP (ci := 5) (q0 := 9) rfl rfl, gP_of hK hnw hP hD [9] (by decide +kernel) rfl rfl⟩ rfl rfl hl.1 rfl (lv_room (Nat.le_of_ble_eq_true rfl)) dX9_grow_39 ⟨Nat.le_of_ble_eq_true rfl, Nat.le_of_ble_eq_true rfl⟩) hP hD hS hA [9] [0, 1, 2, 3, 4, 5, 6, 7, 8] rfl rfl (by decide +kernel) (by decide +kernel) (fun r7 u H locs hF hP hD hS => ?_)
          try dsimp only at hF
          have hP : va_P G vwCl [(h_t, .inr (9, [.ref h_t_order, .ref h_t_first, .ref h_t_many, .ref h_t_lower, .ref h_t_upper, .ref h_t_above, .ref h_t_bounds, .ref h_t_met, .int v_t_nodes, .int v_t_deepest])), (h_t_order, .inl (cI, 128, .inl v_t_order)), (h_t_first, .inl (cI, 255, .inl v_t_first)), (h_t_many, .inl (cI, 255, .inl v_t_many)), (h_t_lower, .inl (cI, 255, .inl v_t_lower)), (h_t_upper, .inl (cI, 255, .inl v_t_upper)), (h_t_above, .inl (cI, 255, .inl v_t_above)), (h_t_bounds, .inl (cI, 1530, .inl v_t_bounds)), (h_p1_corners, .inl (cI, 1152, .inl v_p1_corners)), (h_p1, .inr (5, [.ref h_p1_corners, .ref h_p1_normals, .ref h_p1_tones, .ref h_p1_trial, .ref h_p1_trialNormal, .int v_p1_many]))] H := hP
          have hD : va_D A [(h_t, .inr (9, [.ref h_t_order, .ref h_t_first, .ref h_t_many, .ref h_t_lower, .ref h_t_upper, .ref h_t_above, .ref h_t_bounds, .ref h_t_met, .int v_t_nodes, .int v_t_deepest])), (h_t_order, .inl (cI, 128, .inl v_t_order)), (h_t_first, .inl (cI, 255, .inl v_t_first)), (h_t_many, .inl (cI, 255, .inl v_t_many)), (h_t_lower, .inl (cI, 255, .inl v_t_lower)), (h_t_upper, .inl (cI, 255, .inl v_t_upper)), (h_t_above, .inl (cI, 255, .inl v_t_above)), (h_t_bounds, .inl (cI, 1530, .inl v_t_bounds)), (h_p1_corners, .inl (cI, 1152, .inl v_p1_corners)), (h_p1, .inr (5, [.ref h_p1_corners, .ref h_p1_normals, .ref h_p1_tones, .ref h_p1_trial, .ref h_p1_trialNormal, .int v_p1_many]))] := hD
          refine lv_bipush (v := (-2)) hx hb dX9_grow_42 (by decide) ?_
          refine lv_iconst (v := 0) hx hb dX9_grow_44 (by decide) ?_
          refine afterI (wr := []) (va_runV (As := [.ref h_p1, .int l2, .int 0, .int r7, .int (-2), .int 0]) (rest := []) ⟨hx, hb, hml, hown, hts⟩ (c_X9_branch l G cI cL cZ 20 h_t h_t_order h_t_first h_t_many h_t_lower h_t_upper h_t_above h_t_bounds h_t_met h_p1 h_p1_corners h_p1_normals h_p1_tones h_p1_trial h_p1_trialNormal v_t_nodes v_t_deepest v_t_order v_t_first v_t_many v_t_lower v_t_upper v_t_above v_t_bounds v_p1_corners v_p1_many l2 0 r7 (-2) 0 _ _ hF) (cwV 6 hts (gV mw_2_228 mw_2_230 mws_3 mw_1_6 mw_2_231) rfl rfl rfl (by decide +kernel) ⟨Nat.le_of_ble_eq_true rfl, Nat.le_of_ble_eq_true rfl⟩) ⟨gP_blind, va_recv hK hP (ci := 9) (q0 := 0) rfl rfl, gP_of hK hnw hP hD [0, 1, 2, 3, 4, 5, 6, 7, 9, 8] (by decide +kernel) rfl rfl⟩ rfl rfl hl.1 rfl (lv_room (Nat.le_of_ble_eq_true rfl)) dX9_grow_45 ⟨Nat.le_of_ble_eq_true rfl, Nat.le_of_ble_eq_true rfl⟩) hP hD hS hA [0, 1, 2, 3, 4, 5, 6, 7, 9, 8] [] rfl rfl (by decide +kernel) (by decide +kernel) (fun r8 u H locs hF hP hD hS => ?_)
          obtain ⟨v9, v10, v11, v12, v13, v14, v15, v16, v17⟩ := u
          try dsimp only at hF
          have hP : va_P G vwCl [(h_t, .inr (9, [.ref h_t_order, .ref h_t_first, .ref h_t_many, .ref h_t_lower, .ref h_t_upper, .ref h_t_above, .ref h_t_bounds, .ref h_t_met, .int v9, .int v10])), (h_t_order, .inl (cI, 128, .inl v11)), (h_t_first, .inl (cI, 255, .inl v12)), (h_t_many, .inl (cI, 255, .inl v13)), (h_t_lower, .inl (cI, 255, .inl v14)), (h_t_upper, .inl (cI, 255, .inl v15)), (h_t_above, .inl (cI, 255, .inl v16)), (h_t_bounds, .inl (cI, 1530, .inl v17)), (h_p1, .inr (5, [.ref h_p1_corners, .ref h_p1_normals, .ref h_p1_tones, .ref h_p1_trial, .ref h_p1_trialNormal, .int v_p1_many])), (h_p1_corners, .inl (cI, 1152, .inl v_p1_corners))] H := hP
          have hD : va_D A [(h_t, .inr (9, [.ref h_t_order, .ref h_t_first, .ref h_t_many, .ref h_t_lower, .ref h_t_upper, .ref h_t_above, .ref h_t_bounds, .ref h_t_met, .int v9, .int v10])), (h_t_order, .inl (cI, 128, .inl v11)), (h_t_first, .inl (cI, 255, .inl v12)), (h_t_many, .inl (cI, 255, .inl v13)), (h_t_lower, .inl (cI, 255, .inl v14)), (h_t_upper, .inl (cI, 255, .inl v15)), (h_t_above, .inl (cI, 255, .inl v16)), (h_t_bounds, .inl (cI, 1530, .inl v17)), (h_p1, .inr (5, [.ref h_p1_corners, .ref h_p1_normals, .ref h_p1_tones, .ref h_p1_trial, .ref h_p1_trialNormal, .int v_p1_many])), (h_p1_corners, .inl (cI, 1152, .inl v_p1_corners))] := hD
          refine lv_pop hx hb dX9_grow_48 rfl ?_
          exact hret 49 ls _ _ (v9, v10, v11, v12, v13, v14, v15, v16, v17) dX9_grow_49  hF hP hD hS
      · have hF := hF.2 c4
        refine lv_aload_n hx hb dX9_grow_14 rfl (lv_at hl 0 rfl) ?_
        refine va_get (D := G) (ci := 9) (v := .ref h_t_order) (C := RX9) (T := TX9) (N := 10) hx hb hts (fun w h => List.mem_cons_of_mem _ (inG_9 w h)) hown hK hP 0 rfl rfl 0 (by decide) (hts _ (List.mem_cons_of_mem _ mw_1_113)) (fun _ h9 => h9) rfl dX9_grow_15 ?_
        refine lv_iload_n hx hb dX9_grow_18 rfl (lv_at hl 3 rfl) ?_
        refine lv_iload_n hx hb dX9_grow_19 rfl (lv_at hl 3 rfl) ?_
        obtain ⟨b18, hF⟩ := hF
        refine g_iast (t0 := 0) hx hb hK hP hD hS 1 rfl rfl b18 dX9_grow_20 (fun g19 H locs eg19 hP hD hS => ?_)
        have hF := hF g19 eg19
        have hP : va_P G vwCl [(h_t, .inr (9, [.ref h_t_order, .ref h_t_first, .ref h_t_many, .ref h_t_lower, .ref h_t_upper, .ref h_t_above, .ref h_t_bounds, .ref h_t_met, .int v_t_nodes, .int v_t_deepest])), (h_t_order, .inl (cI, 128, .inl g19)), (h_t_first, .inl (cI, 255, .inl v_t_first)), (h_t_many, .inl (cI, 255, .inl v_t_many)), (h_t_lower, .inl (cI, 255, .inl v_t_lower)), (h_t_upper, .inl (cI, 255, .inl v_t_upper)), (h_t_above, .inl (cI, 255, .inl v_t_above)), (h_t_bounds, .inl (cI, 1530, .inl v_t_bounds)), (h_p1_corners, .inl (cI, 1152, .inl v_p1_corners)), (h_p1, .inr (5, [.ref h_p1_corners, .ref h_p1_normals, .ref h_p1_tones, .ref h_p1_trial, .ref h_p1_trialNormal, .int v_p1_many]))] H := hP
        have hD : va_D A [(h_t, .inr (9, [.ref h_t_order, .ref h_t_first, .ref h_t_many, .ref h_t_lower, .ref h_t_upper, .ref h_t_above, .ref h_t_bounds, .ref h_t_met, .int v_t_nodes, .int v_t_deepest])), (h_t_order, .inl (cI, 128, .inl g19)), (h_t_first, .inl (cI, 255, .inl v_t_first)), (h_t_many, .inl (cI, 255, .inl v_t_many)), (h_t_lower, .inl (cI, 255, .inl v_t_lower)), (h_t_upper, .inl (cI, 255, .inl v_t_upper)), (h_t_above, .inl (cI, 255, .inl v_t_above)), (h_t_bounds, .inl (cI, 1530, .inl v_t_bounds)), (h_p1_corners, .inl (cI, 1152, .inl v_p1_corners)), (h_p1, .inr (5, [.ref h_p1_corners, .ref h_p1_normals, .ref h_p1_tones, .ref h_p1_trial, .ref h_p1_trialNormal, .int v_p1_many]))] := hD
        obtain ⟨x20, ex20⟩ : ∃ z : Int32, z = (l3 + 1) := ⟨_, rfl⟩
        have hF := hF x20 ex20
        refine lv_iinc (v := x20) (lv' := [(3, .int x20), (0, .ref h_t), (1, .ref h_p1), (2, .int l2)]) hx hb dX9_grow_21 hl (k := 3) rfl (by rw [ex20]; rfl) (by decide) rfl (fun ls hl => ?_)
        refine lv_goto (tgt := 6) hx hb dX9_grow_24 (by decide) ?_
        exact k_6 l2 x20 v_t_nodes v_t_deepest g19 v_t_first v_t_many v_t_lower v_t_upper v_t_above v_t_bounds hF _ _ ls (hP.sub [0, 1, 2, 3, 4, 5, 6, 7, 9, 8] rfl) (hD.sub [0, 1, 2, 3, 4, 5, 6, 7, 9, 8] (by decide +kernel) rfl) hS (lv_sub hl [1, 2, 3, 0] rfl)
  obtain ⟨n0, hF⟩ := hF
  exact k_6 n0 p2 0 v1 v2 v_t_order v_t_first v_t_many v_t_lower v_t_upper v_t_above v_t_bounds hF _ _ ls (hP.sub [9, 0, 1, 2, 3, 4, 5, 6, 7, 8] rfl) (hD.sub [9, 0, 1, 2, 3, 4, 5, 6, 7, 8] (by decide +kernel) rfl) hS (lv_sub hl [1, 2, 3, 0] rfl)

def rm_X9_nodes : Room := { frames := 0, cells := 0, slots := 0, locals := 0 }
def F_X9_nodes (v_t_nodes : Int32) (post : Int32 → Prop) : Prop := post v_t_nodes
set_option maxHeartbeats 8000000 in
set_option maxRecDepth 100000 in
theorem c_X9_nodes (l : Launch) (G : va_G) (cI cL cZ : ClassId) (h_t : Nat) (h_t_order : Nat) (h_t_first : Nat) (h_t_many : Nat) (h_t_lower : Nat) (h_t_upper : Nat) (h_t_above : Nat) (h_t_bounds : Nat) (h_t_met : Nat) (v_t_nodes : Int32) (v_t_deepest : Int32) (sz : Nat) (post : Int32 → Prop) (hF : F_X9_nodes v_t_nodes post) : MetI l G (gT cI cL cZ) yX9_nodes (gW yX9_nodes cX9_nodes 1 (some .int)) rm_X9_nodes 0 0 [.ref h_t] sz [(h_t, .inr (9, [.ref h_t_order, .ref h_t_first, .ref h_t_many, .ref h_t_lower, .ref h_t_upper, .ref h_t_above, .ref h_t_bounds, .ref h_t_met, .int v_t_nodes, .int v_t_deepest]))] (fun (u : Unit) => [(h_t, .inr (9, [.ref h_t_order, .ref h_t_first, .ref h_t_many, .ref h_t_lower, .ref h_t_upper, .ref h_t_above, .ref h_t_bounds, .ref h_t_met, .int v_t_nodes, .int v_t_deepest]))]) (fun (r : Int32) (u : Unit) => post r) := by
  refine startI (cc := cX9_nodes) (maxL := 1) (ty9 := .int) (by decide +kernel) rfl (Nat.le_of_ble_eq_true rfl) ?_
  intro p e s m args below meth c Q ls A C0 hP hD hS hl hret
  obtain ⟨hx, hb, hml, hown, hts, hnw, hK, hA, hin⟩ := C0
  have hown : s.vm.findClass RX9 = some m.cls := hown
  have hl : lv_has ls 1 [(0, .ref h_t)] := hl
  refine lv_aload_n hx hb dX9_nodes_0 rfl (lv_at hl 0 rfl) ?_
  refine va_get (D := G) (ci := 9) (v := .int v_t_nodes) (C := RX9) (T := TX9) (N := 10) hx hb hts (fun w h => List.mem_cons_of_mem _ (inG_9 w h)) hown hK hP 0 rfl rfl 8 (by decide) (hts _ (List.mem_cons_of_mem _ mw_1_121)) (fun _ h9 => h9) rfl dX9_nodes_1 ?_
  exact hret 4 ls _ _ v_t_nodes () dX9_nodes_4 rfl hF hP hD hS

def rm_X11_build : Room := { frames := 26, cells := 0, slots := 0, locals := 711 }
def F_X11_build (p1 : Int32) (v_t_mesh_many : Int32) (v_t_mesh_corners : Nat → Int32) (v_t_tree_nodes : Int32) (v_t_tree_deepest : Int32) (v_t_tree_order : Nat → Int32) (v_t_tree_first : Nat → Int32) (v_t_tree_many : Nat → Int32) (v_t_tree_lower : Nat → Int32) (v_t_tree_upper : Nat → Int32) (v_t_tree_above : Nat → Int32) (v_t_tree_bounds : Nat → Int32) (post : Int32 → Int32 → Int32 → (Nat → Int32) → (Nat → Int32) → (Nat → Int32) → (Nat → Int32) → (Nat → Int32) → (Nat → Int32) → (Nat → Int32) → Prop) : Prop := ((p1 < 1 → post (-1) v_t_tree_nodes v_t_tree_deepest v_t_tree_order v_t_tree_first v_t_tree_many v_t_tree_lower v_t_tree_upper v_t_tree_above v_t_tree_bounds) ∧ (¬ p1 < 1 → ((p1 ≤ 8 → (F_X9_grow p1 v_t_tree_nodes v_t_tree_deepest v_t_tree_order v_t_tree_first v_t_tree_many v_t_tree_lower v_t_tree_upper v_t_tree_above v_t_tree_bounds v_t_mesh_many v_t_mesh_corners (fun v3 v4 v5 v6 v7 v8 v9 v10 v11 => (F_X9_nodes v3 (fun r12 => post r12 v3 v4 v5 v6 v7 v8 v9 v10 v11))))) ∧ (¬ p1 ≤ 8 → post (-1) v_t_tree_nodes v_t_tree_deepest v_t_tree_order v_t_tree_first v_t_tree_many v_t_tree_lower v_t_tree_upper v_t_tree_above v_t_tree_bounds))))
set_option maxHeartbeats 8000000 in
set_option maxRecDepth 100000 in
theorem c_X11_build (l : Launch) (G : va_G) (cI cL cZ : ClassId) (h_t : Nat) (h_t_points : Nat) (h_t_mesh : Nat) (h_t_camera : Nat) (h_t_lamps : Nat) (h_t_tree : Nat) (h_t_crossings : Nat) (h_t_atHand : Nat) (h_t_view : Nat) (h_t_sight : Nat) (h_t_shade : Nat) (h_t_slope : Nat) (h_t_box : Nat) (h_t_marked : Nat) (h_t_mesh_corners : Nat) (h_t_mesh_normals : Nat) (h_t_mesh_tones : Nat) (h_t_mesh_trial : Nat) (h_t_mesh_trialNormal : Nat) (h_t_tree_order : Nat) (h_t_tree_first : Nat) (h_t_tree_many : Nat) (h_t_tree_lower : Nat) (h_t_tree_upper : Nat) (h_t_tree_above : Nat) (h_t_tree_bounds : Nat) (h_t_tree_met : Nat) (v_t_mesh_many : Int32) (v_t_mesh_corners : Nat → Int32) (v_t_tree_nodes : Int32) (v_t_tree_deepest : Int32) (v_t_tree_order : Nat → Int32) (v_t_tree_first : Nat → Int32) (v_t_tree_many : Nat → Int32) (v_t_tree_lower : Nat → Int32) (v_t_tree_upper : Nat → Int32) (v_t_tree_above : Nat → Int32) (v_t_tree_bounds : Nat → Int32) (v_t_back : Int32) (p1 : Int32) (sz : Nat) (post : Int32 → Int32 → Int32 → (Nat → Int32) → (Nat → Int32) → (Nat → Int32) → (Nat → Int32) → (Nat → Int32) → (Nat → Int32) → (Nat → Int32) → Prop) (hF : F_X11_build p1 v_t_mesh_many v_t_mesh_corners v_t_tree_nodes v_t_tree_deepest v_t_tree_order v_t_tree_first v_t_tree_many v_t_tree_lower v_t_tree_upper v_t_tree_above v_t_tree_bounds post) : MetI l G (gT cI cL cZ) yX11_build (gW yX11_build cX11_build 2 (some .int)) rm_X11_build 0 0 [.ref h_t, .int p1] sz [(h_t, .inr (11, [.ref h_t_points, .ref h_t_mesh, .ref h_t_camera, .ref h_t_lamps, .ref h_t_tree, .ref h_t_crossings, .ref h_t_atHand, .ref h_t_view, .ref h_t_sight, .ref h_t_shade, .ref h_t_slope, .ref h_t_box, .ref h_t_marked, .int v_t_back])), (h_t_mesh, .inr (5, [.ref h_t_mesh_corners, .ref h_t_mesh_normals, .ref h_t_mesh_tones, .ref h_t_mesh_trial, .ref h_t_mesh_trialNormal, .int v_t_mesh_many])), (h_t_mesh_corners, .inl (cI, 1152, .inl v_t_mesh_corners)), (h_t_tree, .inr (9, [.ref h_t_tree_order, .ref h_t_tree_first, .ref h_t_tree_many, .ref h_t_tree_lower, .ref h_t_tree_upper, .ref h_t_tree_above, .ref h_t_tree_bounds, .ref h_t_tree_met, .int v_t_tree_nodes, .int v_t_tree_deepest])), (h_t_tree_order, .inl (cI, 128, .inl v_t_tree_order)), (h_t_tree_first, .inl (cI, 255, .inl v_t_tree_first)), (h_t_tree_many, .inl (cI, 255, .inl v_t_tree_many)), (h_t_tree_lower, .inl (cI, 255, .inl v_t_tree_lower)), (h_t_tree_upper, .inl (cI, 255, .inl v_t_tree_upper)), (h_t_tree_above, .inl (cI, 255, .inl v_t_tree_above)), (h_t_tree_bounds, .inl (cI, 1530, .inl v_t_tree_bounds))] (fun (u : Int32 × Int32 × (Nat → Int32) × (Nat → Int32) × (Nat → Int32) × (Nat → Int32) × (Nat → Int32) × (Nat → Int32) × (Nat → Int32)) => [(h_t, .inr (11, [.ref h_t_points, .ref h_t_mesh, .ref h_t_camera, .ref h_t_lamps, .ref h_t_tree, .ref h_t_crossings, .ref h_t_atHand, .ref h_t_view, .ref h_t_sight, .ref h_t_shade, .ref h_t_slope, .ref h_t_box, .ref h_t_marked, .int v_t_back])), (h_t_mesh, .inr (5, [.ref h_t_mesh_corners, .ref h_t_mesh_normals, .ref h_t_mesh_tones, .ref h_t_mesh_trial, .ref h_t_mesh_trialNormal, .int v_t_mesh_many])), (h_t_mesh_corners, .inl (cI, 1152, .inl v_t_mesh_corners)), (h_t_tree, .inr (9, [.ref h_t_tree_order, .ref h_t_tree_first, .ref h_t_tree_many, .ref h_t_tree_lower, .ref h_t_tree_upper, .ref h_t_tree_above, .ref h_t_tree_bounds, .ref h_t_tree_met, .int u.1, .int u.2.1])), (h_t_tree_order, .inl (cI, 128, .inl u.2.2.1)), (h_t_tree_first, .inl (cI, 255, .inl u.2.2.2.1)), (h_t_tree_many, .inl (cI, 255, .inl u.2.2.2.2.1)), (h_t_tree_lower, .inl (cI, 255, .inl u.2.2.2.2.2.1)), (h_t_tree_upper, .inl (cI, 255, .inl u.2.2.2.2.2.2.1)), (h_t_tree_above, .inl (cI, 255, .inl u.2.2.2.2.2.2.2.1)), (h_t_tree_bounds, .inl (cI, 1530, .inl u.2.2.2.2.2.2.2.2))]) (fun (r : Int32) (u : Int32 × Int32 × (Nat → Int32) × (Nat → Int32) × (Nat → Int32) × (Nat → Int32) × (Nat → Int32) × (Nat → Int32) × (Nat → Int32)) => post r u.1 u.2.1 u.2.2.1 u.2.2.2.1 u.2.2.2.2.1 u.2.2.2.2.2.1 u.2.2.2.2.2.2.1 u.2.2.2.2.2.2.2.1 u.2.2.2.2.2.2.2.2) := by
  refine startI (cc := cX11_build) (maxL := 2) (ty9 := .int) (by decide +kernel) rfl (Nat.le_of_ble_eq_true rfl) ?_
  intro p e s m args below meth c Q ls A C0 hP hD hS hl hret
  obtain ⟨hx, hb, hml, hown, hts, hnw, hK, hA, hin⟩ := C0
  have hown : s.vm.findClass RX11 = some m.cls := hown
  have hl : lv_has ls 2 [(0, .ref h_t), (1, .int p1)] := hl
  refine lv_iload_n hx hb dX11_build_0 rfl (lv_at hl 1 rfl) ?_
  refine lv_iconst (v := 1) hx hb dX11_build_1 (by decide) ?_
  refine lv_icmp_lt (tgt := 11) hx hb dX11_build_2 (by decide) (fun c1 => ?_) (fun c1 => ?_)
  · have hF := hF.1 c1
    refine lv_iconst (v := (-1)) hx hb dX11_build_11 (by decide) ?_
    exact hret 12 ls _ _ (-1) (v_t_tree_nodes, v_t_tree_deepest, v_t_tree_order, v_t_tree_first, v_t_tree_many, v_t_tree_lower, v_t_tree_upper, v_t_tree_above, v_t_tree_bounds) dX11_build_12 rfl hF hP hD hS
  · have hF := hF.2 c1
    refine lv_iload_n hx hb dX11_build_5 rfl (lv_at hl 1 rfl) ?_
    refine lv_bipush (v := 8) hx hb dX11_build_6 (by decide) ?_
    refine lv_icmp_le (tgt := 13) hx hb dX11_build_8 (by decide) (fun c2 => ?_) (fun c2 => ?_)
    · have hF := hF.1 c2
      refine lv_aload_n hx hb dX11_build_13 rfl (lv_at hl 0 rfl) ?_
      refine va_get (D := G) (ci := 11) (v := .ref h_t_tree) (C := RX11) (T := TX11) (N := 14) hx hb hts (fun w h => List.mem_cons_of_mem _ (inG_11 w h)) hown hK hP 0 rfl rfl 4 (by decide) (hts _ (List.mem_cons_of_mem _ mw_2_45)) (fun _ h9 => h9) rfl dX11_build_14 ?_
      refine lv_aload_n hx hb dX11_build_17 rfl (lv_at hl 0 rfl) ?_
      refine va_get (D := G) (ci := 11) (v := .ref h_t_mesh) (C := RX11) (T := TX11) (N := 14) hx hb hts (fun w h => List.mem_cons_of_mem _ (inG_11 w h)) hown hK hP 0 rfl rfl 1 (by decide) (hts _ (List.mem_cons_of_mem _ mw_2_42)) (fun _ h9 => h9) rfl dX11_build_18 ?_
      refine lv_iload_n hx hb dX11_build_21 rfl (lv_at hl 1 rfl) ?_
      refine afterV (wr := [(h_t, .inr (11, [.ref h_t_points, .ref h_t_mesh, .ref h_t_camera, .ref h_t_lamps, .ref h_t_tree, .ref h_t_crossings, .ref h_t_atHand, .ref h_t_view, .ref h_t_sight, .ref h_t_shade, .ref h_t_slope, .ref h_t_box, .ref h_t_marked, .int v_t_back]))]) (va_runV (As := [.ref h_t_mesh, .int p1]) (rest := []) ⟨hx, hb, hml, hown, hts⟩ (c_X9_grow l G cI cL cZ h_t_tree h_t_tree_order h_t_tree_first h_t_tree_many h_t_tree_lower h_t_tree_upper h_t_tree_above h_t_tree_bounds h_t_tree_met h_t_mesh h_t_mesh_corners h_t_mesh_normals h_t_mesh_tones h_t_mesh_trial h_t_mesh_trialNormal v_t_tree_nodes v_t_tree_deepest v_t_tree_order v_t_tree_first v_t_tree_many v_t_tree_lower v_t_tree_upper v_t_tree_above v_t_tree_bounds v_t_mesh_many v_t_mesh_corners p1 _ _ hF) (cwV 2 hts (gV mw_2_219 mw_2_220 mw_2_221 mw_1_6 mw_2_222) rfl rfl rfl (by decide +kernel) ⟨Nat.le_of_ble_eq_true rfl, Nat.le_of_ble_eq_true rfl⟩) ⟨gP_blind, va_recv hK hP (ci := 9) (q0 := 3) rfl rfl, gP_of hK hnw hP hD [3, 4, 5, 6, 7, 8, 9, 10, 1, 2] (by decide +kernel) rfl rfl⟩ rfl rfl hl.1 rfl (lv_room (Nat.le_of_ble_eq_true rfl)) dX11_build_22 ⟨Nat.le_of_ble_eq_true rfl, Nat.le_of_ble_eq_true rfl⟩) hP hD hS hA [3, 4, 5, 6, 7, 8, 9, 10, 1, 2] [0] rfl rfl (by decide +kernel) (by decide +kernel) (fun u H locs hF hP hD hS => ?_)
      obtain ⟨v3, v4, v5, v6, v7, v8, v9, v10, v11⟩ := u
      try dsimp only at hF
      have hP : va_P G vwCl [(h_t, .inr (11, [.ref h_t_points, .ref h_t_mesh, .ref h_t_camera, .ref h_t_lamps, .ref h_t_tree, .ref h_t_crossings, .ref h_t_atHand, .ref h_t_view, .ref h_t_sight, .ref h_t_shade, .ref h_t_slope, .ref h_t_box, .ref h_t_marked, .int v_t_back])), (h_t_tree, .inr (9, [.ref h_t_tree_order, .ref h_t_tree_first, .ref h_t_tree_many, .ref h_t_tree_lower, .ref h_t_tree_upper, .ref h_t_tree_above, .ref h_t_tree_bounds, .ref h_t_tree_met, .int v3, .int v4])), (h_t_tree_order, .inl (cI, 128, .inl v5)), (h_t_tree_first, .inl (cI, 255, .inl v6)), (h_t_tree_many, .inl (cI, 255, .inl v7)), (h_t_tree_lower, .inl (cI, 255, .inl v8)), (h_t_tree_upper, .inl (cI, 255, .inl v9)), (h_t_tree_above, .inl (cI, 255, .inl v10)), (h_t_tree_bounds, .inl (cI, 1530, .inl v11)), (h_t_mesh, .inr (5, [.ref h_t_mesh_corners, .ref h_t_mesh_normals, .ref h_t_mesh_tones, .ref h_t_mesh_trial, .ref h_t_mesh_trialNormal, .int v_t_mesh_many])), (h_t_mesh_corners, .inl (cI, 1152, .inl v_t_mesh_corners))] H := hP
      have hD : va_D A [(h_t, .inr (11, [.ref h_t_points, .ref h_t_mesh, .ref h_t_camera, .ref h_t_lamps, .ref h_t_tree, .ref h_t_crossings, .ref h_t_atHand, .ref h_t_view, .ref h_t_sight, .ref h_t_shade, .ref h_t_slope, .ref h_t_box, .ref h_t_marked, .int v_t_back])), (h_t_tree, .inr (9, [.ref h_t_tree_order, .ref h_t_tree_first, .ref h_t_tree_many, .ref h_t_tree_lower, .ref h_t_tree_upper, .ref h_t_tree_above, .ref h_t_tree_bounds, .ref h_t_tree_met, .int v3, .int v4])), (h_t_tree_order, .inl (cI, 128, .inl v5)), (h_t_tree_first, .inl (cI, 255, .inl v6)), (h_t_tree_many, .inl (cI, 255, .inl v7)), (h_t_tree_lower, .inl (cI, 255, .inl v8)), (h_t_tree_upper, .inl (cI, 255, .inl v9)), (h_t_tree_above, .inl (cI, 255, .inl v10)), (h_t_tree_bounds, .inl (cI, 1530, .inl v11)), (h_t_mesh, .inr (5, [.ref h_t_mesh_corners, .ref h_t_mesh_normals, .ref h_t_mesh_tones, .ref h_t_mesh_trial, .ref h_t_mesh_trialNormal, .int v_t_mesh_many])), (h_t_mesh_corners, .inl (cI, 1152, .inl v_t_mesh_corners))] := hD
      refine lv_aload_n hx hb dX11_build_25 rfl (lv_at hl 0 rfl) ?_
      refine va_get (D := G) (ci := 11) (v := .ref h_t_tree) (C := RX11) (T := TX11) (N := 14) hx hb hts (fun w h => List.mem_cons_of_mem _ (inG_11 w h)) hown hK hP 0 rfl rfl 4 (by decide) (hts _ (List.mem_cons_of_mem _ mw_2_45)) (fun _ h9 => h9) rfl dX11_build_26 ?_
      refine afterI (wr := [(h_t, .inr (11, [.ref h_t_points, .ref h_t_mesh, .ref h_t_camera, .ref h_t_lamps, .ref h_t_tree, .ref h_t_crossings, .ref h_t_atHand, .ref h_t_view, .ref h_t_sight, .ref h_t_shade, .ref h_t_slope, .ref h_t_box, .ref h_t_marked, .int v_t_back])), (h_t_tree_order, .inl (cI, 128, .inl v5)), (h_t_tree_first, .inl (cI, 255, .inl v6)), (h_t_tree_many, .inl (cI, 255, .inl v7)), (h_t_tree_lower, .inl (cI, 255, .inl v8)), (h_t_tree_upper, .inl (cI, 255, .inl v9)), (h_t_tree_above, .inl (cI, 255, .inl v10)), (h_t_tree_bounds, .inl (cI, 1530, .inl v11)), (h_t_mesh, .inr (5, [.ref h_t_mesh_corners, .ref h_t_mesh_normals, .ref h_t_mesh_tones, .ref h_t_mesh_trial, .ref h_t_mesh_trialNormal, .int v_t_mesh_many])), (h_t_mesh_corners, .inl (cI, 1152, .inl v_t_mesh_corners))]) (va_runV (As := []) (rest := []) ⟨hx, hb, hml, hown, hts⟩ (c_X9_nodes l G cI cL cZ h_t_tree h_t_tree_order h_t_tree_first h_t_tree_many h_t_tree_lower h_t_tree_upper h_t_tree_above h_t_tree_bounds h_t_tree_met v3 v4 _ _ hF) (cwV 0 hts (gV mw_3_35 mw_3_36 mw_3_37 mw_1_6 mw_3_38) rfl rfl rfl (by decide +kernel) ⟨Nat.le_of_ble_eq_true rfl, Nat.le_of_ble_eq_true rfl⟩) ⟨gP_blind, va_recv hK hP (ci := 9) (q0 := 1) rfl rfl, gP_of hK hnw hP hD [1] (by decide +kernel) rfl rfl⟩ rfl rfl hl.1 rfl (lv_room (Nat.le_of_ble_eq_true rfl)) dX11_build_29 ⟨Nat.le_of_ble_eq_true rfl, Nat.le_of_ble_eq_true rfl⟩) hP hD hS hA [1] [0, 2, 3, 4, 5, 6, 7, 8, 9, 10] rfl rfl (by decide +kernel) (by decide +kernel) (fun r12 u H locs hF hP hD hS => ?_)
      try dsimp only at hF
      have hP : va_P G vwCl [(h_t, .inr (11, [.ref h_t_points, .ref h_t_mesh, .ref h_t_camera, .ref h_t_lamps, .ref h_t_tree, .ref h_t_crossings, .ref h_t_atHand, .ref h_t_view, .ref h_t_sight, .ref h_t_shade, .ref h_t_slope, .ref h_t_box, .ref h_t_marked, .int v_t_back])), (h_t_tree_order, .inl (cI, 128, .inl v5)), (h_t_tree_first, .inl (cI, 255, .inl v6)), (h_t_tree_many, .inl (cI, 255, .inl v7)), (h_t_tree_lower, .inl (cI, 255, .inl v8)), (h_t_tree_upper, .inl (cI, 255, .inl v9)), (h_t_tree_above, .inl (cI, 255, .inl v10)), (h_t_tree_bounds, .inl (cI, 1530, .inl v11)), (h_t_mesh, .inr (5, [.ref h_t_mesh_corners, .ref h_t_mesh_normals, .ref h_t_mesh_tones, .ref h_t_mesh_trial, .ref h_t_mesh_trialNormal, .int v_t_mesh_many])), (h_t_mesh_corners, .inl (cI, 1152, .inl v_t_mesh_corners)), (h_t_tree, .inr (9, [.ref h_t_tree_order, .ref h_t_tree_first, .ref h_t_tree_many, .ref h_t_tree_lower, .ref h_t_tree_upper, .ref h_t_tree_above, .ref h_t_tree_bounds, .ref h_t_tree_met, .int v3, .int v4]))] H := hP
      have hD : va_D A [(h_t, .inr (11, [.ref h_t_points, .ref h_t_mesh, .ref h_t_camera, .ref h_t_lamps, .ref h_t_tree, .ref h_t_crossings, .ref h_t_atHand, .ref h_t_view, .ref h_t_sight, .ref h_t_shade, .ref h_t_slope, .ref h_t_box, .ref h_t_marked, .int v_t_back])), (h_t_tree_order, .inl (cI, 128, .inl v5)), (h_t_tree_first, .inl (cI, 255, .inl v6)), (h_t_tree_many, .inl (cI, 255, .inl v7)), (h_t_tree_lower, .inl (cI, 255, .inl v8)), (h_t_tree_upper, .inl (cI, 255, .inl v9)), (h_t_tree_above, .inl (cI, 255, .inl v10)), (h_t_tree_bounds, .inl (cI, 1530, .inl v11)), (h_t_mesh, .inr (5, [.ref h_t_mesh_corners, .ref h_t_mesh_normals, .ref h_t_mesh_tones, .ref h_t_mesh_trial, .ref h_t_mesh_trialNormal, .int v_t_mesh_many])), (h_t_mesh_corners, .inl (cI, 1152, .inl v_t_mesh_corners)), (h_t_tree, .inr (9, [.ref h_t_tree_order, .ref h_t_tree_first, .ref h_t_tree_many, .ref h_t_tree_lower, .ref h_t_tree_upper, .ref h_t_tree_above, .ref h_t_tree_bounds, .ref h_t_tree_met, .int v3, .int v4]))] := hD
      exact hret 32 ls _ _ r12 (v3, v4, v5, v6, v7, v8, v9, v10, v11) dX11_build_32 rfl hF (hP.sub [0, 8, 9, 10, 1, 2, 3, 4, 5, 6, 7] rfl) (hD.sub [0, 8, 9, 10, 1, 2, 3, 4, 5, 6, 7] (by decide +kernel) rfl) hS
    · have hF := hF.2 c2
      refine lv_iconst (v := (-1)) hx hb dX11_build_11 (by decide) ?_
      exact hret 12 ls _ _ (-1) (v_t_tree_nodes, v_t_tree_deepest, v_t_tree_order, v_t_tree_first, v_t_tree_many, v_t_tree_lower, v_t_tree_upper, v_t_tree_above, v_t_tree_bounds) dX11_build_12 rfl hF hP hD hS

def rm_X9_stands : Room := { frames := 0, cells := 0, slots := 0, locals := 0 }
def F_X9_stands (v_t_nodes : Int32) (post : Int32 → Prop) : Prop := ((v_t_nodes ≤ 0 → post 0) ∧ (¬ v_t_nodes ≤ 0 → post 1))
set_option maxHeartbeats 8000000 in
set_option maxRecDepth 100000 in
theorem c_X9_stands (l : Launch) (G : va_G) (cI cL cZ : ClassId) (h_t : Nat) (h_t_order : Nat) (h_t_first : Nat) (h_t_many : Nat) (h_t_lower : Nat) (h_t_upper : Nat) (h_t_above : Nat) (h_t_bounds : Nat) (h_t_met : Nat) (v_t_nodes : Int32) (v_t_deepest : Int32) (sz : Nat) (post : Int32 → Prop) (hF : F_X9_stands v_t_nodes post) : MetI l G (gT cI cL cZ) yX9_stands (gW yX9_stands cX9_stands 1 (some .boolean)) rm_X9_stands 0 0 [.ref h_t] sz [(h_t, .inr (9, [.ref h_t_order, .ref h_t_first, .ref h_t_many, .ref h_t_lower, .ref h_t_upper, .ref h_t_above, .ref h_t_bounds, .ref h_t_met, .int v_t_nodes, .int v_t_deepest]))] (fun (u : Unit) => [(h_t, .inr (9, [.ref h_t_order, .ref h_t_first, .ref h_t_many, .ref h_t_lower, .ref h_t_upper, .ref h_t_above, .ref h_t_bounds, .ref h_t_met, .int v_t_nodes, .int v_t_deepest]))]) (fun (r : Int32) (u : Unit) => post r) := by
  refine startI (cc := cX9_stands) (maxL := 1) (ty9 := .boolean) (by decide +kernel) rfl (Nat.le_of_ble_eq_true rfl) ?_
  intro p e s m args below meth c Q ls A C0 hP hD hS hl hret
  obtain ⟨hx, hb, hml, hown, hts, hnw, hK, hA, hin⟩ := C0
  have hown : s.vm.findClass RX9 = some m.cls := hown
  have hl : lv_has ls 1 [(0, .ref h_t)] := hl
  refine lv_aload_n hx hb dX9_stands_0 rfl (lv_at hl 0 rfl) ?_
  refine va_get (D := G) (ci := 9) (v := .int v_t_nodes) (C := RX9) (T := TX9) (N := 10) hx hb hts (fun w h => List.mem_cons_of_mem _ (inG_9 w h)) hown hK hP 0 rfl rfl 8 (by decide) (hts _ (List.mem_cons_of_mem _ mw_1_121)) (fun _ h9 => h9) rfl dX9_stands_1 ?_
  refine lv_if_le (tgt := 11) hx hb dX9_stands_4 (by decide) (fun c1 => ?_) (fun c1 => ?_)
  · have hF := hF.1 c1
    refine lv_iconst (v := 0) hx hb dX9_stands_11 (by decide) ?_
    exact hret 12 ls _ _ 0 () dX9_stands_12 (by decide) hF hP hD hS
  · have hF := hF.2 c1
    refine lv_iconst (v := 1) hx hb dX9_stands_7 (by decide) ?_
    refine lv_goto (tgt := 12) hx hb dX9_stands_8 (by decide) ?_
    exact hret 12 ls _ _ 1 () dX9_stands_12 (by decide) hF hP hD hS

def rm_X9_fitBoxes : Room := { frames := 3, cells := 0, slots := 0, locals := 81 }
def L_X9_fitBoxes_4 (post : Int32 → (Nat → Int32) → Prop) (v_t_nodes : Int32) (v_t_order : Nat → Int32) (v_t_first : Nat → Int32) (v_t_many : Nat → Int32) (v_p1_corners : Nat → Int32) : Nat → Int32 → Int32 → (Nat → Int32) → Prop
  | 0, _, _, _ => False
  | n_4 + 1, l2, l3, v_t_bounds => ((v_t_nodes ≤ l3 → post l2 v_t_bounds) ∧ (¬ v_t_nodes ≤ l3 → (F_X9_fitBox l3 v_t_order v_t_first v_t_many v_t_bounds v_p1_corners (fun r2 v3 => ((r2 = 0 → (∀ x5 : Int32, x5 = (l3 + 1) → L_X9_fitBoxes_4 post v_t_nodes v_t_order v_t_first v_t_many v_p1_corners n_4 l2 x5 v3)) ∧ (¬ r2 = 0 → (∀ x6 : Int32, x6 = (l2 + 1) → (∀ x7 : Int32, x7 = (l3 + 1) → L_X9_fitBoxes_4 post v_t_nodes v_t_order v_t_first v_t_many v_p1_corners n_4 x6 x7 v3))))))))
def F_X9_fitBoxes (v_t_nodes : Int32) (v_t_order : Nat → Int32) (v_t_first : Nat → Int32) (v_t_many : Nat → Int32) (v_t_bounds : Nat → Int32) (v_p1_corners : Nat → Int32) (post : Int32 → (Nat → Int32) → Prop) : Prop := (∃ n0 : Nat, L_X9_fitBoxes_4 post v_t_nodes v_t_order v_t_first v_t_many v_p1_corners n0 0 0 v_t_bounds)
set_option maxHeartbeats 8000000 in
set_option maxRecDepth 100000 in
theorem c_X9_fitBoxes (l : Launch) (G : va_G) (cI cL cZ : ClassId) (h_t : Nat) (h_t_order : Nat) (h_t_first : Nat) (h_t_many : Nat) (h_t_lower : Nat) (h_t_upper : Nat) (h_t_above : Nat) (h_t_bounds : Nat) (h_t_met : Nat) (h_p1 : Nat) (h_p1_corners : Nat) (h_p1_normals : Nat) (h_p1_tones : Nat) (h_p1_trial : Nat) (h_p1_trialNormal : Nat) (v_t_nodes : Int32) (v_t_order : Nat → Int32) (v_t_first : Nat → Int32) (v_t_many : Nat → Int32) (v_t_bounds : Nat → Int32) (v_p1_corners : Nat → Int32) (v_t_deepest : Int32) (v_p1_many : Int32) (sz : Nat) (post : Int32 → (Nat → Int32) → Prop) (hF : F_X9_fitBoxes v_t_nodes v_t_order v_t_first v_t_many v_t_bounds v_p1_corners post) : MetI l G (gT cI cL cZ) yX9_fitBoxes (gW yX9_fitBoxes cX9_fitBoxes 4 (some .int)) rm_X9_fitBoxes 0 0 [.ref h_t, .ref h_p1] sz [(h_t, .inr (9, [.ref h_t_order, .ref h_t_first, .ref h_t_many, .ref h_t_lower, .ref h_t_upper, .ref h_t_above, .ref h_t_bounds, .ref h_t_met, .int v_t_nodes, .int v_t_deepest])), (h_t_order, .inl (cI, 128, .inl v_t_order)), (h_t_first, .inl (cI, 255, .inl v_t_first)), (h_t_many, .inl (cI, 255, .inl v_t_many)), (h_t_bounds, .inl (cI, 1530, .inl v_t_bounds)), (h_p1, .inr (5, [.ref h_p1_corners, .ref h_p1_normals, .ref h_p1_tones, .ref h_p1_trial, .ref h_p1_trialNormal, .int v_p1_many])), (h_p1_corners, .inl (cI, 1152, .inl v_p1_corners))] (fun (u : (Nat → Int32)) => [(h_t, .inr (9, [.ref h_t_order, .ref h_t_first, .ref h_t_many, .ref h_t_lower, .ref h_t_upper, .ref h_t_above, .ref h_t_bounds, .ref h_t_met, .int v_t_nodes, .int v_t_deepest])), (h_t_order, .inl (cI, 128, .inl v_t_order)), (h_t_first, .inl (cI, 255, .inl v_t_first)), (h_t_many, .inl (cI, 255, .inl v_t_many)), (h_t_bounds, .inl (cI, 1530, .inl u)), (h_p1, .inr (5, [.ref h_p1_corners, .ref h_p1_normals, .ref h_p1_tones, .ref h_p1_trial, .ref h_p1_trialNormal, .int v_p1_many])), (h_p1_corners, .inl (cI, 1152, .inl v_p1_corners))]) (fun (r : Int32) (u : (Nat → Int32)) => post r u) := by
  refine startI (cc := cX9_fitBoxes) (maxL := 4) (ty9 := .int) (by decide +kernel) rfl (Nat.le_of_ble_eq_true rfl) ?_
  intro p e s m args below meth c Q ls A C0 hP hD hS hl hret
  obtain ⟨hx, hb, hml, hown, hts, hnw, hK, hA, hin⟩ := C0
  have hown : s.vm.findClass RX9 = some m.cls := hown
  have hl : lv_has ls 4 [(0, .ref h_t), (1, .ref h_p1)] := hl
  refine lv_iconst (v := 0) hx hb dX9_fitBoxes_0 (by decide) ?_
  refine lv_istore_n (lv' := [(2, .int 0), (0, .ref h_t), (1, .ref h_p1)]) hx hb dX9_fitBoxes_1 rfl hl (by decide) rfl (fun ls hl => ?_)
  refine lv_iconst (v := 0) hx hb dX9_fitBoxes_2 (by decide) ?_
  refine lv_istore_n (lv' := [(3, .int 0), (2, .int 0), (0, .ref h_t), (1, .ref h_p1)]) hx hb dX9_fitBoxes_3 rfl hl (by decide) rfl (fun ls hl => ?_)
  have k_4 : ∀ (n_4 : Nat) (l2 : Int32) (l3 : Int32) (v_t_bounds : Nat → Int32), L_X9_fitBoxes_4 post v_t_nodes v_t_order v_t_first v_t_many v_p1_corners n_4 l2 l3 v_t_bounds → ∀ (H : Heap) (locs : List Loc) (ls : Array Slot), va_P G vwCl [(h_t, .inr (9, [.ref h_t_order, .ref h_t_first, .ref h_t_many, .ref h_t_lower, .ref h_t_upper, .ref h_t_above, .ref h_t_bounds, .ref h_t_met, .int v_t_nodes, .int v_t_deepest])), (h_t_order, .inl (cI, 128, .inl v_t_order)), (h_t_first, .inl (cI, 255, .inl v_t_first)), (h_t_many, .inl (cI, 255, .inl v_t_many)), (h_t_bounds, .inl (cI, 1530, .inl v_t_bounds)), (h_p1, .inr (5, [.ref h_p1_corners, .ref h_p1_normals, .ref h_p1_tones, .ref h_p1_trial, .ref h_p1_trialNormal, .int v_p1_many])), (h_p1_corners, .inl (cI, 1152, .inl v_p1_corners))] H → va_D A [(h_t, .inr (9, [.ref h_t_order, .ref h_t_first, .ref h_t_many, .ref h_t_lower, .ref h_t_upper, .ref h_t_above, .ref h_t_bounds, .ref h_t_met, .int v_t_nodes, .int v_t_deepest])), (h_t_order, .inl (cI, 128, .inl v_t_order)), (h_t_first, .inl (cI, 255, .inl v_t_first)), (h_t_many, .inl (cI, 255, .inl v_t_many)), (h_t_bounds, .inl (cI, 1530, .inl v_t_bounds)), (h_p1, .inr (5, [.ref h_p1_corners, .ref h_p1_normals, .ref h_p1_tones, .ref h_p1_trial, .ref h_p1_trialNormal, .int v_p1_many])), (h_p1_corners, .inl (cI, 1152, .inl v_p1_corners))] → va_S A s.heap H locs → lv_has ls 4 [(0, .ref h_t), (1, .ref h_p1), (2, .int l2), (3, .int l3)] → W p l e rm_X9_fitBoxes s m args below meth c H locs 0 0 Q (F0 m 4 ls []) := by
    intro n_4
    induction n_4 with
    | zero =>
      intro l2 l3 v_t_bounds hF
      exact (show False from hF).elim
    | succ n_4 k_4 =>
      intro l2 l3 v_t_bounds hF H locs ls hP hD hS hl
      refine lv_iload_n hx hb dX9_fitBoxes_4 rfl (lv_at hl 3 rfl) ?_
      refine lv_aload_n hx hb dX9_fitBoxes_5 rfl (lv_at hl 0 rfl) ?_
      refine va_get (D := G) (ci := 9) (v := .int v_t_nodes) (C := RX9) (T := TX9) (N := 10) hx hb hts (fun w h => List.mem_cons_of_mem _ (inG_9 w h)) hown hK hP 0 rfl rfl 8 (by decide) (hts _ (List.mem_cons_of_mem _ mw_1_121)) (fun _ h9 => h9) rfl dX9_fitBoxes_6 ?_
      refine lv_icmp_ge (tgt := 30) hx hb dX9_fitBoxes_9 (by decide) (fun c1 => ?_) (fun c1 => ?_)
      · have hF := hF.1 c1
        refine lv_iload_n hx hb dX9_fitBoxes_30 rfl (lv_at hl 2 rfl) ?_
        exact hret 31 ls _ _ l2 v_t_bounds dX9_fitBoxes_31 rfl hF hP hD hS
      · have hF := hF.2 c1
        refine lv_aload_n hx hb dX9_fitBoxes_12 rfl (lv_at hl 0 rfl) ?_
        refine lv_aload_n hx hb dX9_fitBoxes_13 rfl (lv_at hl 1 rfl) ?_
        refine lv_iload_n hx hb dX9_fitBoxes_14 rfl (lv_at hl 3 rfl) ?_
        refine afterI (wr := []) (va_runV (As := [.ref h_p1, .int l3]) (rest := []) ⟨hx, hb, hml, hown, hts⟩ (c_X9_fitBox l G cI cL cZ h_t h_t_order h_t_first h_t_many h_t_lower h_t_upper h_t_above h_t_bounds h_t_met h_p1 h_p1_corners h_p1_normals h_p1_tones h_p1_trial h_p1_trialNormal v_t_order v_t_first v_t_many v_t_bounds v_p1_corners v_t_nodes v_t_deepest v_p1_many l3 _ _ hF) (cwV 2 hts (gV mw_2_235 mw_2_237 mws_4 mw_1_6 mw_2_238) rfl rfl rfl (by decide +kernel) ⟨Nat.le_of_ble_eq_true rfl, Nat.le_of_ble_eq_true rfl⟩) ⟨gP_blind, va_recv hK hP (ci := 9) (q0 := 0) rfl rfl, gP_of hK hnw hP hD [0, 1, 2, 3, 4, 5, 6] (by decide +kernel) rfl rfl⟩ rfl rfl hl.1 rfl (lv_room (Nat.le_of_ble_eq_true rfl)) dX9_fitBoxes_15 ⟨Nat.le_of_ble_eq_true rfl, Nat.le_of_ble_eq_true rfl⟩) hP hD hS hA [0, 1, 2, 3, 4, 5, 6] [] rfl rfl (by decide +kernel) (by decide +kernel) (fun r2 u H locs hF hP hD hS => ?_)
        obtain ⟨v3, rfl⟩ : ∃ z, z = u := ⟨_, rfl⟩
        try dsimp only at hF
        have hP : va_P G vwCl [(h_t, .inr (9, [.ref h_t_order, .ref h_t_first, .ref h_t_many, .ref h_t_lower, .ref h_t_upper, .ref h_t_above, .ref h_t_bounds, .ref h_t_met, .int v_t_nodes, .int v_t_deepest])), (h_t_order, .inl (cI, 128, .inl v_t_order)), (h_t_first, .inl (cI, 255, .inl v_t_first)), (h_t_many, .inl (cI, 255, .inl v_t_many)), (h_t_bounds, .inl (cI, 1530, .inl v3)), (h_p1, .inr (5, [.ref h_p1_corners, .ref h_p1_normals, .ref h_p1_tones, .ref h_p1_trial, .ref h_p1_trialNormal, .int v_p1_many])), (h_p1_corners, .inl (cI, 1152, .inl v_p1_corners))] H := hP
        have hD : va_D A [(h_t, .inr (9, [.ref h_t_order, .ref h_t_first, .ref h_t_many, .ref h_t_lower, .ref h_t_upper, .ref h_t_above, .ref h_t_bounds, .ref h_t_met, .int v_t_nodes, .int v_t_deepest])), (h_t_order, .inl (cI, 128, .inl v_t_order)), (h_t_first, .inl (cI, 255, .inl v_t_first)), (h_t_many, .inl (cI, 255, .inl v_t_many)), (h_t_bounds, .inl (cI, 1530, .inl v3)), (h_p1, .inr (5, [.ref h_p1_corners, .ref h_p1_normals, .ref h_p1_tones, .ref h_p1_trial, .ref h_p1_trialNormal, .int v_p1_many])), (h_p1_corners, .inl (cI, 1152, .inl v_p1_corners))] := hD
        refine lv_if_eq (tgt := 24) hx hb dX9_fitBoxes_18 (by decide) (fun c4 => ?_) (fun c4 => ?_)
        · have hF := hF.1 c4
          obtain ⟨x5, ex5⟩ : ∃ z : Int32, z = (l3 + 1) := ⟨_, rfl⟩
          have hF := hF x5 ex5
          refine lv_iinc (v := x5) (lv' := [(3, .int x5), (0, .ref h_t), (1, .ref h_p1), (2, .int l2)]) hx hb dX9_fitBoxes_24 hl (k := 3) rfl (by rw [ex5]; rfl) (by decide) rfl (fun ls hl => ?_)
          refine lv_goto (tgt := 4) hx hb dX9_fitBoxes_27 (by decide) ?_
          exact k_4 l2 x5 v3 hF _ _ ls hP hD hS (lv_sub hl [1, 2, 3, 0] rfl)
        · have hF := hF.2 c4
          obtain ⟨x6, ex6⟩ : ∃ z : Int32, z = (l2 + 1) := ⟨_, rfl⟩
          have hF := hF x6 ex6
          refine lv_iinc (v := x6) (lv' := [(2, .int x6), (0, .ref h_t), (1, .ref h_p1), (3, .int l3)]) hx hb dX9_fitBoxes_21 hl (k := 2) rfl (by rw [ex6]; rfl) (by decide) rfl (fun ls hl => ?_)
          obtain ⟨x7, ex7⟩ : ∃ z : Int32, z = (l3 + 1) := ⟨_, rfl⟩
          have hF := hF x7 ex7
          refine lv_iinc (v := x7) (lv' := [(3, .int x7), (2, .int x6), (0, .ref h_t), (1, .ref h_p1)]) hx hb dX9_fitBoxes_24 hl (k := 3) rfl (by rw [ex7]; rfl) (by decide) rfl (fun ls hl => ?_)
          refine lv_goto (tgt := 4) hx hb dX9_fitBoxes_27 (by decide) ?_
          exact k_4 x6 x7 v3 hF _ _ ls hP hD hS (lv_sub hl [2, 3, 1, 0] rfl)
  obtain ⟨n0, hF⟩ := hF
  exact k_4 n0 0 0 v_t_bounds hF _ _ ls hP hD hS (lv_sub hl [2, 3, 1, 0] rfl)

def rm_X11_refit : Room := { frames := 4, cells := 0, slots := 0, locals := 104 }
def F_X11_refit (v_t_mesh_corners : Nat → Int32) (v_t_tree_nodes : Int32) (v_t_tree_order : Nat → Int32) (v_t_tree_first : Nat → Int32) (v_t_tree_many : Nat → Int32) (v_t_tree_bounds : Nat → Int32) (post : Int32 → (Nat → Int32) → Prop) : Prop := (F_X9_stands v_t_tree_nodes (fun r1 => ((r1 = 0 → post (-1) v_t_tree_bounds) ∧ (¬ r1 = 0 → (F_X9_fitBoxes v_t_tree_nodes v_t_tree_order v_t_tree_first v_t_tree_many v_t_tree_bounds v_t_mesh_corners (fun r3 v4 => post r3 v4))))))
set_option maxHeartbeats 8000000 in
set_option maxRecDepth 100000 in
theorem c_X11_refit (l : Launch) (G : va_G) (cI cL cZ : ClassId) (h_t : Nat) (h_t_points : Nat) (h_t_mesh : Nat) (h_t_camera : Nat) (h_t_lamps : Nat) (h_t_tree : Nat) (h_t_crossings : Nat) (h_t_atHand : Nat) (h_t_view : Nat) (h_t_sight : Nat) (h_t_shade : Nat) (h_t_slope : Nat) (h_t_box : Nat) (h_t_marked : Nat) (h_t_mesh_corners : Nat) (h_t_mesh_normals : Nat) (h_t_mesh_tones : Nat) (h_t_mesh_trial : Nat) (h_t_mesh_trialNormal : Nat) (h_t_tree_order : Nat) (h_t_tree_first : Nat) (h_t_tree_many : Nat) (h_t_tree_lower : Nat) (h_t_tree_upper : Nat) (h_t_tree_above : Nat) (h_t_tree_bounds : Nat) (h_t_tree_met : Nat) (v_t_mesh_corners : Nat → Int32) (v_t_tree_nodes : Int32) (v_t_tree_order : Nat → Int32) (v_t_tree_first : Nat → Int32) (v_t_tree_many : Nat → Int32) (v_t_tree_bounds : Nat → Int32) (v_t_back : Int32) (v_t_mesh_many : Int32) (v_t_tree_deepest : Int32) (sz : Nat) (post : Int32 → (Nat → Int32) → Prop) (hF : F_X11_refit v_t_mesh_corners v_t_tree_nodes v_t_tree_order v_t_tree_first v_t_tree_many v_t_tree_bounds post) : MetI l G (gT cI cL cZ) yX11_refit (gW yX11_refit cX11_refit 1 (some .int)) rm_X11_refit 0 0 [.ref h_t] sz [(h_t, .inr (11, [.ref h_t_points, .ref h_t_mesh, .ref h_t_camera, .ref h_t_lamps, .ref h_t_tree, .ref h_t_crossings, .ref h_t_atHand, .ref h_t_view, .ref h_t_sight, .ref h_t_shade, .ref h_t_slope, .ref h_t_box, .ref h_t_marked, .int v_t_back])), (h_t_mesh, .inr (5, [.ref h_t_mesh_corners, .ref h_t_mesh_normals, .ref h_t_mesh_tones, .ref h_t_mesh_trial, .ref h_t_mesh_trialNormal, .int v_t_mesh_many])), (h_t_mesh_corners, .inl (cI, 1152, .inl v_t_mesh_corners)), (h_t_tree, .inr (9, [.ref h_t_tree_order, .ref h_t_tree_first, .ref h_t_tree_many, .ref h_t_tree_lower, .ref h_t_tree_upper, .ref h_t_tree_above, .ref h_t_tree_bounds, .ref h_t_tree_met, .int v_t_tree_nodes, .int v_t_tree_deepest])), (h_t_tree_order, .inl (cI, 128, .inl v_t_tree_order)), (h_t_tree_first, .inl (cI, 255, .inl v_t_tree_first)), (h_t_tree_many, .inl (cI, 255, .inl v_t_tree_many)), (h_t_tree_bounds, .inl (cI, 1530, .inl v_t_tree_bounds))] (fun (u : (Nat → Int32)) => [(h_t, .inr (11, [.ref h_t_points, .ref h_t_mesh, .ref h_t_camera, .ref h_t_lamps, .ref h_t_tree, .ref h_t_crossings, .ref h_t_atHand, .ref h_t_view, .ref h_t_sight, .ref h_t_shade, .ref h_t_slope, .ref h_t_box, .ref h_t_marked, .int v_t_back])), (h_t_mesh, .inr (5, [.ref h_t_mesh_corners, .ref h_t_mesh_normals, .ref h_t_mesh_tones, .ref h_t_mesh_trial, .ref h_t_mesh_trialNormal, .int v_t_mesh_many])), (h_t_mesh_corners, .inl (cI, 1152, .inl v_t_mesh_corners)), (h_t_tree, .inr (9, [.ref h_t_tree_order, .ref h_t_tree_first, .ref h_t_tree_many, .ref h_t_tree_lower, .ref h_t_tree_upper, .ref h_t_tree_above, .ref h_t_tree_bounds, .ref h_t_tree_met, .int v_t_tree_nodes, .int v_t_tree_deepest])), (h_t_tree_order, .inl (cI, 128, .inl v_t_tree_order)), (h_t_tree_first, .inl (cI, 255, .inl v_t_tree_first)), (h_t_tree_many, .inl (cI, 255, .inl v_t_tree_many)), (h_t_tree_bounds, .inl (cI, 1530, .inl u))]) (fun (r : Int32) (u : (Nat → Int32)) => post r u) := by
  refine startI (cc := cX11_refit) (maxL := 1) (ty9 := .int) (by decide +kernel) rfl (Nat.le_of_ble_eq_true rfl) ?_
  intro p e s m args below meth c Q ls A C0 hP hD hS hl hret
  obtain ⟨hx, hb, hml, hown, hts, hnw, hK, hA, hin⟩ := C0
  have hown : s.vm.findClass RX11 = some m.cls := hown
  have hl : lv_has ls 1 [(0, .ref h_t)] := hl
  refine lv_aload_n hx hb dX11_refit_0 rfl (lv_at hl 0 rfl) ?_
  refine va_get (D := G) (ci := 11) (v := .ref h_t_tree) (C := RX11) (T := TX11) (N := 14) hx hb hts (fun w h => List.mem_cons_of_mem _ (inG_11 w h)) hown hK hP 0 rfl rfl 4 (by decide) (hts _ (List.mem_cons_of_mem _ mw_2_45)) (fun _ h9 => h9) rfl dX11_refit_1 ?_
  refine afterI (wr := [(h_t, .inr (11, [.ref h_t_points, .ref h_t_mesh, .ref h_t_camera, .ref h_t_lamps, .ref h_t_tree, .ref h_t_crossings, .ref h_t_atHand, .ref h_t_view, .ref h_t_sight, .ref h_t_shade, .ref h_t_slope, .ref h_t_box, .ref h_t_marked, .int v_t_back])), (h_t_mesh, .inr (5, [.ref h_t_mesh_corners, .ref h_t_mesh_normals, .ref h_t_mesh_tones, .ref h_t_mesh_trial, .ref h_t_mesh_trialNormal, .int v_t_mesh_many])), (h_t_mesh_corners, .inl (cI, 1152, .inl v_t_mesh_corners)), (h_t_tree_order, .inl (cI, 128, .inl v_t_tree_order)), (h_t_tree_first, .inl (cI, 255, .inl v_t_tree_first)), (h_t_tree_many, .inl (cI, 255, .inl v_t_tree_many)), (h_t_tree_bounds, .inl (cI, 1530, .inl v_t_tree_bounds))]) (va_runV (As := []) (rest := []) ⟨hx, hb, hml, hown, hts⟩ (c_X9_stands l G cI cL cZ h_t_tree h_t_tree_order h_t_tree_first h_t_tree_many h_t_tree_lower h_t_tree_upper h_t_tree_above h_t_tree_bounds h_t_tree_met v_t_tree_nodes v_t_tree_deepest _ _ hF) (cwV 0 hts (gV mw_3_43 mw_3_44 mw_3_45 mw_1_6 mw_3_46) rfl rfl rfl (by decide +kernel) ⟨Nat.le_of_ble_eq_true rfl, Nat.le_of_ble_eq_true rfl⟩) ⟨gP_blind, va_recv hK hP (ci := 9) (q0 := 3) rfl rfl, gP_of hK hnw hP hD [3] (by decide +kernel) rfl rfl⟩ rfl rfl hl.1 rfl (lv_room (Nat.le_of_ble_eq_true rfl)) dX11_refit_4 ⟨Nat.le_of_ble_eq_true rfl, Nat.le_of_ble_eq_true rfl⟩) hP hD hS hA [3] [0, 1, 2, 4, 5, 6, 7] rfl rfl (by decide +kernel) (by decide +kernel) (fun r1 u H locs hF hP hD hS => ?_)
  try dsimp only at hF
  have hP : va_P G vwCl [(h_t, .inr (11, [.ref h_t_points, .ref h_t_mesh, .ref h_t_camera, .ref h_t_lamps, .ref h_t_tree, .ref h_t_crossings, .ref h_t_atHand, .ref h_t_view, .ref h_t_sight, .ref h_t_shade, .ref h_t_slope, .ref h_t_box, .ref h_t_marked, .int v_t_back])), (h_t_mesh, .inr (5, [.ref h_t_mesh_corners, .ref h_t_mesh_normals, .ref h_t_mesh_tones, .ref h_t_mesh_trial, .ref h_t_mesh_trialNormal, .int v_t_mesh_many])), (h_t_mesh_corners, .inl (cI, 1152, .inl v_t_mesh_corners)), (h_t_tree_order, .inl (cI, 128, .inl v_t_tree_order)), (h_t_tree_first, .inl (cI, 255, .inl v_t_tree_first)), (h_t_tree_many, .inl (cI, 255, .inl v_t_tree_many)), (h_t_tree_bounds, .inl (cI, 1530, .inl v_t_tree_bounds)), (h_t_tree, .inr (9, [.ref h_t_tree_order, .ref h_t_tree_first, .ref h_t_tree_many, .ref h_t_tree_lower, .ref h_t_tree_upper, .ref h_t_tree_above, .ref h_t_tree_bounds, .ref h_t_tree_met, .int v_t_tree_nodes, .int v_t_tree_deepest]))] H := hP
  have hD : va_D A [(h_t, .inr (11, [.ref h_t_points, .ref h_t_mesh, .ref h_t_camera, .ref h_t_lamps, .ref h_t_tree, .ref h_t_crossings, .ref h_t_atHand, .ref h_t_view, .ref h_t_sight, .ref h_t_shade, .ref h_t_slope, .ref h_t_box, .ref h_t_marked, .int v_t_back])), (h_t_mesh, .inr (5, [.ref h_t_mesh_corners, .ref h_t_mesh_normals, .ref h_t_mesh_tones, .ref h_t_mesh_trial, .ref h_t_mesh_trialNormal, .int v_t_mesh_many])), (h_t_mesh_corners, .inl (cI, 1152, .inl v_t_mesh_corners)), (h_t_tree_order, .inl (cI, 128, .inl v_t_tree_order)), (h_t_tree_first, .inl (cI, 255, .inl v_t_tree_first)), (h_t_tree_many, .inl (cI, 255, .inl v_t_tree_many)), (h_t_tree_bounds, .inl (cI, 1530, .inl v_t_tree_bounds)), (h_t_tree, .inr (9, [.ref h_t_tree_order, .ref h_t_tree_first, .ref h_t_tree_many, .ref h_t_tree_lower, .ref h_t_tree_upper, .ref h_t_tree_above, .ref h_t_tree_bounds, .ref h_t_tree_met, .int v_t_tree_nodes, .int v_t_tree_deepest]))] := hD
  refine lv_if_eq (tgt := 24) hx hb dX11_refit_7 (by decide) (fun c2 => ?_) (fun c2 => ?_)
  · have hF := hF.1 c2
    refine lv_iconst (v := (-1)) hx hb dX11_refit_24 (by decide) ?_
    exact hret 25 ls _ _ (-1) v_t_tree_bounds dX11_refit_25 rfl hF (hP.sub [0, 1, 2, 7, 3, 4, 5, 6] rfl) (hD.sub [0, 1, 2, 7, 3, 4, 5, 6] (by decide +kernel) rfl) hS
  · have hF := hF.2 c2
    refine lv_aload_n hx hb dX11_refit_10 rfl (lv_at hl 0 rfl) ?_
    refine va_get (D := G) (ci := 11) (v := .ref h_t_tree) (C := RX11) (T := TX11) (N := 14) hx hb hts (fun w h => List.mem_cons_of_mem _ (inG_11 w h)) hown hK hP 0 rfl rfl 4 (by decide) (hts _ (List.mem_cons_of_mem _ mw_2_45)) (fun _ h9 => h9) rfl dX11_refit_11 ?_
    refine lv_aload_n hx hb dX11_refit_14 rfl (lv_at hl 0 rfl) ?_
    refine va_get (D := G) (ci := 11) (v := .ref h_t_mesh) (C := RX11) (T := TX11) (N := 14) hx hb hts (fun w h => List.mem_cons_of_mem _ (inG_11 w h)) hown hK hP 0 rfl rfl 1 (by decide) (hts _ (List.mem_cons_of_mem _ mw_2_42)) (fun _ h9 => h9) rfl dX11_refit_15 ?_
    refine afterI (wr := [(h_t, .inr (11, [.ref h_t_points, .ref h_t_mesh, .ref h_t_camera, .ref h_t_lamps, .ref h_t_tree, .ref h_t_crossings, .ref h_t_atHand, .ref h_t_view, .ref h_t_sight, .ref h_t_shade, .ref h_t_slope, .ref h_t_box, .ref h_t_marked, .int v_t_back]))]) (va_runV (As := [.ref h_t_mesh]) (rest := []) ⟨hx, hb, hml, hown, hts⟩ (c_X9_fitBoxes l G cI cL cZ h_t_tree h_t_tree_order h_t_tree_first h_t_tree_many h_t_tree_lower h_t_tree_upper h_t_tree_above h_t_tree_bounds h_t_tree_met h_t_mesh h_t_mesh_corners h_t_mesh_normals h_t_mesh_tones h_t_mesh_trial h_t_mesh_trialNormal v_t_tree_nodes v_t_tree_order v_t_tree_first v_t_tree_many v_t_tree_bounds v_t_mesh_corners v_t_tree_deepest v_t_mesh_many _ _ hF) (cwV 1 hts (gV mw_3_47 mw_3_48 mw_3_49 mw_1_6 mw_3_50) rfl rfl rfl (by decide +kernel) ⟨Nat.le_of_ble_eq_true rfl, Nat.le_of_ble_eq_true rfl⟩) ⟨gP_blind, va_recv hK hP (ci := 9) (q0 := 7) rfl rfl, gP_of hK hnw hP hD [7, 3, 4, 5, 6, 1, 2] (by decide +kernel) rfl rfl⟩ rfl rfl hl.1 rfl (lv_room (Nat.le_of_ble_eq_true rfl)) dX11_refit_18 ⟨Nat.le_of_ble_eq_true rfl, Nat.le_of_ble_eq_true rfl⟩) hP hD hS hA [7, 3, 4, 5, 6, 1, 2] [0] rfl rfl (by decide +kernel) (by decide +kernel) (fun r3 u H locs hF hP hD hS => ?_)
    obtain ⟨v4, rfl⟩ : ∃ z, z = u := ⟨_, rfl⟩
    try dsimp only at hF
    have hP : va_P G vwCl [(h_t, .inr (11, [.ref h_t_points, .ref h_t_mesh, .ref h_t_camera, .ref h_t_lamps, .ref h_t_tree, .ref h_t_crossings, .ref h_t_atHand, .ref h_t_view, .ref h_t_sight, .ref h_t_shade, .ref h_t_slope, .ref h_t_box, .ref h_t_marked, .int v_t_back])), (h_t_tree, .inr (9, [.ref h_t_tree_order, .ref h_t_tree_first, .ref h_t_tree_many, .ref h_t_tree_lower, .ref h_t_tree_upper, .ref h_t_tree_above, .ref h_t_tree_bounds, .ref h_t_tree_met, .int v_t_tree_nodes, .int v_t_tree_deepest])), (h_t_tree_order, .inl (cI, 128, .inl v_t_tree_order)), (h_t_tree_first, .inl (cI, 255, .inl v_t_tree_first)), (h_t_tree_many, .inl (cI, 255, .inl v_t_tree_many)), (h_t_tree_bounds, .inl (cI, 1530, .inl v4)), (h_t_mesh, .inr (5, [.ref h_t_mesh_corners, .ref h_t_mesh_normals, .ref h_t_mesh_tones, .ref h_t_mesh_trial, .ref h_t_mesh_trialNormal, .int v_t_mesh_many])), (h_t_mesh_corners, .inl (cI, 1152, .inl v_t_mesh_corners))] H := hP
    have hD : va_D A [(h_t, .inr (11, [.ref h_t_points, .ref h_t_mesh, .ref h_t_camera, .ref h_t_lamps, .ref h_t_tree, .ref h_t_crossings, .ref h_t_atHand, .ref h_t_view, .ref h_t_sight, .ref h_t_shade, .ref h_t_slope, .ref h_t_box, .ref h_t_marked, .int v_t_back])), (h_t_tree, .inr (9, [.ref h_t_tree_order, .ref h_t_tree_first, .ref h_t_tree_many, .ref h_t_tree_lower, .ref h_t_tree_upper, .ref h_t_tree_above, .ref h_t_tree_bounds, .ref h_t_tree_met, .int v_t_tree_nodes, .int v_t_tree_deepest])), (h_t_tree_order, .inl (cI, 128, .inl v_t_tree_order)), (h_t_tree_first, .inl (cI, 255, .inl v_t_tree_first)), (h_t_tree_many, .inl (cI, 255, .inl v_t_tree_many)), (h_t_tree_bounds, .inl (cI, 1530, .inl v4)), (h_t_mesh, .inr (5, [.ref h_t_mesh_corners, .ref h_t_mesh_normals, .ref h_t_mesh_tones, .ref h_t_mesh_trial, .ref h_t_mesh_trialNormal, .int v_t_mesh_many])), (h_t_mesh_corners, .inl (cI, 1152, .inl v_t_mesh_corners))] := hD
    refine lv_goto (tgt := 25) hx hb dX11_refit_21 (by decide) ?_
    exact hret 25 ls _ _ r3 v4 dX11_refit_25 rfl hF (hP.sub [0, 6, 7, 1, 2, 3, 4, 5] rfl) (hD.sub [0, 6, 7, 1, 2, 3, 4, 5] (by decide +kernel) rfl) hS

def rm_X9_hasNode : Room := { frames := 0, cells := 0, slots := 0, locals := 0 }
def F_X9_hasNode (p1 : Int32) (v_t_nodes : Int32) (post : Int32 → Prop) : Prop := ((p1 < 0 → post 0) ∧ (¬ p1 < 0 → ((v_t_nodes ≤ p1 → post 0) ∧ (¬ v_t_nodes ≤ p1 → post 1))))
set_option maxHeartbeats 8000000 in
set_option maxRecDepth 100000 in
theorem c_X9_hasNode (l : Launch) (G : va_G) (cI cL cZ : ClassId) (h_t : Nat) (h_t_order : Nat) (h_t_first : Nat) (h_t_many : Nat) (h_t_lower : Nat) (h_t_upper : Nat) (h_t_above : Nat) (h_t_bounds : Nat) (h_t_met : Nat) (v_t_nodes : Int32) (v_t_deepest : Int32) (p1 : Int32) (sz : Nat) (post : Int32 → Prop) (hF : F_X9_hasNode p1 v_t_nodes post) : MetI l G (gT cI cL cZ) yX9_hasNode (gW yX9_hasNode cX9_hasNode 2 (some .boolean)) rm_X9_hasNode 0 0 [.ref h_t, .int p1] sz [(h_t, .inr (9, [.ref h_t_order, .ref h_t_first, .ref h_t_many, .ref h_t_lower, .ref h_t_upper, .ref h_t_above, .ref h_t_bounds, .ref h_t_met, .int v_t_nodes, .int v_t_deepest]))] (fun (u : Unit) => [(h_t, .inr (9, [.ref h_t_order, .ref h_t_first, .ref h_t_many, .ref h_t_lower, .ref h_t_upper, .ref h_t_above, .ref h_t_bounds, .ref h_t_met, .int v_t_nodes, .int v_t_deepest]))]) (fun (r : Int32) (u : Unit) => post r) := by
  refine startI (cc := cX9_hasNode) (maxL := 2) (ty9 := .boolean) (by decide +kernel) rfl (Nat.le_of_ble_eq_true rfl) ?_
  intro p e s m args below meth c Q ls A C0 hP hD hS hl hret
  obtain ⟨hx, hb, hml, hown, hts, hnw, hK, hA, hin⟩ := C0
  have hown : s.vm.findClass RX9 = some m.cls := hown
  have hl : lv_has ls 2 [(0, .ref h_t), (1, .int p1)] := hl
  refine lv_iload_n hx hb dX9_hasNode_0 rfl (lv_at hl 1 rfl) ?_
  refine lv_if_lt (tgt := 16) hx hb dX9_hasNode_1 (by decide) (fun c1 => ?_) (fun c1 => ?_)
  · have hF := hF.1 c1
    refine lv_iconst (v := 0) hx hb dX9_hasNode_16 (by decide) ?_
    exact hret 17 ls _ _ 0 () dX9_hasNode_17 (by decide) hF hP hD hS
  · have hF := hF.2 c1
    refine lv_iload_n hx hb dX9_hasNode_4 rfl (lv_at hl 1 rfl) ?_
    refine lv_aload_n hx hb dX9_hasNode_5 rfl (lv_at hl 0 rfl) ?_
    refine va_get (D := G) (ci := 9) (v := .int v_t_nodes) (C := RX9) (T := TX9) (N := 10) hx hb hts (fun w h => List.mem_cons_of_mem _ (inG_9 w h)) hown hK hP 0 rfl rfl 8 (by decide) (hts _ (List.mem_cons_of_mem _ mw_1_121)) (fun _ h9 => h9) rfl dX9_hasNode_6 ?_
    refine lv_icmp_ge (tgt := 16) hx hb dX9_hasNode_9 (by decide) (fun c2 => ?_) (fun c2 => ?_)
    · have hF := hF.1 c2
      refine lv_iconst (v := 0) hx hb dX9_hasNode_16 (by decide) ?_
      exact hret 17 ls _ _ 0 () dX9_hasNode_17 (by decide) hF hP hD hS
    · have hF := hF.2 c2
      refine lv_iconst (v := 1) hx hb dX9_hasNode_12 (by decide) ?_
      refine lv_goto (tgt := 17) hx hb dX9_hasNode_13 (by decide) ?_
      exact hret 17 ls _ _ 1 () dX9_hasNode_17 (by decide) hF hP hD hS

def rm_X9_describe : Room := { frames := 0, cells := 0, slots := 0, locals := 0 }
def F_X9_describe (p1 : Int32) (p2 : Int32) (v_t_first : Nat → Int32) (v_t_many : Nat → Int32) (v_t_lower : Nat → Int32) (v_t_upper : Nat → Int32) (v_t_above : Nat → Int32) (v_t_bounds : Nat → Int32) (post : Int32 → Prop) : Prop := ((p2.toInt = 0 → (vp_in p1 255 ∧ post (v_t_first p1.toNatClampNeg))) ∧ (p2.toInt = 1 → (vp_in p1 255 ∧ post (v_t_many p1.toNatClampNeg))) ∧ (p2.toInt = 2 → (vp_in p1 255 ∧ post (v_t_lower p1.toNatClampNeg))) ∧ (p2.toInt = 3 → (vp_in p1 255 ∧ post (v_t_upper p1.toNatClampNeg))) ∧ (p2.toInt = 4 → (vp_in p1 255 ∧ post (v_t_above p1.toNatClampNeg))) ∧ (p2.toInt < 0 ∨ 4 < p2.toInt → ((p2 < 5 → post (-1)) ∧ (¬ p2 < 5 → ((10 < p2 → post (-1)) ∧ (¬ 10 < p2 → (vp_in (((6 * p1) + p2) - 5) 1530 ∧ post (v_t_bounds (((6 * p1) + p2) - 5).toNatClampNeg))))))))
set_option maxHeartbeats 8000000 in
set_option maxRecDepth 100000 in
theorem c_X9_describe (l : Launch) (G : va_G) (cI cL cZ : ClassId) (h_t : Nat) (h_t_order : Nat) (h_t_first : Nat) (h_t_many : Nat) (h_t_lower : Nat) (h_t_upper : Nat) (h_t_above : Nat) (h_t_bounds : Nat) (h_t_met : Nat) (v_t_first : Nat → Int32) (v_t_many : Nat → Int32) (v_t_lower : Nat → Int32) (v_t_upper : Nat → Int32) (v_t_above : Nat → Int32) (v_t_bounds : Nat → Int32) (v_t_nodes : Int32) (v_t_deepest : Int32) (p1 : Int32) (p2 : Int32) (sz : Nat) (post : Int32 → Prop) (hF : F_X9_describe p1 p2 v_t_first v_t_many v_t_lower v_t_upper v_t_above v_t_bounds post) : MetI l G (gT cI cL cZ) yX9_describe (gW yX9_describe cX9_describe 3 (some .int)) rm_X9_describe 0 0 [.ref h_t, .int p1, .int p2] sz [(h_t, .inr (9, [.ref h_t_order, .ref h_t_first, .ref h_t_many, .ref h_t_lower, .ref h_t_upper, .ref h_t_above, .ref h_t_bounds, .ref h_t_met, .int v_t_nodes, .int v_t_deepest])), (h_t_first, .inl (cI, 255, .inl v_t_first)), (h_t_many, .inl (cI, 255, .inl v_t_many)), (h_t_lower, .inl (cI, 255, .inl v_t_lower)), (h_t_upper, .inl (cI, 255, .inl v_t_upper)), (h_t_above, .inl (cI, 255, .inl v_t_above)), (h_t_bounds, .inl (cI, 1530, .inl v_t_bounds))] (fun (u : Unit) => [(h_t, .inr (9, [.ref h_t_order, .ref h_t_first, .ref h_t_many, .ref h_t_lower, .ref h_t_upper, .ref h_t_above, .ref h_t_bounds, .ref h_t_met, .int v_t_nodes, .int v_t_deepest])), (h_t_first, .inl (cI, 255, .inl v_t_first)), (h_t_many, .inl (cI, 255, .inl v_t_many)), (h_t_lower, .inl (cI, 255, .inl v_t_lower)), (h_t_upper, .inl (cI, 255, .inl v_t_upper)), (h_t_above, .inl (cI, 255, .inl v_t_above)), (h_t_bounds, .inl (cI, 1530, .inl v_t_bounds))]) (fun (r : Int32) (u : Unit) => post r) := by
  refine startI (cc := cX9_describe) (maxL := 3) (ty9 := .int) (by decide +kernel) rfl (Nat.le_of_ble_eq_true rfl) ?_
  intro p e s m args below meth c Q ls A C0 hP hD hS hl hret
  obtain ⟨hx, hb, hml, hown, hts, hnw, hK, hA, hin⟩ := C0
  have hown : s.vm.findClass RX9 = some m.cls := hown
  have hl : lv_has ls 3 [(0, .ref h_t), (1, .int p1), (2, .int p2)] := hl
  refine lv_iload_n hx hb dX9_describe_0 rfl (lv_at hl 2 rfl) ?_
  have c1 : p2.toInt = 0 ∨ p2.toInt = 1 ∨ p2.toInt = 2 ∨ p2.toInt = 3 ∨ p2.toInt = 4 ∨ (p2.toInt < 0 ∨ 4 < p2.toInt) := by omega
  rcases c1 with c1 | c1 | c1 | c1 | c1 | c1
  · have hF := hF.1 c1
    refine lv_tableIn (off := 35) (tgt := 36) hx hb dX9_describe_1 (by omega) (by omega) (by rw [c1]; rfl) (by decide) ?_
    refine lv_aload_n hx hb dX9_describe_36 rfl (lv_at hl 0 rfl) ?_
    refine va_get (D := G) (ci := 9) (v := .ref h_t_first) (C := RX9) (T := TX9) (N := 10) hx hb hts (fun w h => List.mem_cons_of_mem _ (inG_9 w h)) hown hK hP 0 rfl rfl 1 (by decide) (hts _ (List.mem_cons_of_mem _ mw_1_114)) (fun _ h9 => h9) rfl dX9_describe_37 ?_
    refine lv_iload_n hx hb dX9_describe_40 rfl (lv_at hl 1 rfl) ?_
    obtain ⟨b2, hF⟩ := hF
    refine va_iald hx hb hK hP 1 0 rfl rfl b2 dX9_describe_41 ?_
    exact hret 42 ls _ _ (v_t_first p1.toNatClampNeg) () dX9_describe_42 rfl hF hP hD hS
  · have hF := hF.2.1 c1
    refine lv_tableIn (off := 42) (tgt := 43) hx hb dX9_describe_1 (by omega) (by omega) (by rw [c1]; rfl) (by decide) ?_
    refine lv_aload_n hx hb dX9_describe_43 rfl (lv_at hl 0 rfl) ?_
    refine va_get (D := G) (ci := 9) (v := .ref h_t_many) (C := RX9) (T := TX9) (N := 10) hx hb hts (fun w h => List.mem_cons_of_mem _ (inG_9 w h)) hown hK hP 0 rfl rfl 2 (by decide) (hts _ (List.mem_cons_of_mem _ mw_1_115)) (fun _ h9 => h9) rfl dX9_describe_44 ?_
    refine lv_iload_n hx hb dX9_describe_47 rfl (lv_at hl 1 rfl) ?_
    obtain ⟨b3, hF⟩ := hF
    refine va_iald hx hb hK hP 2 0 rfl rfl b3 dX9_describe_48 ?_
    exact hret 49 ls _ _ (v_t_many p1.toNatClampNeg) () dX9_describe_49 rfl hF hP hD hS
  · have hF := hF.2.2.1 c1
    refine lv_tableIn (off := 49) (tgt := 50) hx hb dX9_describe_1 (by omega) (by omega) (by rw [c1]; rfl) (by decide) ?_
    refine lv_aload_n hx hb dX9_describe_50 rfl (lv_at hl 0 rfl) ?_
    refine va_get (D := G) (ci := 9) (v := .ref h_t_lower) (C := RX9) (T := TX9) (N := 10) hx hb hts (fun w h => List.mem_cons_of_mem _ (inG_9 w h)) hown hK hP 0 rfl rfl 3 (by decide) (hts _ (List.mem_cons_of_mem _ mw_1_116)) (fun _ h9 => h9) rfl dX9_describe_51 ?_
    refine lv_iload_n hx hb dX9_describe_54 rfl (lv_at hl 1 rfl) ?_
    obtain ⟨b4, hF⟩ := hF
    refine va_iald hx hb hK hP 3 0 rfl rfl b4 dX9_describe_55 ?_
    exact hret 56 ls _ _ (v_t_lower p1.toNatClampNeg) () dX9_describe_56 rfl hF hP hD hS
  · have hF := hF.2.2.2.1 c1
    refine lv_tableIn (off := 56) (tgt := 57) hx hb dX9_describe_1 (by omega) (by omega) (by rw [c1]; rfl) (by decide) ?_
    refine lv_aload_n hx hb dX9_describe_57 rfl (lv_at hl 0 rfl) ?_
    refine va_get (D := G) (ci := 9) (v := .ref h_t_upper) (C := RX9) (T := TX9) (N := 10) hx hb hts (fun w h => List.mem_cons_of_mem _ (inG_9 w h)) hown hK hP 0 rfl rfl 4 (by decide) (hts _ (List.mem_cons_of_mem _ mw_1_117)) (fun _ h9 => h9) rfl dX9_describe_58 ?_
    refine lv_iload_n hx hb dX9_describe_61 rfl (lv_at hl 1 rfl) ?_
    obtain ⟨b5, hF⟩ := hF
    refine va_iald hx hb hK hP 4 0 rfl rfl b5 dX9_describe_62 ?_
    exact hret 63 ls _ _ (v_t_upper p1.toNatClampNeg) () dX9_describe_63 rfl hF hP hD hS
  · have hF := hF.2.2.2.2.1 c1
    refine lv_tableIn (off := 63) (tgt := 64) hx hb dX9_describe_1 (by omega) (by omega) (by rw [c1]; rfl) (by decide) ?_
    refine lv_aload_n hx hb dX9_describe_64 rfl (lv_at hl 0 rfl) ?_
    refine va_get (D := G) (ci := 9) (v := .ref h_t_above) (C := RX9) (T := TX9) (N := 10) hx hb hts (fun w h => List.mem_cons_of_mem _ (inG_9 w h)) hown hK hP 0 rfl rfl 5 (by decide) (hts _ (List.mem_cons_of_mem _ mw_1_118)) (fun _ h9 => h9) rfl dX9_describe_65 ?_
    refine lv_iload_n hx hb dX9_describe_68 rfl (lv_at hl 1 rfl) ?_
    obtain ⟨b6, hF⟩ := hF
    refine va_iald hx hb hK hP 5 0 rfl rfl b6 dX9_describe_69 ?_
    exact hret 70 ls _ _ (v_t_above p1.toNatClampNeg) () dX9_describe_70 rfl hF hP hD hS
  · have hF := hF.2.2.2.2.2 c1
    refine lv_tableOut (tgt := 71) hx hb dX9_describe_1 c1 (by decide) ?_
    refine lv_iload_n hx hb dX9_describe_71 rfl (lv_at hl 2 rfl) ?_
    refine lv_iconst (v := 5) hx hb dX9_describe_72 (by decide) ?_
    refine lv_icmp_lt (tgt := 98) hx hb dX9_describe_73 (by decide) (fun c7 => ?_) (fun c7 => ?_)
    · have hF := hF.1 c7
      refine lv_iconst (v := (-1)) hx hb dX9_describe_98 (by decide) ?_
      exact hret 99 ls _ _ (-1) () dX9_describe_99 rfl hF hP hD hS
    · have hF := hF.2 c7
      refine lv_iload_n hx hb dX9_describe_76 rfl (lv_at hl 2 rfl) ?_
      refine lv_bipush (v := 10) hx hb dX9_describe_77 (by decide) ?_
      refine lv_icmp_gt (tgt := 98) hx hb dX9_describe_79 (by decide) (fun c8 => ?_) (fun c8 => ?_)
      · have hF := hF.1 c8
        refine lv_iconst (v := (-1)) hx hb dX9_describe_98 (by decide) ?_
        exact hret 99 ls _ _ (-1) () dX9_describe_99 rfl hF hP hD hS
      · have hF := hF.2 c8
        refine lv_aload_n hx hb dX9_describe_82 rfl (lv_at hl 0 rfl) ?_
        refine va_get (D := G) (ci := 9) (v := .ref h_t_bounds) (C := RX9) (T := TX9) (N := 10) hx hb hts (fun w h => List.mem_cons_of_mem _ (inG_9 w h)) hown hK hP 0 rfl rfl 6 (by decide) (hts _ (List.mem_cons_of_mem _ mw_1_119)) (fun _ h9 => h9) rfl dX9_describe_83 ?_
        refine lv_bipush (v := 6) hx hb dX9_describe_86 (by decide) ?_
        refine lv_iload_n hx hb dX9_describe_88 rfl (lv_at hl 1 rfl) ?_
        refine lv_imul hx hb dX9_describe_89 ?_
        refine lv_iload_n hx hb dX9_describe_90 rfl (lv_at hl 2 rfl) ?_
        refine lv_iadd hx hb dX9_describe_91 ?_
        refine lv_iconst (v := 5) hx hb dX9_describe_92 (by decide) ?_
        refine lv_isub hx hb dX9_describe_93 ?_
        obtain ⟨b9, hF⟩ := hF
        refine va_iald hx hb hK hP 6 0 rfl rfl b9 dX9_describe_94 ?_
        refine lv_goto (tgt := 99) hx hb dX9_describe_95 (by decide) ?_
        exact hret 99 ls _ _ (v_t_bounds (((6 * p1) + p2) - 5).toNatClampNeg) () dX9_describe_99 rfl hF hP hD hS

def rm_X11_node : Room := { frames := 1, cells := 0, slots := 0, locals := 22 }
def F_X11_node (p1 : Int32) (p2 : Int32) (v_t_tree_nodes : Int32) (v_t_tree_first : Nat → Int32) (v_t_tree_many : Nat → Int32) (v_t_tree_lower : Nat → Int32) (v_t_tree_upper : Nat → Int32) (v_t_tree_above : Nat → Int32) (v_t_tree_bounds : Nat → Int32) (post : Int32 → Prop) : Prop := (F_X9_hasNode p1 v_t_tree_nodes (fun r1 => ((r1 = 0 → post (-1)) ∧ (¬ r1 = 0 → (F_X9_describe p1 p2 v_t_tree_first v_t_tree_many v_t_tree_lower v_t_tree_upper v_t_tree_above v_t_tree_bounds (fun r3 => post r3))))))
set_option maxHeartbeats 8000000 in
set_option maxRecDepth 100000 in
theorem c_X11_node (l : Launch) (G : va_G) (cI cL cZ : ClassId) (h_t : Nat) (h_t_points : Nat) (h_t_mesh : Nat) (h_t_camera : Nat) (h_t_lamps : Nat) (h_t_tree : Nat) (h_t_crossings : Nat) (h_t_atHand : Nat) (h_t_view : Nat) (h_t_sight : Nat) (h_t_shade : Nat) (h_t_slope : Nat) (h_t_box : Nat) (h_t_marked : Nat) (h_t_tree_order : Nat) (h_t_tree_first : Nat) (h_t_tree_many : Nat) (h_t_tree_lower : Nat) (h_t_tree_upper : Nat) (h_t_tree_above : Nat) (h_t_tree_bounds : Nat) (h_t_tree_met : Nat) (v_t_tree_nodes : Int32) (v_t_tree_first : Nat → Int32) (v_t_tree_many : Nat → Int32) (v_t_tree_lower : Nat → Int32) (v_t_tree_upper : Nat → Int32) (v_t_tree_above : Nat → Int32) (v_t_tree_bounds : Nat → Int32) (v_t_back : Int32) (v_t_tree_deepest : Int32) (p1 : Int32) (p2 : Int32) (sz : Nat) (post : Int32 → Prop) (hF : F_X11_node p1 p2 v_t_tree_nodes v_t_tree_first v_t_tree_many v_t_tree_lower v_t_tree_upper v_t_tree_above v_t_tree_bounds post) : MetI l G (gT cI cL cZ) yX11_node (gW yX11_node cX11_node 3 (some .int)) rm_X11_node 0 0 [.ref h_t, .int p1, .int p2] sz [(h_t, .inr (11, [.ref h_t_points, .ref h_t_mesh, .ref h_t_camera, .ref h_t_lamps, .ref h_t_tree, .ref h_t_crossings, .ref h_t_atHand, .ref h_t_view, .ref h_t_sight, .ref h_t_shade, .ref h_t_slope, .ref h_t_box, .ref h_t_marked, .int v_t_back])), (h_t_tree, .inr (9, [.ref h_t_tree_order, .ref h_t_tree_first, .ref h_t_tree_many, .ref h_t_tree_lower, .ref h_t_tree_upper, .ref h_t_tree_above, .ref h_t_tree_bounds, .ref h_t_tree_met, .int v_t_tree_nodes, .int v_t_tree_deepest])), (h_t_tree_first, .inl (cI, 255, .inl v_t_tree_first)), (h_t_tree_many, .inl (cI, 255, .inl v_t_tree_many)), (h_t_tree_lower, .inl (cI, 255, .inl v_t_tree_lower)), (h_t_tree_upper, .inl (cI, 255, .inl v_t_tree_upper)), (h_t_tree_above, .inl (cI, 255, .inl v_t_tree_above)), (h_t_tree_bounds, .inl (cI, 1530, .inl v_t_tree_bounds))] (fun (u : Unit) => [(h_t, .inr (11, [.ref h_t_points, .ref h_t_mesh, .ref h_t_camera, .ref h_t_lamps, .ref h_t_tree, .ref h_t_crossings, .ref h_t_atHand, .ref h_t_view, .ref h_t_sight, .ref h_t_shade, .ref h_t_slope, .ref h_t_box, .ref h_t_marked, .int v_t_back])), (h_t_tree, .inr (9, [.ref h_t_tree_order, .ref h_t_tree_first, .ref h_t_tree_many, .ref h_t_tree_lower, .ref h_t_tree_upper, .ref h_t_tree_above, .ref h_t_tree_bounds, .ref h_t_tree_met, .int v_t_tree_nodes, .int v_t_tree_deepest])), (h_t_tree_first, .inl (cI, 255, .inl v_t_tree_first)), (h_t_tree_many, .inl (cI, 255, .inl v_t_tree_many)), (h_t_tree_lower, .inl (cI, 255, .inl v_t_tree_lower)), (h_t_tree_upper, .inl (cI, 255, .inl v_t_tree_upper)), (h_t_tree_above, .inl (cI, 255, .inl v_t_tree_above)), (h_t_tree_bounds, .inl (cI, 1530, .inl v_t_tree_bounds))]) (fun (r : Int32) (u : Unit) => post r) := by
  refine startI (cc := cX11_node) (maxL := 3) (ty9 := .int) (by decide +kernel) rfl (Nat.le_of_ble_eq_true rfl) ?_
  intro p e s m args below meth c Q ls A C0 hP hD hS hl hret
  obtain ⟨hx, hb, hml, hown, hts, hnw, hK, hA, hin⟩ := C0
  have hown : s.vm.findClass RX11 = some m.cls := hown
  have hl : lv_has ls 3 [(0, .ref h_t), (1, .int p1), (2, .int p2)] := hl
  refine lv_aload_n hx hb dX11_node_0 rfl (lv_at hl 0 rfl) ?_
  refine va_get (D := G) (ci := 11) (v := .ref h_t_tree) (C := RX11) (T := TX11) (N := 14) hx hb hts (fun w h => List.mem_cons_of_mem _ (inG_11 w h)) hown hK hP 0 rfl rfl 4 (by decide) (hts _ (List.mem_cons_of_mem _ mw_2_45)) (fun _ h9 => h9) rfl dX11_node_1 ?_
  refine lv_iload_n hx hb dX11_node_4 rfl (lv_at hl 1 rfl) ?_
  refine afterI (wr := [(h_t, .inr (11, [.ref h_t_points, .ref h_t_mesh, .ref h_t_camera, .ref h_t_lamps, .ref h_t_tree, .ref h_t_crossings, .ref h_t_atHand, .ref h_t_view, .ref h_t_sight, .ref h_t_shade, .ref h_t_slope, .ref h_t_box, .ref h_t_marked, .int v_t_back])), (h_t_tree_first, .inl (cI, 255, .inl v_t_tree_first)), (h_t_tree_many, .inl (cI, 255, .inl v_t_tree_many)), (h_t_tree_lower, .inl (cI, 255, .inl v_t_tree_lower)), (h_t_tree_upper, .inl (cI, 255, .inl v_t_tree_upper)), (h_t_tree_above, .inl (cI, 255, .inl v_t_tree_above)), (h_t_tree_bounds, .inl (cI, 1530, .inl v_t_tree_bounds))]) (va_runV (As := [.int p1]) (rest := []) ⟨hx, hb, hml, hown, hts⟩ (c_X9_hasNode l G cI cL cZ h_t_tree h_t_tree_order h_t_tree_first h_t_tree_many h_t_tree_lower h_t_tree_upper h_t_tree_above h_t_tree_bounds h_t_tree_met v_t_tree_nodes v_t_tree_deepest p1 _ _ hF) (cwV 1 hts (gV mw_3_55 mw_3_56 mw_3_57 mw_1_6 mw_3_58) rfl rfl rfl (by decide +kernel) ⟨Nat.le_of_ble_eq_true rfl, Nat.le_of_ble_eq_true rfl⟩) ⟨gP_blind, va_recv hK hP (ci := 9) (q0 := 1) rfl rfl, gP_of hK hnw hP hD [1] (by decide +kernel) rfl rfl⟩ rfl rfl hl.1 rfl (lv_room (Nat.le_of_ble_eq_true rfl)) dX11_node_5 ⟨Nat.le_of_ble_eq_true rfl, Nat.le_of_ble_eq_true rfl⟩) hP hD hS hA [1] [0, 2, 3, 4, 5, 6, 7] rfl rfl (by decide +kernel) (by decide +kernel) (fun r1 u H locs hF hP hD hS => ?_)
  try dsimp only at hF
  have hP : va_P G vwCl [(h_t, .inr (11, [.ref h_t_points, .ref h_t_mesh, .ref h_t_camera, .ref h_t_lamps, .ref h_t_tree, .ref h_t_crossings, .ref h_t_atHand, .ref h_t_view, .ref h_t_sight, .ref h_t_shade, .ref h_t_slope, .ref h_t_box, .ref h_t_marked, .int v_t_back])), (h_t_tree_first, .inl (cI, 255, .inl v_t_tree_first)), (h_t_tree_many, .inl (cI, 255, .inl v_t_tree_many)), (h_t_tree_lower, .inl (cI, 255, .inl v_t_tree_lower)), (h_t_tree_upper, .inl (cI, 255, .inl v_t_tree_upper)), (h_t_tree_above, .inl (cI, 255, .inl v_t_tree_above)), (h_t_tree_bounds, .inl (cI, 1530, .inl v_t_tree_bounds)), (h_t_tree, .inr (9, [.ref h_t_tree_order, .ref h_t_tree_first, .ref h_t_tree_many, .ref h_t_tree_lower, .ref h_t_tree_upper, .ref h_t_tree_above, .ref h_t_tree_bounds, .ref h_t_tree_met, .int v_t_tree_nodes, .int v_t_tree_deepest]))] H := hP
  have hD : va_D A [(h_t, .inr (11, [.ref h_t_points, .ref h_t_mesh, .ref h_t_camera, .ref h_t_lamps, .ref h_t_tree, .ref h_t_crossings, .ref h_t_atHand, .ref h_t_view, .ref h_t_sight, .ref h_t_shade, .ref h_t_slope, .ref h_t_box, .ref h_t_marked, .int v_t_back])), (h_t_tree_first, .inl (cI, 255, .inl v_t_tree_first)), (h_t_tree_many, .inl (cI, 255, .inl v_t_tree_many)), (h_t_tree_lower, .inl (cI, 255, .inl v_t_tree_lower)), (h_t_tree_upper, .inl (cI, 255, .inl v_t_tree_upper)), (h_t_tree_above, .inl (cI, 255, .inl v_t_tree_above)), (h_t_tree_bounds, .inl (cI, 1530, .inl v_t_tree_bounds)), (h_t_tree, .inr (9, [.ref h_t_tree_order, .ref h_t_tree_first, .ref h_t_tree_many, .ref h_t_tree_lower, .ref h_t_tree_upper, .ref h_t_tree_above, .ref h_t_tree_bounds, .ref h_t_tree_met, .int v_t_tree_nodes, .int v_t_tree_deepest]))] := hD
  refine lv_if_eq (tgt := 23) hx hb dX11_node_8 (by decide) (fun c2 => ?_) (fun c2 => ?_)
  · have hF := hF.1 c2
    refine lv_iconst (v := (-1)) hx hb dX11_node_23 (by decide) ?_
    exact hret 24 ls _ _ (-1) () dX11_node_24 rfl hF (hP.sub [0, 7, 1, 2, 3, 4, 5, 6] rfl) (hD.sub [0, 7, 1, 2, 3, 4, 5, 6] (by decide +kernel) rfl) hS
  · have hF := hF.2 c2
    refine lv_aload_n hx hb dX11_node_11 rfl (lv_at hl 0 rfl) ?_
    refine va_get (D := G) (ci := 11) (v := .ref h_t_tree) (C := RX11) (T := TX11) (N := 14) hx hb hts (fun w h => List.mem_cons_of_mem _ (inG_11 w h)) hown hK hP 0 rfl rfl 4 (by decide) (hts _ (List.mem_cons_of_mem _ mw_2_45)) (fun _ h9 => h9) rfl dX11_node_12 ?_
    refine lv_iload_n hx hb dX11_node_15 rfl (lv_at hl 1 rfl) ?_
    refine lv_iload_n hx hb dX11_node_16 rfl (lv_at hl 2 rfl) ?_
    refine afterI (wr := [(h_t, .inr (11, [.ref h_t_points, .ref h_t_mesh, .ref h_t_camera, .ref h_t_lamps, .ref h_t_tree, .ref h_t_crossings, .ref h_t_atHand, .ref h_t_view, .ref h_t_sight, .ref h_t_shade, .ref h_t_slope, .ref h_t_box, .ref h_t_marked, .int v_t_back]))]) (va_runV (As := [.int p1, .int p2]) (rest := []) ⟨hx, hb, hml, hown, hts⟩ (c_X9_describe l G cI cL cZ h_t_tree h_t_tree_order h_t_tree_first h_t_tree_many h_t_tree_lower h_t_tree_upper h_t_tree_above h_t_tree_bounds h_t_tree_met v_t_tree_first v_t_tree_many v_t_tree_lower v_t_tree_upper v_t_tree_above v_t_tree_bounds v_t_tree_nodes v_t_tree_deepest p1 p2 _ _ hF) (cwV 2 hts (gV mw_3_59 mw_3_60 mw_3_61 mw_1_6 mw_3_62) rfl rfl rfl (by decide +kernel) ⟨Nat.le_of_ble_eq_true rfl, Nat.le_of_ble_eq_true rfl⟩) ⟨gP_blind, va_recv hK hP (ci := 9) (q0 := 7) rfl rfl, gP_of hK hnw hP hD [7, 1, 2, 3, 4, 5, 6] (by decide +kernel) rfl rfl⟩ rfl rfl hl.1 rfl (lv_room (Nat.le_of_ble_eq_true rfl)) dX11_node_17 ⟨Nat.le_of_ble_eq_true rfl, Nat.le_of_ble_eq_true rfl⟩) hP hD hS hA [7, 1, 2, 3, 4, 5, 6] [0] rfl rfl (by decide +kernel) (by decide +kernel) (fun r3 u H locs hF hP hD hS => ?_)
    try dsimp only at hF
    have hP : va_P G vwCl [(h_t, .inr (11, [.ref h_t_points, .ref h_t_mesh, .ref h_t_camera, .ref h_t_lamps, .ref h_t_tree, .ref h_t_crossings, .ref h_t_atHand, .ref h_t_view, .ref h_t_sight, .ref h_t_shade, .ref h_t_slope, .ref h_t_box, .ref h_t_marked, .int v_t_back])), (h_t_tree, .inr (9, [.ref h_t_tree_order, .ref h_t_tree_first, .ref h_t_tree_many, .ref h_t_tree_lower, .ref h_t_tree_upper, .ref h_t_tree_above, .ref h_t_tree_bounds, .ref h_t_tree_met, .int v_t_tree_nodes, .int v_t_tree_deepest])), (h_t_tree_first, .inl (cI, 255, .inl v_t_tree_first)), (h_t_tree_many, .inl (cI, 255, .inl v_t_tree_many)), (h_t_tree_lower, .inl (cI, 255, .inl v_t_tree_lower)), (h_t_tree_upper, .inl (cI, 255, .inl v_t_tree_upper)), (h_t_tree_above, .inl (cI, 255, .inl v_t_tree_above)), (h_t_tree_bounds, .inl (cI, 1530, .inl v_t_tree_bounds))] H := hP
    have hD : va_D A [(h_t, .inr (11, [.ref h_t_points, .ref h_t_mesh, .ref h_t_camera, .ref h_t_lamps, .ref h_t_tree, .ref h_t_crossings, .ref h_t_atHand, .ref h_t_view, .ref h_t_sight, .ref h_t_shade, .ref h_t_slope, .ref h_t_box, .ref h_t_marked, .int v_t_back])), (h_t_tree, .inr (9, [.ref h_t_tree_order, .ref h_t_tree_first, .ref h_t_tree_many, .ref h_t_tree_lower, .ref h_t_tree_upper, .ref h_t_tree_above, .ref h_t_tree_bounds, .ref h_t_tree_met, .int v_t_tree_nodes, .int v_t_tree_deepest])), (h_t_tree_first, .inl (cI, 255, .inl v_t_tree_first)), (h_t_tree_many, .inl (cI, 255, .inl v_t_tree_many)), (h_t_tree_lower, .inl (cI, 255, .inl v_t_tree_lower)), (h_t_tree_upper, .inl (cI, 255, .inl v_t_tree_upper)), (h_t_tree_above, .inl (cI, 255, .inl v_t_tree_above)), (h_t_tree_bounds, .inl (cI, 1530, .inl v_t_tree_bounds))] := hD
    refine lv_goto (tgt := 24) hx hb dX11_node_20 (by decide) ?_
    exact hret 24 ls _ _ r3 () dX11_node_24 rfl hF hP hD hS

def rm_X9_hasPlace : Room := { frames := 1, cells := 0, slots := 0, locals := 20 }
def F_X9_hasPlace (p1 : Int32) (v_t_nodes : Int32) (v_t_many : Nat → Int32) (post : Int32 → Prop) : Prop := (F_X9_stands v_t_nodes (fun r1 => ((r1 = 0 → post 0) ∧ (¬ r1 = 0 → ((p1 < 0 → post 0) ∧ (¬ p1 < 0 → (vp_in 0 255 ∧ (((v_t_many (0 : Int32).toNatClampNeg) ≤ p1 → post 0) ∧ (¬ (v_t_many (0 : Int32).toNatClampNeg) ≤ p1 → post 1)))))))))
set_option maxHeartbeats 8000000 in
set_option maxRecDepth 100000 in
theorem c_X9_hasPlace (l : Launch) (G : va_G) (cI cL cZ : ClassId) (h_t : Nat) (h_t_order : Nat) (h_t_first : Nat) (h_t_many : Nat) (h_t_lower : Nat) (h_t_upper : Nat) (h_t_above : Nat) (h_t_bounds : Nat) (h_t_met : Nat) (v_t_nodes : Int32) (v_t_many : Nat → Int32) (v_t_deepest : Int32) (p1 : Int32) (sz : Nat) (post : Int32 → Prop) (hF : F_X9_hasPlace p1 v_t_nodes v_t_many post) : MetI l G (gT cI cL cZ) yX9_hasPlace (gW yX9_hasPlace cX9_hasPlace 2 (some .boolean)) rm_X9_hasPlace 0 0 [.ref h_t, .int p1] sz [(h_t, .inr (9, [.ref h_t_order, .ref h_t_first, .ref h_t_many, .ref h_t_lower, .ref h_t_upper, .ref h_t_above, .ref h_t_bounds, .ref h_t_met, .int v_t_nodes, .int v_t_deepest])), (h_t_many, .inl (cI, 255, .inl v_t_many))] (fun (u : Unit) => [(h_t, .inr (9, [.ref h_t_order, .ref h_t_first, .ref h_t_many, .ref h_t_lower, .ref h_t_upper, .ref h_t_above, .ref h_t_bounds, .ref h_t_met, .int v_t_nodes, .int v_t_deepest])), (h_t_many, .inl (cI, 255, .inl v_t_many))]) (fun (r : Int32) (u : Unit) => post r) := by
  refine startI (cc := cX9_hasPlace) (maxL := 2) (ty9 := .boolean) (by decide +kernel) rfl (Nat.le_of_ble_eq_true rfl) ?_
  intro p e s m args below meth c Q ls A C0 hP hD hS hl hret
  obtain ⟨hx, hb, hml, hown, hts, hnw, hK, hA, hin⟩ := C0
  have hown : s.vm.findClass RX9 = some m.cls := hown
  have hl : lv_has ls 2 [(0, .ref h_t), (1, .int p1)] := hl
  refine lv_aload_n hx hb dX9_hasPlace_0 rfl (lv_at hl 0 rfl) ?_
  refine afterI (wr := [(h_t_many, .inl (cI, 255, .inl v_t_many))]) (va_runV (As := []) (rest := []) ⟨hx, hb, hml, hown, hts⟩ (c_X9_stands l G cI cL cZ h_t h_t_order h_t_first h_t_many h_t_lower h_t_upper h_t_above h_t_bounds h_t_met v_t_nodes v_t_deepest _ _ hF) (cwV 0 hts (gV mw_3_71 mw_3_44 mw_3_45 mw_1_6 mw_3_46) rfl rfl rfl (by decide +kernel) ⟨Nat.le_of_ble_eq_true rfl, Nat.le_of_ble_eq_true rfl⟩) ⟨gP_blind, va_recv hK hP (ci := 9) (q0 := 0) rfl rfl, gP_of hK hnw hP hD [0] (by decide +kernel) rfl rfl⟩ rfl rfl hl.1 rfl (lv_room (Nat.le_of_ble_eq_true rfl)) dX9_hasPlace_1 ⟨Nat.le_of_ble_eq_true rfl, Nat.le_of_ble_eq_true rfl⟩) hP hD hS hA [0] [1] rfl rfl (by decide +kernel) (by decide +kernel) (fun r1 u H locs hF hP hD hS => ?_)
  try dsimp only at hF
  have hP : va_P G vwCl [(h_t_many, .inl (cI, 255, .inl v_t_many)), (h_t, .inr (9, [.ref h_t_order, .ref h_t_first, .ref h_t_many, .ref h_t_lower, .ref h_t_upper, .ref h_t_above, .ref h_t_bounds, .ref h_t_met, .int v_t_nodes, .int v_t_deepest]))] H := hP
  have hD : va_D A [(h_t_many, .inl (cI, 255, .inl v_t_many)), (h_t, .inr (9, [.ref h_t_order, .ref h_t_first, .ref h_t_many, .ref h_t_lower, .ref h_t_upper, .ref h_t_above, .ref h_t_bounds, .ref h_t_met, .int v_t_nodes, .int v_t_deepest]))] := hD
  refine lv_if_eq (tgt := 25) hx hb dX9_hasPlace_4 (by decide) (fun c2 => ?_) (fun c2 => ?_)
  · have hF := hF.1 c2
    refine lv_iconst (v := 0) hx hb dX9_hasPlace_25 (by decide) ?_
    exact hret 26 ls _ _ 0 () dX9_hasPlace_26 (by decide) hF (hP.sub [1, 0] rfl) (hD.sub [1, 0] (by decide +kernel) rfl) hS
  · have hF := hF.2 c2
    refine lv_iload_n hx hb dX9_hasPlace_7 rfl (lv_at hl 1 rfl) ?_
    refine lv_if_lt (tgt := 25) hx hb dX9_hasPlace_8 (by decide) (fun c3 => ?_) (fun c3 => ?_)
    · have hF := hF.1 c3
      refine lv_iconst (v := 0) hx hb dX9_hasPlace_25 (by decide) ?_
      exact hret 26 ls _ _ 0 () dX9_hasPlace_26 (by decide) hF (hP.sub [1, 0] rfl) (hD.sub [1, 0] (by decide +kernel) rfl) hS
    · have hF := hF.2 c3
      refine lv_iload_n hx hb dX9_hasPlace_11 rfl (lv_at hl 1 rfl) ?_
      refine lv_aload_n hx hb dX9_hasPlace_12 rfl (lv_at hl 0 rfl) ?_
      refine va_get (D := G) (ci := 9) (v := .ref h_t_many) (C := RX9) (T := TX9) (N := 10) hx hb hts (fun w h => List.mem_cons_of_mem _ (inG_9 w h)) hown hK hP 1 rfl rfl 2 (by decide) (hts _ (List.mem_cons_of_mem _ mw_1_115)) (fun _ h9 => h9) rfl dX9_hasPlace_13 ?_
      refine lv_iconst (v := 0) hx hb dX9_hasPlace_16 (by decide) ?_
      obtain ⟨b4, hF⟩ := hF
      refine va_iald hx hb hK hP 0 0 rfl rfl b4 dX9_hasPlace_17 ?_
      refine lv_icmp_ge (tgt := 25) hx hb dX9_hasPlace_18 (by decide) (fun c5 => ?_) (fun c5 => ?_)
      · have hF := hF.1 c5
        refine lv_iconst (v := 0) hx hb dX9_hasPlace_25 (by decide) ?_
        exact hret 26 ls _ _ 0 () dX9_hasPlace_26 (by decide) hF (hP.sub [1, 0] rfl) (hD.sub [1, 0] (by decide +kernel) rfl) hS
      · have hF := hF.2 c5
        refine lv_iconst (v := 1) hx hb dX9_hasPlace_21 (by decide) ?_
        refine lv_goto (tgt := 26) hx hb dX9_hasPlace_22 (by decide) ?_
        exact hret 26 ls _ _ 1 () dX9_hasPlace_26 (by decide) hF (hP.sub [1, 0] rfl) (hD.sub [1, 0] (by decide +kernel) rfl) hS

def rm_X9_triangleAt : Room := { frames := 0, cells := 0, slots := 0, locals := 0 }
def F_X9_triangleAt (p1 : Int32) (v_t_order : Nat → Int32) (post : Int32 → Prop) : Prop := (vp_in p1 128 ∧ post (v_t_order p1.toNatClampNeg))
set_option maxHeartbeats 8000000 in
set_option maxRecDepth 100000 in
theorem c_X9_triangleAt (l : Launch) (G : va_G) (cI cL cZ : ClassId) (h_t : Nat) (h_t_order : Nat) (h_t_first : Nat) (h_t_many : Nat) (h_t_lower : Nat) (h_t_upper : Nat) (h_t_above : Nat) (h_t_bounds : Nat) (h_t_met : Nat) (v_t_order : Nat → Int32) (v_t_nodes : Int32) (v_t_deepest : Int32) (p1 : Int32) (sz : Nat) (post : Int32 → Prop) (hF : F_X9_triangleAt p1 v_t_order post) : MetI l G (gT cI cL cZ) yX9_triangleAt (gW yX9_triangleAt cX9_triangleAt 2 (some .int)) rm_X9_triangleAt 0 0 [.ref h_t, .int p1] sz [(h_t, .inr (9, [.ref h_t_order, .ref h_t_first, .ref h_t_many, .ref h_t_lower, .ref h_t_upper, .ref h_t_above, .ref h_t_bounds, .ref h_t_met, .int v_t_nodes, .int v_t_deepest])), (h_t_order, .inl (cI, 128, .inl v_t_order))] (fun (u : Unit) => [(h_t, .inr (9, [.ref h_t_order, .ref h_t_first, .ref h_t_many, .ref h_t_lower, .ref h_t_upper, .ref h_t_above, .ref h_t_bounds, .ref h_t_met, .int v_t_nodes, .int v_t_deepest])), (h_t_order, .inl (cI, 128, .inl v_t_order))]) (fun (r : Int32) (u : Unit) => post r) := by
  refine startI (cc := cX9_triangleAt) (maxL := 2) (ty9 := .int) (by decide +kernel) rfl (Nat.le_of_ble_eq_true rfl) ?_
  intro p e s m args below meth c Q ls A C0 hP hD hS hl hret
  obtain ⟨hx, hb, hml, hown, hts, hnw, hK, hA, hin⟩ := C0
  have hown : s.vm.findClass RX9 = some m.cls := hown
  have hl : lv_has ls 2 [(0, .ref h_t), (1, .int p1)] := hl
  refine lv_aload_n hx hb dX9_triangleAt_0 rfl (lv_at hl 0 rfl) ?_
  refine va_get (D := G) (ci := 9) (v := .ref h_t_order) (C := RX9) (T := TX9) (N := 10) hx hb hts (fun w h => List.mem_cons_of_mem _ (inG_9 w h)) hown hK hP 0 rfl rfl 0 (by decide) (hts _ (List.mem_cons_of_mem _ mw_1_113)) (fun _ h9 => h9) rfl dX9_triangleAt_1 ?_
  refine lv_iload_n hx hb dX9_triangleAt_4 rfl (lv_at hl 1 rfl) ?_
  obtain ⟨b1, hF⟩ := hF
  refine va_iald hx hb hK hP 1 0 rfl rfl b1 dX9_triangleAt_5 ?_
  exact hret 6 ls _ _ (v_t_order p1.toNatClampNeg) () dX9_triangleAt_6 rfl hF hP hD hS

def rm_X11_order : Room := { frames := 2, cells := 0, slots := 0, locals := 41 }
def F_X11_order (p1 : Int32) (v_t_tree_nodes : Int32) (v_t_tree_order : Nat → Int32) (v_t_tree_many : Nat → Int32) (post : Int32 → Prop) : Prop := (F_X9_hasPlace p1 v_t_tree_nodes v_t_tree_many (fun r1 => ((r1 = 0 → post (-1)) ∧ (¬ r1 = 0 → (F_X9_triangleAt p1 v_t_tree_order (fun r3 => post r3))))))
set_option maxHeartbeats 8000000 in
set_option maxRecDepth 100000 in
theorem c_X11_order (l : Launch) (G : va_G) (cI cL cZ : ClassId) (h_t : Nat) (h_t_points : Nat) (h_t_mesh : Nat) (h_t_camera : Nat) (h_t_lamps : Nat) (h_t_tree : Nat) (h_t_crossings : Nat) (h_t_atHand : Nat) (h_t_view : Nat) (h_t_sight : Nat) (h_t_shade : Nat) (h_t_slope : Nat) (h_t_box : Nat) (h_t_marked : Nat) (h_t_tree_order : Nat) (h_t_tree_first : Nat) (h_t_tree_many : Nat) (h_t_tree_lower : Nat) (h_t_tree_upper : Nat) (h_t_tree_above : Nat) (h_t_tree_bounds : Nat) (h_t_tree_met : Nat) (v_t_tree_nodes : Int32) (v_t_tree_order : Nat → Int32) (v_t_tree_many : Nat → Int32) (v_t_back : Int32) (v_t_tree_deepest : Int32) (p1 : Int32) (sz : Nat) (post : Int32 → Prop) (hF : F_X11_order p1 v_t_tree_nodes v_t_tree_order v_t_tree_many post) : MetI l G (gT cI cL cZ) yX11_order (gW yX11_order cX11_order 2 (some .int)) rm_X11_order 0 0 [.ref h_t, .int p1] sz [(h_t, .inr (11, [.ref h_t_points, .ref h_t_mesh, .ref h_t_camera, .ref h_t_lamps, .ref h_t_tree, .ref h_t_crossings, .ref h_t_atHand, .ref h_t_view, .ref h_t_sight, .ref h_t_shade, .ref h_t_slope, .ref h_t_box, .ref h_t_marked, .int v_t_back])), (h_t_tree, .inr (9, [.ref h_t_tree_order, .ref h_t_tree_first, .ref h_t_tree_many, .ref h_t_tree_lower, .ref h_t_tree_upper, .ref h_t_tree_above, .ref h_t_tree_bounds, .ref h_t_tree_met, .int v_t_tree_nodes, .int v_t_tree_deepest])), (h_t_tree_order, .inl (cI, 128, .inl v_t_tree_order)), (h_t_tree_many, .inl (cI, 255, .inl v_t_tree_many))] (fun (u : Unit) => [(h_t, .inr (11, [.ref h_t_points, .ref h_t_mesh, .ref h_t_camera, .ref h_t_lamps, .ref h_t_tree, .ref h_t_crossings, .ref h_t_atHand, .ref h_t_view, .ref h_t_sight, .ref h_t_shade, .ref h_t_slope, .ref h_t_box, .ref h_t_marked, .int v_t_back])), (h_t_tree, .inr (9, [.ref h_t_tree_order, .ref h_t_tree_first, .ref h_t_tree_many, .ref h_t_tree_lower, .ref h_t_tree_upper, .ref h_t_tree_above, .ref h_t_tree_bounds, .ref h_t_tree_met, .int v_t_tree_nodes, .int v_t_tree_deepest])), (h_t_tree_order, .inl (cI, 128, .inl v_t_tree_order)), (h_t_tree_many, .inl (cI, 255, .inl v_t_tree_many))]) (fun (r : Int32) (u : Unit) => post r) := by
  refine startI (cc := cX11_order) (maxL := 2) (ty9 := .int) (by decide +kernel) rfl (Nat.le_of_ble_eq_true rfl) ?_
  intro p e s m args below meth c Q ls A C0 hP hD hS hl hret
  obtain ⟨hx, hb, hml, hown, hts, hnw, hK, hA, hin⟩ := C0
  have hown : s.vm.findClass RX11 = some m.cls := hown
  have hl : lv_has ls 2 [(0, .ref h_t), (1, .int p1)] := hl
  refine lv_aload_n hx hb dX11_order_0 rfl (lv_at hl 0 rfl) ?_
  refine va_get (D := G) (ci := 11) (v := .ref h_t_tree) (C := RX11) (T := TX11) (N := 14) hx hb hts (fun w h => List.mem_cons_of_mem _ (inG_11 w h)) hown hK hP 0 rfl rfl 4 (by decide) (hts _ (List.mem_cons_of_mem _ mw_2_45)) (fun _ h9 => h9) rfl dX11_order_1 ?_
  refine lv_iload_n hx hb dX11_order_4 rfl (lv_at hl 1 rfl) ?_
  refine afterI (wr := [(h_t, .inr (11, [.ref h_t_points, .ref h_t_mesh, .ref h_t_camera, .ref h_t_lamps, .ref h_t_tree, .ref h_t_crossings, .ref h_t_atHand, .ref h_t_view, .ref h_t_sight, .ref h_t_shade, .ref h_t_slope, .ref h_t_box, .ref h_t_marked, .int v_t_back])), (h_t_tree_order, .inl (cI, 128, .inl v_t_tree_order))]) (va_runV (As := [.int p1]) (rest := []) ⟨hx, hb, hml, hown, hts⟩ (c_X9_hasPlace l G cI cL cZ h_t_tree h_t_tree_order h_t_tree_first h_t_tree_many h_t_tree_lower h_t_tree_upper h_t_tree_above h_t_tree_bounds h_t_tree_met v_t_tree_nodes v_t_tree_many v_t_tree_deepest p1 _ _ hF) (cwV 1 hts (gV mw_3_67 mw_3_68 mw_3_69 mw_1_6 mw_3_70) rfl rfl rfl (by decide +kernel) ⟨Nat.le_of_ble_eq_true rfl, Nat.le_of_ble_eq_true rfl⟩) ⟨gP_blind, va_recv hK hP (ci := 9) (q0 := 1) rfl rfl, gP_of hK hnw hP hD [1, 3] (by decide +kernel) rfl rfl⟩ rfl rfl hl.1 rfl (lv_room (Nat.le_of_ble_eq_true rfl)) dX11_order_5 ⟨Nat.le_of_ble_eq_true rfl, Nat.le_of_ble_eq_true rfl⟩) hP hD hS hA [1, 3] [0, 2] rfl rfl (by decide +kernel) (by decide +kernel) (fun r1 u H locs hF hP hD hS => ?_)
  try dsimp only at hF
  have hP : va_P G vwCl [(h_t, .inr (11, [.ref h_t_points, .ref h_t_mesh, .ref h_t_camera, .ref h_t_lamps, .ref h_t_tree, .ref h_t_crossings, .ref h_t_atHand, .ref h_t_view, .ref h_t_sight, .ref h_t_shade, .ref h_t_slope, .ref h_t_box, .ref h_t_marked, .int v_t_back])), (h_t_tree_order, .inl (cI, 128, .inl v_t_tree_order)), (h_t_tree, .inr (9, [.ref h_t_tree_order, .ref h_t_tree_first, .ref h_t_tree_many, .ref h_t_tree_lower, .ref h_t_tree_upper, .ref h_t_tree_above, .ref h_t_tree_bounds, .ref h_t_tree_met, .int v_t_tree_nodes, .int v_t_tree_deepest])), (h_t_tree_many, .inl (cI, 255, .inl v_t_tree_many))] H := hP
  have hD : va_D A [(h_t, .inr (11, [.ref h_t_points, .ref h_t_mesh, .ref h_t_camera, .ref h_t_lamps, .ref h_t_tree, .ref h_t_crossings, .ref h_t_atHand, .ref h_t_view, .ref h_t_sight, .ref h_t_shade, .ref h_t_slope, .ref h_t_box, .ref h_t_marked, .int v_t_back])), (h_t_tree_order, .inl (cI, 128, .inl v_t_tree_order)), (h_t_tree, .inr (9, [.ref h_t_tree_order, .ref h_t_tree_first, .ref h_t_tree_many, .ref h_t_tree_lower, .ref h_t_tree_upper, .ref h_t_tree_above, .ref h_t_tree_bounds, .ref h_t_tree_met, .int v_t_tree_nodes, .int v_t_tree_deepest])), (h_t_tree_many, .inl (cI, 255, .inl v_t_tree_many))] := hD
  refine lv_if_eq (tgt := 22) hx hb dX11_order_8 (by decide) (fun c2 => ?_) (fun c2 => ?_)
  · have hF := hF.1 c2
    refine lv_iconst (v := (-1)) hx hb dX11_order_22 (by decide) ?_
    exact hret 23 ls _ _ (-1) () dX11_order_23 rfl hF (hP.sub [0, 2, 1, 3] rfl) (hD.sub [0, 2, 1, 3] (by decide +kernel) rfl) hS
  · have hF := hF.2 c2
    refine lv_aload_n hx hb dX11_order_11 rfl (lv_at hl 0 rfl) ?_
    refine va_get (D := G) (ci := 11) (v := .ref h_t_tree) (C := RX11) (T := TX11) (N := 14) hx hb hts (fun w h => List.mem_cons_of_mem _ (inG_11 w h)) hown hK hP 0 rfl rfl 4 (by decide) (hts _ (List.mem_cons_of_mem _ mw_2_45)) (fun _ h9 => h9) rfl dX11_order_12 ?_
    refine lv_iload_n hx hb dX11_order_15 rfl (lv_at hl 1 rfl) ?_
    refine afterI (wr := [(h_t, .inr (11, [.ref h_t_points, .ref h_t_mesh, .ref h_t_camera, .ref h_t_lamps, .ref h_t_tree, .ref h_t_crossings, .ref h_t_atHand, .ref h_t_view, .ref h_t_sight, .ref h_t_shade, .ref h_t_slope, .ref h_t_box, .ref h_t_marked, .int v_t_back])), (h_t_tree_many, .inl (cI, 255, .inl v_t_tree_many))]) (va_runV (As := [.int p1]) (rest := []) ⟨hx, hb, hml, hown, hts⟩ (c_X9_triangleAt l G cI cL cZ h_t_tree h_t_tree_order h_t_tree_first h_t_tree_many h_t_tree_lower h_t_tree_upper h_t_tree_above h_t_tree_bounds h_t_tree_met v_t_tree_order v_t_tree_nodes v_t_tree_deepest p1 _ _ hF) (cwV 1 hts (gV mw_3_72 mw_3_73 mw_3_74 mw_1_6 mw_3_75) rfl rfl rfl (by decide +kernel) ⟨Nat.le_of_ble_eq_true rfl, Nat.le_of_ble_eq_true rfl⟩) ⟨gP_blind, va_recv hK hP (ci := 9) (q0 := 2) rfl rfl, gP_of hK hnw hP hD [2, 1] (by decide +kernel) rfl rfl⟩ rfl rfl hl.1 rfl (lv_room (Nat.le_of_ble_eq_true rfl)) dX11_order_16 ⟨Nat.le_of_ble_eq_true rfl, Nat.le_of_ble_eq_true rfl⟩) hP hD hS hA [2, 1] [0, 3] rfl rfl (by decide +kernel) (by decide +kernel) (fun r3 u H locs hF hP hD hS => ?_)
    try dsimp only at hF
    have hP : va_P G vwCl [(h_t, .inr (11, [.ref h_t_points, .ref h_t_mesh, .ref h_t_camera, .ref h_t_lamps, .ref h_t_tree, .ref h_t_crossings, .ref h_t_atHand, .ref h_t_view, .ref h_t_sight, .ref h_t_shade, .ref h_t_slope, .ref h_t_box, .ref h_t_marked, .int v_t_back])), (h_t_tree_many, .inl (cI, 255, .inl v_t_tree_many)), (h_t_tree, .inr (9, [.ref h_t_tree_order, .ref h_t_tree_first, .ref h_t_tree_many, .ref h_t_tree_lower, .ref h_t_tree_upper, .ref h_t_tree_above, .ref h_t_tree_bounds, .ref h_t_tree_met, .int v_t_tree_nodes, .int v_t_tree_deepest])), (h_t_tree_order, .inl (cI, 128, .inl v_t_tree_order))] H := hP
    have hD : va_D A [(h_t, .inr (11, [.ref h_t_points, .ref h_t_mesh, .ref h_t_camera, .ref h_t_lamps, .ref h_t_tree, .ref h_t_crossings, .ref h_t_atHand, .ref h_t_view, .ref h_t_sight, .ref h_t_shade, .ref h_t_slope, .ref h_t_box, .ref h_t_marked, .int v_t_back])), (h_t_tree_many, .inl (cI, 255, .inl v_t_tree_many)), (h_t_tree, .inr (9, [.ref h_t_tree_order, .ref h_t_tree_first, .ref h_t_tree_many, .ref h_t_tree_lower, .ref h_t_tree_upper, .ref h_t_tree_above, .ref h_t_tree_bounds, .ref h_t_tree_met, .int v_t_tree_nodes, .int v_t_tree_deepest])), (h_t_tree_order, .inl (cI, 128, .inl v_t_tree_order))] := hD
    refine lv_goto (tgt := 23) hx hb dX11_order_19 (by decide) ?_
    exact hret 23 ls _ _ r3 () dX11_order_23 rfl hF (hP.sub [0, 2, 3, 1] rfl) (hD.sub [0, 2, 3, 1] (by decide +kernel) rfl) hS

def rm_X1_hasPixel : Room := { frames := 0, cells := 0, slots := 0, locals := 0 }
def F_X1_hasPixel (p1 : Int32) (p2 : Int32) (v_t_w : Int32) (v_t_h : Int32) (post : Int32 → Prop) : Prop := ((p1 < 0 → post 0) ∧ (¬ p1 < 0 → ((v_t_w ≤ p1 → post 0) ∧ (¬ v_t_w ≤ p1 → ((p2 < 0 → post 0) ∧ (¬ p2 < 0 → ((v_t_h ≤ p2 → post 0) ∧ (¬ v_t_h ≤ p2 → post 1))))))))
set_option maxHeartbeats 8000000 in
set_option maxRecDepth 100000 in
theorem c_X1_hasPixel (l : Launch) (G : va_G) (cI cL cZ : ClassId) (h_t : Nat) (h_t_eye : Nat) (h_t_axes : Nat) (h_t_trial : Nat) (v_t_w : Int32) (v_t_h : Int32) (p1 : Int32) (p2 : Int32) (sz : Nat) (post : Int32 → Prop) (hF : F_X1_hasPixel p1 p2 v_t_w v_t_h post) : MetI l G (gT cI cL cZ) yX1_hasPixel (gW yX1_hasPixel cX1_hasPixel 3 (some .boolean)) rm_X1_hasPixel 0 0 [.ref h_t, .int p1, .int p2] sz [(h_t, .inr (1, [.ref h_t_eye, .ref h_t_axes, .ref h_t_trial, .int v_t_w, .int v_t_h]))] (fun (u : Unit) => [(h_t, .inr (1, [.ref h_t_eye, .ref h_t_axes, .ref h_t_trial, .int v_t_w, .int v_t_h]))]) (fun (r : Int32) (u : Unit) => post r) := by
  refine startI (cc := cX1_hasPixel) (maxL := 3) (ty9 := .boolean) (by decide +kernel) rfl (Nat.le_of_ble_eq_true rfl) ?_
  intro p e s m args below meth c Q ls A C0 hP hD hS hl hret
  obtain ⟨hx, hb, hml, hown, hts, hnw, hK, hA, hin⟩ := C0
  have hown : s.vm.findClass RX1 = some m.cls := hown
  have hl : lv_has ls 3 [(0, .ref h_t), (1, .int p1), (2, .int p2)] := hl
  refine lv_iload_n hx hb dX1_hasPixel_0 rfl (lv_at hl 1 rfl) ?_
  refine lv_if_lt (tgt := 28) hx hb dX1_hasPixel_1 (by decide) (fun c1 => ?_) (fun c1 => ?_)
  · have hF := hF.1 c1
    refine lv_iconst (v := 0) hx hb dX1_hasPixel_28 (by decide) ?_
    exact hret 29 ls _ _ 0 () dX1_hasPixel_29 (by decide) hF hP hD hS
  · have hF := hF.2 c1
    refine lv_iload_n hx hb dX1_hasPixel_4 rfl (lv_at hl 1 rfl) ?_
    refine lv_aload_n hx hb dX1_hasPixel_5 rfl (lv_at hl 0 rfl) ?_
    refine va_get (D := G) (ci := 1) (v := .int v_t_w) (C := RX1) (T := TX1) (N := 5) hx hb hts (fun w h => List.mem_cons_of_mem _ (inG_1 w h)) hown hK hP 0 rfl rfl 3 (by decide) (hts _ (List.mem_cons_of_mem _ mw_1_73)) (fun _ h9 => h9) rfl dX1_hasPixel_6 ?_
    refine lv_icmp_ge (tgt := 28) hx hb dX1_hasPixel_9 (by decide) (fun c2 => ?_) (fun c2 => ?_)
    · have hF := hF.1 c2
      refine lv_iconst (v := 0) hx hb dX1_hasPixel_28 (by decide) ?_
      exact hret 29 ls _ _ 0 () dX1_hasPixel_29 (by decide) hF hP hD hS
    · have hF := hF.2 c2
      refine lv_iload_n hx hb dX1_hasPixel_12 rfl (lv_at hl 2 rfl) ?_
      refine lv_if_lt (tgt := 28) hx hb dX1_hasPixel_13 (by decide) (fun c3 => ?_) (fun c3 => ?_)
      · have hF := hF.1 c3
        refine lv_iconst (v := 0) hx hb dX1_hasPixel_28 (by decide) ?_
        exact hret 29 ls _ _ 0 () dX1_hasPixel_29 (by decide) hF hP hD hS
      · have hF := hF.2 c3
        refine lv_iload_n hx hb dX1_hasPixel_16 rfl (lv_at hl 2 rfl) ?_
        refine lv_aload_n hx hb dX1_hasPixel_17 rfl (lv_at hl 0 rfl) ?_
        refine va_get (D := G) (ci := 1) (v := .int v_t_h) (C := RX1) (T := TX1) (N := 5) hx hb hts (fun w h => List.mem_cons_of_mem _ (inG_1 w h)) hown hK hP 0 rfl rfl 4 (by decide) (hts _ (List.mem_cons_of_mem _ mw_1_75)) (fun _ h9 => h9) rfl dX1_hasPixel_18 ?_
        refine lv_icmp_ge (tgt := 28) hx hb dX1_hasPixel_21 (by decide) (fun c4 => ?_) (fun c4 => ?_)
        · have hF := hF.1 c4
          refine lv_iconst (v := 0) hx hb dX1_hasPixel_28 (by decide) ?_
          exact hret 29 ls _ _ 0 () dX1_hasPixel_29 (by decide) hF hP hD hS
        · have hF := hF.2 c4
          refine lv_iconst (v := 1) hx hb dX1_hasPixel_24 (by decide) ?_
          refine lv_goto (tgt := 29) hx hb dX1_hasPixel_25 (by decide) ?_
          exact hret 29 ls _ _ 1 () dX1_hasPixel_29 (by decide) hF hP hD hS

def rm_X1_aim : Room := { frames := 0, cells := 0, slots := 0, locals := 0 }
def L_X1_aim_29 (post : (Nat → Int64) → (Nat → Int64) → Prop) (v_t_w : Int32) (v_t_h : Int32) (v_t_eye : Nat → Int32) (v_t_axes : Nat → Int32) : Nat → Int64 → Int64 → Int32 → (Nat → Int64) → (Nat → Int64) → Prop
  | 0, _, _, _, _, _ => False
  | n_29 + 1, l4, l6, l8, v_p3_from, v_p3_along => ((3 ≤ l8 → post v_p3_from v_p3_along) ∧ (¬ 3 ≤ l8 → (vp_in l8 3 ∧ (vp_in l8 3 ∧ (∀ g6 : Nat → Int64, g6 = vp_updL v_p3_from (l8.toNatClampNeg) ((v_t_eye l8.toNatClampNeg).toInt64) → (vp_in l8 9 ∧ (vp_in (3 + l8) 9 ∧ (vp_in (6 + l8) 9 ∧ (vp_in l8 3 ∧ (∀ g11 : Nat → Int64, g11 = vp_updL v_p3_along (l8.toNatClampNeg) ((((v_t_axes l8.toNatClampNeg).toInt64) + (l4 * ((v_t_axes (3 + l8).toNatClampNeg).toInt64))) + (l6 * ((v_t_axes (6 + l8).toNatClampNeg).toInt64))) → (∀ x12 : Int32, x12 = (l8 + 1) → L_X1_aim_29 post v_t_w v_t_h v_t_eye v_t_axes n_29 l4 l6 x12 g6 g11)))))))))))
def F_X1_aim (p1 : Int32) (p2 : Int32) (v_t_w : Int32) (v_t_h : Int32) (v_t_eye : Nat → Int32) (v_t_axes : Nat → Int32) (v_p3_from : Nat → Int64) (v_p3_along : Nat → Int64) (post : (Nat → Int64) → (Nat → Int64) → Prop) : Prop := (∀ x1 : Int64, x1 = ((((2 * p1) - v_t_w) + 1).toInt64) → (∀ x2 : Int64, x2 = (((v_t_h - 1) - (2 * p2)).toInt64) → (∃ n0 : Nat, L_X1_aim_29 post v_t_w v_t_h v_t_eye v_t_axes n0 x1 x2 0 v_p3_from v_p3_along)))
set_option maxHeartbeats 8000000 in
set_option maxRecDepth 100000 in
theorem c_X1_aim (l : Launch) (G : va_G) (cI cL cZ : ClassId) (h_t : Nat) (h_t_eye : Nat) (h_t_axes : Nat) (h_t_trial : Nat) (h_p3 : Nat) (h_p3_from : Nat) (h_p3_along : Nat) (v_t_w : Int32) (v_t_h : Int32) (v_t_eye : Nat → Int32) (v_t_axes : Nat → Int32) (v_p3_from : Nat → Int64) (v_p3_along : Nat → Int64) (v_p3_turn : Int64) (v_p3_far : Int64) (v_p3_over : Int64) (v_p3_weightA : Int64) (v_p3_weightB : Int64) (v_p3_weightC : Int64) (p1 : Int32) (p2 : Int32) (sz : Nat) (post : (Nat → Int64) → (Nat → Int64) → Prop) (hF : F_X1_aim p1 p2 v_t_w v_t_h v_t_eye v_t_axes v_p3_from v_p3_along post) : MetV l G (gT cI cL cZ) yX1_aim (gW yX1_aim cX1_aim 9 none) rm_X1_aim 0 0 [.ref h_t, .int p1, .int p2, .ref h_p3] sz [(h_t, .inr (1, [.ref h_t_eye, .ref h_t_axes, .ref h_t_trial, .int v_t_w, .int v_t_h])), (h_t_eye, .inl (cI, 3, .inl v_t_eye)), (h_t_axes, .inl (cI, 9, .inl v_t_axes)), (h_p3, .inr (7, [.ref h_p3_from, .ref h_p3_along, .long v_p3_turn, .long v_p3_far, .long v_p3_over, .long v_p3_weightA, .long v_p3_weightB, .long v_p3_weightC])), (h_p3_from, .inl (cL, 3, .inr (.inl v_p3_from))), (h_p3_along, .inl (cL, 3, .inr (.inl v_p3_along)))] (fun (u : (Nat → Int64) × (Nat → Int64)) => [(h_t, .inr (1, [.ref h_t_eye, .ref h_t_axes, .ref h_t_trial, .int v_t_w, .int v_t_h])), (h_t_eye, .inl (cI, 3, .inl v_t_eye)), (h_t_axes, .inl (cI, 9, .inl v_t_axes)), (h_p3, .inr (7, [.ref h_p3_from, .ref h_p3_along, .long v_p3_turn, .long v_p3_far, .long v_p3_over, .long v_p3_weightA, .long v_p3_weightB, .long v_p3_weightC])), (h_p3_from, .inl (cL, 3, .inr (.inl u.1))), (h_p3_along, .inl (cL, 3, .inr (.inl u.2)))]) (fun (u : (Nat → Int64) × (Nat → Int64)) => post u.1 u.2) := by
  refine startV (cc := cX1_aim) (maxL := 9) (by decide +kernel) rfl (Nat.le_of_ble_eq_true rfl) ?_
  intro p e s m args below meth c Q ls A C0 hP hD hS hl hret
  obtain ⟨hx, hb, hml, hown, hts, hnw, hK, hA, hin⟩ := C0
  have hown : s.vm.findClass RX1 = some m.cls := hown
  have hl : lv_has ls 9 [(0, .ref h_t), (1, .int p1), (2, .int p2), (3, .ref h_p3)] := hl
  refine lv_iconst (v := 2) hx hb dX1_aim_0 (by decide) ?_
  refine lv_iload_n hx hb dX1_aim_1 rfl (lv_at hl 1 rfl) ?_
  refine lv_imul hx hb dX1_aim_2 ?_
  refine lv_aload_n hx hb dX1_aim_3 rfl (lv_at hl 0 rfl) ?_
  refine va_get (D := G) (ci := 1) (v := .int v_t_w) (C := RX1) (T := TX1) (N := 5) hx hb hts (fun w h => List.mem_cons_of_mem _ (inG_1 w h)) hown hK hP 0 rfl rfl 3 (by decide) (hts _ (List.mem_cons_of_mem _ mw_1_73)) (fun _ h9 => h9) rfl dX1_aim_4 ?_
  refine lv_isub hx hb dX1_aim_7 ?_
  refine lv_iconst (v := 1) hx hb dX1_aim_8 (by decide) ?_
  refine lv_iadd hx hb dX1_aim_9 ?_
  refine lv_i2l (v := (((2 * p1) - v_t_w) + 1).toInt64) hx hb dX1_aim_10 rfl ?_
  refine lv_topl (fun x1 ex1 => ?_)
  have hF := hF x1 ex1
  refine lv_lstore (lv' := [(4, .long x1), (0, .ref h_t), (1, .int p1), (2, .int p2), (3, .ref h_p3)]) hx hb dX1_aim_11 hl (by decide) rfl (fun ls hl => ?_)
  refine lv_aload_n hx hb dX1_aim_13 rfl (lv_at hl 1 rfl) ?_
  refine va_get (D := G) (ci := 1) (v := .int v_t_h) (C := RX1) (T := TX1) (N := 5) hx hb hts (fun w h => List.mem_cons_of_mem _ (inG_1 w h)) hown hK hP 0 rfl rfl 4 (by decide) (hts _ (List.mem_cons_of_mem _ mw_1_75)) (fun _ h9 => h9) rfl dX1_aim_14 ?_
  refine lv_iconst (v := 1) hx hb dX1_aim_17 (by decide) ?_
  refine lv_isub hx hb dX1_aim_18 ?_
  refine lv_iconst (v := 2) hx hb dX1_aim_19 (by decide) ?_
  refine lv_iload_n hx hb dX1_aim_20 rfl (lv_at hl 3 rfl) ?_
  refine lv_imul hx hb dX1_aim_21 ?_
  refine lv_isub hx hb dX1_aim_22 ?_
  refine lv_i2l (v := ((v_t_h - 1) - (2 * p2)).toInt64) hx hb dX1_aim_23 rfl ?_
  refine lv_topl (fun x2 ex2 => ?_)
  have hF := hF x2 ex2
  refine lv_lstore (lv' := [(6, .long x2), (4, .long x1), (0, .ref h_t), (1, .int p1), (2, .int p2), (3, .ref h_p3)]) hx hb dX1_aim_24 hl (by decide) rfl (fun ls hl => ?_)
  refine lv_iconst (v := 0) hx hb dX1_aim_26 (by decide) ?_
  refine lv_istore (lv' := [(8, .int 0), (6, .long x2), (4, .long x1), (0, .ref h_t), (1, .int p1), (2, .int p2), (3, .ref h_p3)]) hx hb dX1_aim_27 hl (by decide) rfl (fun ls hl => ?_)
  have k_29 : ∀ (n_29 : Nat) (l4 : Int64) (l6 : Int64) (l8 : Int32) (v_p3_from : Nat → Int64) (v_p3_along : Nat → Int64), L_X1_aim_29 post v_t_w v_t_h v_t_eye v_t_axes n_29 l4 l6 l8 v_p3_from v_p3_along → ∀ (H : Heap) (locs : List Loc) (ls : Array Slot), va_P G vwCl [(h_t, .inr (1, [.ref h_t_eye, .ref h_t_axes, .ref h_t_trial, .int v_t_w, .int v_t_h])), (h_t_eye, .inl (cI, 3, .inl v_t_eye)), (h_t_axes, .inl (cI, 9, .inl v_t_axes)), (h_p3, .inr (7, [.ref h_p3_from, .ref h_p3_along, .long v_p3_turn, .long v_p3_far, .long v_p3_over, .long v_p3_weightA, .long v_p3_weightB, .long v_p3_weightC])), (h_p3_from, .inl (cL, 3, .inr (.inl v_p3_from))), (h_p3_along, .inl (cL, 3, .inr (.inl v_p3_along)))] H → va_D A [(h_t, .inr (1, [.ref h_t_eye, .ref h_t_axes, .ref h_t_trial, .int v_t_w, .int v_t_h])), (h_t_eye, .inl (cI, 3, .inl v_t_eye)), (h_t_axes, .inl (cI, 9, .inl v_t_axes)), (h_p3, .inr (7, [.ref h_p3_from, .ref h_p3_along, .long v_p3_turn, .long v_p3_far, .long v_p3_over, .long v_p3_weightA, .long v_p3_weightB, .long v_p3_weightC])), (h_p3_from, .inl (cL, 3, .inr (.inl v_p3_from))), (h_p3_along, .inl (cL, 3, .inr (.inl v_p3_along)))] → va_S A s.heap H locs → lv_has ls 9 [(0, .ref h_t), (3, .ref h_p3), (4, .long l4), (6, .long l6), (8, .int l8)] → W p l e rm_X1_aim s m args below meth c H locs 0 0 Q (F0 m 29 ls []) := by
    intro n_29
    induction n_29 with
    | zero =>
      intro l4 l6 l8 v_p3_from v_p3_along hF
      exact (show False from hF).elim
    | succ n_29 k_29 =>
      intro l4 l6 l8 v_p3_from v_p3_along hF H locs ls hP hD hS hl
      refine lv_iload hx hb dX1_aim_29 (lv_at hl 4 rfl) ?_
      refine lv_iconst (v := 3) hx hb dX1_aim_31 (by decide) ?_
      refine lv_icmp_ge (tgt := 100) hx hb dX1_aim_32 (by decide) (fun c3 => ?_) (fun c3 => ?_)
      · have hF := hF.1 c3
        exact hret 100 ls _ _ (v_p3_from, v_p3_along) dX1_aim_100  hF hP hD hS
      · have hF := hF.2 c3
        refine lv_aload_n hx hb dX1_aim_35 rfl (lv_at hl 1 rfl) ?_
        refine va_getN (D := G) (ci := 7) (v := .ref h_p3_from) (C := RX7) (T := TX7) (N := 8) hx hb hts (fun w h => List.mem_cons_of_mem _ (inG_7 w h)) hown hK hP 3 rfl rfl 0 (by decide) (va_Nw.use rfl (hnw (.fieldLinkNest RX1 52 "RayRoom$Ray" "from" "[J" "RayRoom") (by decide +kernel))) (fun _ h9 => h9) rfl dX1_aim_36 ?_
        refine lv_iload hx hb dX1_aim_39 (lv_at hl 4 rfl) ?_
        refine lv_aload_n hx hb dX1_aim_41 rfl (lv_at hl 0 rfl) ?_
        refine va_get (D := G) (ci := 1) (v := .ref h_t_eye) (C := RX1) (T := TX1) (N := 5) hx hb hts (fun w h => List.mem_cons_of_mem _ (inG_1 w h)) hown hK hP 0 rfl rfl 0 (by decide) (hts _ (List.mem_cons_of_mem _ mw_1_69)) (fun _ h9 => h9) rfl dX1_aim_42 ?_
        refine lv_iload hx hb dX1_aim_45 (lv_at hl 4 rfl) ?_
        obtain ⟨b4, hF⟩ := hF
        refine va_iald hx hb hK hP 1 0 rfl rfl b4 dX1_aim_47 ?_
        refine lv_i2l (v := (v_t_eye l8.toNatClampNeg).toInt64) hx hb dX1_aim_48 rfl ?_
        obtain ⟨b5, hF⟩ := hF
        refine g_last (t0 := 1) hx hb hK hP hD hS 4 rfl rfl b5 dX1_aim_49 (fun g6 H locs eg6 hP hD hS => ?_)
        have hF := hF g6 eg6
        have hP : va_P G vwCl [(h_t, .inr (1, [.ref h_t_eye, .ref h_t_axes, .ref h_t_trial, .int v_t_w, .int v_t_h])), (h_t_eye, .inl (cI, 3, .inl v_t_eye)), (h_t_axes, .inl (cI, 9, .inl v_t_axes)), (h_p3, .inr (7, [.ref h_p3_from, .ref h_p3_along, .long v_p3_turn, .long v_p3_far, .long v_p3_over, .long v_p3_weightA, .long v_p3_weightB, .long v_p3_weightC])), (h_p3_from, .inl (cL, 3, .inr (.inl g6))), (h_p3_along, .inl (cL, 3, .inr (.inl v_p3_along)))] H := hP
        have hD : va_D A [(h_t, .inr (1, [.ref h_t_eye, .ref h_t_axes, .ref h_t_trial, .int v_t_w, .int v_t_h])), (h_t_eye, .inl (cI, 3, .inl v_t_eye)), (h_t_axes, .inl (cI, 9, .inl v_t_axes)), (h_p3, .inr (7, [.ref h_p3_from, .ref h_p3_along, .long v_p3_turn, .long v_p3_far, .long v_p3_over, .long v_p3_weightA, .long v_p3_weightB, .long v_p3_weightC])), (h_p3_from, .inl (cL, 3, .inr (.inl g6))), (h_p3_along, .inl (cL, 3, .inr (.inl v_p3_along)))] := hD
        refine lv_aload_n hx hb dX1_aim_50 rfl (lv_at hl 1 rfl) ?_
        refine va_getN (D := G) (ci := 7) (v := .ref h_p3_along) (C := RX7) (T := TX7) (N := 8) hx hb hts (fun w h => List.mem_cons_of_mem _ (inG_7 w h)) hown hK hP 3 rfl rfl 1 (by decide) (va_Nw.use rfl (hnw (.fieldLinkNest RX1 58 "RayRoom$Ray" "along" "[J" "RayRoom") (by decide +kernel))) (fun _ h9 => h9) rfl dX1_aim_51 ?_
        refine lv_iload hx hb dX1_aim_54 (lv_at hl 4 rfl) ?_
        refine lv_aload_n hx hb dX1_aim_56 rfl (lv_at hl 0 rfl) ?_
        refine va_get (D := G) (ci := 1) (v := .ref h_t_axes) (C := RX1) (T := TX1) (N := 5) hx hb hts (fun w h => List.mem_cons_of_mem _ (inG_1 w h)) hown hK hP 0 rfl rfl 1 (by decide) (hts _ (List.mem_cons_of_mem _ mw_1_71)) (fun _ h9 => h9) rfl dX1_aim_57 ?_
        refine lv_iload hx hb dX1_aim_60 (lv_at hl 4 rfl) ?_
        obtain ⟨b7, hF⟩ := hF
        refine va_iald hx hb hK hP 2 0 rfl rfl b7 dX1_aim_62 ?_
        refine lv_i2l (v := (v_t_axes l8.toNatClampNeg).toInt64) hx hb dX1_aim_63 rfl ?_
        refine lv_lload hx hb dX1_aim_64 (lv_at hl 2 rfl) ?_
        refine lv_aload_n hx hb dX1_aim_66 rfl (lv_at hl 0 rfl) ?_
        refine va_get (D := G) (ci := 1) (v := .ref h_t_axes) (C := RX1) (T := TX1) (N := 5) hx hb hts (fun w h => List.mem_cons_of_mem _ (inG_1 w h)) hown hK hP 0 rfl rfl 1 (by decide) (hts _ (List.mem_cons_of_mem _ mw_1_71)) (fun _ h9 => h9) rfl dX1_aim_67 ?_
        refine lv_iconst (v := 3) hx hb dX1_aim_70 (by decide) ?_
        refine lv_iload hx hb dX1_aim_71 (lv_at hl 4 rfl) ?_
        refine lv_iadd hx hb dX1_aim_73 ?_
        obtain ⟨b8, hF⟩ := hF
        refine va_iald hx hb hK hP 2 0 rfl rfl b8 dX1_aim_74 ?_
        refine lv_i2l (v := (v_t_axes (3 + l8).toNatClampNeg).toInt64) hx hb dX1_aim_75 rfl ?_
        refine lv_lmul hx hb dX1_aim_76 ?_
        refine lv_ladd hx hb dX1_aim_77 ?_
        refine lv_lload hx hb dX1_aim_78 (lv_at hl 3 rfl) ?_
        refine lv_aload_n hx hb dX1_aim_80 rfl (lv_at hl 0 rfl) ?_
        refine va_get (D := G) (ci := 1) (v := .ref h_t_axes) (C := RX1) (T := TX1) (N := 5) hx hb hts (fun w h => List.mem_cons_of_mem _ (inG_1 w h)) hown hK hP 0 rfl rfl 1 (by decide) (hts _ (List.mem_cons_of_mem _ mw_1_71)) (fun _ h9 => h9) rfl dX1_aim_81 ?_
        refine lv_bipush (v := 6) hx hb dX1_aim_84 (by decide) ?_
        refine lv_iload hx hb dX1_aim_86 (lv_at hl 4 rfl) ?_
        refine lv_iadd hx hb dX1_aim_88 ?_
        obtain ⟨b9, hF⟩ := hF
        refine va_iald hx hb hK hP 2 0 rfl rfl b9 dX1_aim_89 ?_
        refine lv_i2l (v := (v_t_axes (6 + l8).toNatClampNeg).toInt64) hx hb dX1_aim_90 rfl ?_
        refine lv_lmul hx hb dX1_aim_91 ?_
        refine lv_ladd hx hb dX1_aim_92 ?_
        obtain ⟨b10, hF⟩ := hF
        refine g_last (t0 := 1) hx hb hK hP hD hS 5 rfl rfl b10 dX1_aim_93 (fun g11 H locs eg11 hP hD hS => ?_)
        have hF := hF g11 eg11
        have hP : va_P G vwCl [(h_t, .inr (1, [.ref h_t_eye, .ref h_t_axes, .ref h_t_trial, .int v_t_w, .int v_t_h])), (h_t_eye, .inl (cI, 3, .inl v_t_eye)), (h_t_axes, .inl (cI, 9, .inl v_t_axes)), (h_p3, .inr (7, [.ref h_p3_from, .ref h_p3_along, .long v_p3_turn, .long v_p3_far, .long v_p3_over, .long v_p3_weightA, .long v_p3_weightB, .long v_p3_weightC])), (h_p3_from, .inl (cL, 3, .inr (.inl g6))), (h_p3_along, .inl (cL, 3, .inr (.inl g11)))] H := hP
        have hD : va_D A [(h_t, .inr (1, [.ref h_t_eye, .ref h_t_axes, .ref h_t_trial, .int v_t_w, .int v_t_h])), (h_t_eye, .inl (cI, 3, .inl v_t_eye)), (h_t_axes, .inl (cI, 9, .inl v_t_axes)), (h_p3, .inr (7, [.ref h_p3_from, .ref h_p3_along, .long v_p3_turn, .long v_p3_far, .long v_p3_over, .long v_p3_weightA, .long v_p3_weightB, .long v_p3_weightC])), (h_p3_from, .inl (cL, 3, .inr (.inl g6))), (h_p3_along, .inl (cL, 3, .inr (.inl g11)))] := hD
        obtain ⟨x12, ex12⟩ : ∃ z : Int32, z = (l8 + 1) := ⟨_, rfl⟩
        have hF := hF x12 ex12
        refine lv_iinc (v := x12) (lv' := [(8, .int x12), (0, .ref h_t), (3, .ref h_p3), (4, .long l4), (6, .long l6)]) hx hb dX1_aim_94 hl (k := 4) rfl (by rw [ex12]; rfl) (by decide) rfl (fun ls hl => ?_)
        refine lv_goto (tgt := 29) hx hb dX1_aim_97 (by decide) ?_
        exact k_29 l4 l6 x12 g6 g11 hF _ _ ls hP hD hS (lv_sub hl [1, 2, 3, 4, 0] rfl)
  obtain ⟨n0, hF⟩ := hF
  exact k_29 n0 x1 x2 0 v_p3_from v_p3_along hF _ _ ls hP hD hS (lv_sub hl [3, 6, 2, 1, 0] rfl)

def rm_X3_clear : Room := { frames := 0, cells := 0, slots := 0, locals := 0 }
def F_X3_clear (v_t_which : Int32) (post : Int32 → Prop) : Prop := post (-2)
set_option maxHeartbeats 8000000 in
set_option maxRecDepth 100000 in
theorem c_X3_clear (l : Launch) (G : va_G) (cI cL cZ : ClassId) (h_t : Nat) (h_t_time : Nat) (h_t_place : Nat) (h_t_weights : Nat) (v_t_which : Int32) (sz : Nat) (post : Int32 → Prop) (hF : F_X3_clear v_t_which post) : MetV l G (gT cI cL cZ) yX3_clear (gW yX3_clear cX3_clear 1 none) rm_X3_clear 0 0 [.ref h_t] sz [(h_t, .inr (3, [.ref h_t_time, .ref h_t_place, .ref h_t_weights, .int v_t_which]))] (fun (u : Int32) => [(h_t, .inr (3, [.ref h_t_time, .ref h_t_place, .ref h_t_weights, .int u]))]) (fun (u : Int32) => post u) := by
  refine startV (cc := cX3_clear) (maxL := 1) (by decide +kernel) rfl (Nat.le_of_ble_eq_true rfl) ?_
  intro p e s m args below meth c Q ls A C0 hP hD hS hl hret
  obtain ⟨hx, hb, hml, hown, hts, hnw, hK, hA, hin⟩ := C0
  have hown : s.vm.findClass RX3 = some m.cls := hown
  have hl : lv_has ls 1 [(0, .ref h_t)] := hl
  refine lv_aload_n hx hb dX3_clear_0 rfl (lv_at hl 0 rfl) ?_
  refine lv_bipush (v := (-2)) hx hb dX3_clear_1 (by decide) ?_
  refine va_put (D := G) (ci := 3) (v := .int (-2)) (ty := .int) (C := RX3) (T := TX3) (N := 4) hx hb hts (fun w h => List.mem_cons_of_mem _ (inG_3 w h)) tyX3 tyX3_ok nmX3 hown hK hP hD hS 0 rfl rfl 3 (by decide) (hts _ (List.mem_cons_of_mem _ mw_1_175)) (fun _ h9 => h9) rfl (by decide +kernel) rfl rfl (Nat.le_of_ble_eq_true rfl) dX3_clear_3 (fun H locs hP hD hS => ?_)
  have hP : va_P G vwCl [(h_t, .inr (3, [.ref h_t_time, .ref h_t_place, .ref h_t_weights, .int (-2)]))] H := hP
  have hD : va_D A [(h_t, .inr (3, [.ref h_t_time, .ref h_t_place, .ref h_t_weights, .int (-2)]))] := hD
  exact hret 6 ls _ _ (-2) dX3_clear_6  hF hP hD hS

def rm_X5_alongNormal : Room := { frames := 0, cells := 0, slots := 0, locals := 0 }
def F_X5_alongNormal (p1 : Int32) (p2 : Int64) (p4 : Int64) (p6 : Int64) (v_t_normals : Nat → Int32) (post : Int64 → Prop) : Prop := (vp_in (3 * p1) 384 ∧ (vp_in ((3 * p1) + 1) 384 ∧ (vp_in ((3 * p1) + 2) 384 ∧ post (((p2 * ((v_t_normals (3 * p1).toNatClampNeg).toInt64)) + (p4 * ((v_t_normals ((3 * p1) + 1).toNatClampNeg).toInt64))) + (p6 * ((v_t_normals ((3 * p1) + 2).toNatClampNeg).toInt64))))))
set_option maxHeartbeats 8000000 in
set_option maxRecDepth 100000 in
theorem c_X5_alongNormal (l : Launch) (G : va_G) (cI cL cZ : ClassId) (h_t : Nat) (h_t_corners : Nat) (h_t_normals : Nat) (h_t_tones : Nat) (h_t_trial : Nat) (h_t_trialNormal : Nat) (v_t_normals : Nat → Int32) (v_t_many : Int32) (p1 : Int32) (p2 : Int64) (p4 : Int64) (p6 : Int64) (sz : Nat) (post : Int64 → Prop) (hF : F_X5_alongNormal p1 p2 p4 p6 v_t_normals post) : MetL l G (gT cI cL cZ) yX5_alongNormal (gW yX5_alongNormal cX5_alongNormal 8 (some .long)) rm_X5_alongNormal 0 0 [.ref h_t, .int p1, .long p2, .long p4, .long p6] sz [(h_t, .inr (5, [.ref h_t_corners, .ref h_t_normals, .ref h_t_tones, .ref h_t_trial, .ref h_t_trialNormal, .int v_t_many])), (h_t_normals, .inl (cI, 384, .inl v_t_normals))] (fun (u : Unit) => [(h_t, .inr (5, [.ref h_t_corners, .ref h_t_normals, .ref h_t_tones, .ref h_t_trial, .ref h_t_trialNormal, .int v_t_many])), (h_t_normals, .inl (cI, 384, .inl v_t_normals))]) (fun (r : Int64) (u : Unit) => post r) := by
  refine startL (cc := cX5_alongNormal) (maxL := 8) (by decide +kernel) rfl (Nat.le_of_ble_eq_true rfl) ?_
  intro p e s m args below meth c Q ls A C0 hP hD hS hl hret
  obtain ⟨hx, hb, hml, hown, hts, hnw, hK, hA, hin⟩ := C0
  have hown : s.vm.findClass RX5 = some m.cls := hown
  have hl : lv_has ls 8 [(0, .ref h_t), (1, .int p1), (2, .long p2), (4, .long p4), (6, .long p6)] := hl
  refine lv_lload_n hx hb dX5_alongNormal_0 rfl (lv_at hl 2 rfl) ?_
  refine lv_aload_n hx hb dX5_alongNormal_1 rfl (lv_at hl 0 rfl) ?_
  refine va_get (D := G) (ci := 5) (v := .ref h_t_normals) (C := RX5) (T := TX5) (N := 6) hx hb hts (fun w h => List.mem_cons_of_mem _ (inG_5 w h)) hown hK hP 0 rfl rfl 1 (by decide) (hts _ (List.mem_cons_of_mem _ mw_1_45)) (fun _ h9 => h9) rfl dX5_alongNormal_2 ?_
  refine lv_iconst (v := 3) hx hb dX5_alongNormal_5 (by decide) ?_
  refine lv_iload_n hx hb dX5_alongNormal_6 rfl (lv_at hl 1 rfl) ?_
  refine lv_imul hx hb dX5_alongNormal_7 ?_
  obtain ⟨b1, hF⟩ := hF
  refine va_iald hx hb hK hP 1 0 rfl rfl b1 dX5_alongNormal_8 ?_
  refine lv_i2l (v := (v_t_normals (3 * p1).toNatClampNeg).toInt64) hx hb dX5_alongNormal_9 rfl ?_
  refine lv_lmul hx hb dX5_alongNormal_10 ?_
  refine lv_lload hx hb dX5_alongNormal_11 (lv_at hl 3 rfl) ?_
  refine lv_aload_n hx hb dX5_alongNormal_13 rfl (lv_at hl 0 rfl) ?_
  refine va_get (D := G) (ci := 5) (v := .ref h_t_normals) (C := RX5) (T := TX5) (N := 6) hx hb hts (fun w h => List.mem_cons_of_mem _ (inG_5 w h)) hown hK hP 0 rfl rfl 1 (by decide) (hts _ (List.mem_cons_of_mem _ mw_1_45)) (fun _ h9 => h9) rfl dX5_alongNormal_14 ?_
  refine lv_iconst (v := 3) hx hb dX5_alongNormal_17 (by decide) ?_
  refine lv_iload_n hx hb dX5_alongNormal_18 rfl (lv_at hl 1 rfl) ?_
  refine lv_imul hx hb dX5_alongNormal_19 ?_
  refine lv_iconst (v := 1) hx hb dX5_alongNormal_20 (by decide) ?_
  refine lv_iadd hx hb dX5_alongNormal_21 ?_
  obtain ⟨b2, hF⟩ := hF
  refine va_iald hx hb hK hP 1 0 rfl rfl b2 dX5_alongNormal_22 ?_
  refine lv_i2l (v := (v_t_normals ((3 * p1) + 1).toNatClampNeg).toInt64) hx hb dX5_alongNormal_23 rfl ?_
  refine lv_lmul hx hb dX5_alongNormal_24 ?_
  refine lv_ladd hx hb dX5_alongNormal_25 ?_
  refine lv_lload hx hb dX5_alongNormal_26 (lv_at hl 4 rfl) ?_
  refine lv_aload_n hx hb dX5_alongNormal_28 rfl (lv_at hl 0 rfl) ?_
  refine va_get (D := G) (ci := 5) (v := .ref h_t_normals) (C := RX5) (T := TX5) (N := 6) hx hb hts (fun w h => List.mem_cons_of_mem _ (inG_5 w h)) hown hK hP 0 rfl rfl 1 (by decide) (hts _ (List.mem_cons_of_mem _ mw_1_45)) (fun _ h9 => h9) rfl dX5_alongNormal_29 ?_
  refine lv_iconst (v := 3) hx hb dX5_alongNormal_32 (by decide) ?_
  refine lv_iload_n hx hb dX5_alongNormal_33 rfl (lv_at hl 1 rfl) ?_
  refine lv_imul hx hb dX5_alongNormal_34 ?_
  refine lv_iconst (v := 2) hx hb dX5_alongNormal_35 (by decide) ?_
  refine lv_iadd hx hb dX5_alongNormal_36 ?_
  obtain ⟨b3, hF⟩ := hF
  refine va_iald hx hb hK hP 1 0 rfl rfl b3 dX5_alongNormal_37 ?_
  refine lv_i2l (v := (v_t_normals ((3 * p1) + 2).toNatClampNeg).toInt64) hx hb dX5_alongNormal_38 rfl ?_
  refine lv_lmul hx hb dX5_alongNormal_39 ?_
  refine lv_ladd hx hb dX5_alongNormal_40 ?_
  exact hret 41 ls _ _ (((p2 * ((v_t_normals (3 * p1).toNatClampNeg).toInt64)) + (p4 * ((v_t_normals ((3 * p1) + 1).toNatClampNeg).toInt64))) + (p6 * ((v_t_normals ((3 * p1) + 2).toNatClampNeg).toInt64))) () dX5_alongNormal_41  hF hP hD hS

def rm_X5_side : Room := { frames := 1, cells := 0, slots := 0, locals := 27 }
def F_X5_side (p1 : Int32) (p2 : Int64) (p4 : Int64) (p6 : Int64) (v_t_corners : Nat → Int32) (v_t_normals : Nat → Int32) (post : Int64 → Prop) : Prop := (F_X5_at p1 0 0 v_t_corners (fun r1 => (F_X5_at p1 0 1 v_t_corners (fun r2 => (F_X5_at p1 0 2 v_t_corners (fun r3 => (F_X5_alongNormal p1 (p2 - (r1.toInt64)) (p4 - (r2.toInt64)) (p6 - (r3.toInt64)) v_t_normals (fun r4 => post r4))))))))
set_option maxHeartbeats 8000000 in
set_option maxRecDepth 100000 in
theorem c_X5_side (l : Launch) (G : va_G) (cI cL cZ : ClassId) (h_t : Nat) (h_t_corners : Nat) (h_t_normals : Nat) (h_t_tones : Nat) (h_t_trial : Nat) (h_t_trialNormal : Nat) (v_t_corners : Nat → Int32) (v_t_normals : Nat → Int32) (v_t_many : Int32) (p1 : Int32) (p2 : Int64) (p4 : Int64) (p6 : Int64) (sz : Nat) (post : Int64 → Prop) (hF : F_X5_side p1 p2 p4 p6 v_t_corners v_t_normals post) : MetL l G (gT cI cL cZ) yX5_side (gW yX5_side cX5_side 8 (some .long)) rm_X5_side 0 0 [.ref h_t, .int p1, .long p2, .long p4, .long p6] sz [(h_t, .inr (5, [.ref h_t_corners, .ref h_t_normals, .ref h_t_tones, .ref h_t_trial, .ref h_t_trialNormal, .int v_t_many])), (h_t_corners, .inl (cI, 1152, .inl v_t_corners)), (h_t_normals, .inl (cI, 384, .inl v_t_normals))] (fun (u : Unit) => [(h_t, .inr (5, [.ref h_t_corners, .ref h_t_normals, .ref h_t_tones, .ref h_t_trial, .ref h_t_trialNormal, .int v_t_many])), (h_t_corners, .inl (cI, 1152, .inl v_t_corners)), (h_t_normals, .inl (cI, 384, .inl v_t_normals))]) (fun (r : Int64) (u : Unit) => post r) := by
  refine startL (cc := cX5_side) (maxL := 8) (by decide +kernel) rfl (Nat.le_of_ble_eq_true rfl) ?_
  intro p e s m args below meth c Q ls A C0 hP hD hS hl hret
  obtain ⟨hx, hb, hml, hown, hts, hnw, hK, hA, hin⟩ := C0
  have hown : s.vm.findClass RX5 = some m.cls := hown
  have hl : lv_has ls 8 [(0, .ref h_t), (1, .int p1), (2, .long p2), (4, .long p4), (6, .long p6)] := hl
  refine lv_aload_n hx hb dX5_side_0 rfl (lv_at hl 0 rfl) ?_
  refine lv_iload_n hx hb dX5_side_1 rfl (lv_at hl 1 rfl) ?_
  refine lv_lload_n hx hb dX5_side_2 rfl (lv_at hl 2 rfl) ?_
  refine lv_aload_n hx hb dX5_side_3 rfl (lv_at hl 0 rfl) ?_
  refine lv_iload_n hx hb dX5_side_4 rfl (lv_at hl 1 rfl) ?_
  refine lv_iconst (v := 0) hx hb dX5_side_5 (by decide) ?_
  refine lv_iconst (v := 0) hx hb dX5_side_6 (by decide) ?_
  refine afterI (wr := [(h_t_normals, .inl (cI, 384, .inl v_t_normals))]) (va_runV (As := [.int p1, .int 0, .int 0]) (rest := [.long p2, .int p1, .ref h_t]) ⟨hx, hb, hml, hown, hts⟩ (c_X5_at l G cI cL cZ h_t h_t_corners h_t_normals h_t_tones h_t_trial h_t_trialNormal v_t_corners v_t_many p1 0 0 _ _ hF) (cwV 3 hts (gV mw_3_3 mw_3_4 mw_3_5 mw_1_3 mw_3_6) rfl rfl rfl (by decide +kernel) ⟨Nat.le_of_ble_eq_true rfl, Nat.le_of_ble_eq_true rfl⟩) ⟨gP_blind, va_recv hK hP (ci := 5) (q0 := 0) rfl rfl, gP_of hK hnw hP hD [0, 1] (by decide +kernel) rfl rfl⟩ rfl rfl hl.1 rfl (lv_room (Nat.le_of_ble_eq_true rfl)) dX5_side_7 ⟨Nat.le_of_ble_eq_true rfl, Nat.le_of_ble_eq_true rfl⟩) hP hD hS hA [0, 1] [2] rfl rfl (by decide +kernel) (by decide +kernel) (fun r1 u H locs hF hP hD hS => ?_)
  try dsimp only at hF
  have hP : va_P G vwCl [(h_t_normals, .inl (cI, 384, .inl v_t_normals)), (h_t, .inr (5, [.ref h_t_corners, .ref h_t_normals, .ref h_t_tones, .ref h_t_trial, .ref h_t_trialNormal, .int v_t_many])), (h_t_corners, .inl (cI, 1152, .inl v_t_corners))] H := hP
  have hD : va_D A [(h_t_normals, .inl (cI, 384, .inl v_t_normals)), (h_t, .inr (5, [.ref h_t_corners, .ref h_t_normals, .ref h_t_tones, .ref h_t_trial, .ref h_t_trialNormal, .int v_t_many])), (h_t_corners, .inl (cI, 1152, .inl v_t_corners))] := hD
  refine lv_i2l (v := r1.toInt64) hx hb dX5_side_10 rfl ?_
  refine lv_lsub hx hb dX5_side_11 ?_
  refine lv_lload hx hb dX5_side_12 (lv_at hl 3 rfl) ?_
  refine lv_aload_n hx hb dX5_side_14 rfl (lv_at hl 0 rfl) ?_
  refine lv_iload_n hx hb dX5_side_15 rfl (lv_at hl 1 rfl) ?_
  refine lv_iconst (v := 0) hx hb dX5_side_16 (by decide) ?_
  refine lv_iconst (v := 1) hx hb dX5_side_17 (by decide) ?_
  refine afterI (wr := [(h_t_normals, .inl (cI, 384, .inl v_t_normals))]) (va_runV (As := [.int p1, .int 0, .int 1]) (rest := [.long p4, .long (p2 - (r1.toInt64)), .int p1, .ref h_t]) ⟨hx, hb, hml, hown, hts⟩ (c_X5_at l G cI cL cZ h_t h_t_corners h_t_normals h_t_tones h_t_trial h_t_trialNormal v_t_corners v_t_many p1 0 1 _ _ hF) (cwV 3 hts (gV mw_3_3 mw_3_4 mw_3_5 mw_1_3 mw_3_6) rfl rfl rfl (by decide +kernel) ⟨Nat.le_of_ble_eq_true rfl, Nat.le_of_ble_eq_true rfl⟩) ⟨gP_blind, va_recv hK hP (ci := 5) (q0 := 1) rfl rfl, gP_of hK hnw hP hD [1, 2] (by decide +kernel) rfl rfl⟩ rfl rfl hl.1 rfl (lv_room (Nat.le_of_ble_eq_true rfl)) dX5_side_18 ⟨Nat.le_of_ble_eq_true rfl, Nat.le_of_ble_eq_true rfl⟩) hP hD hS hA [1, 2] [0] rfl rfl (by decide +kernel) (by decide +kernel) (fun r2 u H locs hF hP hD hS => ?_)
  try dsimp only at hF
  have hP : va_P G vwCl [(h_t_normals, .inl (cI, 384, .inl v_t_normals)), (h_t, .inr (5, [.ref h_t_corners, .ref h_t_normals, .ref h_t_tones, .ref h_t_trial, .ref h_t_trialNormal, .int v_t_many])), (h_t_corners, .inl (cI, 1152, .inl v_t_corners))] H := hP
  have hD : va_D A [(h_t_normals, .inl (cI, 384, .inl v_t_normals)), (h_t, .inr (5, [.ref h_t_corners, .ref h_t_normals, .ref h_t_tones, .ref h_t_trial, .ref h_t_trialNormal, .int v_t_many])), (h_t_corners, .inl (cI, 1152, .inl v_t_corners))] := hD
  refine lv_i2l (v := r2.toInt64) hx hb dX5_side_21 rfl ?_
  refine lv_lsub hx hb dX5_side_22 ?_
  refine lv_lload hx hb dX5_side_23 (lv_at hl 4 rfl) ?_
  refine lv_aload_n hx hb dX5_side_25 rfl (lv_at hl 0 rfl) ?_
  refine lv_iload_n hx hb dX5_side_26 rfl (lv_at hl 1 rfl) ?_
  refine lv_iconst (v := 0) hx hb dX5_side_27 (by decide) ?_
  refine lv_iconst (v := 2) hx hb dX5_side_28 (by decide) ?_
  refine afterI (wr := [(h_t_normals, .inl (cI, 384, .inl v_t_normals))]) (va_runV (As := [.int p1, .int 0, .int 2]) (rest := [.long p6, .long (p4 - (r2.toInt64)), .long (p2 - (r1.toInt64)), .int p1, .ref h_t]) ⟨hx, hb, hml, hown, hts⟩ (c_X5_at l G cI cL cZ h_t h_t_corners h_t_normals h_t_tones h_t_trial h_t_trialNormal v_t_corners v_t_many p1 0 2 _ _ hF) (cwV 3 hts (gV mw_3_3 mw_3_4 mw_3_5 mw_1_3 mw_3_6) rfl rfl rfl (by decide +kernel) ⟨Nat.le_of_ble_eq_true rfl, Nat.le_of_ble_eq_true rfl⟩) ⟨gP_blind, va_recv hK hP (ci := 5) (q0 := 1) rfl rfl, gP_of hK hnw hP hD [1, 2] (by decide +kernel) rfl rfl⟩ rfl rfl hl.1 rfl (lv_room (Nat.le_of_ble_eq_true rfl)) dX5_side_29 ⟨Nat.le_of_ble_eq_true rfl, Nat.le_of_ble_eq_true rfl⟩) hP hD hS hA [1, 2] [0] rfl rfl (by decide +kernel) (by decide +kernel) (fun r3 u H locs hF hP hD hS => ?_)
  try dsimp only at hF
  have hP : va_P G vwCl [(h_t_normals, .inl (cI, 384, .inl v_t_normals)), (h_t, .inr (5, [.ref h_t_corners, .ref h_t_normals, .ref h_t_tones, .ref h_t_trial, .ref h_t_trialNormal, .int v_t_many])), (h_t_corners, .inl (cI, 1152, .inl v_t_corners))] H := hP
  have hD : va_D A [(h_t_normals, .inl (cI, 384, .inl v_t_normals)), (h_t, .inr (5, [.ref h_t_corners, .ref h_t_normals, .ref h_t_tones, .ref h_t_trial, .ref h_t_trialNormal, .int v_t_many])), (h_t_corners, .inl (cI, 1152, .inl v_t_corners))] := hD
  refine lv_i2l (v := r3.toInt64) hx hb dX5_side_32 rfl ?_
  refine lv_lsub hx hb dX5_side_33 ?_
  refine afterL (wr := [(h_t_corners, .inl (cI, 1152, .inl v_t_corners))]) (va_runV (As := [.int p1, .long (p2 - (r1.toInt64)), .long (p4 - (r2.toInt64)), .long (p6 - (r3.toInt64))]) (rest := []) ⟨hx, hb, hml, hown, hts⟩ (c_X5_alongNormal l G cI cL cZ h_t h_t_corners h_t_normals h_t_tones h_t_trial h_t_trialNormal v_t_normals v_t_many p1 (p2 - (r1.toInt64)) (p4 - (r2.toInt64)) (p6 - (r3.toInt64)) _ _ hF) (cwV 4 hts (gV mw_3_114 mw_3_106 mw_3_107 mw_1_3 mw_3_108) rfl rfl rfl (by decide +kernel) ⟨Nat.le_of_ble_eq_true rfl, Nat.le_of_ble_eq_true rfl⟩) ⟨gP_blind, va_recv hK hP (ci := 5) (q0 := 1) rfl rfl, gP_of hK hnw hP hD [1, 0] (by decide +kernel) rfl rfl⟩ rfl rfl hl.1 rfl (lv_room (Nat.le_of_ble_eq_true rfl)) dX5_side_34 ⟨Nat.le_of_ble_eq_true rfl, Nat.le_of_ble_eq_true rfl⟩) hP hD hS hA [1, 0] [2] rfl rfl (by decide +kernel) (by decide +kernel) (fun r4 u H locs hF hP hD hS => ?_)
  try dsimp only at hF
  have hP : va_P G vwCl [(h_t_corners, .inl (cI, 1152, .inl v_t_corners)), (h_t, .inr (5, [.ref h_t_corners, .ref h_t_normals, .ref h_t_tones, .ref h_t_trial, .ref h_t_trialNormal, .int v_t_many])), (h_t_normals, .inl (cI, 384, .inl v_t_normals))] H := hP
  have hD : va_D A [(h_t_corners, .inl (cI, 1152, .inl v_t_corners)), (h_t, .inr (5, [.ref h_t_corners, .ref h_t_normals, .ref h_t_tones, .ref h_t_trial, .ref h_t_trialNormal, .int v_t_many])), (h_t_normals, .inl (cI, 384, .inl v_t_normals))] := hD
  exact hret 37 ls _ _ r4 () dX5_side_37  hF (hP.sub [1, 0, 2] rfl) (hD.sub [1, 0, 2] (by decide +kernel) rfl) hS
