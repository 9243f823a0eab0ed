theorem hd_X6_isKind : yX6_isKind.cls ≠ "java/lang/invoke/MethodHandle" ∧ yX6_isKind.cls ≠ "java/lang/invoke/VarHandle" ∧ (parseMethodDescriptor yX6_isKind.desc).map (fun d => d.parameters.length) = some 1 := by decide +kernel
theorem hd_X6_knownOf : yX6_knownOf.cls = "HeWreckedHimselfModel" ∧ yX6_knownOf.cls ≠ "java/lang/invoke/MethodHandle" ∧ yX6_knownOf.cls ≠ "java/lang/invoke/VarHandle" ∧ (parseMethodDescriptor yX6_knownOf.desc).map (fun d => d.parameters.length) = some 2 := by decide +kernel
theorem hd_X6_portFrom : yX6_portFrom.cls = "HeWreckedHimselfModel" ∧ yX6_portFrom.cls ≠ "java/lang/invoke/MethodHandle" ∧ yX6_portFrom.cls ≠ "java/lang/invoke/VarHandle" ∧ (parseMethodDescriptor yX6_portFrom.desc).map (fun d => d.parameters.length) = some 1 := by decide +kernel
theorem hd_X6_sandAt : yX6_sandAt.cls = "HeWreckedHimselfModel" ∧ yX6_sandAt.cls ≠ "java/lang/invoke/MethodHandle" ∧ yX6_sandAt.cls ≠ "java/lang/invoke/VarHandle" ∧ (parseMethodDescriptor yX6_sandAt.desc).map (fun d => d.parameters.length) = some 1 := by decide +kernel
theorem hd_X6_wreckAt : yX6_wreckAt.cls = "HeWreckedHimselfModel" ∧ yX6_wreckAt.cls ≠ "java/lang/invoke/MethodHandle" ∧ yX6_wreckAt.cls ≠ "java/lang/invoke/VarHandle" ∧ (parseMethodDescriptor yX6_wreckAt.desc).map (fun d => d.parameters.length) = some 0 := by decide +kernel
set_option maxHeartbeats 4000000 in
set_option maxRecDepth 20000 in
theorem ct_X6_knownOf (l : Launch) (d : KD) (m0 a0 a1 a2 a4 a6 a8 a9 b1 b2 b3 b4 b5 b6 : Nat) (K : Nat → Int32) (tn ap rn : Nat) (im : Int32) (k q : Nat) (G : Nat → Nat) (hk : k < 6) (hq : q < 36) : Ct l d yX6_knownOf cX6_knownOf 3 (some .int) { frames := 2, cells := 0, slots := 0, locals := 45 } [.ref m0, .int (nI k), .int (nI q)] [(m0, cO 6 [.ref a0, .ref a1, .ref a2, .int (nI tn), .ref a4, .int (nI ap), .ref a6, .int (nI rn), .ref a8, .ref a9, .int im, .ref b1, .ref b2, .ref b3, .ref b4, .ref b5, .ref b6]), (a0, cI d 36 K), (b5, cI d 36 (dF G))] 0 0 (fun r wo => r = some (.int (sg K G k q)) ∧ wo = [(m0, cO 6 [.ref a0, .ref a1, .ref a2, .int (nI tn), .ref a4, .int (nI ap), .ref a6, .int (nI rn), .ref a8, .ref a9, .int im, .ref b1, .ref b2, .ref b3, .ref b4, .ref b5, .ref b6]), (a0, cI d 36 K), (b5, cI d 36 (dF G))]) := by
  refine ct_of (own := RX6) (ini := false) (by decide +kernel) rfl (fun h => by cases h) (Nat.le_of_ble_eq_true rfl) ?_
  intro g X
  show g 0 0 [(m0, cO 6 [.ref a0, .ref a1, .ref a2, .int (nI tn), .ref a4, .int (nI ap), .ref a6, .int (nI rn), .ref a8, .ref a9, .int im, .ref b1, .ref b2, .ref b3, .ref b4, .ref b5, .ref b6]), (a0, cI d 36 K), (b5, cI d 36 (dF G))] [(0, .ref m0), (1, .int (nI k)), (2, .int (nI q))] 0 []
  refine g_iload_n X dX6_knownOf_0 rfl 1 rfl ?_
  rcases Nat.decEq k 2 with k1_1 | k1_1
  rotate_left
  · subst k1_1
    refine g_tope (y := 2) (by rfl) ?_
    refine g_eq (lv' := [(0, .ref m0), (1, .int 2), (2, .int (nI q))]) rfl (by rfl) ?_
    refine g_tableIn (off := 31) X 32 dX6_knownOf_1 (by decide) (by decide) (by decide +kernel) (by decide) ?_
    refine g_iload_n X dX6_knownOf_32 rfl 2 rfl ?_
    refine g_bipush (v := 6) X dX6_knownOf_33 (by decide) ?_
    refine g_idiv X dX6_knownOf_35 (by decide) ?_
    refine g_tope (y := nI (q / 6)) (nI_div (by omega) (by decide) (by decide)) ?_
    exact g_end X (gE_i dX6_knownOf_36 (rfl) (Nat.le_of_ble_eq_true rfl) (Nat.le_of_ble_eq_true rfl) ⟨congrArg (fun z => some (Value.int z)) (by rfl), rfl⟩)
  rcases Nat.decEq k 3 with k1_2 | k1_2
  rotate_left
  · subst k1_2
    refine g_tope (y := 3) (by rfl) ?_
    refine g_eq (lv' := [(0, .ref m0), (1, .int 3), (2, .int (nI q))]) rfl (by rfl) ?_
    refine g_tableIn (off := 36) X 37 dX6_knownOf_1 (by decide) (by decide) (by decide +kernel) (by decide) ?_
    refine g_iload_n X dX6_knownOf_37 rfl 2 rfl ?_
    refine g_bipush (v := 6) X dX6_knownOf_38 (by decide) ?_
    refine g_irem X dX6_knownOf_40 (by decide) ?_
    refine g_tope (y := nI (q % 6)) (nI_rem (by omega) (by decide) (by decide)) ?_
    exact g_end X (gE_i dX6_knownOf_41 (rfl) (Nat.le_of_ble_eq_true rfl) (Nat.le_of_ble_eq_true rfl) ⟨congrArg (fun z => some (Value.int z)) (by rfl), rfl⟩)
  rcases Nat.decEq k 4 with k1_3 | k1_3
  rotate_left
  · subst k1_3
    refine g_tope (y := 4) (by rfl) ?_
    refine g_eq (lv' := [(0, .ref m0), (1, .int 4), (2, .int (nI q))]) rfl (by rfl) ?_
    refine g_tableIn (off := 41) X 42 dX6_knownOf_1 (by decide) (by decide) (by decide +kernel) (by decide) ?_
    refine g_aload_n X dX6_knownOf_42 rfl 0 rfl ?_
    refine g_iload_n X dX6_knownOf_43 rfl 2 rfl ?_
    refine g_dV (ci := 6) (q0 := 0) (n := 1) (wr := [(b5, cI d 36 (dF G))]) (ws' := [(m0, cO 6 [.ref a0, .ref a1, .ref a2, .int (nI tn), .ref a4, .int (nI ap), .ref a6, .int (nI rn), .ref a8, .ref a9, .int im, .ref b1, .ref b2, .ref b3, .ref b4, .ref b5, .ref b6]), (a0, cI d 36 K), (b5, cI d 36 (dF G))]) (st' := [.int (nI (cnt (fun w => nb q w < 36 ∧ (K (nb q w) = 1 ∨ K (nb q w) = 2)) 4))]) (As := [.int (nI q)]) (st := []) X (ct_X6_sandAt l d m0 a0 a1 a2 a4 a6 a8 a9 b1 b2 b3 b4 b5 b6 K tn ap rn im q (by first | assumption | omega)) wd_923 wd_920 wd_922 wd_38 wd_58 hd_X6_sandAt rfl ⟨(Nat.le_of_ble_eq_true rfl), (Nat.le_of_ble_eq_true rfl)⟩ rfl rfl dX6_knownOf_44 ⟨(Nat.le_of_ble_eq_true rfl), (Nat.le_of_ble_eq_true rfl)⟩ rfl rfl (Nat.le_of_ble_eq_true rfl) [0, 1] [2] rfl rfl rfl rfl rfl (by decide) rfl [1, 2, 0] rfl rfl rfl rfl ?_
    exact g_end X (gE_i dX6_knownOf_47 (rfl) (Nat.le_of_ble_eq_true rfl) (Nat.le_of_ble_eq_true rfl) ⟨congrArg (fun z => some (Value.int z)) (by rfl), rfl⟩)
  rcases Nat.decEq k 5 with k1_4 | k1_4
  rotate_left
  · subst k1_4
    refine g_tope (y := 5) (by rfl) ?_
    refine g_eq (lv' := [(0, .ref m0), (1, .int 5), (2, .int (nI q))]) rfl (by rfl) ?_
    refine g_tableIn (off := 47) X 48 dX6_knownOf_1 (by decide) (by decide) (by decide +kernel) (by decide) ?_
    refine g_aload_n X dX6_knownOf_48 rfl 0 rfl ?_
    refine g_iload_n X dX6_knownOf_49 rfl 2 rfl ?_
    refine g_dV (ci := 6) (q0 := 0) (n := 1) (wr := [(b5, cI d 36 (dF G))]) (ws' := [(m0, cO 6 [.ref a0, .ref a1, .ref a2, .int (nI tn), .ref a4, .int (nI ap), .ref a6, .int (nI rn), .ref a8, .ref a9, .int im, .ref b1, .ref b2, .ref b3, .ref b4, .ref b5, .ref b6]), (a0, cI d 36 K), (b5, cI d 36 (dF G))]) (st' := [.int (ptF K q 36)]) (As := [.int (nI q)]) (st := []) X (ct_X6_portFrom l d m0 a0 a1 a2 a4 a6 a8 a9 b1 b2 b3 b4 b5 b6 K tn ap rn im q (by first | assumption | omega)) wd_927 wd_924 wd_926 wd_39 wd_58 hd_X6_portFrom rfl ⟨(Nat.le_of_ble_eq_true rfl), (Nat.le_of_ble_eq_true rfl)⟩ rfl rfl dX6_knownOf_50 ⟨(Nat.le_of_ble_eq_true rfl), (Nat.le_of_ble_eq_true rfl)⟩ rfl rfl (Nat.le_of_ble_eq_true rfl) [0, 1] [2] rfl rfl rfl rfl rfl (by decide) rfl [1, 2, 0] rfl rfl rfl rfl ?_
    exact g_end X (gE_i dX6_knownOf_53 (rfl) (Nat.le_of_ble_eq_true rfl) (Nat.le_of_ble_eq_true rfl) ⟨congrArg (fun z => some (Value.int z)) (by rfl), rfl⟩)
  have nt_1 : ¬ (nI k).toInt = 2 ∧ ¬ (nI k).toInt = 3 ∧ ¬ (nI k).toInt = 4 ∧ ¬ (nI k).toInt = 5 := by rw [nI_toInt (by omega)]; omega
  refine g_tableOut X 54 dX6_knownOf_1 (by omega) (by decide) ?_
  refine g_aload_n X dX6_knownOf_54 rfl 0 rfl ?_
  refine g_get (C := RX6) (T := TX6) (N := 17) (ci := 6) (v := .ref b5) X rfl inT6 15 (by decide) wd_811 rfl dX6_knownOf_55 0 rfl rfl ?_
  refine g_iload_n X dX6_knownOf_58 rfl 2 rfl ?_
  refine g_iaload_N (k := q) X rfl dX6_knownOf_59 2 rfl (by first | assumption | omega) (by omega) ?_
  exact g_end X (gE_i dX6_knownOf_60 (rfl) (Nat.le_of_ble_eq_true rfl) (Nat.le_of_ble_eq_true rfl) ⟨congrArg (fun z => some (Value.int z)) (by have hk01 : k = 0 ∨ k = 1 := (by omega); rcases hk01 with e | e <;> (subst e; rfl)), rfl⟩)
set_option maxHeartbeats 4000000 in
set_option maxRecDepth 20000 in
theorem ct_X6_isTrue (l : Launch) (d : KD) (m0 a0 a1 a2 a4 a6 a8 a9 b1 b2 b3 b4 b5 b6 : Nat) (K : Nat → Int32) (tn ap rn : Nat) (im : Int32) (k q : Nat) (G : Nat → Nat) (x : Int32) (hk : k < 6) (hq : q < 36) : Ct l d yX6_isTrue cX6_isTrue 5 (some .boolean) { frames := 3, cells := 0, slots := 0, locals := 67 } [.ref m0, .int (nI k), .int x, .int (nI q)] [(m0, cO 6 [.ref a0, .ref a1, .ref a2, .int (nI tn), .ref a4, .int (nI ap), .ref a6, .int (nI rn), .ref a8, .ref a9, .int im, .ref b1, .ref b2, .ref b3, .ref b4, .ref b5, .ref b6]), (a0, cI d 36 K), (b5, cI d 36 (dF G))] 0 0 (fun r wo => r = some (.int (b2i (tru (sg K G) k x q))) ∧ wo = [(m0, cO 6 [.ref a0, .ref a1, .ref a2, .int (nI tn), .ref a4, .int (nI ap), .ref a6, .int (nI rn), .ref a8, .ref a9, .int im, .ref b1, .ref b2, .ref b3, .ref b4, .ref b5, .ref b6]), (a0, cI d 36 K), (b5, cI d 36 (dF G))]) := by
  refine ct_of (own := RX6) (ini := false) (by decide +kernel) rfl (fun h => by cases h) (Nat.le_of_ble_eq_true rfl) ?_
  intro g X
  show g 0 0 [(m0, cO 6 [.ref a0, .ref a1, .ref a2, .int (nI tn), .ref a4, .int (nI ap), .ref a6, .int (nI rn), .ref a8, .ref a9, .int im, .ref b1, .ref b2, .ref b3, .ref b4, .ref b5, .ref b6]), (a0, cI d 36 K), (b5, cI d 36 (dF G))] [(0, .ref m0), (1, .int (nI k)), (2, .int x), (3, .int (nI q))] 0 []
  refine g_aload_n X dX6_isTrue_0 rfl 0 rfl ?_
  refine g_iload_n X dX6_isTrue_1 rfl 1 rfl ?_
  refine g_iload_n X dX6_isTrue_2 rfl 3 rfl ?_
  refine g_dV (ci := 6) (q0 := 0) (n := 2) (wr := []) (ws' := [(m0, cO 6 [.ref a0, .ref a1, .ref a2, .int (nI tn), .ref a4, .int (nI ap), .ref a6, .int (nI rn), .ref a8, .ref a9, .int im, .ref b1, .ref b2, .ref b3, .ref b4, .ref b5, .ref b6]), (a0, cI d 36 K), (b5, cI d 36 (dF G))]) (st' := [.int (sg K G k q)]) (As := [.int (nI k), .int (nI q)]) (st := []) X (ct_X6_knownOf l d m0 a0 a1 a2 a4 a6 a8 a9 b1 b2 b3 b4 b5 b6 K tn ap rn im k q G (by first | assumption | omega) (by first | assumption | omega)) wd_919 wd_916 wd_918 wd_37 wd_58 hd_X6_knownOf rfl ⟨(Nat.le_of_ble_eq_true rfl), (Nat.le_of_ble_eq_true rfl)⟩ rfl rfl dX6_isTrue_3 ⟨(Nat.le_of_ble_eq_true rfl), (Nat.le_of_ble_eq_true rfl)⟩ rfl rfl (Nat.le_of_ble_eq_true rfl) [0, 1, 2] [] rfl rfl rfl rfl rfl (by decide) rfl [0, 1, 2] rfl rfl rfl rfl ?_
  refine g_istore (lv' := [(4, .int (sg K G k q)), (0, .ref m0), (1, .int (nI k)), (2, .int x), (3, .int (nI q))]) X dX6_isTrue_6 (by decide) rfl ?_
  refine g_iload X dX6_isTrue_8 0 rfl ?_
  refine g_bipush (v := (-9)) X dX6_isTrue_10 (by decide) ?_
  refine g_icmp_eq X 39 dX6_isTrue_12 (by decide) (fun c12_1 => ?_) (fun c12_1 => ?_)
  · refine g_iconst (v := 0) X dX6_isTrue_39 (by decide) ?_
    exact g_end X (gE_i dX6_isTrue_40 (rfl) (Nat.le_of_ble_eq_true rfl) (Nat.le_of_ble_eq_true rfl) ⟨congrArg (fun z => some (Value.int z)) (by first | exact (tr_y1 (by assumption) (by assumption) (by assumption)).symm | exact (tr_n1 (by assumption) (by assumption)).symm | exact (tr_y (by assumption) (by assumption) (by assumption)).symm | exact (tr_n (by assumption) (by assumption)).symm | exact (tr_0 (by assumption)).symm | exact (tr_y1' (by assumption) (by assumption) (by assumption)).symm), rfl⟩)
  · refine g_iload_n X dX6_isTrue_15 rfl 2 rfl ?_
    refine g_iconst (v := 1) X dX6_isTrue_16 (by decide) ?_
    refine g_icmpN_ne (a := k) (b := 1) X rfl rfl (by omega) (by omega) 29 dX6_isTrue_17 (by decide) (fun c17_2 => ?_) (fun c17_2 => ?_)
    · refine g_iload X dX6_isTrue_29 0 rfl ?_
      refine g_iload_n X dX6_isTrue_31 rfl 3 rfl ?_
      refine g_icmp_ne X 39 dX6_isTrue_32 (by decide) (fun c32_3 => ?_) (fun c32_3 => ?_)
      · refine g_iconst (v := 0) X dX6_isTrue_39 (by decide) ?_
        exact g_end X (gE_i dX6_isTrue_40 (rfl) (Nat.le_of_ble_eq_true rfl) (Nat.le_of_ble_eq_true rfl) ⟨congrArg (fun z => some (Value.int z)) (by first | exact (tr_y1 (by assumption) (by assumption) (by assumption)).symm | exact (tr_n1 (by assumption) (by assumption)).symm | exact (tr_y (by assumption) (by assumption) (by assumption)).symm | exact (tr_n (by assumption) (by assumption)).symm | exact (tr_0 (by assumption)).symm | exact (tr_y1' (by assumption) (by assumption) (by assumption)).symm), rfl⟩)
      · refine g_iconst (v := 1) X dX6_isTrue_35 (by decide) ?_
        refine g_goto X 40 dX6_isTrue_36 (by decide) ?_
        exact g_end X (gE_i dX6_isTrue_40 (rfl) (Nat.le_of_ble_eq_true rfl) (Nat.le_of_ble_eq_true rfl) ⟨congrArg (fun z => some (Value.int z)) (by first | exact (tr_y1 (by assumption) (by assumption) (by assumption)).symm | exact (tr_n1 (by assumption) (by assumption)).symm | exact (tr_y (by assumption) (by assumption) (by assumption)).symm | exact (tr_n (by assumption) (by assumption)).symm | exact (tr_0 (by assumption)).symm | exact (tr_y1' (by assumption) (by assumption) (by assumption)).symm), rfl⟩)
    · refine g_iload X dX6_isTrue_20 0 rfl ?_
      refine g_iload_n X dX6_isTrue_22 rfl 3 rfl ?_
      refine g_icmp_gt X 39 dX6_isTrue_23 (by decide) (fun c23_4 => ?_) (fun c23_4 => ?_)
      · refine g_iconst (v := 0) X dX6_isTrue_39 (by decide) ?_
        exact g_end X (gE_i dX6_isTrue_40 (rfl) (Nat.le_of_ble_eq_true rfl) (Nat.le_of_ble_eq_true rfl) ⟨congrArg (fun z => some (Value.int z)) (by first | exact (tr_y1 (by assumption) (by assumption) (by assumption)).symm | exact (tr_n1 (by assumption) (by assumption)).symm | exact (tr_y (by assumption) (by assumption) (by assumption)).symm | exact (tr_n (by assumption) (by assumption)).symm | exact (tr_0 (by assumption)).symm | exact (tr_y1' (by assumption) (by assumption) (by assumption)).symm), rfl⟩)
      · refine g_goto X 35 dX6_isTrue_26 (by decide) ?_
        refine g_iconst (v := 1) X dX6_isTrue_35 (by decide) ?_
        refine g_goto X 40 dX6_isTrue_36 (by decide) ?_
        exact g_end X (gE_i dX6_isTrue_40 (rfl) (Nat.le_of_ble_eq_true rfl) (Nat.le_of_ble_eq_true rfl) ⟨congrArg (fun z => some (Value.int z)) (by first | exact (tr_y1 (by assumption) (by assumption) (by assumption)).symm | exact (tr_n1 (by assumption) (by assumption)).symm | exact (tr_y (by assumption) (by assumption) (by assumption)).symm | exact (tr_n (by assumption) (by assumption)).symm | exact (tr_0 (by assumption)).symm | exact (tr_y1' (by assumption) (by assumption) (by assumption)).symm), rfl⟩)
theorem ct_X6_within_2 (l : Launch) (d : KD) (x : Int32) : Ct l d yX6_within cX6_within 3 (some .boolean) { frames := 0, cells := 0, slots := 0, locals := 0 } [.int x, .int 0, .int 1] [] 0 0 (fun r wo => r = some (.int (b2i (x = 0 ∨ x = 1))) ∧ wo = []) := by
  have h := ct_X6_within l d x 0 1; rwa [b2i_c wit_01] at h
set_option maxHeartbeats 4000000 in
set_option maxRecDepth 20000 in
theorem ct_X6_square (l : Launch) (d : KD) (m0 a0 a1 a2 a4 a6 a8 a9 b1 b2 b3 b4 b5 b6 : Nat) (K L S Rf : Nat → Int32) (tn ap rn : Nat) (im : Int32) (x y : Int32) : Ct l d yX6_square cX6_square 3 (some .int) { frames := 2, cells := 0, slots := 0, locals := 42 } [.ref m0, .int x, .int y] [(m0, cO 6 [.ref a0, .ref a1, .ref a2, .int (nI tn), .ref a4, .int (nI ap), .ref a6, .int (nI rn), .ref a8, .ref a9, .int im, .ref b1, .ref b2, .ref b3, .ref b4, .ref b5, .ref b6]), (a0, cI d 36 K), (a1, cI d 36 L), (a2, cI d 5 S), (a9, cI d 7 (rf7 Rf))] 0 0 (fun r wo => r = some (.int ((sp_square K L S x y).1)) ∧ wo = [(m0, cO 6 [.ref a0, .ref a1, .ref a2, .int (nI tn), .ref a4, .int (nI ap), .ref a6, .int (nI rn), .ref a8, .ref a9, .int im, .ref b1, .ref b2, .ref b3, .ref b4, .ref b5, .ref b6]), (a0, cI d 36 K), (a1, cI d 36 L), (a2, cI d 5 S), (a9, cI d 7 (rf7 (bmp Rf (sp_square K L S x y).2)))]) := by
  refine ct_of (own := RX6) (ini := false) (by decide +kernel) rfl (fun h => by cases h) (Nat.le_of_ble_eq_true rfl) ?_
  intro g X
  show g 0 0 [(m0, cO 6 [.ref a0, .ref a1, .ref a2, .int (nI tn), .ref a4, .int (nI ap), .ref a6, .int (nI rn), .ref a8, .ref a9, .int im, .ref b1, .ref b2, .ref b3, .ref b4, .ref b5, .ref b6]), (a0, cI d 36 K), (a1, cI d 36 L), (a2, cI d 5 S), (a9, cI d 7 (rf7 Rf))] [(0, .ref m0), (1, .int x), (2, .int y)] 0 []
  refine g_iload_n X dX6_square_0 rfl 1 rfl ?_
  refine g_dS (n := 1) (wr := [(m0, cO 6 [.ref a0, .ref a1, .ref a2, .int (nI tn), .ref a4, .int (nI ap), .ref a6, .int (nI rn), .ref a8, .ref a9, .int im, .ref b1, .ref b2, .ref b3, .ref b4, .ref b5, .ref b6]), (a0, cI d 36 K), (a1, cI d 36 L), (a2, cI d 5 S), (a9, cI d 7 (rf7 Rf))]) (ws' := [(m0, cO 6 [.ref a0, .ref a1, .ref a2, .int (nI tn), .ref a4, .int (nI ap), .ref a6, .int (nI rn), .ref a8, .ref a9, .int im, .ref b1, .ref b2, .ref b3, .ref b4, .ref b5, .ref b6]), (a0, cI d 36 K), (a1, cI d 36 L), (a2, cI d 5 S), (a9, cI d 7 (rf7 Rf))]) (st' := [.int (b2i (sq x))]) (As := [.int x]) (st := []) X (ct_X6_isSquare l d x) wd_884 wd_882 wd_883 wd_58 hd_X6_isSquare ⟨(Nat.le_of_ble_eq_true rfl), (Nat.le_of_ble_eq_true rfl)⟩ rfl rfl dX6_square_1 ⟨(Nat.le_of_ble_eq_true rfl), (Nat.le_of_ble_eq_true rfl)⟩ rfl rfl (Nat.le_of_ble_eq_true rfl) [] [0, 1, 2, 3, 4] rfl rfl rfl rfl rfl (by decide) [0, 1, 2, 3, 4] rfl rfl rfl rfl ?_
  refine g_ifB_ne X 13 dX6_square_4 (by decide) (fun c4_1 => ?_) (fun c4_1 => ?_)
  · obtain ⟨j_x, hj_x, rfl⟩ := sq_nat c4_1
    have hcl_j_x : (nI j_x).toNatClampNeg = j_x := nI_clamp (by omega)
    refine g_iload_n X dX6_square_13 rfl 2 rfl ?_
    rcases Classical.em (y = 0) with k14_2 | k14_2
    · subst k14_2
      refine g_tableIn (off := 26) X 40 dX6_square_14 (by decide) (by decide) (by decide +kernel) (by decide) ?_
      refine g_aload_n X dX6_square_40 rfl 0 rfl ?_
      refine g_get (C := RX6) (T := TX6) (N := 17) (ci := 6) (v := .ref a0) X rfl inT6 0 (by decide) wd_796 rfl dX6_square_41 0 rfl rfl ?_
      refine g_iload_n X dX6_square_44 rfl 1 rfl ?_
      refine g_iaload_N (k := j_x) X rfl dX6_square_45 1 rfl (by first | assumption | omega) (by omega) ?_
      have e_ : sp_square K L S (nI j_x) 0 = (K j_x, 0) := by unfold sp_square; grind [b2i_t, b2i_f]
      exact g_end X (gE_i dX6_square_46 (rfl) (Nat.le_of_ble_eq_true rfl) (Nat.le_of_ble_eq_true rfl) ⟨congrArg (fun z => some (Value.int z)) (by rw [e_]), ws_cons (rfl) (ws_cons (rfl) (ws_cons (rfl) (ws_cons (rfl) (ws_cons (cI_eq (by first | (rw [e_]; done) | (rw [e_]; rfl) | (rw [e_]; simp only [ix, hcl_j_x, ↓reduceIte]; done) | simp [e_, *])) (rfl)))))⟩)
    rcases Classical.em (y = 1) with k14_4 | k14_4
    · subst k14_4
      refine g_tableIn (off := 33) X 47 dX6_square_14 (by decide) (by decide) (by decide +kernel) (by decide) ?_
      refine g_aload_n X dX6_square_47 rfl 0 rfl ?_
      refine g_iload_n X dX6_square_48 rfl 1 rfl ?_
      refine g_dV (ci := 6) (q0 := 0) (n := 1) (wr := [(a1, cI d 36 L), (a9, cI d 7 (rf7 Rf))]) (ws' := [(m0, cO 6 [.ref a0, .ref a1, .ref a2, .int (nI tn), .ref a4, .int (nI ap), .ref a6, .int (nI rn), .ref a8, .ref a9, .int im, .ref b1, .ref b2, .ref b3, .ref b4, .ref b5, .ref b6]), (a0, cI d 36 K), (a1, cI d 36 L), (a2, cI d 5 S), (a9, cI d 7 (rf7 Rf))]) (st' := [.int (b2i (csl (K j_x) (S 1)))]) (As := [.int (nI j_x)]) (st := []) X (ct_X6_canBe l d m0 a0 a1 a2 a4 a6 a8 a9 b1 b2 b3 b4 b5 b6 K S tn ap rn im j_x (by first | assumption | omega)) wd_891 wd_888 wd_890 wd_31 wd_58 hd_X6_canBe rfl ⟨(Nat.le_of_ble_eq_true rfl), (Nat.le_of_ble_eq_true rfl)⟩ rfl rfl dX6_square_49 ⟨(Nat.le_of_ble_eq_true rfl), (Nat.le_of_ble_eq_true rfl)⟩ rfl rfl (Nat.le_of_ble_eq_true rfl) [0, 1, 3] [2, 4] rfl rfl rfl rfl rfl (by decide) rfl [2, 3, 0, 4, 1] rfl rfl rfl rfl ?_
      refine g_ifB_eq X 59 dX6_square_52 (by decide) (fun c52_5 => ?_) (fun c52_5 => ?_)
      · refine g_iconst (v := 0) X dX6_square_59 (by decide) ?_
        have e_ : sp_square K L S (nI j_x) 1 = (0, 0) := by unfold sp_square; grind [b2i_t, b2i_f]
        exact g_end X (gE_i dX6_square_60 (rfl) (Nat.le_of_ble_eq_true rfl) (Nat.le_of_ble_eq_true rfl) ⟨congrArg (fun z => some (Value.int z)) (by rw [e_]), ws_cons (rfl) (ws_cons (rfl) (ws_cons (rfl) (ws_cons (rfl) (ws_cons (cI_eq (by first | (rw [e_]; done) | (rw [e_]; rfl) | (rw [e_]; simp only [ix, hcl_j_x, ↓reduceIte]; done) | simp [e_, *])) (rfl)))))⟩)
      · refine g_iconst (v := 1) X dX6_square_55 (by decide) ?_
        refine g_goto X 60 dX6_square_56 (by decide) ?_
        have e_ : sp_square K L S (nI j_x) 1 = (1, 0) := by unfold sp_square; grind [b2i_t, b2i_f]
        exact g_end X (gE_i dX6_square_60 (rfl) (Nat.le_of_ble_eq_true rfl) (Nat.le_of_ble_eq_true rfl) ⟨congrArg (fun z => some (Value.int z)) (by rw [e_]), ws_cons (rfl) (ws_cons (rfl) (ws_cons (rfl) (ws_cons (rfl) (ws_cons (cI_eq (by first | (rw [e_]; done) | (rw [e_]; rfl) | (rw [e_]; simp only [ix, hcl_j_x, ↓reduceIte]; done) | simp [e_, *])) (rfl)))))⟩)
    rcases Classical.em (y = 2) with k14_8 | k14_8
    · subst k14_8
      refine g_tableIn (off := 47) X 61 dX6_square_14 (by decide) (by decide) (by decide +kernel) (by decide) ?_
      refine g_aload_n X dX6_square_61 rfl 0 rfl ?_
      refine g_get (C := RX6) (T := TX6) (N := 17) (ci := 6) (v := .ref a1) X rfl inT6 1 (by decide) wd_797 rfl dX6_square_62 0 rfl rfl ?_
      refine g_iload_n X dX6_square_65 rfl 1 rfl ?_
      refine g_iaload_N (k := j_x) X rfl dX6_square_66 2 rfl (by first | assumption | omega) (by omega) ?_
      have e_ : sp_square K L S (nI j_x) 2 = (L j_x, 0) := by unfold sp_square; grind [b2i_t, b2i_f]
      exact g_end X (gE_i dX6_square_67 (rfl) (Nat.le_of_ble_eq_true rfl) (Nat.le_of_ble_eq_true rfl) ⟨congrArg (fun z => some (Value.int z)) (by rw [e_]), ws_cons (rfl) (ws_cons (rfl) (ws_cons (rfl) (ws_cons (rfl) (ws_cons (cI_eq (by first | (rw [e_]; done) | (rw [e_]; rfl) | (rw [e_]; simp only [ix, hcl_j_x, ↓reduceIte]; done) | simp [e_, *])) (rfl)))))⟩)
    have nt_14 : ¬ (y).toInt = 0 ∧ ¬ (y).toInt = 1 ∧ ¬ (y).toInt = 2 := by refine ⟨lv_neT k14_2 rfl, lv_neT k14_4 rfl, lv_neT k14_8 rfl⟩
    refine g_tableOut X 68 dX6_square_14 (by omega) (by decide) ?_
    refine g_aload_n X dX6_square_68 rfl 0 rfl ?_
    refine g_bipush (v := (-2)) X dX6_square_69 (by decide) ?_
    refine g_dV (ci := 6) (q0 := 0) (n := 1) (wr := [(a0, cI d 36 K), (a1, cI d 36 L), (a2, cI d 5 S)]) (ws' := [(m0, cO 6 [.ref a0, .ref a1, .ref a2, .int (nI tn), .ref a4, .int (nI ap), .ref a6, .int (nI rn), .ref a8, .ref a9, .int im, .ref b1, .ref b2, .ref b3, .ref b4, .ref b5, .ref b6]), (a0, cI d 36 K), (a1, cI d 36 L), (a2, cI d 5 S), (a9, cI d 7 (rf7 (bmp Rf 2)))]) (st' := [.int (-2)]) (As := [.int (-2)]) (st := []) X (ct_X6_no_2 l d m0 a0 a1 a2 a4 a6 a8 a9 b1 b2 b3 b4 b5 b6 Rf tn ap rn im) wd_855 wd_852 wd_854 wd_25 wd_58 hd_X6_no rfl ⟨(Nat.le_of_ble_eq_true rfl), (Nat.le_of_ble_eq_true rfl)⟩ rfl rfl dX6_square_71 ⟨(Nat.le_of_ble_eq_true rfl), (Nat.le_of_ble_eq_true rfl)⟩ rfl rfl (Nat.le_of_ble_eq_true rfl) [0, 4] [1, 2, 3] rfl rfl rfl rfl rfl (by decide) rfl [3, 0, 1, 2, 4] rfl rfl rfl rfl ?_
    have e_ : sp_square K L S (nI j_x) y = ((-2), 2) := by unfold sp_square; grind [b2i_t, b2i_f]
    exact g_end X (gE_i dX6_square_74 (rfl) (Nat.le_of_ble_eq_true rfl) (Nat.le_of_ble_eq_true rfl) ⟨congrArg (fun z => some (Value.int z)) (by rw [e_]), ws_cons (rfl) (ws_cons (rfl) (ws_cons (rfl) (ws_cons (rfl) (ws_cons (cI_eq (by first | (rw [e_]; done) | (rw [e_]; rfl) | (rw [e_]; simp only [ix, hcl_j_x, ↓reduceIte]; done) | simp [e_, *])) (rfl)))))⟩)
  · refine g_aload_n X dX6_square_7 rfl 0 rfl ?_
    refine g_iconst (v := (-1)) X dX6_square_8 (by decide) ?_
    refine g_dV (ci := 6) (q0 := 0) (n := 1) (wr := [(a0, cI d 36 K), (a1, cI d 36 L), (a2, cI d 5 S)]) (ws' := [(m0, cO 6 [.ref a0, .ref a1, .ref a2, .int (nI tn), .ref a4, .int (nI ap), .ref a6, .int (nI rn), .ref a8, .ref a9, .int im, .ref b1, .ref b2, .ref b3, .ref b4, .ref b5, .ref b6]), (a0, cI d 36 K), (a1, cI d 36 L), (a2, cI d 5 S), (a9, cI d 7 (rf7 (bmp Rf 1)))]) (st' := [.int (-1)]) (As := [.int (-1)]) (st := []) X (ct_X6_no_1 l d m0 a0 a1 a2 a4 a6 a8 a9 b1 b2 b3 b4 b5 b6 Rf tn ap rn im) wd_855 wd_852 wd_854 wd_25 wd_58 hd_X6_no rfl ⟨(Nat.le_of_ble_eq_true rfl), (Nat.le_of_ble_eq_true rfl)⟩ rfl rfl dX6_square_9 ⟨(Nat.le_of_ble_eq_true rfl), (Nat.le_of_ble_eq_true rfl)⟩ rfl rfl (Nat.le_of_ble_eq_true rfl) [0, 4] [1, 2, 3] rfl rfl rfl rfl rfl (by decide) rfl [3, 0, 1, 2, 4] rfl rfl rfl rfl ?_
    have e_ : sp_square K L S x y = ((-1), 1) := by unfold sp_square; grind [b2i_t, b2i_f]
    exact g_end X (gE_i dX6_square_12 (rfl) (Nat.le_of_ble_eq_true rfl) (Nat.le_of_ble_eq_true rfl) ⟨congrArg (fun z => some (Value.int z)) (by rw [e_]), ws_cons (rfl) (ws_cons (rfl) (ws_cons (rfl) (ws_cons (rfl) (ws_cons (cI_eq (by first | (rw [e_]; done) | (rw [e_]; rfl) | (rw [e_]; simp only [ix, ↓reduceIte]; done) | simp [e_, *])) (rfl)))))⟩)
set_option maxHeartbeats 4000000 in
set_option maxRecDepth 20000 in
theorem ct_X6_make (l : Launch) (d : KD) (m0 a0 a1 a2 a4 a6 a8 a9 b1 b2 b3 b4 b5 b6 : Nat) (L Rf : Nat → Int32) (tn ap rn : Nat) (im : Int32) (x y : Int32) : Ct l d yX6_make cX6_make 4 (some .int) { frames := 2, cells := 0, slots := 0, locals := 42 } [.ref m0, .int x, .int y] [(m0, cO 6 [.ref a0, .ref a1, .ref a2, .int (nI tn), .ref a4, .int (nI ap), .ref a6, .int (nI rn), .ref a8, .ref a9, .int im, .ref b1, .ref b2, .ref b3, .ref b4, .ref b5, .ref b6]), (a1, cI d 36 L), (a9, cI d 7 (rf7 Rf))] 0 0 (fun r wo => r = some (.int ((sp_make L x y).1)) ∧ wo = [(m0, cO 6 [.ref a0, .ref a1, .ref a2, .int (nI tn), .ref a4, .int (nI ap), .ref a6, .int (nI rn), .ref a8, .ref a9, .int im, .ref b1, .ref b2, .ref b3, .ref b4, .ref b5, .ref b6]), (a1, cI d 36 (if (sp_make L x y).2 = 0 then upd L (ix x) y else L)), (a9, cI d 7 (rf7 (bmp Rf (sp_make L x y).2)))]) := by
  refine ct_of (own := RX6) (ini := false) (by decide +kernel) rfl (fun h => by cases h) (Nat.le_of_ble_eq_true rfl) ?_
  intro g X
  show g 0 0 [(m0, cO 6 [.ref a0, .ref a1, .ref a2, .int (nI tn), .ref a4, .int (nI ap), .ref a6, .int (nI rn), .ref a8, .ref a9, .int im, .ref b1, .ref b2, .ref b3, .ref b4, .ref b5, .ref b6]), (a1, cI d 36 L), (a9, cI d 7 (rf7 Rf))] [(0, .ref m0), (1, .int x), (2, .int y)] 0 []
  refine g_iload_n X dX6_make_0 rfl 1 rfl ?_
  refine g_dS (n := 1) (wr := [(m0, cO 6 [.ref a0, .ref a1, .ref a2, .int (nI tn), .ref a4, .int (nI ap), .ref a6, .int (nI rn), .ref a8, .ref a9, .int im, .ref b1, .ref b2, .ref b3, .ref b4, .ref b5, .ref b6]), (a1, cI d 36 L), (a9, cI d 7 (rf7 Rf))]) (ws' := [(m0, cO 6 [.ref a0, .ref a1, .ref a2, .int (nI tn), .ref a4, .int (nI ap), .ref a6, .int (nI rn), .ref a8, .ref a9, .int im, .ref b1, .ref b2, .ref b3, .ref b4, .ref b5, .ref b6]), (a1, cI d 36 L), (a9, cI d 7 (rf7 Rf))]) (st' := [.int (b2i (sq x))]) (As := [.int x]) (st := []) X (ct_X6_isSquare l d x) wd_884 wd_882 wd_883 wd_58 hd_X6_isSquare ⟨(Nat.le_of_ble_eq_true rfl), (Nat.le_of_ble_eq_true rfl)⟩ rfl rfl dX6_make_1 ⟨(Nat.le_of_ble_eq_true rfl), (Nat.le_of_ble_eq_true rfl)⟩ rfl rfl (Nat.le_of_ble_eq_true rfl) [] [0, 1, 2] rfl rfl rfl rfl rfl (by decide) [0, 1, 2] rfl rfl rfl rfl ?_
  refine g_ifB_ne X 13 dX6_make_4 (by decide) (fun c4_1 => ?_) (fun c4_1 => ?_)
  · obtain ⟨j_x, hj_x, rfl⟩ := sq_nat c4_1
    have hcl_j_x : (nI j_x).toNatClampNeg = j_x := nI_clamp (by omega)
    refine g_iload_n X dX6_make_13 rfl 2 rfl ?_
    refine g_if_ge X 24 dX6_make_14 (by decide) (fun c14_2 => ?_) (fun c14_2 => ?_)
    · refine g_iload_n X dX6_make_24 rfl 2 rfl ?_
      refine g_bipush (v := 9) X dX6_make_25 (by decide) ?_
      refine g_icmp_le X 37 dX6_make_27 (by decide) (fun c27_3 => ?_) (fun c27_3 => ?_)
      · refine g_aload_n X dX6_make_37 rfl 0 rfl ?_
        refine g_get (C := RX6) (T := TX6) (N := 17) (ci := 6) (v := .ref a1) X rfl inT6 1 (by decide) wd_797 rfl dX6_make_38 0 rfl rfl ?_
        refine g_iload_n X dX6_make_41 rfl 1 rfl ?_
        refine g_iaload_N (k := j_x) X rfl dX6_make_42 1 rfl (by first | assumption | omega) (by omega) ?_
        refine g_istore_n (lv' := [(3, .int (L j_x)), (0, .ref m0), (1, .int (nI j_x)), (2, .int y)]) X dX6_make_43 rfl (by decide) rfl ?_
        refine g_aload_n X dX6_make_44 rfl 1 rfl ?_
        refine g_get (C := RX6) (T := TX6) (N := 17) (ci := 6) (v := .ref a1) X rfl inT6 1 (by decide) wd_797 rfl dX6_make_45 0 rfl rfl ?_
        refine g_iload_n X dX6_make_48 rfl 2 rfl ?_
        refine g_iload_n X dX6_make_49 rfl 3 rfl ?_
        refine g_iastore_N (k := j_x) (ws' := [(m0, cO 6 [.ref a0, .ref a1, .ref a2, .int (nI tn), .ref a4, .int (nI ap), .ref a6, .int (nI rn), .ref a8, .ref a9, .int im, .ref b1, .ref b2, .ref b3, .ref b4, .ref b5, .ref b6]), (a1, cI d 36 (upd L j_x y)), (a9, cI d 7 (rf7 Rf))]) X rfl dX6_make_50 1 rfl (by first | assumption | omega) (by omega) rfl ?_
        refine g_iload_n X dX6_make_51 rfl 0 rfl ?_
        have e_ : sp_make L (nI j_x) y = (L j_x, 0) := by unfold sp_make; grind [b2i_t, b2i_f]
        exact g_end X (gE_i dX6_make_52 (rfl) (Nat.le_of_ble_eq_true rfl) (Nat.le_of_ble_eq_true rfl) ⟨congrArg (fun z => some (Value.int z)) (by rw [e_]), ws_cons (rfl) (ws_cons (cI_eq (by first | (rw [e_]; done) | (rw [e_]; rfl) | (rw [e_]; simp only [ix, hcl_j_x, ↓reduceIte]; done) | simp [e_, *])) (ws_cons (cI_eq (by first | (rw [e_]; done) | (rw [e_]; rfl) | (rw [e_]; simp only [ix, hcl_j_x, ↓reduceIte]; done) | simp [e_, *])) (rfl)))⟩)
      · refine g_aload_n X dX6_make_30 rfl 0 rfl ?_
        refine g_bipush (v := (-6)) X dX6_make_31 (by decide) ?_
        refine g_dV (ci := 6) (q0 := 0) (n := 1) (wr := [(a1, cI d 36 L)]) (ws' := [(m0, cO 6 [.ref a0, .ref a1, .ref a2, .int (nI tn), .ref a4, .int (nI ap), .ref a6, .int (nI rn), .ref a8, .ref a9, .int im, .ref b1, .ref b2, .ref b3, .ref b4, .ref b5, .ref b6]), (a1, cI d 36 L), (a9, cI d 7 (rf7 (bmp Rf 6)))]) (st' := [.int (-6)]) (As := [.int (-6)]) (st := []) X (ct_X6_no_6 l d m0 a0 a1 a2 a4 a6 a8 a9 b1 b2 b3 b4 b5 b6 Rf tn ap rn im) wd_855 wd_852 wd_854 wd_25 wd_58 hd_X6_no rfl ⟨(Nat.le_of_ble_eq_true rfl), (Nat.le_of_ble_eq_true rfl)⟩ rfl rfl dX6_make_33 ⟨(Nat.le_of_ble_eq_true rfl), (Nat.le_of_ble_eq_true rfl)⟩ rfl rfl (Nat.le_of_ble_eq_true rfl) [0, 2] [1] rfl rfl rfl rfl rfl (by decide) rfl [1, 0, 2] rfl rfl rfl rfl ?_
        have e_ : sp_make L (nI j_x) y = ((-6), 6) := by unfold sp_make; grind [b2i_t, b2i_f]
        exact g_end X (gE_i dX6_make_36 (rfl) (Nat.le_of_ble_eq_true rfl) (Nat.le_of_ble_eq_true rfl) ⟨congrArg (fun z => some (Value.int z)) (by rw [e_]), ws_cons (rfl) (ws_cons (cI_eq (by first | (rw [e_]; done) | (rw [e_]; rfl) | (rw [e_]; simp only [ix, hcl_j_x, ↓reduceIte]; done) | simp [e_, *])) (ws_cons (cI_eq (by first | (rw [e_]; done) | (rw [e_]; rfl) | (rw [e_]; simp only [ix, hcl_j_x, ↓reduceIte]; done) | simp [e_, *])) (rfl)))⟩)
    · refine g_aload_n X dX6_make_17 rfl 0 rfl ?_
      refine g_bipush (v := (-4)) X dX6_make_18 (by decide) ?_
      refine g_dV (ci := 6) (q0 := 0) (n := 1) (wr := [(a1, cI d 36 L)]) (ws' := [(m0, cO 6 [.ref a0, .ref a1, .ref a2, .int (nI tn), .ref a4, .int (nI ap), .ref a6, .int (nI rn), .ref a8, .ref a9, .int im, .ref b1, .ref b2, .ref b3, .ref b4, .ref b5, .ref b6]), (a1, cI d 36 L), (a9, cI d 7 (rf7 (bmp Rf 4)))]) (st' := [.int (-4)]) (As := [.int (-4)]) (st := []) X (ct_X6_no_4 l d m0 a0 a1 a2 a4 a6 a8 a9 b1 b2 b3 b4 b5 b6 Rf tn ap rn im) wd_855 wd_852 wd_854 wd_25 wd_58 hd_X6_no rfl ⟨(Nat.le_of_ble_eq_true rfl), (Nat.le_of_ble_eq_true rfl)⟩ rfl rfl dX6_make_20 ⟨(Nat.le_of_ble_eq_true rfl), (Nat.le_of_ble_eq_true rfl)⟩ rfl rfl (Nat.le_of_ble_eq_true rfl) [0, 2] [1] rfl rfl rfl rfl rfl (by decide) rfl [1, 0, 2] rfl rfl rfl rfl ?_
      have e_ : sp_make L (nI j_x) y = ((-4), 4) := by unfold sp_make; grind [b2i_t, b2i_f]
      exact g_end X (gE_i dX6_make_23 (rfl) (Nat.le_of_ble_eq_true rfl) (Nat.le_of_ble_eq_true rfl) ⟨congrArg (fun z => some (Value.int z)) (by rw [e_]), ws_cons (rfl) (ws_cons (cI_eq (by first | (rw [e_]; done) | (rw [e_]; rfl) | (rw [e_]; simp only [ix, hcl_j_x, ↓reduceIte]; done) | simp [e_, *])) (ws_cons (cI_eq (by first | (rw [e_]; done) | (rw [e_]; rfl) | (rw [e_]; simp only [ix, hcl_j_x, ↓reduceIte]; done) | simp [e_, *])) (rfl)))⟩)
  · refine g_aload_n X dX6_make_7 rfl 0 rfl ?_
    refine g_iconst (v := (-1)) X dX6_make_8 (by decide) ?_
    refine g_dV (ci := 6) (q0 := 0) (n := 1) (wr := [(a1, cI d 36 L)]) (ws' := [(m0, cO 6 [.ref a0, .ref a1, .ref a2, .int (nI tn), .ref a4, .int (nI ap), .ref a6, .int (nI rn), .ref a8, .ref a9, .int im, .ref b1, .ref b2, .ref b3, .ref b4, .ref b5, .ref b6]), (a1, cI d 36 L), (a9, cI d 7 (rf7 (bmp Rf 1)))]) (st' := [.int (-1)]) (As := [.int (-1)]) (st := []) X (ct_X6_no_1 l d m0 a0 a1 a2 a4 a6 a8 a9 b1 b2 b3 b4 b5 b6 Rf tn ap rn im) wd_855 wd_852 wd_854 wd_25 wd_58 hd_X6_no rfl ⟨(Nat.le_of_ble_eq_true rfl), (Nat.le_of_ble_eq_true rfl)⟩ rfl rfl dX6_make_9 ⟨(Nat.le_of_ble_eq_true rfl), (Nat.le_of_ble_eq_true rfl)⟩ rfl rfl (Nat.le_of_ble_eq_true rfl) [0, 2] [1] rfl rfl rfl rfl rfl (by decide) rfl [1, 0, 2] rfl rfl rfl rfl ?_
    have e_ : sp_make L x y = ((-1), 1) := by unfold sp_make; grind [b2i_t, b2i_f]
    exact g_end X (gE_i dX6_make_12 (rfl) (Nat.le_of_ble_eq_true rfl) (Nat.le_of_ble_eq_true rfl) ⟨congrArg (fun z => some (Value.int z)) (by rw [e_]), ws_cons (rfl) (ws_cons (cI_eq (by first | (rw [e_]; done) | (rw [e_]; rfl) | (rw [e_]; simp only [ix, ↓reduceIte]; done) | simp [e_, *])) (ws_cons (cI_eq (by first | (rw [e_]; done) | (rw [e_]; rfl) | (rw [e_]; simp only [ix, ↓reduceIte]; done) | simp [e_, *])) (rfl)))⟩)
set_option maxHeartbeats 4000000 in
set_option maxRecDepth 20000 in
theorem ct_X6_known (l : Launch) (d : KD) (m0 a0 a1 a2 a4 a6 a8 a9 b1 b2 b3 b4 b5 b6 : Nat) (K S Rf H : Nat → Int32) (tn ap rn : Nat) (im : Int32) (x y : Int32) (hh : sq (S 0)) : Ct l d yX6_known cX6_known 3 (some .int) { frames := 3, cells := 0, slots := 0, locals := 69 } [.ref m0, .int x, .int y] [(m0, cO 6 [.ref a0, .ref a1, .ref a2, .int (nI tn), .ref a4, .int (nI ap), .ref a6, .int (nI rn), .ref a8, .ref a9, .int im, .ref b1, .ref b2, .ref b3, .ref b4, .ref b5, .ref b6]), (a0, cI d 36 K), (a2, cI d 5 S), (a9, cI d 7 (rf7 Rf)), (b5, cI d 36 H)] 0 0 (fun r wo => ∃ (H' : Nat → Int32), r = some (.int ((sp_known (sg K (dsI K S (S 0))) x y).1)) ∧ wo = [(m0, cO 6 [.ref a0, .ref a1, .ref a2, .int (nI tn), .ref a4, .int (nI ap), .ref a6, .int (nI rn), .ref a8, .ref a9, .int im, .ref b1, .ref b2, .ref b3, .ref b4, .ref b5, .ref b6]), (a0, cI d 36 K), (a2, cI d 5 S), (a9, cI d 7 (rf7 (bmp Rf (sp_known (sg K (dsI K S (S 0))) x y).2))), (b5, cI d 36 H')]) := by
  refine ct_of (own := RX6) (ini := false) (by decide +kernel) rfl (fun h => by cases h) (Nat.le_of_ble_eq_true rfl) ?_
  intro g X
  show g 0 0 [(m0, cO 6 [.ref a0, .ref a1, .ref a2, .int (nI tn), .ref a4, .int (nI ap), .ref a6, .int (nI rn), .ref a8, .ref a9, .int im, .ref b1, .ref b2, .ref b3, .ref b4, .ref b5, .ref b6]), (a0, cI d 36 K), (a2, cI d 5 S), (a9, cI d 7 (rf7 Rf)), (b5, cI d 36 H)] [(0, .ref m0), (1, .int x), (2, .int y)] 0 []
  refine g_iload_n X dX6_known_0 rfl 1 rfl ?_
  refine g_dS (n := 1) (wr := [(m0, cO 6 [.ref a0, .ref a1, .ref a2, .int (nI tn), .ref a4, .int (nI ap), .ref a6, .int (nI rn), .ref a8, .ref a9, .int im, .ref b1, .ref b2, .ref b3, .ref b4, .ref b5, .ref b6]), (a0, cI d 36 K), (a2, cI d 5 S), (a9, cI d 7 (rf7 Rf)), (b5, cI d 36 H)]) (ws' := [(m0, cO 6 [.ref a0, .ref a1, .ref a2, .int (nI tn), .ref a4, .int (nI ap), .ref a6, .int (nI rn), .ref a8, .ref a9, .int im, .ref b1, .ref b2, .ref b3, .ref b4, .ref b5, .ref b6]), (a0, cI d 36 K), (a2, cI d 5 S), (a9, cI d 7 (rf7 Rf)), (b5, cI d 36 H)]) (st' := [.int (b2i (kd x))]) (As := [.int x]) (st := []) X (ct_X6_isKind l d x) wd_947 wd_945 wd_946 wd_58 hd_X6_isKind ⟨(Nat.le_of_ble_eq_true rfl), (Nat.le_of_ble_eq_true rfl)⟩ rfl rfl dX6_known_1 ⟨(Nat.le_of_ble_eq_true rfl), (Nat.le_of_ble_eq_true rfl)⟩ rfl rfl (Nat.le_of_ble_eq_true rfl) [] [0, 1, 2, 3, 4] rfl rfl rfl rfl rfl (by decide) [0, 1, 2, 3, 4] rfl rfl rfl rfl ?_
  refine g_ifB_ne X 14 dX6_known_4 (by decide) (fun c4_1 => ?_) (fun c4_1 => ?_)
  · obtain ⟨j_x, hj_x, rfl⟩ := kd_nat c4_1
    have hcl_j_x : (nI j_x).toNatClampNeg = j_x := nI_clamp (by omega)
    refine g_iload_n X dX6_known_14 rfl 2 rfl ?_
    refine g_dS (n := 1) (wr := [(m0, cO 6 [.ref a0, .ref a1, .ref a2, .int (nI tn), .ref a4, .int (nI ap), .ref a6, .int (nI rn), .ref a8, .ref a9, .int im, .ref b1, .ref b2, .ref b3, .ref b4, .ref b5, .ref b6]), (a0, cI d 36 K), (a2, cI d 5 S), (a9, cI d 7 (rf7 Rf)), (b5, cI d 36 H)]) (ws' := [(m0, cO 6 [.ref a0, .ref a1, .ref a2, .int (nI tn), .ref a4, .int (nI ap), .ref a6, .int (nI rn), .ref a8, .ref a9, .int im, .ref b1, .ref b2, .ref b3, .ref b4, .ref b5, .ref b6]), (a0, cI d 36 K), (a2, cI d 5 S), (a9, cI d 7 (rf7 Rf)), (b5, cI d 36 H)]) (st' := [.int (b2i (sq y))]) (As := [.int y]) (st := []) X (ct_X6_isSquare l d y) wd_884 wd_882 wd_883 wd_58 hd_X6_isSquare ⟨(Nat.le_of_ble_eq_true rfl), (Nat.le_of_ble_eq_true rfl)⟩ rfl rfl dX6_known_15 ⟨(Nat.le_of_ble_eq_true rfl), (Nat.le_of_ble_eq_true rfl)⟩ rfl rfl (Nat.le_of_ble_eq_true rfl) [] [0, 1, 2, 3, 4] rfl rfl rfl rfl rfl (by decide) [0, 1, 2, 3, 4] rfl rfl rfl rfl ?_
    refine g_ifB_ne X 27 dX6_known_18 (by decide) (fun c18_2 => ?_) (fun c18_2 => ?_)
    · obtain ⟨j_y, hj_y, rfl⟩ := sq_nat c18_2
      have hcl_j_y : (nI j_y).toNatClampNeg = j_y := nI_clamp (by omega)
      refine g_aload_n X dX6_known_27 rfl 0 rfl ?_
      refine g_dV (ci := 6) (q0 := 0) (n := 0) (wr := [(a9, cI d 7 (rf7 Rf))]) (ws' := [(m0, cO 6 [.ref a0, .ref a1, .ref a2, .int (nI tn), .ref a4, .int (nI ap), .ref a6, .int (nI rn), .ref a8, .ref a9, .int im, .ref b1, .ref b2, .ref b3, .ref b4, .ref b5, .ref b6]), (a0, cI d 36 K), (a2, cI d 5 S), (a9, cI d 7 (rf7 Rf)), (b5, cI d 36 (dF (dsI K S (S 0))))]) (st' := []) (As := []) (st := []) X (ct_X6_fromHome l d m0 a0 a1 a2 a4 a6 a8 a9 b1 b2 b3 b4 b5 b6 K S H tn ap rn im (by first | assumption | omega)) wd_900 wd_897 wd_899 wd_33 wd_58 hd_X6_fromHome rfl ⟨(Nat.le_of_ble_eq_true rfl), (Nat.le_of_ble_eq_true rfl)⟩ rfl rfl dX6_known_28 ⟨(Nat.le_of_ble_eq_true rfl), (Nat.le_of_ble_eq_true rfl)⟩ rfl rfl (Nat.le_of_ble_eq_true rfl) [0, 1, 2, 4] [3] rfl rfl rfl rfl rfl (by decide) rfl [1, 2, 3, 0, 4] rfl rfl rfl rfl ?_
      refine g_aload_n X dX6_known_31 rfl 0 rfl ?_
      refine g_iload_n X dX6_known_32 rfl 1 rfl ?_
      refine g_iload_n X dX6_known_33 rfl 2 rfl ?_
      refine g_dV (ci := 6) (q0 := 0) (n := 2) (wr := [(a2, cI d 5 S), (a9, cI d 7 (rf7 Rf))]) (ws' := [(m0, cO 6 [.ref a0, .ref a1, .ref a2, .int (nI tn), .ref a4, .int (nI ap), .ref a6, .int (nI rn), .ref a8, .ref a9, .int im, .ref b1, .ref b2, .ref b3, .ref b4, .ref b5, .ref b6]), (a0, cI d 36 K), (a2, cI d 5 S), (a9, cI d 7 (rf7 Rf)), (b5, cI d 36 (dF (dsI K S (S 0))))]) (st' := [.int (sg K (dsI K S (S 0)) j_x j_y)]) (As := [.int (nI j_x), .int (nI j_y)]) (st := []) X (ct_X6_knownOf l d m0 a0 a1 a2 a4 a6 a8 a9 b1 b2 b3 b4 b5 b6 K tn ap rn im j_x j_y (dsI K S (S 0)) (by first | assumption | omega) (by first | assumption | omega)) wd_919 wd_916 wd_918 wd_37 wd_58 hd_X6_knownOf rfl ⟨(Nat.le_of_ble_eq_true rfl), (Nat.le_of_ble_eq_true rfl)⟩ rfl rfl dX6_known_34 ⟨(Nat.le_of_ble_eq_true rfl), (Nat.le_of_ble_eq_true rfl)⟩ rfl rfl (Nat.le_of_ble_eq_true rfl) [0, 1, 4] [2, 3] rfl rfl rfl rfl rfl (by decide) rfl [2, 3, 0, 1, 4] rfl rfl rfl rfl ?_
      have e_ : sp_known (sg K (dsI K S (S 0))) (nI j_x) (nI j_y) = (sg K (dsI K S (S 0)) j_x j_y, 0) := by unfold sp_known; grind [b2i_t, b2i_f]
      exact g_end X (gE_i dX6_known_37 (rfl) (Nat.le_of_ble_eq_true rfl) (Nat.le_of_ble_eq_true rfl) ⟨(dF (dsI K S (S 0))), congrArg (fun z => some (Value.int z)) (by rw [e_]), ws_cons (rfl) (ws_cons (rfl) (ws_cons (rfl) (ws_cons (cI_eq (by first | (rw [e_]; done) | (rw [e_]; rfl) | (rw [e_]; simp only [ix, hcl_j_x, hcl_j_y, ↓reduceIte]; done) | simp [e_, *])) (ws_cons (rfl) (rfl)))))⟩)
    · refine g_aload_n X dX6_known_21 rfl 0 rfl ?_
      refine g_iconst (v := (-1)) X dX6_known_22 (by decide) ?_
      refine g_dV (ci := 6) (q0 := 0) (n := 1) (wr := [(a0, cI d 36 K), (a2, cI d 5 S), (b5, cI d 36 H)]) (ws' := [(m0, cO 6 [.ref a0, .ref a1, .ref a2, .int (nI tn), .ref a4, .int (nI ap), .ref a6, .int (nI rn), .ref a8, .ref a9, .int im, .ref b1, .ref b2, .ref b3, .ref b4, .ref b5, .ref b6]), (a0, cI d 36 K), (a2, cI d 5 S), (a9, cI d 7 (rf7 (bmp Rf 1))), (b5, cI d 36 H)]) (st' := [.int (-1)]) (As := [.int (-1)]) (st := []) X (ct_X6_no_1 l d m0 a0 a1 a2 a4 a6 a8 a9 b1 b2 b3 b4 b5 b6 Rf tn ap rn im) wd_855 wd_852 wd_854 wd_25 wd_58 hd_X6_no rfl ⟨(Nat.le_of_ble_eq_true rfl), (Nat.le_of_ble_eq_true rfl)⟩ rfl rfl dX6_known_23 ⟨(Nat.le_of_ble_eq_true rfl), (Nat.le_of_ble_eq_true rfl)⟩ rfl rfl (Nat.le_of_ble_eq_true rfl) [0, 3] [1, 2, 4] rfl rfl rfl rfl rfl (by decide) rfl [3, 0, 1, 4, 2] rfl rfl rfl rfl ?_
      have e_ : sp_known (sg K (dsI K S (S 0))) (nI j_x) y = ((-1), 1) := by unfold sp_known; grind [b2i_t, b2i_f]
      exact g_end X (gE_i dX6_known_26 (rfl) (Nat.le_of_ble_eq_true rfl) (Nat.le_of_ble_eq_true rfl) ⟨H, congrArg (fun z => some (Value.int z)) (by rw [e_]), ws_cons (rfl) (ws_cons (rfl) (ws_cons (rfl) (ws_cons (cI_eq (by first | (rw [e_]; done) | (rw [e_]; rfl) | (rw [e_]; simp only [ix, hcl_j_x, ↓reduceIte]; done) | simp [e_, *])) (ws_cons (rfl) (rfl)))))⟩)
  · refine g_aload_n X dX6_known_7 rfl 0 rfl ?_
    refine g_bipush (v := (-2)) X dX6_known_8 (by decide) ?_
    refine g_dV (ci := 6) (q0 := 0) (n := 1) (wr := [(a0, cI d 36 K), (a2, cI d 5 S), (b5, cI d 36 H)]) (ws' := [(m0, cO 6 [.ref a0, .ref a1, .ref a2, .int (nI tn), .ref a4, .int (nI ap), .ref a6, .int (nI rn), .ref a8, .ref a9, .int im, .ref b1, .ref b2, .ref b3, .ref b4, .ref b5, .ref b6]), (a0, cI d 36 K), (a2, cI d 5 S), (a9, cI d 7 (rf7 (bmp Rf 2))), (b5, cI d 36 H)]) (st' := [.int (-2)]) (As := [.int (-2)]) (st := []) X (ct_X6_no_2 l d m0 a0 a1 a2 a4 a6 a8 a9 b1 b2 b3 b4 b5 b6 Rf tn ap rn im) wd_855 wd_852 wd_854 wd_25 wd_58 hd_X6_no rfl ⟨(Nat.le_of_ble_eq_true rfl), (Nat.le_of_ble_eq_true rfl)⟩ rfl rfl dX6_known_10 ⟨(Nat.le_of_ble_eq_true rfl), (Nat.le_of_ble_eq_true rfl)⟩ rfl rfl (Nat.le_of_ble_eq_true rfl) [0, 3] [1, 2, 4] rfl rfl rfl rfl rfl (by decide) rfl [3, 0, 1, 4, 2] rfl rfl rfl rfl ?_
    have e_ : sp_known (sg K (dsI K S (S 0))) x y = ((-2), 2) := by unfold sp_known; grind [b2i_t, b2i_f]
    exact g_end X (gE_i dX6_known_13 (rfl) (Nat.le_of_ble_eq_true rfl) (Nat.le_of_ble_eq_true rfl) ⟨H, congrArg (fun z => some (Value.int z)) (by rw [e_]), ws_cons (rfl) (ws_cons (rfl) (ws_cons (rfl) (ws_cons (cI_eq (by first | (rw [e_]; done) | (rw [e_]; rfl) | (rw [e_]; simp only [ix, ↓reduceIte]; done) | simp [e_, *])) (ws_cons (rfl) (rfl)))))⟩)
set_option maxHeartbeats 4000000 in
set_option maxRecDepth 20000 in
theorem ct_X6_rivals (l : Launch) (d : KD) (m0 a0 a1 a2 a4 a6 a8 a9 b1 b2 b3 b4 b5 b6 : Nat) (K S Rf F : Nat → Int32) (tn ap rn : Nat) (im : Int32) (x y z : Int32) : Ct l d yX6_rivals cX6_rivals 6 (some .int) { frames := 2, cells := 0, slots := 0, locals := 49 } [.ref m0, .int x, .int y, .int z] [(m0, cO 6 [.ref a0, .ref a1, .ref a2, .int (nI tn), .ref a4, .int (nI ap), .ref a6, .int (nI rn), .ref a8, .ref a9, .int im, .ref b1, .ref b2, .ref b3, .ref b4, .ref b5, .ref b6]), (a0, cI d 36 K), (a2, cI d 5 S), (a9, cI d 7 (rf7 Rf)), (b4, cI d 36 F)] 0 0 (fun r wo => ∃ (F' : Nat → Int32), r = some (.int ((sp_rivals K S x y z).1)) ∧ wo = [(m0, cO 6 [.ref a0, .ref a1, .ref a2, .int (nI tn), .ref a4, .int (nI ap), .ref a6, .int (nI rn), .ref a8, .ref a9, .int im, .ref b1, .ref b2, .ref b3, .ref b4, .ref b5, .ref b6]), (a0, cI d 36 K), (a2, cI d 5 S), (a9, cI d 7 (rf7 (bmp Rf (sp_rivals K S x y z).2))), (b4, cI d 36 F')]) := by
  refine ct_of (own := RX6) (ini := false) (by decide +kernel) rfl (fun h => by cases h) (Nat.le_of_ble_eq_true rfl) ?_
  intro g X
  show g 0 0 [(m0, cO 6 [.ref a0, .ref a1, .ref a2, .int (nI tn), .ref a4, .int (nI ap), .ref a6, .int (nI rn), .ref a8, .ref a9, .int im, .ref b1, .ref b2, .ref b3, .ref b4, .ref b5, .ref b6]), (a0, cI d 36 K), (a2, cI d 5 S), (a9, cI d 7 (rf7 Rf)), (b4, cI d 36 F)] [(0, .ref m0), (1, .int x), (2, .int y), (3, .int z)] 0 []
  refine g_iload_n X dX6_rivals_0 rfl 1 rfl ?_
  refine g_dS (n := 1) (wr := [(m0, cO 6 [.ref a0, .ref a1, .ref a2, .int (nI tn), .ref a4, .int (nI ap), .ref a6, .int (nI rn), .ref a8, .ref a9, .int im, .ref b1, .ref b2, .ref b3, .ref b4, .ref b5, .ref b6]), (a0, cI d 36 K), (a2, cI d 5 S), (a9, cI d 7 (rf7 Rf)), (b4, cI d 36 F)]) (ws' := [(m0, cO 6 [.ref a0, .ref a1, .ref a2, .int (nI tn), .ref a4, .int (nI ap), .ref a6, .int (nI rn), .ref a8, .ref a9, .int im, .ref b1, .ref b2, .ref b3, .ref b4, .ref b5, .ref b6]), (a0, cI d 36 K), (a2, cI d 5 S), (a9, cI d 7 (rf7 Rf)), (b4, cI d 36 F)]) (st' := [.int (b2i (sq x))]) (As := [.int x]) (st := []) X (ct_X6_isSquare l d x) wd_884 wd_882 wd_883 wd_58 hd_X6_isSquare ⟨(Nat.le_of_ble_eq_true rfl), (Nat.le_of_ble_eq_true rfl)⟩ rfl rfl dX6_rivals_1 ⟨(Nat.le_of_ble_eq_true rfl), (Nat.le_of_ble_eq_true rfl)⟩ rfl rfl (Nat.le_of_ble_eq_true rfl) [] [0, 1, 2, 3, 4] rfl rfl rfl rfl rfl (by decide) [0, 1, 2, 3, 4] rfl rfl rfl rfl ?_
  refine g_ifB_eq X 21 dX6_rivals_4 (by decide) (fun c4_1 => ?_) (fun c4_1 => ?_)
  · refine g_aload_n X dX6_rivals_21 rfl 0 rfl ?_
    refine g_iconst (v := (-1)) X dX6_rivals_22 (by decide) ?_
    refine g_dV (ci := 6) (q0 := 0) (n := 1) (wr := [(a0, cI d 36 K), (a2, cI d 5 S), (b4, cI d 36 F)]) (ws' := [(m0, cO 6 [.ref a0, .ref a1, .ref a2, .int (nI tn), .ref a4, .int (nI ap), .ref a6, .int (nI rn), .ref a8, .ref a9, .int im, .ref b1, .ref b2, .ref b3, .ref b4, .ref b5, .ref b6]), (a0, cI d 36 K), (a2, cI d 5 S), (a9, cI d 7 (rf7 (bmp Rf 1))), (b4, cI d 36 F)]) (st' := [.int (-1)]) (As := [.int (-1)]) (st := []) X (ct_X6_no_1 l d m0 a0 a1 a2 a4 a6 a8 a9 b1 b2 b3 b4 b5 b6 Rf tn ap rn im) wd_855 wd_852 wd_854 wd_25 wd_58 hd_X6_no rfl ⟨(Nat.le_of_ble_eq_true rfl), (Nat.le_of_ble_eq_true rfl)⟩ rfl rfl dX6_rivals_23 ⟨(Nat.le_of_ble_eq_true rfl), (Nat.le_of_ble_eq_true rfl)⟩ rfl rfl (Nat.le_of_ble_eq_true rfl) [0, 3] [1, 2, 4] rfl rfl rfl rfl rfl (by decide) rfl [3, 0, 1, 4, 2] rfl rfl rfl rfl ?_
    have e_ : sp_rivals K S x y z = ((-1), 1) := by unfold sp_rivals; grind [b2i_t, b2i_f]
    exact g_end X (gE_i dX6_rivals_26 (rfl) (Nat.le_of_ble_eq_true rfl) (Nat.le_of_ble_eq_true rfl) ⟨F, congrArg (fun z => some (Value.int z)) (by rw [e_]), ws_cons (rfl) (ws_cons (rfl) (ws_cons (rfl) (ws_cons (cI_eq (by first | (rw [e_]; done) | (rw [e_]; rfl) | (rw [e_]; simp only [ix, ↓reduceIte]; done) | simp [e_, *])) (ws_cons (rfl) (rfl)))))⟩)
  · obtain ⟨j_x, hj_x, rfl⟩ := sq_nat c4_1
    have hcl_j_x : (nI j_x).toNatClampNeg = j_x := nI_clamp (by omega)
    refine g_iload_n X dX6_rivals_7 rfl 2 rfl ?_
    refine g_dS (n := 1) (wr := [(m0, cO 6 [.ref a0, .ref a1, .ref a2, .int (nI tn), .ref a4, .int (nI ap), .ref a6, .int (nI rn), .ref a8, .ref a9, .int im, .ref b1, .ref b2, .ref b3, .ref b4, .ref b5, .ref b6]), (a0, cI d 36 K), (a2, cI d 5 S), (a9, cI d 7 (rf7 Rf)), (b4, cI d 36 F)]) (ws' := [(m0, cO 6 [.ref a0, .ref a1, .ref a2, .int (nI tn), .ref a4, .int (nI ap), .ref a6, .int (nI rn), .ref a8, .ref a9, .int im, .ref b1, .ref b2, .ref b3, .ref b4, .ref b5, .ref b6]), (a0, cI d 36 K), (a2, cI d 5 S), (a9, cI d 7 (rf7 Rf)), (b4, cI d 36 F)]) (st' := [.int (b2i (sq y))]) (As := [.int y]) (st := []) X (ct_X6_isSquare l d y) wd_884 wd_882 wd_883 wd_58 hd_X6_isSquare ⟨(Nat.le_of_ble_eq_true rfl), (Nat.le_of_ble_eq_true rfl)⟩ rfl rfl dX6_rivals_8 ⟨(Nat.le_of_ble_eq_true rfl), (Nat.le_of_ble_eq_true rfl)⟩ rfl rfl (Nat.le_of_ble_eq_true rfl) [] [0, 1, 2, 3, 4] rfl rfl rfl rfl rfl (by decide) [0, 1, 2, 3, 4] rfl rfl rfl rfl ?_
    refine g_ifB_eq X 21 dX6_rivals_11 (by decide) (fun c11_3 => ?_) (fun c11_3 => ?_)
    · refine g_aload_n X dX6_rivals_21 rfl 0 rfl ?_
      refine g_iconst (v := (-1)) X dX6_rivals_22 (by decide) ?_
      refine g_dV (ci := 6) (q0 := 0) (n := 1) (wr := [(a0, cI d 36 K), (a2, cI d 5 S), (b4, cI d 36 F)]) (ws' := [(m0, cO 6 [.ref a0, .ref a1, .ref a2, .int (nI tn), .ref a4, .int (nI ap), .ref a6, .int (nI rn), .ref a8, .ref a9, .int im, .ref b1, .ref b2, .ref b3, .ref b4, .ref b5, .ref b6]), (a0, cI d 36 K), (a2, cI d 5 S), (a9, cI d 7 (rf7 (bmp Rf 1))), (b4, cI d 36 F)]) (st' := [.int (-1)]) (As := [.int (-1)]) (st := []) X (ct_X6_no_1 l d m0 a0 a1 a2 a4 a6 a8 a9 b1 b2 b3 b4 b5 b6 Rf tn ap rn im) wd_855 wd_852 wd_854 wd_25 wd_58 hd_X6_no rfl ⟨(Nat.le_of_ble_eq_true rfl), (Nat.le_of_ble_eq_true rfl)⟩ rfl rfl dX6_rivals_23 ⟨(Nat.le_of_ble_eq_true rfl), (Nat.le_of_ble_eq_true rfl)⟩ rfl rfl (Nat.le_of_ble_eq_true rfl) [0, 3] [1, 2, 4] rfl rfl rfl rfl rfl (by decide) rfl [3, 0, 1, 4, 2] rfl rfl rfl rfl ?_
      have e_ : sp_rivals K S (nI j_x) y z = ((-1), 1) := by unfold sp_rivals; grind [b2i_t, b2i_f]
      exact g_end X (gE_i dX6_rivals_26 (rfl) (Nat.le_of_ble_eq_true rfl) (Nat.le_of_ble_eq_true rfl) ⟨F, congrArg (fun z => some (Value.int z)) (by rw [e_]), ws_cons (rfl) (ws_cons (rfl) (ws_cons (rfl) (ws_cons (cI_eq (by first | (rw [e_]; done) | (rw [e_]; rfl) | (rw [e_]; simp only [ix, hcl_j_x, ↓reduceIte]; done) | simp [e_, *])) (ws_cons (rfl) (rfl)))))⟩)
    · obtain ⟨j_y, hj_y, rfl⟩ := sq_nat c11_3
      have hcl_j_y : (nI j_y).toNatClampNeg = j_y := nI_clamp (by omega)
      refine g_iload_n X dX6_rivals_14 rfl 3 rfl ?_
      refine g_dS (n := 1) (wr := [(m0, cO 6 [.ref a0, .ref a1, .ref a2, .int (nI tn), .ref a4, .int (nI ap), .ref a6, .int (nI rn), .ref a8, .ref a9, .int im, .ref b1, .ref b2, .ref b3, .ref b4, .ref b5, .ref b6]), (a0, cI d 36 K), (a2, cI d 5 S), (a9, cI d 7 (rf7 Rf)), (b4, cI d 36 F)]) (ws' := [(m0, cO 6 [.ref a0, .ref a1, .ref a2, .int (nI tn), .ref a4, .int (nI ap), .ref a6, .int (nI rn), .ref a8, .ref a9, .int im, .ref b1, .ref b2, .ref b3, .ref b4, .ref b5, .ref b6]), (a0, cI d 36 K), (a2, cI d 5 S), (a9, cI d 7 (rf7 Rf)), (b4, cI d 36 F)]) (st' := [.int (b2i (sq z))]) (As := [.int z]) (st := []) X (ct_X6_isSquare l d z) wd_884 wd_882 wd_883 wd_58 hd_X6_isSquare ⟨(Nat.le_of_ble_eq_true rfl), (Nat.le_of_ble_eq_true rfl)⟩ rfl rfl dX6_rivals_15 ⟨(Nat.le_of_ble_eq_true rfl), (Nat.le_of_ble_eq_true rfl)⟩ rfl rfl (Nat.le_of_ble_eq_true rfl) [] [0, 1, 2, 3, 4] rfl rfl rfl rfl rfl (by decide) [0, 1, 2, 3, 4] rfl rfl rfl rfl ?_
      refine g_ifB_ne X 27 dX6_rivals_18 (by decide) (fun c18_5 => ?_) (fun c18_5 => ?_)
      · obtain ⟨j_z, hj_z, rfl⟩ := sq_nat c18_5
        have hcl_j_z : (nI j_z).toNatClampNeg = j_z := nI_clamp (by omega)
        refine g_aload_n X dX6_rivals_27 rfl 0 rfl ?_
        refine g_iload_n X dX6_rivals_28 rfl 1 rfl ?_
        refine g_aload_n X dX6_rivals_29 rfl 0 rfl ?_
        refine g_get (C := RX6) (T := TX6) (N := 17) (ci := 6) (v := .ref b4) X rfl inT6 14 (by decide) wd_810 rfl dX6_rivals_30 0 rfl rfl ?_
        refine g_dV (ci := 6) (q0 := 0) (n := 2) (wr := [(a9, cI d 7 (rf7 Rf))]) (ws' := [(m0, cO 6 [.ref a0, .ref a1, .ref a2, .int (nI tn), .ref a4, .int (nI ap), .ref a6, .int (nI rn), .ref a8, .ref a9, .int im, .ref b1, .ref b2, .ref b3, .ref b4, .ref b5, .ref b6]), (a0, cI d 36 K), (a2, cI d 5 S), (a9, cI d 7 (rf7 Rf)), (b4, cI d 36 (dF (dsI K S (nI j_x))))]) (st' := []) (As := [.int (nI j_x), .ref b4]) (st := []) X (ct_X6_sails l d m0 a0 a1 a2 a4 a6 a8 a9 b1 b2 b3 b4 b5 b6 K S F b4 j_x tn ap rn im (by first | assumption | omega)) wd_904 wd_901 wd_903 wd_34 wd_58 hd_X6_sails rfl ⟨(Nat.le_of_ble_eq_true rfl), (Nat.le_of_ble_eq_true rfl)⟩ rfl rfl dX6_rivals_33 ⟨(Nat.le_of_ble_eq_true rfl), (Nat.le_of_ble_eq_true rfl)⟩ rfl rfl (Nat.le_of_ble_eq_true rfl) [0, 1, 2, 4] [3] rfl rfl rfl rfl rfl (by decide) rfl [1, 2, 3, 0, 4] rfl rfl rfl rfl ?_
        refine g_aload_n X dX6_rivals_36 rfl 0 rfl ?_
        refine g_get (C := RX6) (T := TX6) (N := 17) (ci := 6) (v := .ref b4) X rfl inT6 14 (by decide) wd_810 rfl dX6_rivals_37 0 rfl rfl ?_
        refine g_iload_n X dX6_rivals_40 rfl 3 rfl ?_
        refine g_iaload_N (k := j_z) X rfl dX6_rivals_41 4 rfl (by first | assumption | omega) (by omega) ?_
        refine g_istore (lv' := [(4, .int (dI ((dsI K S (nI j_x)) j_z))), (0, .ref m0), (1, .int (nI j_x)), (2, .int (nI j_y)), (3, .int (nI j_z))]) X dX6_rivals_42 (by decide) rfl ?_
        refine g_aload_n X dX6_rivals_44 rfl 1 rfl ?_
        refine g_iload_n X dX6_rivals_45 rfl 3 rfl ?_
        refine g_aload_n X dX6_rivals_46 rfl 1 rfl ?_
        refine g_get (C := RX6) (T := TX6) (N := 17) (ci := 6) (v := .ref b4) X rfl inT6 14 (by decide) wd_810 rfl dX6_rivals_47 0 rfl rfl ?_
        refine g_dV (ci := 6) (q0 := 0) (n := 2) (wr := [(a9, cI d 7 (rf7 Rf))]) (ws' := [(m0, cO 6 [.ref a0, .ref a1, .ref a2, .int (nI tn), .ref a4, .int (nI ap), .ref a6, .int (nI rn), .ref a8, .ref a9, .int im, .ref b1, .ref b2, .ref b3, .ref b4, .ref b5, .ref b6]), (a0, cI d 36 K), (a2, cI d 5 S), (a9, cI d 7 (rf7 Rf)), (b4, cI d 36 (dF (dsI K S (nI j_y))))]) (st' := []) (As := [.int (nI j_y), .ref b4]) (st := []) X (ct_X6_sails l d m0 a0 a1 a2 a4 a6 a8 a9 b1 b2 b3 b4 b5 b6 K S (dF (dsI K S (nI j_x))) b4 j_y tn ap rn im (by first | assumption | omega)) wd_904 wd_901 wd_903 wd_34 wd_58 hd_X6_sails rfl ⟨(Nat.le_of_ble_eq_true rfl), (Nat.le_of_ble_eq_true rfl)⟩ rfl rfl dX6_rivals_50 ⟨(Nat.le_of_ble_eq_true rfl), (Nat.le_of_ble_eq_true rfl)⟩ rfl rfl (Nat.le_of_ble_eq_true rfl) [0, 1, 2, 4] [3] rfl rfl rfl rfl rfl (by decide) rfl [1, 2, 3, 0, 4] rfl rfl rfl rfl ?_
        refine g_aload_n X dX6_rivals_53 rfl 1 rfl ?_
        refine g_get (C := RX6) (T := TX6) (N := 17) (ci := 6) (v := .ref b4) X rfl inT6 14 (by decide) wd_810 rfl dX6_rivals_54 0 rfl rfl ?_
        refine g_iload_n X dX6_rivals_57 rfl 4 rfl ?_
        refine g_iaload_N (k := j_z) X rfl dX6_rivals_58 4 rfl (by first | assumption | omega) (by omega) ?_
        refine g_istore (lv' := [(5, .int (dI ((dsI K S (nI j_y)) j_z))), (4, .int (dI ((dsI K S (nI j_x)) j_z))), (0, .ref m0), (1, .int (nI j_x)), (2, .int (nI j_y)), (3, .int (nI j_z))]) X dX6_rivals_59 (by decide) rfl ?_
        refine g_iload X dX6_rivals_61 1 rfl ?_
        refine g_iload X dX6_rivals_63 0 rfl ?_
        refine g_icmp_ne X 82 dX6_rivals_65 (by decide) (fun c65_6 => ?_) (fun c65_6 => ?_)
        · refine g_iload X dX6_rivals_82 0 rfl ?_
          refine g_bipush (v := (-9)) X dX6_rivals_84 (by decide) ?_
          refine g_icmp_eq X 103 dX6_rivals_86 (by decide) (fun c86_7 => ?_) (fun c86_7 => ?_)
          · refine g_iconst (v := 0) X dX6_rivals_103 (by decide) ?_
            refine g_goto X 108 dX6_rivals_104 (by decide) ?_
            have e_ : sp_rivals K S (nI j_x) (nI j_y) (nI j_z) = (0, 0) := by unfold sp_rivals; grind [b2i_t, b2i_f]
            exact g_end X (gE_i dX6_rivals_108 (rfl) (Nat.le_of_ble_eq_true rfl) (Nat.le_of_ble_eq_true rfl) ⟨(dF (dsI K S (nI j_y))), congrArg (fun z => some (Value.int z)) (by rw [e_]), ws_cons (rfl) (ws_cons (rfl) (ws_cons (rfl) (ws_cons (cI_eq (by first | (rw [e_]; done) | (rw [e_]; rfl) | (rw [e_]; simp only [ix, hcl_j_x, hcl_j_y, hcl_j_z, ↓reduceIte]; done) | simp [e_, *])) (ws_cons (rfl) (rfl)))))⟩)
          · refine g_iload X dX6_rivals_89 1 rfl ?_
            refine g_bipush (v := (-9)) X dX6_rivals_91 (by decide) ?_
            refine g_icmp_eq X 107 dX6_rivals_93 (by decide) (fun c93_9 => ?_) (fun c93_9 => ?_)
            · refine g_iconst (v := 1) X dX6_rivals_107 (by decide) ?_
              have e_ : sp_rivals K S (nI j_x) (nI j_y) (nI j_z) = (1, 0) := by unfold sp_rivals; grind [b2i_t, b2i_f]
              exact g_end X (gE_i dX6_rivals_108 (rfl) (Nat.le_of_ble_eq_true rfl) (Nat.le_of_ble_eq_true rfl) ⟨(dF (dsI K S (nI j_y))), congrArg (fun z => some (Value.int z)) (by rw [e_]), ws_cons (rfl) (ws_cons (rfl) (ws_cons (rfl) (ws_cons (cI_eq (by first | (rw [e_]; done) | (rw [e_]; rfl) | (rw [e_]; simp only [ix, hcl_j_x, hcl_j_y, hcl_j_z, ↓reduceIte]; done) | simp [e_, *])) (ws_cons (rfl) (rfl)))))⟩)
            · refine g_iload X dX6_rivals_96 1 rfl ?_
              refine g_iload X dX6_rivals_98 0 rfl ?_
              refine g_icmp_ge X 107 dX6_rivals_100 (by decide) (fun c100_11 => ?_) (fun c100_11 => ?_)
              · refine g_iconst (v := 1) X dX6_rivals_107 (by decide) ?_
                have e_ : sp_rivals K S (nI j_x) (nI j_y) (nI j_z) = (1, 0) := by unfold sp_rivals; grind [b2i_t, b2i_f]
                exact g_end X (gE_i dX6_rivals_108 (rfl) (Nat.le_of_ble_eq_true rfl) (Nat.le_of_ble_eq_true rfl) ⟨(dF (dsI K S (nI j_y))), congrArg (fun z => some (Value.int z)) (by rw [e_]), ws_cons (rfl) (ws_cons (rfl) (ws_cons (rfl) (ws_cons (cI_eq (by first | (rw [e_]; done) | (rw [e_]; rfl) | (rw [e_]; simp only [ix, hcl_j_x, hcl_j_y, hcl_j_z, ↓reduceIte]; done) | simp [e_, *])) (ws_cons (rfl) (rfl)))))⟩)
              · refine g_iconst (v := 0) X dX6_rivals_103 (by decide) ?_
                refine g_goto X 108 dX6_rivals_104 (by decide) ?_
                have e_ : sp_rivals K S (nI j_x) (nI j_y) (nI j_z) = (0, 0) := by unfold sp_rivals; grind [b2i_t, b2i_f]
                exact g_end X (gE_i dX6_rivals_108 (rfl) (Nat.le_of_ble_eq_true rfl) (Nat.le_of_ble_eq_true rfl) ⟨(dF (dsI K S (nI j_y))), congrArg (fun z => some (Value.int z)) (by rw [e_]), ws_cons (rfl) (ws_cons (rfl) (ws_cons (rfl) (ws_cons (cI_eq (by first | (rw [e_]; done) | (rw [e_]; rfl) | (rw [e_]; simp only [ix, hcl_j_x, hcl_j_y, hcl_j_z, ↓reduceIte]; done) | simp [e_, *])) (ws_cons (rfl) (rfl)))))⟩)
        · refine g_iload X dX6_rivals_68 1 rfl ?_
          refine g_bipush (v := (-9)) X dX6_rivals_70 (by decide) ?_
          refine g_icmp_ne X 80 dX6_rivals_72 (by decide) (fun c72_14 => ?_) (fun c72_14 => ?_)
          · refine g_iconst (v := 2) X dX6_rivals_80 (by decide) ?_
            have e_ : sp_rivals K S (nI j_x) (nI j_y) (nI j_z) = (2, 0) := by unfold sp_rivals; grind [b2i_t, b2i_f]
            exact g_end X (gE_i dX6_rivals_81 (rfl) (Nat.le_of_ble_eq_true rfl) (Nat.le_of_ble_eq_true rfl) ⟨(dF (dsI K S (nI j_y))), congrArg (fun z => some (Value.int z)) (by rw [e_]), ws_cons (rfl) (ws_cons (rfl) (ws_cons (rfl) (ws_cons (cI_eq (by first | (rw [e_]; done) | (rw [e_]; rfl) | (rw [e_]; simp only [ix, hcl_j_x, hcl_j_y, hcl_j_z, ↓reduceIte]; done) | simp [e_, *])) (ws_cons (rfl) (rfl)))))⟩)
          · refine g_bipush (v := (-9)) X dX6_rivals_75 (by decide) ?_
            refine g_goto X 81 dX6_rivals_77 (by decide) ?_
            have e_ : sp_rivals K S (nI j_x) (nI j_y) (nI j_z) = ((-9), 0) := by unfold sp_rivals; grind [b2i_t, b2i_f]
            exact g_end X (gE_i dX6_rivals_81 (rfl) (Nat.le_of_ble_eq_true rfl) (Nat.le_of_ble_eq_true rfl) ⟨(dF (dsI K S (nI j_y))), congrArg (fun z => some (Value.int z)) (by rw [e_]), ws_cons (rfl) (ws_cons (rfl) (ws_cons (rfl) (ws_cons (cI_eq (by first | (rw [e_]; done) | (rw [e_]; rfl) | (rw [e_]; simp only [ix, hcl_j_x, hcl_j_y, hcl_j_z, ↓reduceIte]; done) | simp [e_, *])) (ws_cons (rfl) (rfl)))))⟩)
      · refine g_aload_n X dX6_rivals_21 rfl 0 rfl ?_
        refine g_iconst (v := (-1)) X dX6_rivals_22 (by decide) ?_
        refine g_dV (ci := 6) (q0 := 0) (n := 1) (wr := [(a0, cI d 36 K), (a2, cI d 5 S), (b4, cI d 36 F)]) (ws' := [(m0, cO 6 [.ref a0, .ref a1, .ref a2, .int (nI tn), .ref a4, .int (nI ap), .ref a6, .int (nI rn), .ref a8, .ref a9, .int im, .ref b1, .ref b2, .ref b3, .ref b4, .ref b5, .ref b6]), (a0, cI d 36 K), (a2, cI d 5 S), (a9, cI d 7 (rf7 (bmp Rf 1))), (b4, cI d 36 F)]) (st' := [.int (-1)]) (As := [.int (-1)]) (st := []) X (ct_X6_no_1 l d m0 a0 a1 a2 a4 a6 a8 a9 b1 b2 b3 b4 b5 b6 Rf tn ap rn im) wd_855 wd_852 wd_854 wd_25 wd_58 hd_X6_no rfl ⟨(Nat.le_of_ble_eq_true rfl), (Nat.le_of_ble_eq_true rfl)⟩ rfl rfl dX6_rivals_23 ⟨(Nat.le_of_ble_eq_true rfl), (Nat.le_of_ble_eq_true rfl)⟩ rfl rfl (Nat.le_of_ble_eq_true rfl) [0, 3] [1, 2, 4] rfl rfl rfl rfl rfl (by decide) rfl [3, 0, 1, 4, 2] rfl rfl rfl rfl ?_
        have e_ : sp_rivals K S (nI j_x) (nI j_y) z = ((-1), 1) := by unfold sp_rivals; grind [b2i_t, b2i_f]
        exact g_end X (gE_i dX6_rivals_26 (rfl) (Nat.le_of_ble_eq_true rfl) (Nat.le_of_ble_eq_true rfl) ⟨F, congrArg (fun z => some (Value.int z)) (by rw [e_]), ws_cons (rfl) (ws_cons (rfl) (ws_cons (rfl) (ws_cons (cI_eq (by first | (rw [e_]; done) | (rw [e_]; rfl) | (rw [e_]; simp only [ix, hcl_j_x, hcl_j_y, ↓reduceIte]; done) | simp [e_, *])) (ws_cons (rfl) (rfl)))))⟩)
set_option maxHeartbeats 4000000 in
set_option maxRecDepth 20000 in
theorem ct_X6_wreck (l : Launch) (d : KD) (m0 a0 a1 a2 a4 a6 a8 a9 b1 b2 b3 b4 b5 b6 : Nat) (K S Rf H : Nat → Int32) (tn ap rn : Nat) (im : Int32) (x : Int32) (hh : sq (S 0)) : Ct l d yX6_wreck cX6_wreck 3 (some .int) { frames := 4, cells := 0, slots := 0, locals := 91 } [.ref m0, .int x] [(m0, cO 6 [.ref a0, .ref a1, .ref a2, .int (nI tn), .ref a4, .int (nI ap), .ref a6, .int (nI rn), .ref a8, .ref a9, .int im, .ref b1, .ref b2, .ref b3, .ref b4, .ref b5, .ref b6]), (a0, cI d 36 K), (a2, cI d 5 S), (a9, cI d 7 (rf7 Rf)), (b5, cI d 36 H)] 0 0 (fun r wo => ∃ (H' : Nat → Int32), r = some (.int ((sp_wreck K S x).1)) ∧ wo = [(m0, cO 6 [.ref a0, .ref a1, .ref a2, .int (nI tn), .ref a4, .int (nI ap), .ref a6, .int (nI rn), .ref a8, .ref a9, .int im, .ref b1, .ref b2, .ref b3, .ref b4, .ref b5, .ref b6]), (a0, cI d 36 K), (a2, cI d 5 S), (a9, cI d 7 (rf7 (bmp Rf (sp_wreck K S x).2))), (b5, cI d 36 H')]) := by
  refine ct_of (own := RX6) (ini := false) (by decide +kernel) rfl (fun h => by cases h) (Nat.le_of_ble_eq_true rfl) ?_
  intro g X
  show g 0 0 [(m0, cO 6 [.ref a0, .ref a1, .ref a2, .int (nI tn), .ref a4, .int (nI ap), .ref a6, .int (nI rn), .ref a8, .ref a9, .int im, .ref b1, .ref b2, .ref b3, .ref b4, .ref b5, .ref b6]), (a0, cI d 36 K), (a2, cI d 5 S), (a9, cI d 7 (rf7 Rf)), (b5, cI d 36 H)] [(0, .ref m0), (1, .int x)] 0 []
  refine g_iload_n X dX6_wreck_0 rfl 1 rfl ?_
  refine g_iconst (v := 0) X dX6_wreck_1 (by decide) ?_
  refine g_iconst (v := 1) X dX6_wreck_2 (by decide) ?_
  refine g_dS (n := 3) (wr := [(m0, cO 6 [.ref a0, .ref a1, .ref a2, .int (nI tn), .ref a4, .int (nI ap), .ref a6, .int (nI rn), .ref a8, .ref a9, .int im, .ref b1, .ref b2, .ref b3, .ref b4, .ref b5, .ref b6]), (a0, cI d 36 K), (a2, cI d 5 S), (a9, cI d 7 (rf7 Rf)), (b5, cI d 36 H)]) (ws' := [(m0, cO 6 [.ref a0, .ref a1, .ref a2, .int (nI tn), .ref a4, .int (nI ap), .ref a6, .int (nI rn), .ref a8, .ref a9, .int im, .ref b1, .ref b2, .ref b3, .ref b4, .ref b5, .ref b6]), (a0, cI d 36 K), (a2, cI d 5 S), (a9, cI d 7 (rf7 Rf)), (b5, cI d 36 H)]) (st' := [.int (b2i (x = 0 ∨ x = 1))]) (As := [.int x, .int 0, .int 1]) (st := []) X (ct_X6_within_2 l d x) wd_887 wd_885 wd_886 wd_58 hd_X6_within ⟨(Nat.le_of_ble_eq_true rfl), (Nat.le_of_ble_eq_true rfl)⟩ rfl rfl dX6_wreck_3 ⟨(Nat.le_of_ble_eq_true rfl), (Nat.le_of_ble_eq_true rfl)⟩ rfl rfl (Nat.le_of_ble_eq_true rfl) [] [0, 1, 2, 3, 4] rfl rfl rfl rfl rfl (by decide) [0, 1, 2, 3, 4] rfl rfl rfl rfl ?_
  refine g_ifB_ne X 16 dX6_wreck_6 (by decide) (fun c6_1 => ?_) (fun c6_1 => ?_)
  · refine g_aload_n X dX6_wreck_16 rfl 0 rfl ?_
    refine g_dV (ci := 6) (q0 := 0) (n := 0) (wr := [(a9, cI d 7 (rf7 Rf))]) (ws' := [(m0, cO 6 [.ref a0, .ref a1, .ref a2, .int (nI tn), .ref a4, .int (nI ap), .ref a6, .int (nI rn), .ref a8, .ref a9, .int im, .ref b1, .ref b2, .ref b3, .ref b4, .ref b5, .ref b6]), (a0, cI d 36 K), (a2, cI d 5 S), (a9, cI d 7 (rf7 Rf)), (b5, cI d 36 (dF (dsI K S (S 0))))]) (st' := [.int (besM (wrs K S))]) (As := []) (st := []) X (ct_X6_wreckAt l d m0 a0 a1 a2 a4 a6 a8 a9 b1 b2 b3 b4 b5 b6 K S H tn ap rn im (by first | assumption | omega)) wd_983 wd_980 wd_982 wd_43 wd_58 hd_X6_wreckAt rfl ⟨(Nat.le_of_ble_eq_true rfl), (Nat.le_of_ble_eq_true rfl)⟩ rfl rfl dX6_wreck_17 ⟨(Nat.le_of_ble_eq_true rfl), (Nat.le_of_ble_eq_true rfl)⟩ rfl rfl (Nat.le_of_ble_eq_true rfl) [0, 1, 2, 4] [3] rfl rfl rfl rfl rfl (by decide) rfl [1, 2, 3, 0, 4] rfl rfl rfl rfl ?_
    refine g_istore_n (lv' := [(2, .int (besM (wrs K S))), (0, .ref m0), (1, .int x)]) X dX6_wreck_20 rfl (by decide) rfl ?_
    refine g_iload_n X dX6_wreck_21 rfl 0 rfl ?_
    refine g_bipush (v := (-9)) X dX6_wreck_22 (by decide) ?_
    refine g_icmp_eq X 32 dX6_wreck_24 (by decide) (fun c24_2 => ?_) (fun c24_2 => ?_)
    · have hw9 : ¬ wrs K S < 36 := besM_m9.mp c24_2
      have hwb : besM (wrs K S) = -9 := besM_f hw9
      refine g_iload_n X dX6_wreck_32 rfl 0 rfl ?_
      refine g_goto X 42 dX6_wreck_33 (by decide) ?_
      have e_ : sp_wreck K S x = (besM (wrs K S), 0) := by unfold sp_wreck wrD; first | grind [besM_t]
      exact g_end X (gE_i dX6_wreck_42 (rfl) (Nat.le_of_ble_eq_true rfl) (Nat.le_of_ble_eq_true rfl) ⟨(dF (dsI K S (S 0))), congrArg (fun z => some (Value.int z)) (by rw [e_]), ws_cons (rfl) (ws_cons (rfl) (ws_cons (rfl) (ws_cons (cI_eq (by first | (rw [e_]; done) | (rw [e_]; rfl) | (rw [e_]; simp only [ix, ↓reduceIte]; done) | simp [e_, *])) (ws_cons (rfl) (rfl)))))⟩)
    · have hw6 : wrs K S < 36 := Decidable.not_not.mp (fun z => c24_2 (besM_m9.mpr z))
      refine g_eq (lv' := [(2, .int (nI (wrs K S))), (0, .ref m0), (1, .int x)]) rfl (lv_cons (vI (besM_t hw6)) (lv_cons (rfl) (lv_cons (rfl) (rfl)))) ?_
      refine g_iload_n X dX6_wreck_27 rfl 2 rfl ?_
      refine g_iconst (v := 1) X dX6_wreck_28 (by decide) ?_
      refine g_icmp_ne X 36 dX6_wreck_29 (by decide) (fun c29_4 => ?_) (fun c29_4 => ?_)
      · refine g_aload_n X dX6_wreck_36 rfl 1 rfl ?_
        refine g_get (C := RX6) (T := TX6) (N := 17) (ci := 6) (v := .ref b5) X rfl inT6 15 (by decide) wd_811 rfl dX6_wreck_37 0 rfl rfl ?_
        refine g_iload_n X dX6_wreck_40 rfl 0 rfl ?_
        refine g_iaload_N (k := (wrs K S)) X rfl dX6_wreck_41 4 rfl (by first | assumption | omega) (by omega) ?_
        have e_ : sp_wreck K S x = (dI ((dsI K S (S 0)) (wrs K S)), 0) := by unfold sp_wreck wrD; first | grind [besM_t]
        exact g_end X (gE_i dX6_wreck_42 (rfl) (Nat.le_of_ble_eq_true rfl) (Nat.le_of_ble_eq_true rfl) ⟨(dF (dsI K S (S 0))), congrArg (fun z => some (Value.int z)) (by rw [e_]), ws_cons (rfl) (ws_cons (rfl) (ws_cons (rfl) (ws_cons (cI_eq (by first | (rw [e_]; done) | (rw [e_]; rfl) | (rw [e_]; simp only [ix, ↓reduceIte]; done) | simp [e_, *])) (ws_cons (rfl) (rfl)))))⟩)
      · refine g_iload_n X dX6_wreck_32 rfl 0 rfl ?_
        refine g_goto X 42 dX6_wreck_33 (by decide) ?_
        have e_ : sp_wreck K S x = (nI (wrs K S), 0) := by unfold sp_wreck wrD; first | grind [besM_t]
        exact g_end X (gE_i dX6_wreck_42 (rfl) (Nat.le_of_ble_eq_true rfl) (Nat.le_of_ble_eq_true rfl) ⟨(dF (dsI K S (S 0))), congrArg (fun z => some (Value.int z)) (by rw [e_]), ws_cons (rfl) (ws_cons (rfl) (ws_cons (rfl) (ws_cons (cI_eq (by first | (rw [e_]; done) | (rw [e_]; rfl) | (rw [e_]; simp only [ix, ↓reduceIte]; done) | simp [e_, *])) (ws_cons (rfl) (rfl)))))⟩)
  · refine g_aload_n X dX6_wreck_9 rfl 0 rfl ?_
    refine g_bipush (v := (-2)) X dX6_wreck_10 (by decide) ?_
    refine g_dV (ci := 6) (q0 := 0) (n := 1) (wr := [(a0, cI d 36 K), (a2, cI d 5 S), (b5, cI d 36 H)]) (ws' := [(m0, cO 6 [.ref a0, .ref a1, .ref a2, .int (nI tn), .ref a4, .int (nI ap), .ref a6, .int (nI rn), .ref a8, .ref a9, .int im, .ref b1, .ref b2, .ref b3, .ref b4, .ref b5, .ref b6]), (a0, cI d 36 K), (a2, cI d 5 S), (a9, cI d 7 (rf7 (bmp Rf 2))), (b5, cI d 36 H)]) (st' := [.int (-2)]) (As := [.int (-2)]) (st := []) X (ct_X6_no_2 l d m0 a0 a1 a2 a4 a6 a8 a9 b1 b2 b3 b4 b5 b6 Rf tn ap rn im) wd_855 wd_852 wd_854 wd_25 wd_58 hd_X6_no rfl ⟨(Nat.le_of_ble_eq_true rfl), (Nat.le_of_ble_eq_true rfl)⟩ rfl rfl dX6_wreck_12 ⟨(Nat.le_of_ble_eq_true rfl), (Nat.le_of_ble_eq_true rfl)⟩ rfl rfl (Nat.le_of_ble_eq_true rfl) [0, 3] [1, 2, 4] rfl rfl rfl rfl rfl (by decide) rfl [3, 0, 1, 4, 2] rfl rfl rfl rfl ?_
    have e_ : sp_wreck K S x = ((-2), 2) := by unfold sp_wreck wrD; first | grind [besM_t]
    exact g_end X (gE_i dX6_wreck_15 (rfl) (Nat.le_of_ble_eq_true rfl) (Nat.le_of_ble_eq_true rfl) ⟨H, congrArg (fun z => some (Value.int z)) (by rw [e_]), ws_cons (rfl) (ws_cons (rfl) (ws_cons (rfl) (ws_cons (cI_eq (by first | (rw [e_]; done) | (rw [e_]; rfl) | (rw [e_]; simp only [ix, ↓reduceIte]; done) | simp [e_, *])) (ws_cons (rfl) (rfl)))))⟩)
