theorem hd_X6_within : yX6_within.cls ≠ "java/lang/invoke/MethodHandle" ∧ yX6_within.cls ≠ "java/lang/invoke/VarHandle" ∧ (parseMethodDescriptor yX6_within.desc).map (fun d => d.parameters.length) = some 3 := by decide +kernel
set_option maxHeartbeats 4000000 in
set_option maxRecDepth 20000 in
theorem ct_X6_no_1 (l : Launch) (d : KD) (m0 a0 a1 a2 a4 a6 a8 a9 b1 b2 b3 b4 b5 b6 : Nat) (Rf : Nat → Int32) (tn ap rn : Nat) (im : Int32) : Ct l d yX6_no cX6_no 2 (some .int) { frames := 0, cells := 0, slots := 0, locals := 0 } [.ref m0, .int (-1)] [(m0, cO 6 [.ref a0, .ref a1, .ref a2, .int (nI tn), .ref a4, .int (nI ap), .ref a6, .int (nI rn), .ref a8, .ref a9, .int im, .ref b1, .ref b2, .ref b3, .ref b4, .ref b5, .ref b6]), (a9, cI d 7 (rf7 Rf))] 0 0 (fun r wo => r = some (.int (-1)) ∧ wo = [(m0, cO 6 [.ref a0, .ref a1, .ref a2, .int (nI tn), .ref a4, .int (nI ap), .ref a6, .int (nI rn), .ref a8, .ref a9, .int im, .ref b1, .ref b2, .ref b3, .ref b4, .ref b5, .ref b6]), (a9, cI d 7 (rf7 (bmp Rf 1)))]) := by
  refine ct_of (own := RX6) (ini := false) (by decide +kernel) rfl (fun h => by cases h) (Nat.le_of_ble_eq_true rfl) ?_
  intro g X
  show g 0 0 [(m0, cO 6 [.ref a0, .ref a1, .ref a2, .int (nI tn), .ref a4, .int (nI ap), .ref a6, .int (nI rn), .ref a8, .ref a9, .int im, .ref b1, .ref b2, .ref b3, .ref b4, .ref b5, .ref b6]), (a9, cI d 7 (rf7 Rf))] [(0, .ref m0), (1, .int (-1))] 0 []
  refine g_aload_n X dX6_no_0 rfl 0 rfl ?_
  refine g_get (C := RX6) (T := TX6) (N := 17) (ci := 6) (v := .ref a9) X rfl inT6 9 (by decide) wd_805 rfl dX6_no_1 0 rfl rfl ?_
  refine g_iload_n X dX6_no_4 rfl 1 rfl ?_
  refine g_ineg X dX6_no_5 ?_
  refine g_tope (y := 1) (by decide) ?_
  refine g_dup2 X dX6_no_6 rfl rfl ?_
  refine g_iaload_N (k := 1) X rfl dX6_no_7 1 rfl (by first | assumption | omega) (by omega) ?_
  refine g_iconst (v := 1) X dX6_no_8 (by decide) ?_
  refine g_iadd X dX6_no_9 ?_
  refine g_iastore_N (k := 1) (ws' := [(m0, cO 6 [.ref a0, .ref a1, .ref a2, .int (nI tn), .ref a4, .int (nI ap), .ref a6, .int (nI rn), .ref a8, .ref a9, .int im, .ref b1, .ref b2, .ref b3, .ref b4, .ref b5, .ref b6]), (a9, cI d 7 (upd (rf7 Rf) 1 (((rf7 Rf) 1) + 1)))]) X rfl dX6_no_10 1 rfl (by first | assumption | omega) (by omega) rfl ?_
  refine g_eq (ws' := [(m0, cO 6 [.ref a0, .ref a1, .ref a2, .int (nI tn), .ref a4, .int (nI ap), .ref a6, .int (nI rn), .ref a8, .ref a9, .int im, .ref b1, .ref b2, .ref b3, .ref b4, .ref b5, .ref b6]), (a9, cI d 7 (rf7 (bmp Rf 1)))]) (ws_cons (rfl) (ws_cons (cI_eq (rf7_b (by decide))) (rfl))) rfl ?_
  refine g_iload_n X dX6_no_11 rfl 1 rfl ?_
  exact g_end X (gE_i dX6_no_12 (rfl) (Nat.le_of_ble_eq_true rfl) (Nat.le_of_ble_eq_true rfl) ⟨rfl, rfl⟩)
set_option maxHeartbeats 4000000 in
set_option maxRecDepth 20000 in
theorem ct_X6_no_2 (l : Launch) (d : KD) (m0 a0 a1 a2 a4 a6 a8 a9 b1 b2 b3 b4 b5 b6 : Nat) (Rf : Nat → Int32) (tn ap rn : Nat) (im : Int32) : Ct l d yX6_no cX6_no 2 (some .int) { frames := 0, cells := 0, slots := 0, locals := 0 } [.ref m0, .int (-2)] [(m0, cO 6 [.ref a0, .ref a1, .ref a2, .int (nI tn), .ref a4, .int (nI ap), .ref a6, .int (nI rn), .ref a8, .ref a9, .int im, .ref b1, .ref b2, .ref b3, .ref b4, .ref b5, .ref b6]), (a9, cI d 7 (rf7 Rf))] 0 0 (fun r wo => r = some (.int (-2)) ∧ wo = [(m0, cO 6 [.ref a0, .ref a1, .ref a2, .int (nI tn), .ref a4, .int (nI ap), .ref a6, .int (nI rn), .ref a8, .ref a9, .int im, .ref b1, .ref b2, .ref b3, .ref b4, .ref b5, .ref b6]), (a9, cI d 7 (rf7 (bmp Rf 2)))]) := by
  refine ct_of (own := RX6) (ini := false) (by decide +kernel) rfl (fun h => by cases h) (Nat.le_of_ble_eq_true rfl) ?_
  intro g X
  show g 0 0 [(m0, cO 6 [.ref a0, .ref a1, .ref a2, .int (nI tn), .ref a4, .int (nI ap), .ref a6, .int (nI rn), .ref a8, .ref a9, .int im, .ref b1, .ref b2, .ref b3, .ref b4, .ref b5, .ref b6]), (a9, cI d 7 (rf7 Rf))] [(0, .ref m0), (1, .int (-2))] 0 []
  refine g_aload_n X dX6_no_0 rfl 0 rfl ?_
  refine g_get (C := RX6) (T := TX6) (N := 17) (ci := 6) (v := .ref a9) X rfl inT6 9 (by decide) wd_805 rfl dX6_no_1 0 rfl rfl ?_
  refine g_iload_n X dX6_no_4 rfl 1 rfl ?_
  refine g_ineg X dX6_no_5 ?_
  refine g_tope (y := 2) (by decide) ?_
  refine g_dup2 X dX6_no_6 rfl rfl ?_
  refine g_iaload_N (k := 2) X rfl dX6_no_7 1 rfl (by first | assumption | omega) (by omega) ?_
  refine g_iconst (v := 1) X dX6_no_8 (by decide) ?_
  refine g_iadd X dX6_no_9 ?_
  refine g_iastore_N (k := 2) (ws' := [(m0, cO 6 [.ref a0, .ref a1, .ref a2, .int (nI tn), .ref a4, .int (nI ap), .ref a6, .int (nI rn), .ref a8, .ref a9, .int im, .ref b1, .ref b2, .ref b3, .ref b4, .ref b5, .ref b6]), (a9, cI d 7 (upd (rf7 Rf) 2 (((rf7 Rf) 2) + 1)))]) X rfl dX6_no_10 1 rfl (by first | assumption | omega) (by omega) rfl ?_
  refine g_eq (ws' := [(m0, cO 6 [.ref a0, .ref a1, .ref a2, .int (nI tn), .ref a4, .int (nI ap), .ref a6, .int (nI rn), .ref a8, .ref a9, .int im, .ref b1, .ref b2, .ref b3, .ref b4, .ref b5, .ref b6]), (a9, cI d 7 (rf7 (bmp Rf 2)))]) (ws_cons (rfl) (ws_cons (cI_eq (rf7_b (by decide))) (rfl))) rfl ?_
  refine g_iload_n X dX6_no_11 rfl 1 rfl ?_
  exact g_end X (gE_i dX6_no_12 (rfl) (Nat.le_of_ble_eq_true rfl) (Nat.le_of_ble_eq_true rfl) ⟨rfl, rfl⟩)
set_option maxHeartbeats 4000000 in
set_option maxRecDepth 20000 in
theorem ct_X6_no_3 (l : Launch) (d : KD) (m0 a0 a1 a2 a4 a6 a8 a9 b1 b2 b3 b4 b5 b6 : Nat) (Rf : Nat → Int32) (tn ap rn : Nat) (im : Int32) : Ct l d yX6_no cX6_no 2 (some .int) { frames := 0, cells := 0, slots := 0, locals := 0 } [.ref m0, .int (-3)] [(m0, cO 6 [.ref a0, .ref a1, .ref a2, .int (nI tn), .ref a4, .int (nI ap), .ref a6, .int (nI rn), .ref a8, .ref a9, .int im, .ref b1, .ref b2, .ref b3, .ref b4, .ref b5, .ref b6]), (a9, cI d 7 (rf7 Rf))] 0 0 (fun r wo => r = some (.int (-3)) ∧ wo = [(m0, cO 6 [.ref a0, .ref a1, .ref a2, .int (nI tn), .ref a4, .int (nI ap), .ref a6, .int (nI rn), .ref a8, .ref a9, .int im, .ref b1, .ref b2, .ref b3, .ref b4, .ref b5, .ref b6]), (a9, cI d 7 (rf7 (bmp Rf 3)))]) := by
  refine ct_of (own := RX6) (ini := false) (by decide +kernel) rfl (fun h => by cases h) (Nat.le_of_ble_eq_true rfl) ?_
  intro g X
  show g 0 0 [(m0, cO 6 [.ref a0, .ref a1, .ref a2, .int (nI tn), .ref a4, .int (nI ap), .ref a6, .int (nI rn), .ref a8, .ref a9, .int im, .ref b1, .ref b2, .ref b3, .ref b4, .ref b5, .ref b6]), (a9, cI d 7 (rf7 Rf))] [(0, .ref m0), (1, .int (-3))] 0 []
  refine g_aload_n X dX6_no_0 rfl 0 rfl ?_
  refine g_get (C := RX6) (T := TX6) (N := 17) (ci := 6) (v := .ref a9) X rfl inT6 9 (by decide) wd_805 rfl dX6_no_1 0 rfl rfl ?_
  refine g_iload_n X dX6_no_4 rfl 1 rfl ?_
  refine g_ineg X dX6_no_5 ?_
  refine g_tope (y := 3) (by decide) ?_
  refine g_dup2 X dX6_no_6 rfl rfl ?_
  refine g_iaload_N (k := 3) X rfl dX6_no_7 1 rfl (by first | assumption | omega) (by omega) ?_
  refine g_iconst (v := 1) X dX6_no_8 (by decide) ?_
  refine g_iadd X dX6_no_9 ?_
  refine g_iastore_N (k := 3) (ws' := [(m0, cO 6 [.ref a0, .ref a1, .ref a2, .int (nI tn), .ref a4, .int (nI ap), .ref a6, .int (nI rn), .ref a8, .ref a9, .int im, .ref b1, .ref b2, .ref b3, .ref b4, .ref b5, .ref b6]), (a9, cI d 7 (upd (rf7 Rf) 3 (((rf7 Rf) 3) + 1)))]) X rfl dX6_no_10 1 rfl (by first | assumption | omega) (by omega) rfl ?_
  refine g_eq (ws' := [(m0, cO 6 [.ref a0, .ref a1, .ref a2, .int (nI tn), .ref a4, .int (nI ap), .ref a6, .int (nI rn), .ref a8, .ref a9, .int im, .ref b1, .ref b2, .ref b3, .ref b4, .ref b5, .ref b6]), (a9, cI d 7 (rf7 (bmp Rf 3)))]) (ws_cons (rfl) (ws_cons (cI_eq (rf7_b (by decide))) (rfl))) rfl ?_
  refine g_iload_n X dX6_no_11 rfl 1 rfl ?_
  exact g_end X (gE_i dX6_no_12 (rfl) (Nat.le_of_ble_eq_true rfl) (Nat.le_of_ble_eq_true rfl) ⟨rfl, rfl⟩)
set_option maxHeartbeats 4000000 in
set_option maxRecDepth 20000 in
theorem ct_X6_no_4 (l : Launch) (d : KD) (m0 a0 a1 a2 a4 a6 a8 a9 b1 b2 b3 b4 b5 b6 : Nat) (Rf : Nat → Int32) (tn ap rn : Nat) (im : Int32) : Ct l d yX6_no cX6_no 2 (some .int) { frames := 0, cells := 0, slots := 0, locals := 0 } [.ref m0, .int (-4)] [(m0, cO 6 [.ref a0, .ref a1, .ref a2, .int (nI tn), .ref a4, .int (nI ap), .ref a6, .int (nI rn), .ref a8, .ref a9, .int im, .ref b1, .ref b2, .ref b3, .ref b4, .ref b5, .ref b6]), (a9, cI d 7 (rf7 Rf))] 0 0 (fun r wo => r = some (.int (-4)) ∧ wo = [(m0, cO 6 [.ref a0, .ref a1, .ref a2, .int (nI tn), .ref a4, .int (nI ap), .ref a6, .int (nI rn), .ref a8, .ref a9, .int im, .ref b1, .ref b2, .ref b3, .ref b4, .ref b5, .ref b6]), (a9, cI d 7 (rf7 (bmp Rf 4)))]) := by
  refine ct_of (own := RX6) (ini := false) (by decide +kernel) rfl (fun h => by cases h) (Nat.le_of_ble_eq_true rfl) ?_
  intro g X
  show g 0 0 [(m0, cO 6 [.ref a0, .ref a1, .ref a2, .int (nI tn), .ref a4, .int (nI ap), .ref a6, .int (nI rn), .ref a8, .ref a9, .int im, .ref b1, .ref b2, .ref b3, .ref b4, .ref b5, .ref b6]), (a9, cI d 7 (rf7 Rf))] [(0, .ref m0), (1, .int (-4))] 0 []
  refine g_aload_n X dX6_no_0 rfl 0 rfl ?_
  refine g_get (C := RX6) (T := TX6) (N := 17) (ci := 6) (v := .ref a9) X rfl inT6 9 (by decide) wd_805 rfl dX6_no_1 0 rfl rfl ?_
  refine g_iload_n X dX6_no_4 rfl 1 rfl ?_
  refine g_ineg X dX6_no_5 ?_
  refine g_tope (y := 4) (by decide) ?_
  refine g_dup2 X dX6_no_6 rfl rfl ?_
  refine g_iaload_N (k := 4) X rfl dX6_no_7 1 rfl (by first | assumption | omega) (by omega) ?_
  refine g_iconst (v := 1) X dX6_no_8 (by decide) ?_
  refine g_iadd X dX6_no_9 ?_
  refine g_iastore_N (k := 4) (ws' := [(m0, cO 6 [.ref a0, .ref a1, .ref a2, .int (nI tn), .ref a4, .int (nI ap), .ref a6, .int (nI rn), .ref a8, .ref a9, .int im, .ref b1, .ref b2, .ref b3, .ref b4, .ref b5, .ref b6]), (a9, cI d 7 (upd (rf7 Rf) 4 (((rf7 Rf) 4) + 1)))]) X rfl dX6_no_10 1 rfl (by first | assumption | omega) (by omega) rfl ?_
  refine g_eq (ws' := [(m0, cO 6 [.ref a0, .ref a1, .ref a2, .int (nI tn), .ref a4, .int (nI ap), .ref a6, .int (nI rn), .ref a8, .ref a9, .int im, .ref b1, .ref b2, .ref b3, .ref b4, .ref b5, .ref b6]), (a9, cI d 7 (rf7 (bmp Rf 4)))]) (ws_cons (rfl) (ws_cons (cI_eq (rf7_b (by decide))) (rfl))) rfl ?_
  refine g_iload_n X dX6_no_11 rfl 1 rfl ?_
  exact g_end X (gE_i dX6_no_12 (rfl) (Nat.le_of_ble_eq_true rfl) (Nat.le_of_ble_eq_true rfl) ⟨rfl, rfl⟩)
set_option maxHeartbeats 4000000 in
set_option maxRecDepth 20000 in
theorem ct_X6_no_6 (l : Launch) (d : KD) (m0 a0 a1 a2 a4 a6 a8 a9 b1 b2 b3 b4 b5 b6 : Nat) (Rf : Nat → Int32) (tn ap rn : Nat) (im : Int32) : Ct l d yX6_no cX6_no 2 (some .int) { frames := 0, cells := 0, slots := 0, locals := 0 } [.ref m0, .int (-6)] [(m0, cO 6 [.ref a0, .ref a1, .ref a2, .int (nI tn), .ref a4, .int (nI ap), .ref a6, .int (nI rn), .ref a8, .ref a9, .int im, .ref b1, .ref b2, .ref b3, .ref b4, .ref b5, .ref b6]), (a9, cI d 7 (rf7 Rf))] 0 0 (fun r wo => r = some (.int (-6)) ∧ wo = [(m0, cO 6 [.ref a0, .ref a1, .ref a2, .int (nI tn), .ref a4, .int (nI ap), .ref a6, .int (nI rn), .ref a8, .ref a9, .int im, .ref b1, .ref b2, .ref b3, .ref b4, .ref b5, .ref b6]), (a9, cI d 7 (rf7 (bmp Rf 6)))]) := by
  refine ct_of (own := RX6) (ini := false) (by decide +kernel) rfl (fun h => by cases h) (Nat.le_of_ble_eq_true rfl) ?_
  intro g X
  show g 0 0 [(m0, cO 6 [.ref a0, .ref a1, .ref a2, .int (nI tn), .ref a4, .int (nI ap), .ref a6, .int (nI rn), .ref a8, .ref a9, .int im, .ref b1, .ref b2, .ref b3, .ref b4, .ref b5, .ref b6]), (a9, cI d 7 (rf7 Rf))] [(0, .ref m0), (1, .int (-6))] 0 []
  refine g_aload_n X dX6_no_0 rfl 0 rfl ?_
  refine g_get (C := RX6) (T := TX6) (N := 17) (ci := 6) (v := .ref a9) X rfl inT6 9 (by decide) wd_805 rfl dX6_no_1 0 rfl rfl ?_
  refine g_iload_n X dX6_no_4 rfl 1 rfl ?_
  refine g_ineg X dX6_no_5 ?_
  refine g_tope (y := 6) (by decide) ?_
  refine g_dup2 X dX6_no_6 rfl rfl ?_
  refine g_iaload_N (k := 6) X rfl dX6_no_7 1 rfl (by first | assumption | omega) (by omega) ?_
  refine g_iconst (v := 1) X dX6_no_8 (by decide) ?_
  refine g_iadd X dX6_no_9 ?_
  refine g_iastore_N (k := 6) (ws' := [(m0, cO 6 [.ref a0, .ref a1, .ref a2, .int (nI tn), .ref a4, .int (nI ap), .ref a6, .int (nI rn), .ref a8, .ref a9, .int im, .ref b1, .ref b2, .ref b3, .ref b4, .ref b5, .ref b6]), (a9, cI d 7 (upd (rf7 Rf) 6 (((rf7 Rf) 6) + 1)))]) X rfl dX6_no_10 1 rfl (by first | assumption | omega) (by omega) rfl ?_
  refine g_eq (ws' := [(m0, cO 6 [.ref a0, .ref a1, .ref a2, .int (nI tn), .ref a4, .int (nI ap), .ref a6, .int (nI rn), .ref a8, .ref a9, .int im, .ref b1, .ref b2, .ref b3, .ref b4, .ref b5, .ref b6]), (a9, cI d 7 (rf7 (bmp Rf 6)))]) (ws_cons (rfl) (ws_cons (cI_eq (rf7_b (by decide))) (rfl))) rfl ?_
  refine g_iload_n X dX6_no_11 rfl 1 rfl ?_
  exact g_end X (gE_i dX6_no_12 (rfl) (Nat.le_of_ble_eq_true rfl) (Nat.le_of_ble_eq_true rfl) ⟨rfl, rfl⟩)
set_option maxHeartbeats 4000000 in
set_option maxRecDepth 20000 in
theorem ct_X6_within (l : Launch) (d : KD) (x y z : Int32) : Ct l d yX6_within cX6_within 3 (some .boolean) { frames := 0, cells := 0, slots := 0, locals := 0 } [.int x, .int y, .int z] [] 0 0 (fun r wo => r = some (.int (b2i (wit x y z))) ∧ wo = []) := by
  refine ct_of (own := RX6) (ini := false) (by decide +kernel) rfl (fun h => by cases h) (Nat.le_of_ble_eq_true rfl) ?_
  intro g X
  show g 0 0 [] [(0, .int x), (1, .int y), (2, .int z)] 0 []
  refine g_iload_n X dX6_within_0 rfl 0 rfl ?_
  refine g_iload_n X dX6_within_1 rfl 1 rfl ?_
  refine g_icmp_lt X 14 dX6_within_2 (by decide) (fun c2_1 => ?_) (fun c2_1 => ?_)
  · refine g_iconst (v := 0) X dX6_within_14 (by decide) ?_
    exact g_end X (gE_i dX6_within_15 (rfl) (Nat.le_of_ble_eq_true rfl) (Nat.le_of_ble_eq_true rfl) ⟨congrArg (fun z => some (Value.int z)) (by first | exact (b2i_t (by grind)).symm | exact (b2i_f (by grind)).symm), rfl⟩)
  · refine g_iload_n X dX6_within_5 rfl 0 rfl ?_
    refine g_iload_n X dX6_within_6 rfl 2 rfl ?_
    refine g_icmp_gt X 14 dX6_within_7 (by decide) (fun c7_2 => ?_) (fun c7_2 => ?_)
    · refine g_iconst (v := 0) X dX6_within_14 (by decide) ?_
      exact g_end X (gE_i dX6_within_15 (rfl) (Nat.le_of_ble_eq_true rfl) (Nat.le_of_ble_eq_true rfl) ⟨congrArg (fun z => some (Value.int z)) (by first | exact (b2i_t (by grind)).symm | exact (b2i_f (by grind)).symm), rfl⟩)
    · refine g_iconst (v := 1) X dX6_within_10 (by decide) ?_
      refine g_goto X 15 dX6_within_11 (by decide) ?_
      exact g_end X (gE_i dX6_within_15 (rfl) (Nat.le_of_ble_eq_true rfl) (Nat.le_of_ble_eq_true rfl) ⟨congrArg (fun z => some (Value.int z)) (by first | exact (b2i_t (by grind)).symm | exact (b2i_f (by grind)).symm), rfl⟩)
set_option maxHeartbeats 4000000 in
set_option maxRecDepth 20000 in
theorem ct_X6_isSquare (l : Launch) (d : KD) (x : Int32) : Ct l d yX6_isSquare cX6_isSquare 1 (some .boolean) { frames := 1, cells := 0, slots := 0, locals := 22 } [.int x] [] 0 0 (fun r wo => r = some (.int (b2i (sq x))) ∧ wo = []) := by
  refine ct_of (own := RX6) (ini := false) (by decide +kernel) rfl (fun h => by cases h) (Nat.le_of_ble_eq_true rfl) ?_
  intro g X
  show g 0 0 [] [(0, .int x)] 0 []
  refine g_iload_n X dX6_isSquare_0 rfl 0 rfl ?_
  refine g_iconst (v := 0) X dX6_isSquare_1 (by decide) ?_
  refine g_bipush (v := 35) X dX6_isSquare_2 (by decide) ?_
  refine g_dS (n := 3) (wr := []) (ws' := []) (st' := [.int (b2i (wit x 0 35))]) (As := [.int x, .int 0, .int 35]) (st := []) X (ct_X6_within l d x 0 35) wd_887 wd_885 wd_886 wd_58 hd_X6_within ⟨(Nat.le_of_ble_eq_true rfl), (Nat.le_of_ble_eq_true rfl)⟩ rfl rfl dX6_isSquare_4 ⟨(Nat.le_of_ble_eq_true rfl), (Nat.le_of_ble_eq_true rfl)⟩ rfl rfl (Nat.le_of_ble_eq_true rfl) [] [] rfl rfl rfl rfl rfl (by decide) [] rfl rfl rfl rfl ?_
  exact g_end X (gE_i dX6_isSquare_7 (b2i_nar _) (Nat.le_of_ble_eq_true rfl) (Nat.le_of_ble_eq_true rfl) ⟨congrArg (fun z => some (Value.int z)) (b2i_c wit_sq), rfl⟩)
set_option maxHeartbeats 4000000 in
set_option maxRecDepth 20000 in
theorem ct_X6_isKind (l : Launch) (d : KD) (x : Int32) : Ct l d yX6_isKind cX6_isKind 1 (some .boolean) { frames := 1, cells := 0, slots := 0, locals := 22 } [.int x] [] 0 0 (fun r wo => r = some (.int (b2i (kd x))) ∧ wo = []) := by
  refine ct_of (own := RX6) (ini := false) (by decide +kernel) rfl (fun h => by cases h) (Nat.le_of_ble_eq_true rfl) ?_
  intro g X
  show g 0 0 [] [(0, .int x)] 0 []
  refine g_iload_n X dX6_isKind_0 rfl 0 rfl ?_
  refine g_iconst (v := 0) X dX6_isKind_1 (by decide) ?_
  refine g_iconst (v := 5) X dX6_isKind_2 (by decide) ?_
  refine g_dS (n := 3) (wr := []) (ws' := []) (st' := [.int (b2i (wit x 0 5))]) (As := [.int x, .int 0, .int 5]) (st := []) X (ct_X6_within l d x 0 5) wd_887 wd_885 wd_886 wd_58 hd_X6_within ⟨(Nat.le_of_ble_eq_true rfl), (Nat.le_of_ble_eq_true rfl)⟩ rfl rfl dX6_isKind_3 ⟨(Nat.le_of_ble_eq_true rfl), (Nat.le_of_ble_eq_true rfl)⟩ rfl rfl (Nat.le_of_ble_eq_true rfl) [] [] rfl rfl rfl rfl rfl (by decide) [] rfl rfl rfl rfl ?_
  exact g_end X (gE_i dX6_isKind_6 (b2i_nar _) (Nat.le_of_ble_eq_true rfl) (Nat.le_of_ble_eq_true rfl) ⟨congrArg (fun z => some (Value.int z)) (b2i_c wit_kd), rfl⟩)
set_option maxHeartbeats 4000000 in
set_option maxRecDepth 20000 in
theorem ct_X6_beside (l : Launch) (d : KD) (j w : Nat) (hj : j < 36) (hw : w < 4) : Ct l d yX6_beside cX6_beside 2 (some .int) { frames := 0, cells := 0, slots := 0, locals := 0 } [.int (nI j), .int (nI w)] [] 0 0 (fun r wo => r = some (.int (besM (nb j w))) ∧ wo = []) := by
  refine ct_of (own := RX6) (ini := false) (by decide +kernel) rfl (fun h => by cases h) (Nat.le_of_ble_eq_true rfl) ?_
  intro g X
  show g 0 0 [] [(0, .int (nI j)), (1, .int (nI w))] 0 []
  refine g_iload_n X dX6_beside_0 rfl 1 rfl ?_
  rcases Nat.decEq w 0 with k1_1 | k1_1
  rotate_left
  · subst k1_1
    refine g_tope (y := 0) (by rfl) ?_
    refine g_eq (lv' := [(0, .int (nI j)), (1, .int 0)]) rfl (by rfl) ?_
    have z := nbM_0 j hj
    refine g_tableIn (off := 27) X 28 dX6_beside_1 (by decide) (by decide) (by decide +kernel) (by decide) ?_
    refine g_iload_n X dX6_beside_28 rfl 0 rfl ?_
    refine g_bipush (v := 6) X dX6_beside_29 (by decide) ?_
    refine g_icmpN_ge (a := j) (b := 6) X rfl rfl (by omega) (by omega) 39 dX6_beside_31 (by decide) (fun c31_2 => ?_) (fun c31_2 => ?_)
    · refine g_iload_n X dX6_beside_39 rfl 0 rfl ?_
      refine g_bipush (v := 6) X dX6_beside_40 (by decide) ?_
      refine g_isub X dX6_beside_42 ?_
      exact g_end X (gE_i dX6_beside_43 (rfl) (Nat.le_of_ble_eq_true rfl) (Nat.le_of_ble_eq_true rfl) ⟨congrArg (fun z => some (Value.int z)) (by first | exact z.1 (by omega) | exact z.2 (by omega)), rfl⟩)
    · refine g_bipush (v := (-9)) X dX6_beside_34 (by decide) ?_
      refine g_goto X 43 dX6_beside_36 (by decide) ?_
      exact g_end X (gE_i dX6_beside_43 (rfl) (Nat.le_of_ble_eq_true rfl) (Nat.le_of_ble_eq_true rfl) ⟨congrArg (fun z => some (Value.int z)) (by first | exact z.1 (by omega) | exact z.2 (by omega)), rfl⟩)
  rcases Nat.decEq w 1 with k1_3 | k1_3
  rotate_left
  · subst k1_3
    refine g_tope (y := 1) (by rfl) ?_
    refine g_eq (lv' := [(0, .int (nI j)), (1, .int 1)]) rfl (by rfl) ?_
    have z := nbM_1 j hj
    refine g_tableIn (off := 43) X 44 dX6_beside_1 (by decide) (by decide) (by decide +kernel) (by decide) ?_
    refine g_iload_n X dX6_beside_44 rfl 0 rfl ?_
    refine g_bipush (v := 6) X dX6_beside_45 (by decide) ?_
    refine g_irem X dX6_beside_47 (by decide) ?_
    refine g_tope (y := nI (j % 6)) (nI_rem (by omega) (by decide) (by decide)) ?_
    refine g_ifN_ne (a := (j % 6)) X rfl (by omega) 56 dX6_beside_48 (by decide) (fun c48_4 => ?_) (fun c48_4 => ?_)
    · refine g_iload_n X dX6_beside_56 rfl 0 rfl ?_
      refine g_iconst (v := 1) X dX6_beside_57 (by decide) ?_
      refine g_isub X dX6_beside_58 ?_
      exact g_end X (gE_i dX6_beside_59 (rfl) (Nat.le_of_ble_eq_true rfl) (Nat.le_of_ble_eq_true rfl) ⟨congrArg (fun z => some (Value.int z)) (by first | exact z.1 (by omega) | exact z.2 (by omega)), rfl⟩)
    · refine g_bipush (v := (-9)) X dX6_beside_51 (by decide) ?_
      refine g_goto X 59 dX6_beside_53 (by decide) ?_
      exact g_end X (gE_i dX6_beside_59 (rfl) (Nat.le_of_ble_eq_true rfl) (Nat.le_of_ble_eq_true rfl) ⟨congrArg (fun z => some (Value.int z)) (by first | exact z.1 (by omega) | exact z.2 (by omega)), rfl⟩)
  rcases Nat.decEq w 2 with k1_5 | k1_5
  rotate_left
  · subst k1_5
    refine g_tope (y := 2) (by rfl) ?_
    refine g_eq (lv' := [(0, .int (nI j)), (1, .int 2)]) rfl (by rfl) ?_
    have z := nbM_2 j hj
    refine g_tableIn (off := 59) X 60 dX6_beside_1 (by decide) (by decide) (by decide +kernel) (by decide) ?_
    refine g_iload_n X dX6_beside_60 rfl 0 rfl ?_
    refine g_bipush (v := 6) X dX6_beside_61 (by decide) ?_
    refine g_irem X dX6_beside_63 (by decide) ?_
    refine g_tope (y := nI (j % 6)) (nI_rem (by omega) (by decide) (by decide)) ?_
    refine g_iconst (v := 5) X dX6_beside_64 (by decide) ?_
    refine g_icmpN_ne (a := (j % 6)) (b := 5) X rfl rfl (by omega) (by omega) 73 dX6_beside_65 (by decide) (fun c65_6 => ?_) (fun c65_6 => ?_)
    · refine g_iload_n X dX6_beside_73 rfl 0 rfl ?_
      refine g_iconst (v := 1) X dX6_beside_74 (by decide) ?_
      refine g_iadd X dX6_beside_75 ?_
      refine g_tope (y := nI (j + 1)) (nI_add _ _) ?_
      exact g_end X (gE_i dX6_beside_76 (rfl) (Nat.le_of_ble_eq_true rfl) (Nat.le_of_ble_eq_true rfl) ⟨congrArg (fun z => some (Value.int z)) (by first | exact z.1 (by omega) | exact z.2 (by omega)), rfl⟩)
    · refine g_bipush (v := (-9)) X dX6_beside_68 (by decide) ?_
      refine g_goto X 76 dX6_beside_70 (by decide) ?_
      exact g_end X (gE_i dX6_beside_76 (rfl) (Nat.le_of_ble_eq_true rfl) (Nat.le_of_ble_eq_true rfl) ⟨congrArg (fun z => some (Value.int z)) (by first | exact z.1 (by omega) | exact z.2 (by omega)), rfl⟩)
  have z : (j ≤ 29 → nI (j + 6) = besM (nb j w)) ∧ (29 < j → -9 = besM (nb j w)) := by have w3 : w = 3 := (by omega); rw [w3]; exact nbM_3 j hj
  have nt_1 : ¬ (nI w).toInt = 0 ∧ ¬ (nI w).toInt = 1 ∧ ¬ (nI w).toInt = 2 := by rw [nI_toInt (by omega)]; omega
  refine g_tableOut X 77 dX6_beside_1 (by omega) (by decide) ?_
  refine g_iload_n X dX6_beside_77 rfl 0 rfl ?_
  refine g_bipush (v := 29) X dX6_beside_78 (by decide) ?_
  refine g_icmpN_le (a := j) (b := 29) X rfl rfl (by omega) (by omega) 88 dX6_beside_80 (by decide) (fun c80_7 => ?_) (fun c80_7 => ?_)
  · refine g_iload_n X dX6_beside_88 rfl 0 rfl ?_
    refine g_bipush (v := 6) X dX6_beside_89 (by decide) ?_
    refine g_iadd X dX6_beside_91 ?_
    refine g_tope (y := nI (j + 6)) (nI_add _ _) ?_
    exact g_end X (gE_i dX6_beside_92 (rfl) (Nat.le_of_ble_eq_true rfl) (Nat.le_of_ble_eq_true rfl) ⟨congrArg (fun z => some (Value.int z)) (by first | exact z.1 (by omega) | exact z.2 (by omega)), rfl⟩)
  · refine g_bipush (v := (-9)) X dX6_beside_83 (by decide) ?_
    refine g_goto X 92 dX6_beside_85 (by decide) ?_
    exact g_end X (gE_i dX6_beside_92 (rfl) (Nat.le_of_ble_eq_true rfl) (Nat.le_of_ble_eq_true rfl) ⟨congrArg (fun z => some (Value.int z)) (by first | exact z.1 (by omega) | exact z.2 (by omega)), rfl⟩)
set_option maxHeartbeats 4000000 in
set_option maxRecDepth 20000 in
theorem ct_X6_canBe (l : Launch) (d : KD) (m0 a0 a1 a2 a4 a6 a8 a9 b1 b2 b3 b4 b5 b6 : Nat) (K S : Nat → Int32) (tn ap rn : Nat) (im : Int32) (j : Nat) (hj : j < 36) : Ct l d yX6_canBe cX6_canBe 2 (some .boolean) { frames := 0, cells := 0, slots := 0, locals := 0 } [.ref m0, .int (nI j)] [(m0, cO 6 [.ref a0, .ref a1, .ref a2, .int (nI tn), .ref a4, .int (nI ap), .ref a6, .int (nI rn), .ref a8, .ref a9, .int im, .ref b1, .ref b2, .ref b3, .ref b4, .ref b5, .ref b6]), (a0, cI d 36 K), (a2, cI d 5 S)] 0 0 (fun r wo => r = some (.int (b2i (csl (K j) (S 1)))) ∧ wo = [(m0, cO 6 [.ref a0, .ref a1, .ref a2, .int (nI tn), .ref a4, .int (nI ap), .ref a6, .int (nI rn), .ref a8, .ref a9, .int im, .ref b1, .ref b2, .ref b3, .ref b4, .ref b5, .ref b6]), (a0, cI d 36 K), (a2, cI d 5 S)]) := by
  refine ct_of (own := RX6) (ini := false) (by decide +kernel) rfl (fun h => by cases h) (Nat.le_of_ble_eq_true rfl) ?_
  intro g X
  show g 0 0 [(m0, cO 6 [.ref a0, .ref a1, .ref a2, .int (nI tn), .ref a4, .int (nI ap), .ref a6, .int (nI rn), .ref a8, .ref a9, .int im, .ref b1, .ref b2, .ref b3, .ref b4, .ref b5, .ref b6]), (a0, cI d 36 K), (a2, cI d 5 S)] [(0, .ref m0), (1, .int (nI j))] 0 []
  refine g_aload_n X dX6_canBe_0 rfl 0 rfl ?_
  refine g_get (C := RX6) (T := TX6) (N := 17) (ci := 6) (v := .ref a0) X rfl inT6 0 (by decide) wd_796 rfl dX6_canBe_1 0 rfl rfl ?_
  refine g_iload_n X dX6_canBe_4 rfl 1 rfl ?_
  refine g_iaload_N (k := j) X rfl dX6_canBe_5 1 rfl (by first | assumption | omega) (by omega) ?_
  refine g_iconst (v := 1) X dX6_canBe_6 (by decide) ?_
  refine g_icmp_eq X 34 dX6_canBe_7 (by decide) (fun c7_1 => ?_) (fun c7_1 => ?_)
  · refine g_iconst (v := 0) X dX6_canBe_34 (by decide) ?_
    exact g_end X (gE_i dX6_canBe_35 (rfl) (Nat.le_of_ble_eq_true rfl) (Nat.le_of_ble_eq_true rfl) ⟨congrArg (fun z => some (Value.int z)) (by first | exact (b2i_t (by grind)).symm | exact (b2i_f (by grind)).symm), rfl⟩)
  · refine g_aload_n X dX6_canBe_10 rfl 0 rfl ?_
    refine g_get (C := RX6) (T := TX6) (N := 17) (ci := 6) (v := .ref a0) X rfl inT6 0 (by decide) wd_796 rfl dX6_canBe_11 0 rfl rfl ?_
    refine g_iload_n X dX6_canBe_14 rfl 1 rfl ?_
    refine g_iaload_N (k := j) X rfl dX6_canBe_15 1 rfl (by first | assumption | omega) (by omega) ?_
    refine g_iconst (v := 2) X dX6_canBe_16 (by decide) ?_
    refine g_icmp_ne X 30 dX6_canBe_17 (by decide) (fun c17_2 => ?_) (fun c17_2 => ?_)
    · refine g_iconst (v := 1) X dX6_canBe_30 (by decide) ?_
      refine g_goto X 35 dX6_canBe_31 (by decide) ?_
      exact g_end X (gE_i dX6_canBe_35 (rfl) (Nat.le_of_ble_eq_true rfl) (Nat.le_of_ble_eq_true rfl) ⟨congrArg (fun z => some (Value.int z)) (by first | exact (b2i_t (by grind)).symm | exact (b2i_f (by grind)).symm), rfl⟩)
    · refine g_aload_n X dX6_canBe_20 rfl 0 rfl ?_
      refine g_get (C := RX6) (T := TX6) (N := 17) (ci := 6) (v := .ref a2) X rfl inT6 2 (by decide) wd_798 rfl dX6_canBe_21 0 rfl rfl ?_
      refine g_iconst (v := 1) X dX6_canBe_24 (by decide) ?_
      refine g_iaload_N (k := 1) X rfl dX6_canBe_25 2 rfl (by first | assumption | omega) (by omega) ?_
      refine g_iconst (v := 4) X dX6_canBe_26 (by decide) ?_
      refine g_icmp_ge X 34 dX6_canBe_27 (by decide) (fun c27_3 => ?_) (fun c27_3 => ?_)
      · refine g_iconst (v := 0) X dX6_canBe_34 (by decide) ?_
        exact g_end X (gE_i dX6_canBe_35 (rfl) (Nat.le_of_ble_eq_true rfl) (Nat.le_of_ble_eq_true rfl) ⟨congrArg (fun z => some (Value.int z)) (by first | exact (b2i_t (by grind)).symm | exact (b2i_f (by grind)).symm), rfl⟩)
      · refine g_iconst (v := 1) X dX6_canBe_30 (by decide) ?_
        refine g_goto X 35 dX6_canBe_31 (by decide) ?_
        exact g_end X (gE_i dX6_canBe_35 (rfl) (Nat.le_of_ble_eq_true rfl) (Nat.le_of_ble_eq_true rfl) ⟨congrArg (fun z => some (Value.int z)) (by first | exact (b2i_t (by grind)).symm | exact (b2i_f (by grind)).symm), rfl⟩)
set_option maxHeartbeats 4000000 in
set_option maxRecDepth 20000 in
theorem ct_X6_left (l : Launch) (d : KD) (m0 a0 a1 a2 a4 a6 a8 a9 b1 b2 b3 b4 b5 b6 : Nat) (L : Nat → Int32) (tn ap rn : Nat) (im : Int32) : Ct l d yX6_left cX6_left 3 (some .int) { frames := 0, cells := 0, slots := 0, locals := 0 } [.ref m0] [(m0, cO 6 [.ref a0, .ref a1, .ref a2, .int (nI tn), .ref a4, .int (nI ap), .ref a6, .int (nI rn), .ref a8, .ref a9, .int im, .ref b1, .ref b2, .ref b3, .ref b4, .ref b5, .ref b6]), (a1, cI d 36 L)] 0 0 (fun r wo => r = some (.int (nI (cnt (fun q => 0 < L q) 36))) ∧ wo = [(m0, cO 6 [.ref a0, .ref a1, .ref a2, .int (nI tn), .ref a4, .int (nI ap), .ref a6, .int (nI rn), .ref a8, .ref a9, .int im, .ref b1, .ref b2, .ref b3, .ref b4, .ref b5, .ref b6]), (a1, cI d 36 L)]) := by
  refine ct_of (own := RX6) (ini := false) (by decide +kernel) rfl (fun h => by cases h) (Nat.le_of_ble_eq_true rfl) ?_
  intro g X
  show g 0 0 [(m0, cO 6 [.ref a0, .ref a1, .ref a2, .int (nI tn), .ref a4, .int (nI ap), .ref a6, .int (nI rn), .ref a8, .ref a9, .int im, .ref b1, .ref b2, .ref b3, .ref b4, .ref b5, .ref b6]), (a1, cI d 36 L)] [(0, .ref m0)] 0 []
  refine g_iconst (v := 0) X dX6_left_0 (by decide) ?_
  refine g_istore_n (lv' := [(1, .int 0), (0, .ref m0)]) X dX6_left_1 rfl (by decide) rfl ?_
  refine g_iconst (v := 0) X dX6_left_2 (by decide) ?_
  refine g_istore_n (lv' := [(2, .int 0), (1, .int 0), (0, .ref m0)]) X dX6_left_3 rfl (by decide) rfl ?_
  have at_4 : ∀ (n_ : Nat) (i : Nat) (hi : i ≤ 36), (36 - i) < n_ → g 0 0 [(m0, cO 6 [.ref a0, .ref a1, .ref a2, .int (nI tn), .ref a4, .int (nI ap), .ref a6, .int (nI rn), .ref a8, .ref a9, .int im, .ref b1, .ref b2, .ref b3, .ref b4, .ref b5, .ref b6]), (a1, cI d 36 L)] [(0, .ref m0), (1, .int (nI (cnt (fun q => 0 < L q) i))), (2, .int (nI i))] 4 [] := by
    intro n_
    induction n_ with
    | zero => intro i hi hn_; exact absurd hn_ (Nat.not_lt_zero _)
    | succ n_ ih_4 =>
      intro i hi hn_4
      refine g_iload_n X dX6_left_4 rfl 2 rfl ?_
      refine g_bipush (v := 36) X dX6_left_5 (by decide) ?_
      refine g_icmpN_ge (a := i) (b := 36) X rfl rfl (by omega) (by omega) 28 dX6_left_7 (by decide) (fun c7_1 => ?_) (fun c7_1 => ?_)
      · refine g_iload_n X dX6_left_28 rfl 1 rfl ?_
        exact g_end X (gE_i dX6_left_29 (rfl) (Nat.le_of_ble_eq_true rfl) (Nat.le_of_ble_eq_true rfl) ⟨congrArg (fun z => some (Value.int z)) (by grind), rfl⟩)
      · refine g_aload_n X dX6_left_10 rfl 0 rfl ?_
        refine g_get (C := RX6) (T := TX6) (N := 17) (ci := 6) (v := .ref a1) X rfl inT6 1 (by decide) wd_797 rfl dX6_left_11 0 rfl rfl ?_
        refine g_iload_n X dX6_left_14 rfl 2 rfl ?_
        refine g_iaload_N (k := i) X rfl dX6_left_15 1 rfl (by first | assumption | omega) (by omega) ?_
        refine g_if_le X 22 dX6_left_16 (by decide) (fun c16_2 => ?_) (fun c16_2 => ?_)
        · refine g_iinc (v := nI (i + 1)) (lv' := [(2, .int (nI (i + 1))), (0, .ref m0), (1, .int (nI (cnt (fun q => 0 < L q) i)))]) X dX6_left_22 2 rfl (nI_inc _) (by decide) rfl ?_
          refine g_goto X 4 dX6_left_25 (by decide) ?_
          refine g_lv (lv' := [(0, .ref m0), (1, .int (nI (cnt (fun q => 0 < L q) i))), (2, .int (nI (i + 1)))]) X [1, 2, 0] rfl ?_
          exact g_eq (ws' := [(m0, cO 6 [.ref a0, .ref a1, .ref a2, .int (nI tn), .ref a4, .int (nI ap), .ref a6, .int (nI rn), .ref a8, .ref a9, .int im, .ref b1, .ref b2, .ref b3, .ref b4, .ref b5, .ref b6]), (a1, cI d 36 L)]) (lv' := [(0, .ref m0), (1, .int (nI (cnt (fun q => 0 < L q) (i + 1)))), (2, .int (nI (i + 1)))]) (rfl) (lv_cons (rfl) (lv_cons (vI (by first | exact cnt_T (by assumption) | exact cnt_F (by assumption) | exact cnt_T (Int32.not_le.mp (by assumption)) | exact cnt_F (Int32.not_lt.mpr (by assumption)))) (lv_cons (rfl) (rfl)))) (ih_4 (i + 1) (by first | assumption | omega) (by omega))
        · refine g_iinc (v := nI (cnt (fun q => 0 < L q) i + 1)) (lv' := [(1, .int (nI (cnt (fun q => 0 < L q) i + 1))), (0, .ref m0), (2, .int (nI i))]) X dX6_left_19 1 rfl (nI_inc _) (by decide) rfl ?_
          refine g_iinc (v := nI (i + 1)) (lv' := [(2, .int (nI (i + 1))), (1, .int (nI (cnt (fun q => 0 < L q) i + 1))), (0, .ref m0)]) X dX6_left_22 2 rfl (nI_inc _) (by decide) rfl ?_
          refine g_goto X 4 dX6_left_25 (by decide) ?_
          refine g_lv (lv' := [(0, .ref m0), (1, .int (nI (cnt (fun q => 0 < L q) i + 1))), (2, .int (nI (i + 1)))]) X [2, 1, 0] rfl ?_
          exact g_eq (ws' := [(m0, cO 6 [.ref a0, .ref a1, .ref a2, .int (nI tn), .ref a4, .int (nI ap), .ref a6, .int (nI rn), .ref a8, .ref a9, .int im, .ref b1, .ref b2, .ref b3, .ref b4, .ref b5, .ref b6]), (a1, cI d 36 L)]) (lv' := [(0, .ref m0), (1, .int (nI (cnt (fun q => 0 < L q) (i + 1)))), (2, .int (nI (i + 1)))]) (rfl) (lv_cons (rfl) (lv_cons (vI (by first | exact cnt_T (by assumption) | exact cnt_F (by assumption) | exact cnt_T (Int32.not_le.mp (by assumption)) | exact cnt_F (Int32.not_lt.mpr (by assumption)))) (lv_cons (rfl) (rfl)))) (ih_4 (i + 1) (by first | assumption | omega) (by omega))
  refine g_lv (lv' := [(0, .ref m0), (1, .int 0), (2, .int 0)]) X [2, 1, 0] rfl ?_
  exact g_eq (ws' := [(m0, cO 6 [.ref a0, .ref a1, .ref a2, .int (nI tn), .ref a4, .int (nI ap), .ref a6, .int (nI rn), .ref a8, .ref a9, .int im, .ref b1, .ref b2, .ref b3, .ref b4, .ref b5, .ref b6]), (a1, cI d 36 L)]) (lv' := [(0, .ref m0), (1, .int (nI (cnt (fun q => 0 < L q) 0))), (2, .int (nI 0))]) (rfl) (lv_cons (rfl) (lv_cons (vI (by rfl)) (lv_cons (vI (by rfl)) (rfl)))) (at_4 _ 0 (by first | assumption | omega) (Nat.lt_succ_self _))
set_option maxHeartbeats 4000000 in
set_option maxRecDepth 20000 in
theorem ct_X6_weight (l : Launch) (d : KD) (m0 a0 a1 a2 a4 a6 a8 a9 b1 b2 b3 b4 b5 b6 : Nat) (L : Nat → Int32) (tn ap rn : Nat) (im : Int32) : Ct l d yX6_weight cX6_weight 3 (some .int) { frames := 0, cells := 0, slots := 0, locals := 0 } [.ref m0] [(m0, cO 6 [.ref a0, .ref a1, .ref a2, .int (nI tn), .ref a4, .int (nI ap), .ref a6, .int (nI rn), .ref a8, .ref a9, .int im, .ref b1, .ref b2, .ref b3, .ref b4, .ref b5, .ref b6]), (a1, cI d 36 L)] 0 0 (fun r wo => r = some (.int (smI L 36)) ∧ wo = [(m0, cO 6 [.ref a0, .ref a1, .ref a2, .int (nI tn), .ref a4, .int (nI ap), .ref a6, .int (nI rn), .ref a8, .ref a9, .int im, .ref b1, .ref b2, .ref b3, .ref b4, .ref b5, .ref b6]), (a1, cI d 36 L)]) := by
  refine ct_of (own := RX6) (ini := false) (by decide +kernel) rfl (fun h => by cases h) (Nat.le_of_ble_eq_true rfl) ?_
  intro g X
  show g 0 0 [(m0, cO 6 [.ref a0, .ref a1, .ref a2, .int (nI tn), .ref a4, .int (nI ap), .ref a6, .int (nI rn), .ref a8, .ref a9, .int im, .ref b1, .ref b2, .ref b3, .ref b4, .ref b5, .ref b6]), (a1, cI d 36 L)] [(0, .ref m0)] 0 []
  refine g_iconst (v := 0) X dX6_weight_0 (by decide) ?_
  refine g_istore_n (lv' := [(1, .int 0), (0, .ref m0)]) X dX6_weight_1 rfl (by decide) rfl ?_
  refine g_iconst (v := 0) X dX6_weight_2 (by decide) ?_
  refine g_istore_n (lv' := [(2, .int 0), (1, .int 0), (0, .ref m0)]) X dX6_weight_3 rfl (by decide) rfl ?_
  have at_4 : ∀ (n_ : Nat) (i : Nat) (hi : i ≤ 36), (36 - i) < n_ → g 0 0 [(m0, cO 6 [.ref a0, .ref a1, .ref a2, .int (nI tn), .ref a4, .int (nI ap), .ref a6, .int (nI rn), .ref a8, .ref a9, .int im, .ref b1, .ref b2, .ref b3, .ref b4, .ref b5, .ref b6]), (a1, cI d 36 L)] [(0, .ref m0), (1, .int (smI L i)), (2, .int (nI i))] 4 [] := by
    intro n_
    induction n_ with
    | zero => intro i hi hn_; exact absurd hn_ (Nat.not_lt_zero _)
    | succ n_ ih_4 =>
      intro i hi hn_4
      refine g_iload_n X dX6_weight_4 rfl 2 rfl ?_
      refine g_bipush (v := 36) X dX6_weight_5 (by decide) ?_
      refine g_icmpN_ge (a := i) (b := 36) X rfl rfl (by omega) (by omega) 25 dX6_weight_7 (by decide) (fun c7_1 => ?_) (fun c7_1 => ?_)
      · refine g_iload_n X dX6_weight_25 rfl 1 rfl ?_
        exact g_end X (gE_i dX6_weight_26 (rfl) (Nat.le_of_ble_eq_true rfl) (Nat.le_of_ble_eq_true rfl) ⟨congrArg (fun z => some (Value.int z)) (by grind), rfl⟩)
      · refine g_iload_n X dX6_weight_10 rfl 1 rfl ?_
        refine g_aload_n X dX6_weight_11 rfl 0 rfl ?_
        refine g_get (C := RX6) (T := TX6) (N := 17) (ci := 6) (v := .ref a1) X rfl inT6 1 (by decide) wd_797 rfl dX6_weight_12 0 rfl rfl ?_
        refine g_iload_n X dX6_weight_15 rfl 2 rfl ?_
        refine g_iaload_N (k := i) X rfl dX6_weight_16 1 rfl (by first | assumption | omega) (by omega) ?_
        refine g_iadd X dX6_weight_17 ?_
        refine g_istore_n (lv' := [(1, .int ((smI L i) + (L i))), (0, .ref m0), (2, .int (nI i))]) X dX6_weight_18 rfl (by decide) rfl ?_
        refine g_iinc (v := nI (i + 1)) (lv' := [(2, .int (nI (i + 1))), (1, .int ((smI L i) + (L i))), (0, .ref m0)]) X dX6_weight_19 2 rfl (nI_inc _) (by decide) rfl ?_
        refine g_goto X 4 dX6_weight_22 (by decide) ?_
        refine g_lv (lv' := [(0, .ref m0), (1, .int ((smI L i) + (L i))), (2, .int (nI (i + 1)))]) X [2, 1, 0] rfl ?_
        exact g_eq (ws' := [(m0, cO 6 [.ref a0, .ref a1, .ref a2, .int (nI tn), .ref a4, .int (nI ap), .ref a6, .int (nI rn), .ref a8, .ref a9, .int im, .ref b1, .ref b2, .ref b3, .ref b4, .ref b5, .ref b6]), (a1, cI d 36 L)]) (lv' := [(0, .ref m0), (1, .int (smI L (i + 1))), (2, .int (nI (i + 1)))]) (rfl) (lv_cons (rfl) (lv_cons (vI (by rfl)) (lv_cons (rfl) (rfl)))) (ih_4 (i + 1) (by first | assumption | omega) (by omega))
  refine g_lv (lv' := [(0, .ref m0), (1, .int 0), (2, .int 0)]) X [2, 1, 0] rfl ?_
  exact g_eq (ws' := [(m0, cO 6 [.ref a0, .ref a1, .ref a2, .int (nI tn), .ref a4, .int (nI ap), .ref a6, .int (nI rn), .ref a8, .ref a9, .int im, .ref b1, .ref b2, .ref b3, .ref b4, .ref b5, .ref b6]), (a1, cI d 36 L)]) (lv' := [(0, .ref m0), (1, .int (smI L 0)), (2, .int (nI 0))]) (rfl) (lv_cons (rfl) (lv_cons (vI (by rfl)) (lv_cons (vI (by rfl)) (rfl)))) (at_4 _ 0 (by first | assumption | omega) (Nat.lt_succ_self _))
set_option maxHeartbeats 4000000 in
set_option maxRecDepth 20000 in
theorem ct_X6_daysTo (l : Launch) (d : KD) (m0 a0 a1 a2 a4 a6 a8 a9 b1 b2 b3 b4 b5 b6 : Nat) (K : Nat → Int32) (tn ap rn : Nat) (im : Int32) (j w : Nat) (hj : j < 36) (hw : w < 4) : Ct l d yX6_daysTo cX6_daysTo 3 (some .int) { frames := 0, cells := 0, slots := 0, locals := 0 } [.ref m0, .int (nI j), .int (nI w)] [(m0, cO 6 [.ref a0, .ref a1, .ref a2, .int (nI tn), .ref a4, .int (nI ap), .ref a6, .int (nI rn), .ref a8, .ref a9, .int im, .ref b1, .ref b2, .ref b3, .ref b4, .ref b5, .ref b6]), (a0, cI d 36 K)] 0 0 (fun r wo => r = some (.int (nI (cst (K j) w))) ∧ wo = [(m0, cO 6 [.ref a0, .ref a1, .ref a2, .int (nI tn), .ref a4, .int (nI ap), .ref a6, .int (nI rn), .ref a8, .ref a9, .int im, .ref b1, .ref b2, .ref b3, .ref b4, .ref b5, .ref b6]), (a0, cI d 36 K)]) := by
  refine ct_of (own := RX6) (ini := false) (by decide +kernel) rfl (fun h => by cases h) (Nat.le_of_ble_eq_true rfl) ?_
  intro g X
  show g 0 0 [(m0, cO 6 [.ref a0, .ref a1, .ref a2, .int (nI tn), .ref a4, .int (nI ap), .ref a6, .int (nI rn), .ref a8, .ref a9, .int im, .ref b1, .ref b2, .ref b3, .ref b4, .ref b5, .ref b6]), (a0, cI d 36 K)] [(0, .ref m0), (1, .int (nI j)), (2, .int (nI w))] 0 []
  refine g_aload_n X dX6_daysTo_0 rfl 0 rfl ?_
  refine g_get (C := RX6) (T := TX6) (N := 17) (ci := 6) (v := .ref a0) X rfl inT6 0 (by decide) wd_796 rfl dX6_daysTo_1 0 rfl rfl ?_
  refine g_iload_n X dX6_daysTo_4 rfl 1 rfl ?_
  refine g_iaload_N (k := j) X rfl dX6_daysTo_5 1 rfl (by first | assumption | omega) (by omega) ?_
  rcases Classical.em (K j = 2) with k6_1 | k6_1
  · refine g_tope (y := 2) (k6_1) ?_
    refine g_tableIn (off := 26) X 32 dX6_daysTo_6 (by decide) (by decide) (by decide +kernel) (by decide) ?_
    refine g_iconst (v := 3) X dX6_daysTo_32 (by decide) ?_
    exact g_end X (gE_i dX6_daysTo_33 (rfl) (Nat.le_of_ble_eq_true rfl) (Nat.le_of_ble_eq_true rfl) ⟨congrArg (fun z => some (Value.int z)) (by first | exact (cst_2 (by assumption)).symm | exact (cst_3 (by assumption)).symm | exact (cst_40 (by assumption) (by assumption)).symm | exact (cst_41 (by assumption) (by assumption)).symm | exact (cst_o (by assumption) (by assumption) (by assumption)).symm), rfl⟩)
  rcases Classical.em (K j = 3) with k6_2 | k6_2
  · refine g_tope (y := 3) (k6_2) ?_
    refine g_tableIn (off := 28) X 34 dX6_daysTo_6 (by decide) (by decide) (by decide +kernel) (by decide) ?_
    refine g_iconst (v := 2) X dX6_daysTo_34 (by decide) ?_
    exact g_end X (gE_i dX6_daysTo_35 (rfl) (Nat.le_of_ble_eq_true rfl) (Nat.le_of_ble_eq_true rfl) ⟨congrArg (fun z => some (Value.int z)) (by first | exact (cst_2 (by assumption)).symm | exact (cst_3 (by assumption)).symm | exact (cst_40 (by assumption) (by assumption)).symm | exact (cst_41 (by assumption) (by assumption)).symm | exact (cst_o (by assumption) (by assumption) (by assumption)).symm), rfl⟩)
  rcases Classical.em (K j = 4) with k6_3 | k6_3
  · refine g_tope (y := 4) (k6_3) ?_
    refine g_tableIn (off := 30) X 36 dX6_daysTo_6 (by decide) (by decide) (by decide +kernel) (by decide) ?_
    refine g_iload_n X dX6_daysTo_36 rfl 2 rfl ?_
    refine g_ifN_ne (a := w) X rfl (by omega) 44 dX6_daysTo_37 (by decide) (fun c37_4 => ?_) (fun c37_4 => ?_)
    · refine g_iconst (v := 1) X dX6_daysTo_44 (by decide) ?_
      exact g_end X (gE_i dX6_daysTo_45 (rfl) (Nat.le_of_ble_eq_true rfl) (Nat.le_of_ble_eq_true rfl) ⟨congrArg (fun z => some (Value.int z)) (by first | exact (cst_2 (by assumption)).symm | exact (cst_3 (by assumption)).symm | exact (cst_40 (by assumption) (by assumption)).symm | exact (cst_41 (by assumption) (by assumption)).symm | exact (cst_o (by assumption) (by assumption) (by assumption)).symm), rfl⟩)
    · refine g_iconst (v := 3) X dX6_daysTo_40 (by decide) ?_
      refine g_goto X 45 dX6_daysTo_41 (by decide) ?_
      exact g_end X (gE_i dX6_daysTo_45 (rfl) (Nat.le_of_ble_eq_true rfl) (Nat.le_of_ble_eq_true rfl) ⟨congrArg (fun z => some (Value.int z)) (by first | exact (cst_2 (by assumption)).symm | exact (cst_3 (by assumption)).symm | exact (cst_40 (by assumption) (by assumption)).symm | exact (cst_41 (by assumption) (by assumption)).symm | exact (cst_o (by assumption) (by assumption) (by assumption)).symm), rfl⟩)
  have nt_6 : ¬ (K j).toInt = 2 ∧ ¬ (K j).toInt = 3 ∧ ¬ (K j).toInt = 4 := by refine ⟨lv_neT k6_1 rfl, lv_neT k6_2 rfl, lv_neT k6_3 rfl⟩
  refine g_tableOut X 46 dX6_daysTo_6 (by omega) (by decide) ?_
  refine g_iconst (v := 1) X dX6_daysTo_46 (by decide) ?_
  exact g_end X (gE_i dX6_daysTo_47 (rfl) (Nat.le_of_ble_eq_true rfl) (Nat.le_of_ble_eq_true rfl) ⟨congrArg (fun z => some (Value.int z)) (by first | exact (cst_2 (by assumption)).symm | exact (cst_3 (by assumption)).symm | exact (cst_40 (by assumption) (by assumption)).symm | exact (cst_41 (by assumption) (by assumption)).symm | exact (cst_o (by assumption) (by assumption) (by assumption)).symm), rfl⟩)
