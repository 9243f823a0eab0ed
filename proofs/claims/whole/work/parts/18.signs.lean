theorem hd_J6_bitCount_0f7a4 : yJ6_bitCount_0f7a4.cls ≠ "java/lang/invoke/MethodHandle" ∧ yJ6_bitCount_0f7a4.cls ≠ "java/lang/invoke/VarHandle" ∧ (parseMethodDescriptor yJ6_bitCount_0f7a4.desc).map (fun d => d.parameters.length) = some 1 := by decide +kernel
theorem hd_X0_daysTo : yX0_daysTo.cls = "HeWreckedHimself$Pilot" ∧ yX0_daysTo.cls ≠ "java/lang/invoke/MethodHandle" ∧ yX0_daysTo.cls ≠ "java/lang/invoke/VarHandle" ∧ (parseMethodDescriptor yX0_daysTo.desc).map (fun d => d.parameters.length) = some 1 := by decide +kernel
theorem hd_X1_left : yX1_left.cls = "HeWreckedHimself$Sea" ∧ yX1_left.cls ≠ "java/lang/invoke/MethodHandle" ∧ yX1_left.cls ≠ "java/lang/invoke/VarHandle" ∧ (parseMethodDescriptor yX1_left.desc).map (fun d => d.parameters.length) = some 0 := by decide +kernel
theorem hd_X1_putLikely : yX1_putLikely.cls = "HeWreckedHimself$Sea" ∧ yX1_putLikely.cls ≠ "java/lang/invoke/MethodHandle" ∧ yX1_putLikely.cls ≠ "java/lang/invoke/VarHandle" ∧ (parseMethodDescriptor yX1_putLikely.desc).map (fun d => d.parameters.length) = some 2 := by decide +kernel
theorem hd_X1_sandBeside : yX1_sandBeside.cls = "HeWreckedHimself$Sea" ∧ yX1_sandBeside.cls ≠ "java/lang/invoke/MethodHandle" ∧ yX1_sandBeside.cls ≠ "java/lang/invoke/VarHandle" ∧ (parseMethodDescriptor yX1_sandBeside.desc).map (fun d => d.parameters.length) = some 1 := by decide +kernel
theorem hd_X1_stepsToPort : yX1_stepsToPort.cls = "HeWreckedHimself$Sea" ∧ yX1_stepsToPort.cls ≠ "java/lang/invoke/MethodHandle" ∧ yX1_stepsToPort.cls ≠ "java/lang/invoke/VarHandle" ∧ (parseMethodDescriptor yX1_stepsToPort.desc).map (fun d => d.parameters.length) = some 1 := by decide +kernel
theorem hd_X2_nextOf : yX2_nextOf.cls = "HeWreckedHimself$Searcher" ∧ yX2_nextOf.cls ≠ "java/lang/invoke/MethodHandle" ∧ yX2_nextOf.cls ≠ "java/lang/invoke/VarHandle" ∧ (parseMethodDescriptor yX2_nextOf.desc).map (fun d => d.parameters.length) = some 2 := by decide +kernel
theorem hd_X3_isTrue : yX3_isTrue.cls = "HeWreckedHimself$Signs" ∧ yX3_isTrue.cls ≠ "java/lang/invoke/MethodHandle" ∧ yX3_isTrue.cls ≠ "java/lang/invoke/VarHandle" ∧ (parseMethodDescriptor yX3_isTrue.desc).map (fun d => d.parameters.length) = some 3 := by decide +kernel
theorem hd_X3_leftBySign : yX3_leftBySign.cls = "HeWreckedHimself$Signs" ∧ yX3_leftBySign.cls ≠ "java/lang/invoke/MethodHandle" ∧ yX3_leftBySign.cls ≠ "java/lang/invoke/VarHandle" ∧ (parseMethodDescriptor yX3_leftBySign.desc).map (fun d => d.parameters.length) = some 3 := by decide +kernel
theorem hd_X3_numberOf : yX3_numberOf.cls = "HeWreckedHimself$Signs" ∧ yX3_numberOf.cls ≠ "java/lang/invoke/MethodHandle" ∧ yX3_numberOf.cls ≠ "java/lang/invoke/VarHandle" ∧ (parseMethodDescriptor yX3_numberOf.desc).map (fun d => d.parameters.length) = some 2 := by decide +kernel
theorem hd_X3_othersLike : yX3_othersLike.cls = "HeWreckedHimself$Signs" ∧ yX3_othersLike.cls ≠ "java/lang/invoke/MethodHandle" ∧ yX3_othersLike.cls ≠ "java/lang/invoke/VarHandle" ∧ (parseMethodDescriptor yX3_othersLike.desc).map (fun d => d.parameters.length) = some 2 := by decide +kernel
theorem hd_X3_put : yX3_put.cls = "HeWreckedHimself$Signs" ∧ yX3_put.cls ≠ "java/lang/invoke/MethodHandle" ∧ yX3_put.cls ≠ "java/lang/invoke/VarHandle" ∧ (parseMethodDescriptor yX3_put.desc).map (fun d => d.parameters.length) = some 3 := by decide +kernel
theorem hd_X3_suit : yX3_suit.cls = "HeWreckedHimself$Signs" ∧ yX3_suit.cls ≠ "java/lang/invoke/MethodHandle" ∧ yX3_suit.cls ≠ "java/lang/invoke/VarHandle" ∧ (parseMethodDescriptor yX3_suit.desc).map (fun d => d.parameters.length) = some 3 := by decide +kernel
theorem hd_X3_tellsAlone : yX3_tellsAlone.cls = "HeWreckedHimself$Signs" ∧ yX3_tellsAlone.cls ≠ "java/lang/invoke/MethodHandle" ∧ yX3_tellsAlone.cls ≠ "java/lang/invoke/VarHandle" ∧ (parseMethodDescriptor yX3_tellsAlone.desc).map (fun d => d.parameters.length) = some 3 := by decide +kernel
theorem hd_X3_weightBySign : yX3_weightBySign.cls = "HeWreckedHimself$Signs" ∧ yX3_weightBySign.cls ≠ "java/lang/invoke/MethodHandle" ∧ yX3_weightBySign.cls ≠ "java/lang/invoke/VarHandle" ∧ (parseMethodDescriptor yX3_weightBySign.desc).map (fun d => d.parameters.length) = some 3 := by decide +kernel
theorem hd_X5_isKind : yX5_isKind.cls ≠ "java/lang/invoke/MethodHandle" ∧ yX5_isKind.cls ≠ "java/lang/invoke/VarHandle" ∧ (parseMethodDescriptor yX5_isKind.desc).map (fun d => d.parameters.length) = some 1 := by decide +kernel
set_option maxHeartbeats 4000000 in
set_option maxRecDepth 20000 in
theorem ct_J6_bitCount_0f7a4 (l : Launch) (d : KD) (x : Int32) : Ct l d yJ6_bitCount_0f7a4 cJ6_bitCount_0f7a4 1 (some .int) { frames := 0, cells := 0, slots := 0, locals := 0 } [.int x] [] 0 0 (fun r wo => r = some (.int (bcI x)) ∧ wo = []) := by
  refine ct_of (own := RJ6) (ini := false) (by decide +kernel) rfl (fun h => by cases h) (Nat.le_of_ble_eq_true rfl) ?_
  intro g X
  show g 0 0 [] [(0, .int x)] 0 []
  refine g_iload_n X dJ6_bitCount_0f7a4_0 rfl 0 rfl ?_
  refine g_iload_n X dJ6_bitCount_0f7a4_1 rfl 0 rfl ?_
  refine g_iconst (v := 1) X dJ6_bitCount_0f7a4_2 (by decide) ?_
  refine g_iushr X dJ6_bitCount_0f7a4_3 ?_
  refine g_ldcw (v := 1431655765) X wd_689 dJ6_bitCount_0f7a4_4 ?_
  refine g_iand X dJ6_bitCount_0f7a4_7 ?_
  refine g_isub X dJ6_bitCount_0f7a4_8 ?_
  refine g_istore_n (lv' := [(0, .int (x - (((x.toUInt32 >>> ((1 : Int32).toUInt32 &&& Int32.toUInt32 31)).toInt32) &&& 1431655765)))]) X dJ6_bitCount_0f7a4_9 rfl (by decide) rfl ?_
  refine g_iload_n X dJ6_bitCount_0f7a4_10 rfl 0 rfl ?_
  refine g_ldcw (v := 858993459) X wd_690 dJ6_bitCount_0f7a4_11 ?_
  refine g_iand X dJ6_bitCount_0f7a4_14 ?_
  refine g_iload_n X dJ6_bitCount_0f7a4_15 rfl 0 rfl ?_
  refine g_iconst (v := 2) X dJ6_bitCount_0f7a4_16 (by decide) ?_
  refine g_iushr X dJ6_bitCount_0f7a4_17 ?_
  refine g_ldcw (v := 858993459) X wd_690 dJ6_bitCount_0f7a4_18 ?_
  refine g_iand X dJ6_bitCount_0f7a4_21 ?_
  refine g_iadd X dJ6_bitCount_0f7a4_22 ?_
  refine g_istore_n (lv' := [(0, .int (((x - (((x.toUInt32 >>> ((1 : Int32).toUInt32 &&& Int32.toUInt32 31)).toInt32) &&& 1431655765)) &&& 858993459) + ((((x - (((x.toUInt32 >>> ((1 : Int32).toUInt32 &&& Int32.toUInt32 31)).toInt32) &&& 1431655765)).toUInt32 >>> ((2 : Int32).toUInt32 &&& Int32.toUInt32 31)).toInt32) &&& 858993459)))]) X dJ6_bitCount_0f7a4_23 rfl (by decide) rfl ?_
  refine g_iload_n X dJ6_bitCount_0f7a4_24 rfl 0 rfl ?_
  refine g_iload_n X dJ6_bitCount_0f7a4_25 rfl 0 rfl ?_
  refine g_iconst (v := 4) X dJ6_bitCount_0f7a4_26 (by decide) ?_
  refine g_iushr X dJ6_bitCount_0f7a4_27 ?_
  refine g_iadd X dJ6_bitCount_0f7a4_28 ?_
  refine g_ldcw (v := 252645135) X wd_691 dJ6_bitCount_0f7a4_29 ?_
  refine g_iand X dJ6_bitCount_0f7a4_32 ?_
  refine g_istore_n (lv' := [(0, .int (((((x - (((x.toUInt32 >>> ((1 : Int32).toUInt32 &&& Int32.toUInt32 31)).toInt32) &&& 1431655765)) &&& 858993459) + ((((x - (((x.toUInt32 >>> ((1 : Int32).toUInt32 &&& Int32.toUInt32 31)).toInt32) &&& 1431655765)).toUInt32 >>> ((2 : Int32).toUInt32 &&& Int32.toUInt32 31)).toInt32) &&& 858993459)) + (((((x - (((x.toUInt32 >>> ((1 : Int32).toUInt32 &&& Int32.toUInt32 31)).toInt32) &&& 1431655765)) &&& 858993459) + ((((x - (((x.toUInt32 >>> ((1 : Int32).toUInt32 &&& Int32.toUInt32 31)).toInt32) &&& 1431655765)).toUInt32 >>> ((2 : Int32).toUInt32 &&& Int32.toUInt32 31)).toInt32) &&& 858993459)).toUInt32 >>> ((4 : Int32).toUInt32 &&& Int32.toUInt32 31)).toInt32)) &&& 252645135))]) X dJ6_bitCount_0f7a4_33 rfl (by decide) rfl ?_
  refine g_iload_n X dJ6_bitCount_0f7a4_34 rfl 0 rfl ?_
  refine g_iload_n X dJ6_bitCount_0f7a4_35 rfl 0 rfl ?_
  refine g_bipush (v := 8) X dJ6_bitCount_0f7a4_36 (by decide) ?_
  refine g_iushr X dJ6_bitCount_0f7a4_38 ?_
  refine g_iadd X dJ6_bitCount_0f7a4_39 ?_
  refine g_istore_n (lv' := [(0, .int ((((((x - (((x.toUInt32 >>> ((1 : Int32).toUInt32 &&& Int32.toUInt32 31)).toInt32) &&& 1431655765)) &&& 858993459) + ((((x - (((x.toUInt32 >>> ((1 : Int32).toUInt32 &&& Int32.toUInt32 31)).toInt32) &&& 1431655765)).toUInt32 >>> ((2 : Int32).toUInt32 &&& Int32.toUInt32 31)).toInt32) &&& 858993459)) + (((((x - (((x.toUInt32 >>> ((1 : Int32).toUInt32 &&& Int32.toUInt32 31)).toInt32) &&& 1431655765)) &&& 858993459) + ((((x - (((x.toUInt32 >>> ((1 : Int32).toUInt32 &&& Int32.toUInt32 31)).toInt32) &&& 1431655765)).toUInt32 >>> ((2 : Int32).toUInt32 &&& Int32.toUInt32 31)).toInt32) &&& 858993459)).toUInt32 >>> ((4 : Int32).toUInt32 &&& Int32.toUInt32 31)).toInt32)) &&& 252645135) + (((((((x - (((x.toUInt32 >>> ((1 : Int32).toUInt32 &&& Int32.toUInt32 31)).toInt32) &&& 1431655765)) &&& 858993459) + ((((x - (((x.toUInt32 >>> ((1 : Int32).toUInt32 &&& Int32.toUInt32 31)).toInt32) &&& 1431655765)).toUInt32 >>> ((2 : Int32).toUInt32 &&& Int32.toUInt32 31)).toInt32) &&& 858993459)) + (((((x - (((x.toUInt32 >>> ((1 : Int32).toUInt32 &&& Int32.toUInt32 31)).toInt32) &&& 1431655765)) &&& 858993459) + ((((x - (((x.toUInt32 >>> ((1 : Int32).toUInt32 &&& Int32.toUInt32 31)).toInt32) &&& 1431655765)).toUInt32 >>> ((2 : Int32).toUInt32 &&& Int32.toUInt32 31)).toInt32) &&& 858993459)).toUInt32 >>> ((4 : Int32).toUInt32 &&& Int32.toUInt32 31)).toInt32)) &&& 252645135).toUInt32 >>> ((8 : Int32).toUInt32 &&& Int32.toUInt32 31)).toInt32)))]) X dJ6_bitCount_0f7a4_40 rfl (by decide) rfl ?_
  refine g_iload_n X dJ6_bitCount_0f7a4_41 rfl 0 rfl ?_
  refine g_iload_n X dJ6_bitCount_0f7a4_42 rfl 0 rfl ?_
  refine g_bipush (v := 16) X dJ6_bitCount_0f7a4_43 (by decide) ?_
  refine g_iushr X dJ6_bitCount_0f7a4_45 ?_
  refine g_iadd X dJ6_bitCount_0f7a4_46 ?_
  refine g_istore_n (lv' := [(0, .int (((((((x - (((x.toUInt32 >>> ((1 : Int32).toUInt32 &&& Int32.toUInt32 31)).toInt32) &&& 1431655765)) &&& 858993459) + ((((x - (((x.toUInt32 >>> ((1 : Int32).toUInt32 &&& Int32.toUInt32 31)).toInt32) &&& 1431655765)).toUInt32 >>> ((2 : Int32).toUInt32 &&& Int32.toUInt32 31)).toInt32) &&& 858993459)) + (((((x - (((x.toUInt32 >>> ((1 : Int32).toUInt32 &&& Int32.toUInt32 31)).toInt32) &&& 1431655765)) &&& 858993459) + ((((x - (((x.toUInt32 >>> ((1 : Int32).toUInt32 &&& Int32.toUInt32 31)).toInt32) &&& 1431655765)).toUInt32 >>> ((2 : Int32).toUInt32 &&& Int32.toUInt32 31)).toInt32) &&& 858993459)).toUInt32 >>> ((4 : Int32).toUInt32 &&& Int32.toUInt32 31)).toInt32)) &&& 252645135) + (((((((x - (((x.toUInt32 >>> ((1 : Int32).toUInt32 &&& Int32.toUInt32 31)).toInt32) &&& 1431655765)) &&& 858993459) + ((((x - (((x.toUInt32 >>> ((1 : Int32).toUInt32 &&& Int32.toUInt32 31)).toInt32) &&& 1431655765)).toUInt32 >>> ((2 : Int32).toUInt32 &&& Int32.toUInt32 31)).toInt32) &&& 858993459)) + (((((x - (((x.toUInt32 >>> ((1 : Int32).toUInt32 &&& Int32.toUInt32 31)).toInt32) &&& 1431655765)) &&& 858993459) + ((((x - (((x.toUInt32 >>> ((1 : Int32).toUInt32 &&& Int32.toUInt32 31)).toInt32) &&& 1431655765)).toUInt32 >>> ((2 : Int32).toUInt32 &&& Int32.toUInt32 31)).toInt32) &&& 858993459)).toUInt32 >>> ((4 : Int32).toUInt32 &&& Int32.toUInt32 31)).toInt32)) &&& 252645135).toUInt32 >>> ((8 : Int32).toUInt32 &&& Int32.toUInt32 31)).toInt32)) + ((((((((x - (((x.toUInt32 >>> ((1 : Int32).toUInt32 &&& Int32.toUInt32 31)).toInt32) &&& 1431655765)) &&& 858993459) + ((((x - (((x.toUInt32 >>> ((1 : Int32).toUInt32 &&& Int32.toUInt32 31)).toInt32) &&& 1431655765)).toUInt32 >>> ((2 : Int32).toUInt32 &&& Int32.toUInt32 31)).toInt32) &&& 858993459)) + (((((x - (((x.toUInt32 >>> ((1 : Int32).toUInt32 &&& Int32.toUInt32 31)).toInt32) &&& 1431655765)) &&& 858993459) + ((((x - (((x.toUInt32 >>> ((1 : Int32).toUInt32 &&& Int32.toUInt32 31)).toInt32) &&& 1431655765)).toUInt32 >>> ((2 : Int32).toUInt32 &&& Int32.toUInt32 31)).toInt32) &&& 858993459)).toUInt32 >>> ((4 : Int32).toUInt32 &&& Int32.toUInt32 31)).toInt32)) &&& 252645135) + (((((((x - (((x.toUInt32 >>> ((1 : Int32).toUInt32 &&& Int32.toUInt32 31)).toInt32) &&& 1431655765)) &&& 858993459) + ((((x - (((x.toUInt32 >>> ((1 : Int32).toUInt32 &&& Int32.toUInt32 31)).toInt32) &&& 1431655765)).toUInt32 >>> ((2 : Int32).toUInt32 &&& Int32.toUInt32 31)).toInt32) &&& 858993459)) + (((((x - (((x.toUInt32 >>> ((1 : Int32).toUInt32 &&& Int32.toUInt32 31)).toInt32) &&& 1431655765)) &&& 858993459) + ((((x - (((x.toUInt32 >>> ((1 : Int32).toUInt32 &&& Int32.toUInt32 31)).toInt32) &&& 1431655765)).toUInt32 >>> ((2 : Int32).toUInt32 &&& Int32.toUInt32 31)).toInt32) &&& 858993459)).toUInt32 >>> ((4 : Int32).toUInt32 &&& Int32.toUInt32 31)).toInt32)) &&& 252645135).toUInt32 >>> ((8 : Int32).toUInt32 &&& Int32.toUInt32 31)).toInt32)).toUInt32 >>> ((16 : Int32).toUInt32 &&& Int32.toUInt32 31)).toInt32)))]) X dJ6_bitCount_0f7a4_47 rfl (by decide) rfl ?_
  refine g_iload_n X dJ6_bitCount_0f7a4_48 rfl 0 rfl ?_
  refine g_bipush (v := 63) X dJ6_bitCount_0f7a4_49 (by decide) ?_
  refine g_iand X dJ6_bitCount_0f7a4_51 ?_
  exact g_end X (gE_i dJ6_bitCount_0f7a4_52 (rfl) (Nat.le_of_ble_eq_true rfl) (Nat.le_of_ble_eq_true rfl) ⟨congrArg (fun z => some (Value.int z)) (by rfl), rfl⟩)
set_option maxHeartbeats 4000000 in
set_option maxRecDepth 20000 in
theorem ct_X3_put (l : Launch) (d : KD) (s0 s1 : Nat) (M : Nat → Int32) (k j : Nat) (v : Int32) (hk : k < 6) (hj : j < 36) : Ct l d yX3_put cX3_put 4 none { frames := 1, cells := 0, slots := 0, locals := 20 } [.ref s0, .int (nI k), .int (nI j), .int v] [(s0, cO 3 [.ref s1]), (s1, cI d 216 M)] 0 0 (fun r wo => r = none ∧ wo = [(s0, cO 3 [.ref s1]), (s1, cI d 216 (upd M (k * 36 + j) v))]) := by
  refine ct_of (own := RX3) (ini := false) (by decide +kernel) rfl (fun h => by cases h) (Nat.le_of_ble_eq_true rfl) ?_
  intro g X
  show g 0 0 [(s0, cO 3 [.ref s1]), (s1, cI d 216 M)] [(0, .ref s0), (1, .int (nI k)), (2, .int (nI j)), (3, .int v)] 0 []
  refine g_iload_n X dX3_put_0 rfl 1 rfl ?_
  refine g_dSN (host := "HeWreckedHimself") (n := 1) (wr := [(s0, cO 3 [.ref s1]), (s1, cI d 216 M)]) (ws' := [(s0, cO 3 [.ref s1]), (s1, cI d 216 M)]) (st' := [.int (b2i (kd (nI k)))]) (As := [.int (nI k)]) (st := []) X (ct_X5_isKind l d (nI k)) wd_408 (by decide +kernel) wd_407 wd_52 hd_X5_isKind ⟨(Nat.le_of_ble_eq_true rfl), (Nat.le_of_ble_eq_true rfl)⟩ rfl rfl dX3_put_1 ⟨(Nat.le_of_ble_eq_true rfl), (Nat.le_of_ble_eq_true rfl)⟩ rfl rfl (Nat.le_of_ble_eq_true rfl) [] [0, 1] rfl rfl rfl rfl rfl (by decide) [0, 1] rfl rfl rfl rfl ?_
  refine g_ifB_eq X 26 dX3_put_4 (by decide) (fun c4_1 => absurd (nI_kd hk) c4_1) (fun c4_1 => ?_)
  refine g_iload_n X dX3_put_7 rfl 2 rfl ?_
  refine g_dSN (host := "HeWreckedHimself") (n := 1) (wr := [(s0, cO 3 [.ref s1]), (s1, cI d 216 M)]) (ws' := [(s0, cO 3 [.ref s1]), (s1, cI d 216 M)]) (st' := [.int (b2i (sq (nI j)))]) (As := [.int (nI j)]) (st := []) X (ct_X5_isSquare l d (nI j)) wd_365 (by decide +kernel) wd_364 wd_52 hd_X5_isSquare ⟨(Nat.le_of_ble_eq_true rfl), (Nat.le_of_ble_eq_true rfl)⟩ rfl rfl dX3_put_8 ⟨(Nat.le_of_ble_eq_true rfl), (Nat.le_of_ble_eq_true rfl)⟩ rfl rfl (Nat.le_of_ble_eq_true rfl) [] [0, 1] rfl rfl rfl rfl rfl (by decide) [0, 1] rfl rfl rfl rfl ?_
  refine g_ifB_eq X 26 dX3_put_11 (by decide) (fun c11_2 => absurd (nI_sq hj) c11_2) (fun c11_2 => ?_)
  refine g_aload_n X dX3_put_14 rfl 0 rfl ?_
  refine g_get (C := RX3) (T := TX3) (N := 1) (ci := 3) (v := .ref s1) X rfl inT3 0 (by decide) wd_128 rfl dX3_put_15 0 rfl rfl ?_
  refine g_iload_n X dX3_put_18 rfl 1 rfl ?_
  refine g_bipush (v := 36) X dX3_put_19 (by decide) ?_
  refine g_imul X dX3_put_21 ?_
  refine g_tope (y := nI (k * 36)) (nI_mulN _ _) ?_
  refine g_iload_n X dX3_put_22 rfl 2 rfl ?_
  refine g_iadd X dX3_put_23 ?_
  refine g_tope (y := nI ((k * 36) + j)) (nI_add _ _) ?_
  refine g_iload_n X dX3_put_24 rfl 3 rfl ?_
  refine g_iastore_N (k := ((k * 36) + j)) (ws' := [(s0, cO 3 [.ref s1]), (s1, cI d 216 (upd M ((k * 36) + j) v))]) X rfl dX3_put_25 1 rfl (by first | assumption | omega) (by omega) rfl ?_
  exact g_end X (gE_v dX3_put_26 (Nat.le_of_ble_eq_true rfl) (Nat.le_of_ble_eq_true rfl) ⟨rfl, ws_cons (rfl) (ws_cons (cI_eq (by rfl)) (rfl))⟩)
set_option maxHeartbeats 4000000 in
set_option maxRecDepth 20000 in
theorem ct_X3_numberOf (l : Launch) (d : KD) (s0 s1 : Nat) (T : Nat → Nat → Int32) (k j : Nat) (hk : k < 6) (hj : j < 36) : Ct l d yX3_numberOf cX3_numberOf 4 (some .int) { frames := 0, cells := 0, slots := 0, locals := 0 } [.ref s0, .int (nI k), .int (nI j)] [(s0, cO 3 [.ref s1]), (s1, cI d 216 (sF T))] 0 0 (fun r wo => r = some (.int (T k j)) ∧ wo = [(s0, cO 3 [.ref s1]), (s1, cI d 216 (sF T))]) := by
  refine ct_of (own := RX3) (ini := false) (by decide +kernel) rfl (fun h => by cases h) (Nat.le_of_ble_eq_true rfl) ?_
  intro g X
  show g 0 0 [(s0, cO 3 [.ref s1]), (s1, cI d 216 (sF T))] [(0, .ref s0), (1, .int (nI k)), (2, .int (nI j))] 0 []
  refine g_iload_n X dX3_numberOf_0 rfl 1 rfl ?_
  refine g_ifN_lt (a := k) X rfl (by omega) 24 dX3_numberOf_1 (by decide) (fun c1_1 => absurd c1_1 (by omega)) (fun c1_1 => ?_)
  refine g_iload_n X dX3_numberOf_4 rfl 1 rfl ?_
  refine g_bipush (v := 6) X dX3_numberOf_5 (by decide) ?_
  refine g_icmpN_ge (a := k) (b := 6) X rfl rfl (by omega) (by omega) 24 dX3_numberOf_7 (by decide) (fun c7_2 => absurd hk (by omega)) (fun c7_2 => ?_)
  refine g_iload_n X dX3_numberOf_10 rfl 2 rfl ?_
  refine g_ifN_lt (a := j) X rfl (by omega) 24 dX3_numberOf_11 (by decide) (fun c11_3 => absurd c11_3 (by omega)) (fun c11_3 => ?_)
  refine g_iload_n X dX3_numberOf_14 rfl 2 rfl ?_
  refine g_bipush (v := 36) X dX3_numberOf_15 (by decide) ?_
  refine g_icmpN_ge (a := j) (b := 36) X rfl rfl (by omega) (by omega) 24 dX3_numberOf_17 (by decide) (fun c17_4 => absurd hj (by omega)) (fun c17_4 => ?_)
  refine g_iconst (v := 1) X dX3_numberOf_20 (by decide) ?_
  refine g_goto X 25 dX3_numberOf_21 (by decide) ?_
  refine g_istore_n (lv' := [(3, .int 1), (0, .ref s0), (1, .int (nI k)), (2, .int (nI j))]) X dX3_numberOf_25 rfl (by decide) rfl ?_
  refine g_iload_n X dX3_numberOf_26 rfl 0 rfl ?_
  refine g_if_eq X 44 dX3_numberOf_27 (by decide) (fun h => absurd h (by decide)) (fun _ => ?_)
  refine g_aload_n X dX3_numberOf_30 rfl 1 rfl ?_
  refine g_get (C := RX3) (T := TX3) (N := 1) (ci := 3) (v := .ref s1) X rfl inT3 0 (by decide) wd_128 rfl dX3_numberOf_31 0 rfl rfl ?_
  refine g_iload_n X dX3_numberOf_34 rfl 2 rfl ?_
  refine g_bipush (v := 36) X dX3_numberOf_35 (by decide) ?_
  refine g_imul X dX3_numberOf_37 ?_
  refine g_tope (y := nI (k * 36)) (nI_mulN _ _) ?_
  refine g_iload_n X dX3_numberOf_38 rfl 3 rfl ?_
  refine g_iadd X dX3_numberOf_39 ?_
  refine g_tope (y := nI ((k * 36) + j)) (nI_add _ _) ?_
  refine g_iaload_N (k := ((k * 36) + j)) X rfl dX3_numberOf_40 1 rfl (by first | assumption | omega) (by omega) ?_
  refine g_goto X 46 dX3_numberOf_41 (by decide) ?_
  refine g_tope (y := T k j) (sF_at hj) ?_
  exact g_end X (gE_i dX3_numberOf_46 (rfl) (Nat.le_of_ble_eq_true rfl) (Nat.le_of_ble_eq_true rfl) ⟨rfl, rfl⟩)
set_option maxHeartbeats 4000000 in
set_option maxRecDepth 20000 in
theorem ct_X3_isTrue (l : Launch) (d : KD) (s0 s1 : Nat) (T : Nat → Nat → Int32) (k j : Nat) (n : Int32) (hk : k < 6) (hj : j < 36) : Ct l d yX3_isTrue cX3_isTrue 5 (some .boolean) { frames := 1, cells := 0, slots := 0, locals := 23 } [.ref s0, .int (nI k), .int n, .int (nI j)] [(s0, cO 3 [.ref s1]), (s1, cI d 216 (sF T))] 0 0 (fun r wo => r = some (.int (b2i (tru T k n j))) ∧ wo = [(s0, cO 3 [.ref s1]), (s1, cI d 216 (sF T))]) := by
  refine ct_of (own := RX3) (ini := false) (by decide +kernel) rfl (fun h => by cases h) (Nat.le_of_ble_eq_true rfl) ?_
  intro g X
  show g 0 0 [(s0, cO 3 [.ref s1]), (s1, cI d 216 (sF T))] [(0, .ref s0), (1, .int (nI k)), (2, .int n), (3, .int (nI j))] 0 []
  refine g_aload_n X dX3_isTrue_0 rfl 0 rfl ?_
  refine g_iload_n X dX3_isTrue_1 rfl 1 rfl ?_
  refine g_iload_n X dX3_isTrue_2 rfl 3 rfl ?_
  refine g_dV (ci := 3) (q0 := 0) (n := 2) (wr := []) (ws' := [(s0, cO 3 [.ref s1]), (s1, cI d 216 (sF T))]) (st' := [.int (T k j)]) (As := [.int (nI k), .int (nI j)]) (st := []) X (ct_X3_numberOf l d s0 s1 T k j (by first | assumption | omega) (by first | assumption | omega)) wd_499 wd_496 wd_497 wd_498 wd_56 hd_X3_numberOf rfl ⟨(Nat.le_of_ble_eq_true rfl), (Nat.le_of_ble_eq_true rfl)⟩ rfl rfl dX3_isTrue_3 ⟨(Nat.le_of_ble_eq_true rfl), (Nat.le_of_ble_eq_true rfl)⟩ rfl rfl (Nat.le_of_ble_eq_true rfl) [0, 1] [] rfl rfl rfl rfl rfl (by decide) rfl [0, 1] rfl rfl rfl rfl ?_
  refine g_istore (lv' := [(4, .int (T k j)), (0, .ref s0), (1, .int (nI k)), (2, .int n), (3, .int (nI j))]) X dX3_isTrue_6 (by decide) rfl ?_
  refine g_iload X dX3_isTrue_8 0 rfl ?_
  refine g_bipush (v := (-9)) X dX3_isTrue_10 (by decide) ?_
  refine g_icmp_ne X 17 dX3_isTrue_12 (by decide) (fun c12_1 => ?_) (fun c12_1 => ?_)
  · refine g_iload_n X dX3_isTrue_17 rfl 2 rfl ?_
    refine g_iconst (v := 1) X dX3_isTrue_18 (by decide) ?_
    refine g_icmpN_ne (a := k) (b := 1) X rfl rfl (by omega) (by omega) 36 dX3_isTrue_19 (by decide) (fun c19_2 => ?_) (fun c19_2 => ?_)
    · refine g_iload X dX3_isTrue_36 0 rfl ?_
      refine g_iload_n X dX3_isTrue_38 rfl 3 rfl ?_
      refine g_icmp_ne X 46 dX3_isTrue_39 (by decide) (fun c39_3 => ?_) (fun c39_3 => ?_)
      · refine g_iconst (v := 0) X dX3_isTrue_46 (by decide) ?_
        exact g_end X (gE_i dX3_isTrue_47 (rfl) (Nat.le_of_ble_eq_true rfl) (Nat.le_of_ble_eq_true rfl) ⟨congrArg (fun z => some (Value.int z)) (by first | exact (b2i_t (by grind)).symm | exact (b2i_f (by grind)).symm), rfl⟩)
      · refine g_iconst (v := 1) X dX3_isTrue_42 (by decide) ?_
        refine g_goto X 47 dX3_isTrue_43 (by decide) ?_
        exact g_end X (gE_i dX3_isTrue_47 (rfl) (Nat.le_of_ble_eq_true rfl) (Nat.le_of_ble_eq_true rfl) ⟨congrArg (fun z => some (Value.int z)) (by first | exact (b2i_t (by grind)).symm | exact (b2i_f (by grind)).symm), rfl⟩)
    · refine g_iload X dX3_isTrue_22 0 rfl ?_
      refine g_iload_n X dX3_isTrue_24 rfl 3 rfl ?_
      refine g_icmp_gt X 32 dX3_isTrue_25 (by decide) (fun c25_4 => ?_) (fun c25_4 => ?_)
      · refine g_iconst (v := 0) X dX3_isTrue_32 (by decide) ?_
        refine g_goto X 47 dX3_isTrue_33 (by decide) ?_
        exact g_end X (gE_i dX3_isTrue_47 (rfl) (Nat.le_of_ble_eq_true rfl) (Nat.le_of_ble_eq_true rfl) ⟨congrArg (fun z => some (Value.int z)) (by first | exact (b2i_t (by grind)).symm | exact (b2i_f (by grind)).symm), rfl⟩)
      · refine g_iconst (v := 1) X dX3_isTrue_28 (by decide) ?_
        refine g_goto X 47 dX3_isTrue_29 (by decide) ?_
        exact g_end X (gE_i dX3_isTrue_47 (rfl) (Nat.le_of_ble_eq_true rfl) (Nat.le_of_ble_eq_true rfl) ⟨congrArg (fun z => some (Value.int z)) (by first | exact (b2i_t (by grind)).symm | exact (b2i_f (by grind)).symm), rfl⟩)
  · refine g_iconst (v := 0) X dX3_isTrue_15 (by decide) ?_
    exact g_end X (gE_i dX3_isTrue_16 (rfl) (Nat.le_of_ble_eq_true rfl) (Nat.le_of_ble_eq_true rfl) ⟨congrArg (fun z => some (Value.int z)) (by first | exact (b2i_t (by grind)).symm | exact (b2i_f (by grind)).symm), rfl⟩)
set_option maxHeartbeats 4000000 in
set_option maxRecDepth 20000 in
theorem ct_X3_leftBySign (l : Launch) (d : KD) (h0 q1 q2 q3 : Nat) (K L S : Nat → Int32) (s0 s1 : Nat) (T : Nat → Nat → Int32) (k : Nat) (n : Int32) (hk : k < 6) : Ct l d yX3_leftBySign cX3_leftBySign 6 (some .int) { frames := 2, cells := 0, slots := 0, locals := 47 } [.ref s0, .ref h0, .int (nI k), .int n] [(h0, cO 1 [.ref q1, .ref q2, .ref q3]), (q1, cI d 36 K), (q2, cI d 36 L), (q3, cI d 5 S), (s0, cO 3 [.ref s1]), (s1, cI d 216 (sF T))] 0 0 (fun r wo => r = some (.int (nI (lbs T L k n))) ∧ wo = [(h0, cO 1 [.ref q1, .ref q2, .ref q3]), (q1, cI d 36 K), (q2, cI d 36 L), (q3, cI d 5 S), (s0, cO 3 [.ref s1]), (s1, cI d 216 (sF T))]) := by
  refine ct_of (own := RX3) (ini := false) (by decide +kernel) rfl (fun h => by cases h) (Nat.le_of_ble_eq_true rfl) ?_
  intro g X
  show g 0 0 [(h0, cO 1 [.ref q1, .ref q2, .ref q3]), (q1, cI d 36 K), (q2, cI d 36 L), (q3, cI d 5 S), (s0, cO 3 [.ref s1]), (s1, cI d 216 (sF T))] [(0, .ref s0), (1, .ref h0), (2, .int (nI k)), (3, .int n)] 0 []
  refine g_iconst (v := 0) X dX3_leftBySign_0 (by decide) ?_
  refine g_istore (lv' := [(4, .int 0), (0, .ref s0), (1, .ref h0), (2, .int (nI k)), (3, .int n)]) X dX3_leftBySign_1 (by decide) rfl ?_
  refine g_iconst (v := 0) X dX3_leftBySign_3 (by decide) ?_
  refine g_istore (lv' := [(5, .int 0), (4, .int 0), (0, .ref s0), (1, .ref h0), (2, .int (nI k)), (3, .int n)]) X dX3_leftBySign_4 (by decide) rfl ?_
  have at_6 : ∀ (n_ : Nat) (i : Nat) (hi : i ≤ 36), (36 - i) < n_ → g 0 0 [(h0, cO 1 [.ref q1, .ref q2, .ref q3]), (q1, cI d 36 K), (q2, cI d 36 L), (q3, cI d 5 S), (s0, cO 3 [.ref s1]), (s1, cI d 216 (sF T))] [(0, .ref s0), (1, .ref h0), (2, .int (nI k)), (3, .int n), (4, .int (nI (cnt (fun q => 0 < L q ∧ tru T k n q) i))), (5, .int (nI i))] 6 [] := by
    intro n_
    induction n_ with
    | zero => intro i hi hn_; exact absurd hn_ (Nat.not_lt_zero _)
    | succ n_ ih_6 =>
      intro i hi hn_6
      refine g_iload X dX3_leftBySign_6 5 rfl ?_
      refine g_bipush (v := 36) X dX3_leftBySign_8 (by decide) ?_
      refine g_icmpN_ge (a := i) (b := 36) X rfl rfl (by omega) (by omega) 42 dX3_leftBySign_10 (by decide) (fun c10_1 => ?_) (fun c10_1 => ?_)
      · refine g_iload X dX3_leftBySign_42 4 rfl ?_
        exact g_end X (gE_i dX3_leftBySign_44 (rfl) (Nat.le_of_ble_eq_true rfl) (Nat.le_of_ble_eq_true rfl) ⟨congrArg (fun z => some (Value.int z)) (by rw [show i = 36 by omega]; rfl), rfl⟩)
      · refine g_aload_n X dX3_leftBySign_13 rfl 1 rfl ?_
        refine g_iload X dX3_leftBySign_14 5 rfl ?_
        refine g_dV (ci := 1) (q0 := 0) (n := 1) (wr := [(s0, cO 3 [.ref s1]), (s1, cI d 216 (sF T))]) (ws' := [(h0, cO 1 [.ref q1, .ref q2, .ref q3]), (q1, cI d 36 K), (q2, cI d 36 L), (q3, cI d 5 S), (s0, cO 3 [.ref s1]), (s1, cI d 216 (sF T))]) (st' := [.int (L i)]) (As := [.int (nI i)]) (st := []) X (ct_X1_likelyAt l d h0 q1 q2 q3 K L S i (by first | assumption | omega)) wd_491 wd_488 wd_489 wd_490 wd_53 hd_X1_likelyAt rfl ⟨(Nat.le_of_ble_eq_true rfl), (Nat.le_of_ble_eq_true rfl)⟩ rfl rfl dX3_leftBySign_16 ⟨(Nat.le_of_ble_eq_true rfl), (Nat.le_of_ble_eq_true rfl)⟩ rfl rfl (Nat.le_of_ble_eq_true rfl) [0, 1, 2, 3] [4, 5] rfl rfl rfl rfl rfl (by decide) rfl [2, 3, 4, 5, 0, 1] rfl rfl rfl rfl ?_
        refine g_if_le X 36 dX3_leftBySign_19 (by decide) (fun c19_2 => ?_) (fun c19_2 => ?_)
        · refine g_iinc (v := nI (i + 1)) (lv' := [(5, .int (nI (i + 1))), (0, .ref s0), (1, .ref h0), (2, .int (nI k)), (3, .int n), (4, .int (nI (cnt (fun q => 0 < L q ∧ tru T k n q) i)))]) X dX3_leftBySign_36 5 rfl (nI_inc _) (by decide) rfl ?_
          refine g_goto X 6 dX3_leftBySign_39 (by decide) ?_
          refine g_lv (lv' := [(0, .ref s0), (1, .ref h0), (2, .int (nI k)), (3, .int n), (4, .int (nI (cnt (fun q => 0 < L q ∧ tru T k n q) i))), (5, .int (nI (i + 1)))]) X [1, 2, 3, 4, 5, 0] rfl ?_
          exact g_eq (ws' := [(h0, cO 1 [.ref q1, .ref q2, .ref q3]), (q1, cI d 36 K), (q2, cI d 36 L), (q3, cI d 5 S), (s0, cO 3 [.ref s1]), (s1, cI d 216 (sF T))]) (lv' := [(0, .ref s0), (1, .ref h0), (2, .int (nI k)), (3, .int n), (4, .int (nI (cnt (fun q => 0 < L q ∧ tru T k n q) (i + 1)))), (5, .int (nI (i + 1)))]) (rfl) (lv_cons (rfl) (lv_cons (rfl) (lv_cons (rfl) (lv_cons (rfl) (lv_cons (vI (cnt_F (fun z => absurd z.1 (Int32.not_lt.mpr (by assumption))))) (lv_cons (rfl) (rfl))))))) (ih_6 (i + 1) (by first | assumption | omega) (by omega))
        · refine g_aload_n X dX3_leftBySign_22 rfl 0 rfl ?_
          refine g_iload_n X dX3_leftBySign_23 rfl 2 rfl ?_
          refine g_iload_n X dX3_leftBySign_24 rfl 3 rfl ?_
          refine g_iload X dX3_leftBySign_25 5 rfl ?_
          refine g_dV (ci := 3) (q0 := 0) (n := 3) (wr := [(h0, cO 1 [.ref q1, .ref q2, .ref q3]), (q1, cI d 36 K), (q2, cI d 36 L), (q3, cI d 5 S)]) (ws' := [(h0, cO 1 [.ref q1, .ref q2, .ref q3]), (q1, cI d 36 K), (q2, cI d 36 L), (q3, cI d 5 S), (s0, cO 3 [.ref s1]), (s1, cI d 216 (sF T))]) (st' := [.int (b2i (tru T k n i))]) (As := [.int (nI k), .int n, .int (nI i)]) (st := []) X (ct_X3_isTrue l d s0 s1 T k i n (by first | assumption | omega) (by first | assumption | omega)) wd_495 wd_492 wd_493 wd_494 wd_56 hd_X3_isTrue rfl ⟨(Nat.le_of_ble_eq_true rfl), (Nat.le_of_ble_eq_true rfl)⟩ rfl rfl dX3_leftBySign_27 ⟨(Nat.le_of_ble_eq_true rfl), (Nat.le_of_ble_eq_true rfl)⟩ rfl rfl (Nat.le_of_ble_eq_true rfl) [4, 5] [0, 1, 2, 3] rfl rfl rfl rfl rfl (by decide) rfl [0, 1, 2, 3, 4, 5] rfl rfl rfl rfl ?_
          refine g_ifB_eq X 36 dX3_leftBySign_30 (by decide) (fun c30_3 => ?_) (fun c30_3 => ?_)
          · refine g_iinc (v := nI (i + 1)) (lv' := [(5, .int (nI (i + 1))), (0, .ref s0), (1, .ref h0), (2, .int (nI k)), (3, .int n), (4, .int (nI (cnt (fun q => 0 < L q ∧ tru T k n q) i)))]) X dX3_leftBySign_36 5 rfl (nI_inc _) (by decide) rfl ?_
            refine g_goto X 6 dX3_leftBySign_39 (by decide) ?_
            refine g_lv (lv' := [(0, .ref s0), (1, .ref h0), (2, .int (nI k)), (3, .int n), (4, .int (nI (cnt (fun q => 0 < L q ∧ tru T k n q) i))), (5, .int (nI (i + 1)))]) X [1, 2, 3, 4, 5, 0] rfl ?_
            exact g_eq (ws' := [(h0, cO 1 [.ref q1, .ref q2, .ref q3]), (q1, cI d 36 K), (q2, cI d 36 L), (q3, cI d 5 S), (s0, cO 3 [.ref s1]), (s1, cI d 216 (sF T))]) (lv' := [(0, .ref s0), (1, .ref h0), (2, .int (nI k)), (3, .int n), (4, .int (nI (cnt (fun q => 0 < L q ∧ tru T k n q) (i + 1)))), (5, .int (nI (i + 1)))]) (rfl) (lv_cons (rfl) (lv_cons (rfl) (lv_cons (rfl) (lv_cons (rfl) (lv_cons (vI (cnt_F (fun z => absurd z.2 (by assumption)))) (lv_cons (rfl) (rfl))))))) (ih_6 (i + 1) (by first | assumption | omega) (by omega))
          · refine g_iinc (v := nI (cnt (fun q => 0 < L q ∧ tru T k n q) i + 1)) (lv' := [(4, .int (nI (cnt (fun q => 0 < L q ∧ tru T k n q) i + 1))), (0, .ref s0), (1, .ref h0), (2, .int (nI k)), (3, .int n), (5, .int (nI i))]) X dX3_leftBySign_33 4 rfl (nI_inc _) (by decide) rfl ?_
            refine g_iinc (v := nI (i + 1)) (lv' := [(5, .int (nI (i + 1))), (4, .int (nI (cnt (fun q => 0 < L q ∧ tru T k n q) i + 1))), (0, .ref s0), (1, .ref h0), (2, .int (nI k)), (3, .int n)]) X dX3_leftBySign_36 5 rfl (nI_inc _) (by decide) rfl ?_
            refine g_goto X 6 dX3_leftBySign_39 (by decide) ?_
            refine g_lv (lv' := [(0, .ref s0), (1, .ref h0), (2, .int (nI k)), (3, .int n), (4, .int (nI (cnt (fun q => 0 < L q ∧ tru T k n q) i + 1))), (5, .int (nI (i + 1)))]) X [2, 3, 4, 5, 1, 0] rfl ?_
            exact g_eq (ws' := [(h0, cO 1 [.ref q1, .ref q2, .ref q3]), (q1, cI d 36 K), (q2, cI d 36 L), (q3, cI d 5 S), (s0, cO 3 [.ref s1]), (s1, cI d 216 (sF T))]) (lv' := [(0, .ref s0), (1, .ref h0), (2, .int (nI k)), (3, .int n), (4, .int (nI (cnt (fun q => 0 < L q ∧ tru T k n q) (i + 1)))), (5, .int (nI (i + 1)))]) (rfl) (lv_cons (rfl) (lv_cons (rfl) (lv_cons (rfl) (lv_cons (rfl) (lv_cons (vI (cnt_T ⟨Int32.not_le.mp (by assumption), by assumption⟩)) (lv_cons (rfl) (rfl))))))) (ih_6 (i + 1) (by first | assumption | omega) (by omega))
  refine g_lv (lv' := [(0, .ref s0), (1, .ref h0), (2, .int (nI k)), (3, .int n), (4, .int 0), (5, .int 0)]) X [2, 3, 4, 5, 1, 0] rfl ?_
  exact g_eq (ws' := [(h0, cO 1 [.ref q1, .ref q2, .ref q3]), (q1, cI d 36 K), (q2, cI d 36 L), (q3, cI d 5 S), (s0, cO 3 [.ref s1]), (s1, cI d 216 (sF T))]) (lv' := [(0, .ref s0), (1, .ref h0), (2, .int (nI k)), (3, .int n), (4, .int (nI (cnt (fun q => 0 < L q ∧ tru T k n q) 0))), (5, .int (nI 0))]) (rfl) (lv_cons (rfl) (lv_cons (rfl) (lv_cons (rfl) (lv_cons (rfl) (lv_cons (vI (by rfl)) (lv_cons (vI (by rfl)) (rfl))))))) (at_6 _ 0 (by first | assumption | omega) (Nat.lt_succ_self _))
set_option maxHeartbeats 4000000 in
set_option maxRecDepth 20000 in
theorem ct_X3_weightBySign (l : Launch) (d : KD) (h0 q1 q2 q3 : Nat) (K L S : Nat → Int32) (s0 s1 : Nat) (T : Nat → Nat → Int32) (k : Nat) (n : Int32) (hk : k < 6) : Ct l d yX3_weightBySign cX3_weightBySign 6 (some .int) { frames := 2, cells := 0, slots := 0, locals := 47 } [.ref s0, .ref h0, .int (nI k), .int n] [(h0, cO 1 [.ref q1, .ref q2, .ref q3]), (q1, cI d 36 K), (q2, cI d 36 L), (q3, cI d 5 S), (s0, cO 3 [.ref s1]), (s1, cI d 216 (sF T))] 0 0 (fun r wo => r = some (.int (wbF T L k n 36)) ∧ wo = [(h0, cO 1 [.ref q1, .ref q2, .ref q3]), (q1, cI d 36 K), (q2, cI d 36 L), (q3, cI d 5 S), (s0, cO 3 [.ref s1]), (s1, cI d 216 (sF T))]) := by
  refine ct_of (own := RX3) (ini := false) (by decide +kernel) rfl (fun h => by cases h) (Nat.le_of_ble_eq_true rfl) ?_
  intro g X
  show g 0 0 [(h0, cO 1 [.ref q1, .ref q2, .ref q3]), (q1, cI d 36 K), (q2, cI d 36 L), (q3, cI d 5 S), (s0, cO 3 [.ref s1]), (s1, cI d 216 (sF T))] [(0, .ref s0), (1, .ref h0), (2, .int (nI k)), (3, .int n)] 0 []
  refine g_iconst (v := 0) X dX3_weightBySign_0 (by decide) ?_
  refine g_istore (lv' := [(4, .int 0), (0, .ref s0), (1, .ref h0), (2, .int (nI k)), (3, .int n)]) X dX3_weightBySign_1 (by decide) rfl ?_
  refine g_iconst (v := 0) X dX3_weightBySign_3 (by decide) ?_
  refine g_istore (lv' := [(5, .int 0), (4, .int 0), (0, .ref s0), (1, .ref h0), (2, .int (nI k)), (3, .int n)]) X dX3_weightBySign_4 (by decide) rfl ?_
  have at_6 : ∀ (n_ : Nat) (i : Nat) (hi : i ≤ 36), (36 - i) < n_ → g 0 0 [(h0, cO 1 [.ref q1, .ref q2, .ref q3]), (q1, cI d 36 K), (q2, cI d 36 L), (q3, cI d 5 S), (s0, cO 3 [.ref s1]), (s1, cI d 216 (sF T))] [(0, .ref s0), (1, .ref h0), (2, .int (nI k)), (3, .int n), (4, .int (wbF T L k n i)), (5, .int (nI i))] 6 [] := by
    intro n_
    induction n_ with
    | zero => intro i hi hn_; exact absurd hn_ (Nat.not_lt_zero _)
    | succ n_ ih_6 =>
      intro i hi hn_6
      refine g_iload X dX3_weightBySign_6 5 rfl ?_
      refine g_bipush (v := 36) X dX3_weightBySign_8 (by decide) ?_
      refine g_icmpN_ge (a := i) (b := 36) X rfl rfl (by omega) (by omega) 41 dX3_weightBySign_10 (by decide) (fun c10_1 => ?_) (fun c10_1 => ?_)
      · refine g_iload X dX3_weightBySign_41 4 rfl ?_
        exact g_end X (gE_i dX3_weightBySign_43 (rfl) (Nat.le_of_ble_eq_true rfl) (Nat.le_of_ble_eq_true rfl) ⟨congrArg (fun z => some (Value.int z)) (by rw [show i = 36 by omega]), rfl⟩)
      · refine g_aload_n X dX3_weightBySign_13 rfl 0 rfl ?_
        refine g_iload_n X dX3_weightBySign_14 rfl 2 rfl ?_
        refine g_iload_n X dX3_weightBySign_15 rfl 3 rfl ?_
        refine g_iload X dX3_weightBySign_16 5 rfl ?_
        refine g_dV (ci := 3) (q0 := 0) (n := 3) (wr := [(h0, cO 1 [.ref q1, .ref q2, .ref q3]), (q1, cI d 36 K), (q2, cI d 36 L), (q3, cI d 5 S)]) (ws' := [(h0, cO 1 [.ref q1, .ref q2, .ref q3]), (q1, cI d 36 K), (q2, cI d 36 L), (q3, cI d 5 S), (s0, cO 3 [.ref s1]), (s1, cI d 216 (sF T))]) (st' := [.int (b2i (tru T k n i))]) (As := [.int (nI k), .int n, .int (nI i)]) (st := []) X (ct_X3_isTrue l d s0 s1 T k i n (by first | assumption | omega) (by first | assumption | omega)) wd_495 wd_492 wd_493 wd_494 wd_56 hd_X3_isTrue rfl ⟨(Nat.le_of_ble_eq_true rfl), (Nat.le_of_ble_eq_true rfl)⟩ rfl rfl dX3_weightBySign_18 ⟨(Nat.le_of_ble_eq_true rfl), (Nat.le_of_ble_eq_true rfl)⟩ rfl rfl (Nat.le_of_ble_eq_true rfl) [4, 5] [0, 1, 2, 3] rfl rfl rfl rfl rfl (by decide) rfl [0, 1, 2, 3, 4, 5] rfl rfl rfl rfl ?_
        refine g_ifB_eq X 35 dX3_weightBySign_21 (by decide) (fun c21_2 => ?_) (fun c21_2 => ?_)
        · refine g_iinc (v := nI (i + 1)) (lv' := [(5, .int (nI (i + 1))), (0, .ref s0), (1, .ref h0), (2, .int (nI k)), (3, .int n), (4, .int (wbF T L k n i))]) X dX3_weightBySign_35 5 rfl (nI_inc _) (by decide) rfl ?_
          refine g_goto X 6 dX3_weightBySign_38 (by decide) ?_
          refine g_lv (lv' := [(0, .ref s0), (1, .ref h0), (2, .int (nI k)), (3, .int n), (4, .int (wbF T L k n i)), (5, .int (nI (i + 1)))]) X [1, 2, 3, 4, 5, 0] rfl ?_
          exact g_eq (ws' := [(h0, cO 1 [.ref q1, .ref q2, .ref q3]), (q1, cI d 36 K), (q2, cI d 36 L), (q3, cI d 5 S), (s0, cO 3 [.ref s1]), (s1, cI d 216 (sF T))]) (lv' := [(0, .ref s0), (1, .ref h0), (2, .int (nI k)), (3, .int n), (4, .int (wbF T L k n (i + 1))), (5, .int (nI (i + 1)))]) (rfl) (lv_cons (rfl) (lv_cons (rfl) (lv_cons (rfl) (lv_cons (rfl) (lv_cons (vI (by first | exact wbF_y (by assumption) | exact wbF_n (by assumption))) (lv_cons (rfl) (rfl))))))) (ih_6 (i + 1) (by first | assumption | omega) (by omega))
        · refine g_iload X dX3_weightBySign_24 4 rfl ?_
          refine g_aload_n X dX3_weightBySign_26 rfl 1 rfl ?_
          refine g_iload X dX3_weightBySign_27 5 rfl ?_
          refine g_dV (ci := 1) (q0 := 0) (n := 1) (wr := [(s0, cO 3 [.ref s1]), (s1, cI d 216 (sF T))]) (ws' := [(h0, cO 1 [.ref q1, .ref q2, .ref q3]), (q1, cI d 36 K), (q2, cI d 36 L), (q3, cI d 5 S), (s0, cO 3 [.ref s1]), (s1, cI d 216 (sF T))]) (st' := [.int (L i), .int (wbF T L k n i)]) (As := [.int (nI i)]) (st := [.int (wbF T L k n i)]) X (ct_X1_likelyAt l d h0 q1 q2 q3 K L S i (by first | assumption | omega)) wd_491 wd_488 wd_489 wd_490 wd_53 hd_X1_likelyAt rfl ⟨(Nat.le_of_ble_eq_true rfl), (Nat.le_of_ble_eq_true rfl)⟩ rfl rfl dX3_weightBySign_29 ⟨(Nat.le_of_ble_eq_true rfl), (Nat.le_of_ble_eq_true rfl)⟩ rfl rfl (Nat.le_of_ble_eq_true rfl) [0, 1, 2, 3] [4, 5] rfl rfl rfl rfl rfl (by decide) rfl [2, 3, 4, 5, 0, 1] rfl rfl rfl rfl ?_
          refine g_iadd X dX3_weightBySign_32 ?_
          refine g_istore (lv' := [(4, .int ((wbF T L k n i) + (L i))), (0, .ref s0), (1, .ref h0), (2, .int (nI k)), (3, .int n), (5, .int (nI i))]) X dX3_weightBySign_33 (by decide) rfl ?_
          refine g_iinc (v := nI (i + 1)) (lv' := [(5, .int (nI (i + 1))), (4, .int ((wbF T L k n i) + (L i))), (0, .ref s0), (1, .ref h0), (2, .int (nI k)), (3, .int n)]) X dX3_weightBySign_35 5 rfl (nI_inc _) (by decide) rfl ?_
          refine g_goto X 6 dX3_weightBySign_38 (by decide) ?_
          refine g_lv (lv' := [(0, .ref s0), (1, .ref h0), (2, .int (nI k)), (3, .int n), (4, .int ((wbF T L k n i) + (L i))), (5, .int (nI (i + 1)))]) X [2, 3, 4, 5, 1, 0] rfl ?_
          exact g_eq (ws' := [(h0, cO 1 [.ref q1, .ref q2, .ref q3]), (q1, cI d 36 K), (q2, cI d 36 L), (q3, cI d 5 S), (s0, cO 3 [.ref s1]), (s1, cI d 216 (sF T))]) (lv' := [(0, .ref s0), (1, .ref h0), (2, .int (nI k)), (3, .int n), (4, .int (wbF T L k n (i + 1))), (5, .int (nI (i + 1)))]) (rfl) (lv_cons (rfl) (lv_cons (rfl) (lv_cons (rfl) (lv_cons (rfl) (lv_cons (vI (by first | exact wbF_y (by assumption) | exact wbF_n (by assumption))) (lv_cons (rfl) (rfl))))))) (ih_6 (i + 1) (by first | assumption | omega) (by omega))
  refine g_lv (lv' := [(0, .ref s0), (1, .ref h0), (2, .int (nI k)), (3, .int n), (4, .int 0), (5, .int 0)]) X [2, 3, 4, 5, 1, 0] rfl ?_
  exact g_eq (ws' := [(h0, cO 1 [.ref q1, .ref q2, .ref q3]), (q1, cI d 36 K), (q2, cI d 36 L), (q3, cI d 5 S), (s0, cO 3 [.ref s1]), (s1, cI d 216 (sF T))]) (lv' := [(0, .ref s0), (1, .ref h0), (2, .int (nI k)), (3, .int n), (4, .int (wbF T L k n 0)), (5, .int (nI 0))]) (rfl) (lv_cons (rfl) (lv_cons (rfl) (lv_cons (rfl) (lv_cons (rfl) (lv_cons (vI (by rfl)) (lv_cons (vI (by rfl)) (rfl))))))) (at_6 _ 0 (by first | assumption | omega) (Nat.lt_succ_self _))
set_option maxHeartbeats 4000000 in
set_option maxRecDepth 20000 in
theorem ct_X3_keepOnly (l : Launch) (d : KD) (h0 q1 q2 q3 : Nat) (K L S : Nat → Int32) (s0 s1 : Nat) (T : Nat → Nat → Int32) (k : Nat) (n : Int32) (hk : k < 6) : Ct l d yX3_keepOnly cX3_keepOnly 5 (some .boolean) { frames := 3, cells := 0, slots := 0, locals := 72 } [.ref s0, .ref h0, .int (nI k), .int n] [(h0, cO 1 [.ref q1, .ref q2, .ref q3]), (q1, cI d 36 K), (q2, cI d 36 L), (q3, cI d 5 S), (s0, cO 3 [.ref s1]), (s1, cI d 216 (sF T))] 0 0 (fun r wo => r = some (.int (b2i (¬ lbs T L k n = 0))) ∧ wo = [(h0, cO 1 [.ref q1, .ref q2, .ref q3]), (q1, cI d 36 K), (q2, cI d 36 (keep T L k n)), (q3, cI d 5 S), (s0, cO 3 [.ref s1]), (s1, cI d 216 (sF T))]) := by
  refine ct_of (own := RX3) (ini := false) (by decide +kernel) rfl (fun h => by cases h) (Nat.le_of_ble_eq_true rfl) ?_
  intro g X
  show g 0 0 [(h0, cO 1 [.ref q1, .ref q2, .ref q3]), (q1, cI d 36 K), (q2, cI d 36 L), (q3, cI d 5 S), (s0, cO 3 [.ref s1]), (s1, cI d 216 (sF T))] [(0, .ref s0), (1, .ref h0), (2, .int (nI k)), (3, .int n)] 0 []
  refine g_aload_n X dX3_keepOnly_0 rfl 0 rfl ?_
  refine g_aload_n X dX3_keepOnly_1 rfl 1 rfl ?_
  refine g_iload_n X dX3_keepOnly_2 rfl 2 rfl ?_
  refine g_iload_n X dX3_keepOnly_3 rfl 3 rfl ?_
  refine g_dV (ci := 3) (q0 := 4) (n := 3) (wr := []) (ws' := [(h0, cO 1 [.ref q1, .ref q2, .ref q3]), (q1, cI d 36 K), (q2, cI d 36 L), (q3, cI d 5 S), (s0, cO 3 [.ref s1]), (s1, cI d 216 (sF T))]) (st' := [.int (nI (lbs T L k n))]) (As := [.ref h0, .int (nI k), .int n]) (st := []) X (ct_X3_leftBySign l d h0 q1 q2 q3 K L S s0 s1 T k n (by first | assumption | omega)) wd_487 wd_484 wd_486 wd_12 wd_56 hd_X3_leftBySign rfl ⟨(Nat.le_of_ble_eq_true rfl), (Nat.le_of_ble_eq_true rfl)⟩ rfl rfl dX3_keepOnly_4 ⟨(Nat.le_of_ble_eq_true rfl), (Nat.le_of_ble_eq_true rfl)⟩ rfl rfl (Nat.le_of_ble_eq_true rfl) [0, 1, 2, 3, 4, 5] [] rfl rfl rfl rfl rfl (by decide) rfl [0, 1, 2, 3, 4, 5] rfl rfl rfl rfl ?_
  have hb0 : lbs T L k n ≤ 36 := cnt_le _ 36
  refine g_ifN_ne (a := (lbs T L k n)) X rfl (by omega) 12 dX3_keepOnly_7 (by decide) (fun c7_1 => ?_) (fun c7_1 => ?_)
  · refine g_iconst (v := 0) X dX3_keepOnly_12 (by decide) ?_
    refine g_istore (lv' := [(4, .int 0), (0, .ref s0), (1, .ref h0), (2, .int (nI k)), (3, .int n)]) X dX3_keepOnly_13 (by decide) rfl ?_
    have at_15 : ∀ (n_ : Nat) (i : Nat) (hi : i ≤ 36), (36 - i) < n_ → g 0 0 [(h0, cO 1 [.ref q1, .ref q2, .ref q3]), (q1, cI d 36 K), (q2, cI d 36 (kpF T L k n i)), (q3, cI d 5 S), (s0, cO 3 [.ref s1]), (s1, cI d 216 (sF T))] [(0, .ref s0), (1, .ref h0), (2, .int (nI k)), (3, .int n), (4, .int (nI i))] 15 [] := by
      intro n_
      induction n_ with
      | zero => intro i hi hn_; exact absurd hn_ (Nat.not_lt_zero _)
      | succ n_ ih_15 =>
        intro i hi hn_15
        refine g_iload X dX3_keepOnly_15 4 rfl ?_
        refine g_bipush (v := 36) X dX3_keepOnly_17 (by decide) ?_
        refine g_icmpN_ge (a := i) (b := 36) X rfl rfl (by omega) (by omega) 46 dX3_keepOnly_19 (by decide) (fun c19_2 => ?_) (fun c19_2 => ?_)
        · obtain rfl : i = 36 := by omega
          refine g_iconst (v := 1) X dX3_keepOnly_46 (by decide) ?_
          refine g_ext (ws' := [(h0, cO 1 [.ref q1, .ref q2, .ref q3]), (q1, cI d 36 K), (q2, cI d 36 (kpL T L k n)), (q3, cI d 5 S), (s0, cO 3 [.ref s1]), (s1, cI d 216 (sF T))]) (h := kpL T L k n) X 2 rfl (kpF_e) rfl ?_
          exact g_end X (gE_i dX3_keepOnly_47 (rfl) (Nat.le_of_ble_eq_true rfl) (Nat.le_of_ble_eq_true rfl) ⟨congrArg (fun z => some (Value.int z)) ((b2i_t (by assumption)).symm), ws_cons (rfl) (ws_cons (rfl) (ws_cons (cI_eq ((if_neg (by assumption)).symm)) (ws_cons (rfl) (ws_cons (rfl) (ws_cons (rfl) (rfl))))))⟩)
        · refine g_aload_n X dX3_keepOnly_22 rfl 0 rfl ?_
          refine g_iload_n X dX3_keepOnly_23 rfl 2 rfl ?_
          refine g_iload_n X dX3_keepOnly_24 rfl 3 rfl ?_
          refine g_iload X dX3_keepOnly_25 4 rfl ?_
          refine g_dV (ci := 3) (q0 := 0) (n := 3) (wr := [(h0, cO 1 [.ref q1, .ref q2, .ref q3]), (q1, cI d 36 K), (q2, cI d 36 (kpF T L k n i)), (q3, cI d 5 S)]) (ws' := [(h0, cO 1 [.ref q1, .ref q2, .ref q3]), (q1, cI d 36 K), (q2, cI d 36 (kpF T L k n i)), (q3, cI d 5 S), (s0, cO 3 [.ref s1]), (s1, cI d 216 (sF T))]) (st' := [.int (b2i (tru T k n i))]) (As := [.int (nI k), .int n, .int (nI i)]) (st := []) X (ct_X3_isTrue l d s0 s1 T k i n (by first | assumption | omega) (by first | assumption | omega)) wd_495 wd_492 wd_493 wd_494 wd_56 hd_X3_isTrue rfl ⟨(Nat.le_of_ble_eq_true rfl), (Nat.le_of_ble_eq_true rfl)⟩ rfl rfl dX3_keepOnly_27 ⟨(Nat.le_of_ble_eq_true rfl), (Nat.le_of_ble_eq_true rfl)⟩ rfl rfl (Nat.le_of_ble_eq_true rfl) [4, 5] [0, 1, 2, 3] rfl rfl rfl rfl rfl (by decide) rfl [0, 1, 2, 3, 4, 5] rfl rfl rfl rfl ?_
          refine g_ifB_ne X 40 dX3_keepOnly_30 (by decide) (fun c30_3 => ?_) (fun c30_3 => ?_)
          · refine g_iinc (v := nI (i + 1)) (lv' := [(4, .int (nI (i + 1))), (0, .ref s0), (1, .ref h0), (2, .int (nI k)), (3, .int n)]) X dX3_keepOnly_40 4 rfl (nI_inc _) (by decide) rfl ?_
            refine g_goto X 15 dX3_keepOnly_43 (by decide) ?_
            refine g_lv (lv' := [(0, .ref s0), (1, .ref h0), (2, .int (nI k)), (3, .int n), (4, .int (nI (i + 1)))]) X [1, 2, 3, 4, 0] rfl ?_
            exact g_eq (ws' := [(h0, cO 1 [.ref q1, .ref q2, .ref q3]), (q1, cI d 36 K), (q2, cI d 36 (kpF T L k n (i + 1))), (q3, cI d 5 S), (s0, cO 3 [.ref s1]), (s1, cI d 216 (sF T))]) (lv' := [(0, .ref s0), (1, .ref h0), (2, .int (nI k)), (3, .int n), (4, .int (nI (i + 1)))]) (ws_cons (rfl) (ws_cons (rfl) (ws_cons (cI_eq (by first | exact kpF_y (by assumption) | exact kpF_n (by assumption))) (ws_cons (rfl) (ws_cons (rfl) (ws_cons (rfl) (rfl))))))) (rfl) (ih_15 (i + 1) (by first | assumption | omega) (by omega))
          · refine g_aload_n X dX3_keepOnly_33 rfl 1 rfl ?_
            refine g_iload X dX3_keepOnly_34 4 rfl ?_
            refine g_iconst (v := 0) X dX3_keepOnly_36 (by decide) ?_
            refine g_dV (ci := 1) (q0 := 0) (n := 2) (wr := [(s0, cO 3 [.ref s1]), (s1, cI d 216 (sF T))]) (ws' := [(h0, cO 1 [.ref q1, .ref q2, .ref q3]), (q1, cI d 36 K), (q2, cI d 36 (upd (kpF T L k n i) i 0)), (q3, cI d 5 S), (s0, cO 3 [.ref s1]), (s1, cI d 216 (sF T))]) (st' := []) (As := [.int (nI i), .int 0]) (st := []) X (ct_X1_putLikely l d h0 q1 q2 q3 K (kpF T L k n i) S i 0 (by first | assumption | omega)) wd_468 wd_500 wd_466 wd_467 wd_53 hd_X1_putLikely rfl ⟨(Nat.le_of_ble_eq_true rfl), (Nat.le_of_ble_eq_true rfl)⟩ rfl rfl dX3_keepOnly_37 ⟨(Nat.le_of_ble_eq_true rfl), (Nat.le_of_ble_eq_true rfl)⟩ rfl rfl (Nat.le_of_ble_eq_true rfl) [0, 1, 2, 3] [4, 5] rfl rfl rfl rfl rfl (by decide) rfl [2, 3, 4, 5, 0, 1] rfl rfl rfl rfl ?_
            refine g_iinc (v := nI (i + 1)) (lv' := [(4, .int (nI (i + 1))), (0, .ref s0), (1, .ref h0), (2, .int (nI k)), (3, .int n)]) X dX3_keepOnly_40 4 rfl (nI_inc _) (by decide) rfl ?_
            refine g_goto X 15 dX3_keepOnly_43 (by decide) ?_
            refine g_lv (lv' := [(0, .ref s0), (1, .ref h0), (2, .int (nI k)), (3, .int n), (4, .int (nI (i + 1)))]) X [1, 2, 3, 4, 0] rfl ?_
            exact g_eq (ws' := [(h0, cO 1 [.ref q1, .ref q2, .ref q3]), (q1, cI d 36 K), (q2, cI d 36 (kpF T L k n (i + 1))), (q3, cI d 5 S), (s0, cO 3 [.ref s1]), (s1, cI d 216 (sF T))]) (lv' := [(0, .ref s0), (1, .ref h0), (2, .int (nI k)), (3, .int n), (4, .int (nI (i + 1)))]) (ws_cons (rfl) (ws_cons (rfl) (ws_cons (cI_eq (by first | exact kpF_y (by assumption) | exact kpF_n (by assumption))) (ws_cons (rfl) (ws_cons (rfl) (ws_cons (rfl) (rfl))))))) (rfl) (ih_15 (i + 1) (by first | assumption | omega) (by omega))
    refine g_lv (lv' := [(0, .ref s0), (1, .ref h0), (2, .int (nI k)), (3, .int n), (4, .int 0)]) X [1, 2, 3, 4, 0] rfl ?_
    exact g_eq (ws' := [(h0, cO 1 [.ref q1, .ref q2, .ref q3]), (q1, cI d 36 K), (q2, cI d 36 (kpF T L k n 0)), (q3, cI d 5 S), (s0, cO 3 [.ref s1]), (s1, cI d 216 (sF T))]) (lv' := [(0, .ref s0), (1, .ref h0), (2, .int (nI k)), (3, .int n), (4, .int (nI 0))]) (ws_cons (rfl) (ws_cons (rfl) (ws_cons (cI_eq (kpF_0)) (ws_cons (rfl) (ws_cons (rfl) (ws_cons (rfl) (rfl))))))) (lv_cons (rfl) (lv_cons (rfl) (lv_cons (rfl) (lv_cons (rfl) (lv_cons (vI (by rfl)) (rfl)))))) (at_15 _ 0 (by first | assumption | omega) (Nat.lt_succ_self _))
  · refine g_iconst (v := 0) X dX3_keepOnly_10 (by decide) ?_
    exact g_end X (gE_i dX3_keepOnly_11 (rfl) (Nat.le_of_ble_eq_true rfl) (Nat.le_of_ble_eq_true rfl) ⟨congrArg (fun z => some (Value.int z)) ((b2i_f (fun z => z (by assumption))).symm), ws_cons (rfl) (ws_cons (rfl) (ws_cons (cI_eq ((if_pos (by assumption)).symm)) (ws_cons (rfl) (ws_cons (rfl) (ws_cons (rfl) (rfl))))))⟩)
set_option maxHeartbeats 4000000 in
set_option maxRecDepth 20000 in
theorem ct_X3_sumLeft (l : Launch) (d : KD) (h0 q1 q2 q3 : Nat) (K L S : Nat → Int32) (s0 s1 : Nat) (T : Nat → Nat → Int32) (k : Nat) (hk : k < 6) : Ct l d yX3_sumLeft cX3_sumLeft 8 (some .int) { frames := 3, cells := 0, slots := 0, locals := 72 } [.ref s0, .ref h0, .int (nI k)] [(h0, cO 1 [.ref q1, .ref q2, .ref q3]), (q1, cI d 36 K), (q2, cI d 36 L), (q3, cI d 5 S), (s0, cO 3 [.ref s1]), (s1, cI d 216 (sF T))] 0 0 (fun r wo => r = some (.int (slF T L k 36)) ∧ wo = [(h0, cO 1 [.ref q1, .ref q2, .ref q3]), (q1, cI d 36 K), (q2, cI d 36 L), (q3, cI d 5 S), (s0, cO 3 [.ref s1]), (s1, cI d 216 (sF T))]) := by
  refine ct_of (own := RX3) (ini := false) (by decide +kernel) rfl (fun h => by cases h) (Nat.le_of_ble_eq_true rfl) ?_
  intro g X
  show g 0 0 [(h0, cO 1 [.ref q1, .ref q2, .ref q3]), (q1, cI d 36 K), (q2, cI d 36 L), (q3, cI d 5 S), (s0, cO 3 [.ref s1]), (s1, cI d 216 (sF T))] [(0, .ref s0), (1, .ref h0), (2, .int (nI k))] 0 []
  refine g_aload_n X dX3_sumLeft_0 rfl 1 rfl ?_
  refine g_dV (ci := 1) (q0 := 0) (n := 0) (wr := [(s0, cO 3 [.ref s1]), (s1, cI d 216 (sF T))]) (ws' := [(h0, cO 1 [.ref q1, .ref q2, .ref q3]), (q1, cI d 36 K), (q2, cI d 36 L), (q3, cI d 5 S), (s0, cO 3 [.ref s1]), (s1, cI d 216 (sF T))]) (st' := [.int (nI (cnt (fun q => 0 < L q) 36))]) (As := []) (st := []) X (ct_X1_left l d h0 q1 q2 q3 K L S) wd_544 wd_656 wd_542 wd_543 wd_53 hd_X1_left rfl ⟨(Nat.le_of_ble_eq_true rfl), (Nat.le_of_ble_eq_true rfl)⟩ rfl rfl dX3_sumLeft_1 ⟨(Nat.le_of_ble_eq_true rfl), (Nat.le_of_ble_eq_true rfl)⟩ rfl rfl (Nat.le_of_ble_eq_true rfl) [0, 1, 2, 3] [4, 5] rfl rfl rfl rfl rfl (by decide) rfl [2, 3, 4, 5, 0, 1] rfl rfl rfl rfl ?_
  refine g_istore_n (lv' := [(3, .int (nI (cnt (fun q => 0 < L q) 36))), (0, .ref s0), (1, .ref h0), (2, .int (nI k))]) X dX3_sumLeft_4 rfl (by decide) rfl ?_
  refine g_iconst (v := 0) X dX3_sumLeft_5 (by decide) ?_
  refine g_istore (lv' := [(4, .int 0), (3, .int (nI (cnt (fun q => 0 < L q) 36))), (0, .ref s0), (1, .ref h0), (2, .int (nI k))]) X dX3_sumLeft_6 (by decide) rfl ?_
  refine g_iconst (v := 0) X dX3_sumLeft_8 (by decide) ?_
  refine g_istore (lv' := [(5, .int 0), (4, .int 0), (3, .int (nI (cnt (fun q => 0 < L q) 36))), (0, .ref s0), (1, .ref h0), (2, .int (nI k))]) X dX3_sumLeft_9 (by decide) rfl ?_
  have at_11 : ∀ (n_ : Nat) (i : Nat) (hi : i ≤ 36), (36 - i) < n_ → g 0 0 [(h0, cO 1 [.ref q1, .ref q2, .ref q3]), (q1, cI d 36 K), (q2, cI d 36 L), (q3, cI d 5 S), (s0, cO 3 [.ref s1]), (s1, cI d 216 (sF T))] [(0, .ref s0), (1, .ref h0), (2, .int (nI k)), (3, .int (nI (cnt (fun q => 0 < L q) 36))), (4, .int (slF T L k i)), (5, .int (nI i))] 11 [] := by
    intro n_
    induction n_ with
    | zero => intro i hi hn_; exact absurd hn_ (Nat.not_lt_zero _)
    | succ n_ ih_11 =>
      intro i hi hn_11
      refine g_iload X dX3_sumLeft_11 5 rfl ?_
      refine g_bipush (v := 36) X dX3_sumLeft_13 (by decide) ?_
      refine g_icmpN_ge (a := i) (b := 36) X rfl rfl (by omega) (by omega) 76 dX3_sumLeft_15 (by decide) (fun c15_1 => ?_) (fun c15_1 => ?_)
      · refine g_iload X dX3_sumLeft_76 4 rfl ?_
        exact g_end X (gE_i dX3_sumLeft_78 (rfl) (Nat.le_of_ble_eq_true rfl) (Nat.le_of_ble_eq_true rfl) ⟨congrArg (fun z => some (Value.int z)) (by rw [show i = 36 by omega]), rfl⟩)
      · refine g_aload_n X dX3_sumLeft_18 rfl 1 rfl ?_
        refine g_iload X dX3_sumLeft_19 5 rfl ?_
        refine g_dV (ci := 1) (q0 := 0) (n := 1) (wr := [(s0, cO 3 [.ref s1]), (s1, cI d 216 (sF T))]) (ws' := [(h0, cO 1 [.ref q1, .ref q2, .ref q3]), (q1, cI d 36 K), (q2, cI d 36 L), (q3, cI d 5 S), (s0, cO 3 [.ref s1]), (s1, cI d 216 (sF T))]) (st' := [.int (L i)]) (As := [.int (nI i)]) (st := []) X (ct_X1_likelyAt l d h0 q1 q2 q3 K L S i (by first | assumption | omega)) wd_491 wd_488 wd_489 wd_490 wd_53 hd_X1_likelyAt rfl ⟨(Nat.le_of_ble_eq_true rfl), (Nat.le_of_ble_eq_true rfl)⟩ rfl rfl dX3_sumLeft_21 ⟨(Nat.le_of_ble_eq_true rfl), (Nat.le_of_ble_eq_true rfl)⟩ rfl rfl (Nat.le_of_ble_eq_true rfl) [0, 1, 2, 3] [4, 5] rfl rfl rfl rfl rfl (by decide) rfl [2, 3, 4, 5, 0, 1] rfl rfl rfl rfl ?_
        refine g_istore (lv' := [(6, .int (L i)), (0, .ref s0), (1, .ref h0), (2, .int (nI k)), (3, .int (nI (cnt (fun q => 0 < L q) 36))), (4, .int (slF T L k i)), (5, .int (nI i))]) X dX3_sumLeft_24 (by decide) rfl ?_
        refine g_iload X dX3_sumLeft_26 0 rfl ?_
        refine g_if_ne X 34 dX3_sumLeft_28 (by decide) (fun c28_2 => ?_) (fun c28_2 => ?_)
        · refine g_aload_n X dX3_sumLeft_34 rfl 1 rfl ?_
          refine g_iload_n X dX3_sumLeft_35 rfl 3 rfl ?_
          refine g_iload X dX3_sumLeft_36 6 rfl ?_
          refine g_dV (ci := 3) (q0 := 0) (n := 2) (wr := [(h0, cO 1 [.ref q1, .ref q2, .ref q3]), (q1, cI d 36 K), (q2, cI d 36 L), (q3, cI d 5 S)]) (ws' := [(h0, cO 1 [.ref q1, .ref q2, .ref q3]), (q1, cI d 36 K), (q2, cI d 36 L), (q3, cI d 5 S), (s0, cO 3 [.ref s1]), (s1, cI d 216 (sF T))]) (st' := [.int (T k i)]) (As := [.int (nI k), .int (nI i)]) (st := []) X (ct_X3_numberOf l d s0 s1 T k i (by first | assumption | omega) (by first | assumption | omega)) wd_499 wd_496 wd_497 wd_498 wd_56 hd_X3_numberOf rfl ⟨(Nat.le_of_ble_eq_true rfl), (Nat.le_of_ble_eq_true rfl)⟩ rfl rfl dX3_sumLeft_38 ⟨(Nat.le_of_ble_eq_true rfl), (Nat.le_of_ble_eq_true rfl)⟩ rfl rfl (Nat.le_of_ble_eq_true rfl) [4, 5] [0, 1, 2, 3] rfl rfl rfl rfl rfl (by decide) rfl [0, 1, 2, 3, 4, 5] rfl rfl rfl rfl ?_
          refine g_istore (lv' := [(7, .int (T k i)), (6, .int (L i)), (0, .ref s0), (1, .ref h0), (2, .int (nI k)), (3, .int (nI (cnt (fun q => 0 < L q) 36))), (4, .int (slF T L k i)), (5, .int (nI i))]) X dX3_sumLeft_41 (by decide) rfl ?_
          refine g_iload X dX3_sumLeft_43 6 rfl ?_
          refine g_iload X dX3_sumLeft_45 1 rfl ?_
          refine g_iload X dX3_sumLeft_47 0 rfl ?_
          refine g_bipush (v := (-9)) X dX3_sumLeft_49 (by decide) ?_
          refine g_icmp_ne X 58 dX3_sumLeft_51 (by decide) (fun c51_3 => ?_) (fun c51_3 => ?_)
          · refine g_aload_n X dX3_sumLeft_58 rfl 2 rfl ?_
            refine g_aload_n X dX3_sumLeft_59 rfl 3 rfl ?_
            refine g_iload_n X dX3_sumLeft_60 rfl 4 rfl ?_
            refine g_iload X dX3_sumLeft_61 0 rfl ?_
            refine g_dV (ci := 3) (q0 := 4) (n := 3) (wr := []) (ws' := [(h0, cO 1 [.ref q1, .ref q2, .ref q3]), (q1, cI d 36 K), (q2, cI d 36 L), (q3, cI d 5 S), (s0, cO 3 [.ref s1]), (s1, cI d 216 (sF T))]) (st' := [.int (nI (lbs T L k (T k i))), .int (L i), .int (slF T L k i)]) (As := [.ref h0, .int (nI k), .int (T k i)]) (st := [.int (L i), .int (slF T L k i)]) X (ct_X3_leftBySign l d h0 q1 q2 q3 K L S s0 s1 T k (T k i) (by first | assumption | omega)) wd_487 wd_484 wd_486 wd_12 wd_56 hd_X3_leftBySign rfl ⟨(Nat.le_of_ble_eq_true rfl), (Nat.le_of_ble_eq_true rfl)⟩ rfl rfl dX3_sumLeft_63 ⟨(Nat.le_of_ble_eq_true rfl), (Nat.le_of_ble_eq_true rfl)⟩ rfl rfl (Nat.le_of_ble_eq_true rfl) [0, 1, 2, 3, 4, 5] [] rfl rfl rfl rfl rfl (by decide) rfl [0, 1, 2, 3, 4, 5] rfl rfl rfl rfl ?_
            refine g_imul X dX3_sumLeft_66 ?_
            refine g_iadd X dX3_sumLeft_67 ?_
            refine g_istore (lv' := [(4, .int ((slF T L k i) + ((L i) * (nI (lbs T L k (T k i)))))), (7, .int (T k i)), (6, .int (L i)), (0, .ref s0), (1, .ref h0), (2, .int (nI k)), (3, .int (nI (cnt (fun q => 0 < L q) 36))), (5, .int (nI i))]) X dX3_sumLeft_68 (by decide) rfl ?_
            refine g_iinc (v := nI (i + 1)) (lv' := [(5, .int (nI (i + 1))), (4, .int ((slF T L k i) + ((L i) * (nI (lbs T L k (T k i)))))), (7, .int (T k i)), (6, .int (L i)), (0, .ref s0), (1, .ref h0), (2, .int (nI k)), (3, .int (nI (cnt (fun q => 0 < L q) 36)))]) X dX3_sumLeft_70 7 rfl (nI_inc _) (by decide) rfl ?_
            refine g_goto X 11 dX3_sumLeft_73 (by decide) ?_
            refine g_lv (lv' := [(0, .ref s0), (1, .ref h0), (2, .int (nI k)), (3, .int (nI (cnt (fun q => 0 < L q) 36))), (4, .int ((slF T L k i) + ((L i) * (nI (lbs T L k (T k i)))))), (5, .int (nI (i + 1)))]) X [4, 5, 6, 7, 1, 0] rfl ?_
            exact g_eq (ws' := [(h0, cO 1 [.ref q1, .ref q2, .ref q3]), (q1, cI d 36 K), (q2, cI d 36 L), (q3, cI d 5 S), (s0, cO 3 [.ref s1]), (s1, cI d 216 (sF T))]) (lv' := [(0, .ref s0), (1, .ref h0), (2, .int (nI k)), (3, .int (nI (cnt (fun q => 0 < L q) 36))), (4, .int (slF T L k (i + 1))), (5, .int (nI (i + 1)))]) (rfl) (lv_cons (rfl) (lv_cons (rfl) (lv_cons (rfl) (lv_cons (rfl) (lv_cons (vI (by first | exact slF_0 (by assumption) | exact slF_b (by assumption) (by assumption) | exact slF_a (by assumption) (by assumption))) (lv_cons (rfl) (rfl))))))) (ih_11 (i + 1) (by first | assumption | omega) (by omega))
          · refine g_iload_n X dX3_sumLeft_54 rfl 5 rfl ?_
            refine g_goto X 66 dX3_sumLeft_55 (by decide) ?_
            refine g_imul X dX3_sumLeft_66 ?_
            refine g_iadd X dX3_sumLeft_67 ?_
            refine g_istore (lv' := [(4, .int ((slF T L k i) + ((L i) * (nI (cnt (fun q => 0 < L q) 36))))), (7, .int (T k i)), (6, .int (L i)), (0, .ref s0), (1, .ref h0), (2, .int (nI k)), (3, .int (nI (cnt (fun q => 0 < L q) 36))), (5, .int (nI i))]) X dX3_sumLeft_68 (by decide) rfl ?_
            refine g_iinc (v := nI (i + 1)) (lv' := [(5, .int (nI (i + 1))), (4, .int ((slF T L k i) + ((L i) * (nI (cnt (fun q => 0 < L q) 36))))), (7, .int (T k i)), (6, .int (L i)), (0, .ref s0), (1, .ref h0), (2, .int (nI k)), (3, .int (nI (cnt (fun q => 0 < L q) 36)))]) X dX3_sumLeft_70 7 rfl (nI_inc _) (by decide) rfl ?_
            refine g_goto X 11 dX3_sumLeft_73 (by decide) ?_
            refine g_lv (lv' := [(0, .ref s0), (1, .ref h0), (2, .int (nI k)), (3, .int (nI (cnt (fun q => 0 < L q) 36))), (4, .int ((slF T L k i) + ((L i) * (nI (cnt (fun q => 0 < L q) 36))))), (5, .int (nI (i + 1)))]) X [4, 5, 6, 7, 1, 0] rfl ?_
            exact g_eq (ws' := [(h0, cO 1 [.ref q1, .ref q2, .ref q3]), (q1, cI d 36 K), (q2, cI d 36 L), (q3, cI d 5 S), (s0, cO 3 [.ref s1]), (s1, cI d 216 (sF T))]) (lv' := [(0, .ref s0), (1, .ref h0), (2, .int (nI k)), (3, .int (nI (cnt (fun q => 0 < L q) 36))), (4, .int (slF T L k (i + 1))), (5, .int (nI (i + 1)))]) (rfl) (lv_cons (rfl) (lv_cons (rfl) (lv_cons (rfl) (lv_cons (rfl) (lv_cons (vI (by first | exact slF_0 (by assumption) | exact slF_b (by assumption) (by assumption) | exact slF_a (by assumption) (by assumption))) (lv_cons (rfl) (rfl))))))) (ih_11 (i + 1) (by first | assumption | omega) (by omega))
        · refine g_goto X 70 dX3_sumLeft_31 (by decide) ?_
          refine g_iinc (v := nI (i + 1)) (lv' := [(5, .int (nI (i + 1))), (6, .int (L i)), (0, .ref s0), (1, .ref h0), (2, .int (nI k)), (3, .int (nI (cnt (fun q => 0 < L q) 36))), (4, .int (slF T L k i))]) X dX3_sumLeft_70 6 rfl (nI_inc _) (by decide) rfl ?_
          refine g_goto X 11 dX3_sumLeft_73 (by decide) ?_
          refine g_lv (lv' := [(0, .ref s0), (1, .ref h0), (2, .int (nI k)), (3, .int (nI (cnt (fun q => 0 < L q) 36))), (4, .int (slF T L k i)), (5, .int (nI (i + 1)))]) X [2, 3, 4, 5, 6, 0] rfl ?_
          exact g_eq (ws' := [(h0, cO 1 [.ref q1, .ref q2, .ref q3]), (q1, cI d 36 K), (q2, cI d 36 L), (q3, cI d 5 S), (s0, cO 3 [.ref s1]), (s1, cI d 216 (sF T))]) (lv' := [(0, .ref s0), (1, .ref h0), (2, .int (nI k)), (3, .int (nI (cnt (fun q => 0 < L q) 36))), (4, .int (slF T L k (i + 1))), (5, .int (nI (i + 1)))]) (rfl) (lv_cons (rfl) (lv_cons (rfl) (lv_cons (rfl) (lv_cons (rfl) (lv_cons (vI (by first | exact slF_0 (by assumption) | exact slF_b (by assumption) (by assumption) | exact slF_a (by assumption) (by assumption))) (lv_cons (rfl) (rfl))))))) (ih_11 (i + 1) (by first | assumption | omega) (by omega))
  refine g_lv (lv' := [(0, .ref s0), (1, .ref h0), (2, .int (nI k)), (3, .int (nI (cnt (fun q => 0 < L q) 36))), (4, .int 0), (5, .int 0)]) X [3, 4, 5, 2, 1, 0] rfl ?_
  exact g_eq (ws' := [(h0, cO 1 [.ref q1, .ref q2, .ref q3]), (q1, cI d 36 K), (q2, cI d 36 L), (q3, cI d 5 S), (s0, cO 3 [.ref s1]), (s1, cI d 216 (sF T))]) (lv' := [(0, .ref s0), (1, .ref h0), (2, .int (nI k)), (3, .int (nI (cnt (fun q => 0 < L q) 36))), (4, .int (slF T L k 0)), (5, .int (nI 0))]) (rfl) (lv_cons (rfl) (lv_cons (rfl) (lv_cons (rfl) (lv_cons (rfl) (lv_cons (vI (by rfl)) (lv_cons (vI (by rfl)) (rfl))))))) (at_11 _ 0 (by first | assumption | omega) (Nat.lt_succ_self _))
set_option maxHeartbeats 4000000 in
set_option maxRecDepth 20000 in
theorem ct_X3_bestLie (l : Launch) (d : KD) (h0 q1 q2 q3 : Nat) (K L S : Nat → Int32) (s0 s1 : Nat) (T : Nat → Nat → Int32) (k j : Nat) (hk : k < 6) (hj : j < 36) : Ct l d yX3_bestLie cX3_bestLie 8 (some .int) { frames := 3, cells := 0, slots := 0, locals := 72 } [.ref s0, .ref h0, .int (nI k), .int (nI j)] [(h0, cO 1 [.ref q1, .ref q2, .ref q3]), (q1, cI d 36 K), (q2, cI d 36 L), (q3, cI d 5 S), (s0, cO 3 [.ref s1]), (s1, cI d 216 (sF T))] 0 0 (fun r wo => r = some (.int ((blF T L k j 41).1)) ∧ wo = [(h0, cO 1 [.ref q1, .ref q2, .ref q3]), (q1, cI d 36 K), (q2, cI d 36 L), (q3, cI d 5 S), (s0, cO 3 [.ref s1]), (s1, cI d 216 (sF T))]) := by
  refine ct_of (own := RX3) (ini := false) (by decide +kernel) rfl (fun h => by cases h) (Nat.le_of_ble_eq_true rfl) ?_
  intro g X
  show g 0 0 [(h0, cO 1 [.ref q1, .ref q2, .ref q3]), (q1, cI d 36 K), (q2, cI d 36 L), (q3, cI d 5 S), (s0, cO 3 [.ref s1]), (s1, cI d 216 (sF T))] [(0, .ref s0), (1, .ref h0), (2, .int (nI k)), (3, .int (nI j))] 0 []
  refine g_bipush (v := (-9)) X dX3_bestLie_0 (by decide) ?_
  refine g_istore (lv' := [(4, .int (-9)), (0, .ref s0), (1, .ref h0), (2, .int (nI k)), (3, .int (nI j))]) X dX3_bestLie_2 (by decide) rfl ?_
  refine g_iconst (v := 0) X dX3_bestLie_4 (by decide) ?_
  refine g_istore (lv' := [(5, .int 0), (4, .int (-9)), (0, .ref s0), (1, .ref h0), (2, .int (nI k)), (3, .int (nI j))]) X dX3_bestLie_5 (by decide) rfl ?_
  refine g_iconst (v := 0) X dX3_bestLie_7 (by decide) ?_
  refine g_istore (lv' := [(6, .int 0), (5, .int 0), (4, .int (-9)), (0, .ref s0), (1, .ref h0), (2, .int (nI k)), (3, .int (nI j))]) X dX3_bestLie_8 (by decide) rfl ?_
  have at_10 : ∀ (n_ : Nat) (i : Nat) (hi : i ≤ 41), (41 - i) < n_ → g 0 0 [(h0, cO 1 [.ref q1, .ref q2, .ref q3]), (q1, cI d 36 K), (q2, cI d 36 L), (q3, cI d 5 S), (s0, cO 3 [.ref s1]), (s1, cI d 216 (sF T))] [(0, .ref s0), (1, .ref h0), (2, .int (nI k)), (3, .int (nI j)), (4, .int ((blF T L k j i).1)), (5, .int ((blF T L k j i).2)), (6, .int (nI i))] 10 [] := by
    intro n_
    induction n_ with
    | zero => intro i hi hn_; exact absurd hn_ (Nat.not_lt_zero _)
    | succ n_ ih_10 =>
      intro i hi hn_10
      refine g_iload X dX3_bestLie_10 6 rfl ?_
      refine g_bipush (v := 40) X dX3_bestLie_12 (by decide) ?_
      refine g_icmpN_gt (a := i) (b := 40) X rfl rfl (by omega) (by omega) 62 dX3_bestLie_14 (by decide) (fun c14_1 => ?_) (fun c14_1 => ?_)
      · refine g_iload X dX3_bestLie_62 4 rfl ?_
        exact g_end X (gE_i dX3_bestLie_64 (rfl) (Nat.le_of_ble_eq_true rfl) (Nat.le_of_ble_eq_true rfl) ⟨congrArg (fun z => some (Value.int z)) (by rw [show i = 41 by omega]), rfl⟩)
      · refine g_aload_n X dX3_bestLie_17 rfl 0 rfl ?_
        refine g_iload_n X dX3_bestLie_18 rfl 2 rfl ?_
        refine g_iload X dX3_bestLie_19 6 rfl ?_
        refine g_iload_n X dX3_bestLie_21 rfl 3 rfl ?_
        refine g_dV (ci := 3) (q0 := 0) (n := 3) (wr := [(h0, cO 1 [.ref q1, .ref q2, .ref q3]), (q1, cI d 36 K), (q2, cI d 36 L), (q3, cI d 5 S)]) (ws' := [(h0, cO 1 [.ref q1, .ref q2, .ref q3]), (q1, cI d 36 K), (q2, cI d 36 L), (q3, cI d 5 S), (s0, cO 3 [.ref s1]), (s1, cI d 216 (sF T))]) (st' := [.int (b2i (tru T k (nI i) j))]) (As := [.int (nI k), .int (nI i), .int (nI j)]) (st := []) X (ct_X3_isTrue l d s0 s1 T k j (nI i) (by first | assumption | omega) (by first | assumption | omega)) wd_495 wd_492 wd_493 wd_494 wd_56 hd_X3_isTrue rfl ⟨(Nat.le_of_ble_eq_true rfl), (Nat.le_of_ble_eq_true rfl)⟩ rfl rfl dX3_bestLie_22 ⟨(Nat.le_of_ble_eq_true rfl), (Nat.le_of_ble_eq_true rfl)⟩ rfl rfl (Nat.le_of_ble_eq_true rfl) [4, 5] [0, 1, 2, 3] rfl rfl rfl rfl rfl (by decide) rfl [0, 1, 2, 3, 4, 5] rfl rfl rfl rfl ?_
        refine g_ifB_eq X 31 dX3_bestLie_25 (by decide) (fun c25_2 => ?_) (fun c25_2 => ?_)
        · refine g_aload_n X dX3_bestLie_31 rfl 0 rfl ?_
          refine g_aload_n X dX3_bestLie_32 rfl 1 rfl ?_
          refine g_iload_n X dX3_bestLie_33 rfl 2 rfl ?_
          refine g_iload X dX3_bestLie_34 6 rfl ?_
          refine g_dV (ci := 3) (q0 := 4) (n := 3) (wr := []) (ws' := [(h0, cO 1 [.ref q1, .ref q2, .ref q3]), (q1, cI d 36 K), (q2, cI d 36 L), (q3, cI d 5 S), (s0, cO 3 [.ref s1]), (s1, cI d 216 (sF T))]) (st' := [.int (wbF T L k (nI i) 36)]) (As := [.ref h0, .int (nI k), .int (nI i)]) (st := []) X (ct_X3_weightBySign l d h0 q1 q2 q3 K L S s0 s1 T k (nI i) (by first | assumption | omega)) wd_672 wd_669 wd_671 wd_18 wd_56 hd_X3_weightBySign rfl ⟨(Nat.le_of_ble_eq_true rfl), (Nat.le_of_ble_eq_true rfl)⟩ rfl rfl dX3_bestLie_36 ⟨(Nat.le_of_ble_eq_true rfl), (Nat.le_of_ble_eq_true rfl)⟩ rfl rfl (Nat.le_of_ble_eq_true rfl) [0, 1, 2, 3, 4, 5] [] rfl rfl rfl rfl rfl (by decide) rfl [0, 1, 2, 3, 4, 5] rfl rfl rfl rfl ?_
          refine g_istore (lv' := [(7, .int (wbF T L k (nI i) 36)), (0, .ref s0), (1, .ref h0), (2, .int (nI k)), (3, .int (nI j)), (4, .int ((blF T L k j i).1)), (5, .int ((blF T L k j i).2)), (6, .int (nI i))]) X dX3_bestLie_39 (by decide) rfl ?_
          refine g_iload X dX3_bestLie_41 0 rfl ?_
          refine g_iload X dX3_bestLie_43 6 rfl ?_
          refine g_icmp_le X 56 dX3_bestLie_45 (by decide) (fun c45_3 => ?_) (fun c45_3 => ?_)
          · refine g_iinc (v := nI (i + 1)) (lv' := [(6, .int (nI (i + 1))), (7, .int (wbF T L k (nI i) 36)), (0, .ref s0), (1, .ref h0), (2, .int (nI k)), (3, .int (nI j)), (4, .int ((blF T L k j i).1)), (5, .int ((blF T L k j i).2))]) X dX3_bestLie_56 7 rfl (nI_inc _) (by decide) rfl ?_
            refine g_goto X 10 dX3_bestLie_59 (by decide) ?_
            refine g_lv (lv' := [(0, .ref s0), (1, .ref h0), (2, .int (nI k)), (3, .int (nI j)), (4, .int ((blF T L k j i).1)), (5, .int ((blF T L k j i).2)), (6, .int (nI (i + 1)))]) X [2, 3, 4, 5, 6, 7, 0] rfl ?_
            exact g_eq (ws' := [(h0, cO 1 [.ref q1, .ref q2, .ref q3]), (q1, cI d 36 K), (q2, cI d 36 L), (q3, cI d 5 S), (s0, cO 3 [.ref s1]), (s1, cI d 216 (sF T))]) (lv' := [(0, .ref s0), (1, .ref h0), (2, .int (nI k)), (3, .int (nI j)), (4, .int ((blF T L k j (i + 1)).1)), (5, .int ((blF T L k j (i + 1)).2)), (6, .int (nI (i + 1)))]) (rfl) (lv_cons (rfl) (lv_cons (rfl) (lv_cons (rfl) (lv_cons (rfl) (lv_cons (vI (by first | exact (congrArg Prod.fst (blF_n (Or.inl (by assumption)))).symm | exact (congrArg Prod.fst (blF_n (Or.inr (Int32.not_lt.mpr (by assumption))))).symm | exact (congrArg Prod.fst (blF_y (by assumption) (Int32.not_le.mp (by assumption)))).symm)) (lv_cons (vI (by first | exact (congrArg Prod.snd (blF_n (Or.inl (by assumption)))).symm | exact (congrArg Prod.snd (blF_n (Or.inr (Int32.not_lt.mpr (by assumption))))).symm | exact (congrArg Prod.snd (blF_y (by assumption) (Int32.not_le.mp (by assumption)))).symm)) (lv_cons (rfl) (rfl)))))))) (ih_10 (i + 1) (by first | assumption | omega) (by omega))
          · refine g_iload X dX3_bestLie_48 7 rfl ?_
            refine g_istore (lv' := [(4, .int (nI i)), (7, .int (wbF T L k (nI i) 36)), (0, .ref s0), (1, .ref h0), (2, .int (nI k)), (3, .int (nI j)), (5, .int ((blF T L k j i).2)), (6, .int (nI i))]) X dX3_bestLie_50 (by decide) rfl ?_
            refine g_iload X dX3_bestLie_52 1 rfl ?_
            refine g_istore (lv' := [(5, .int (wbF T L k (nI i) 36)), (4, .int (nI i)), (7, .int (wbF T L k (nI i) 36)), (0, .ref s0), (1, .ref h0), (2, .int (nI k)), (3, .int (nI j)), (6, .int (nI i))]) X dX3_bestLie_54 (by decide) rfl ?_
            refine g_iinc (v := nI (i + 1)) (lv' := [(6, .int (nI (i + 1))), (5, .int (wbF T L k (nI i) 36)), (4, .int (nI i)), (7, .int (wbF T L k (nI i) 36)), (0, .ref s0), (1, .ref h0), (2, .int (nI k)), (3, .int (nI j))]) X dX3_bestLie_56 7 rfl (nI_inc _) (by decide) rfl ?_
            refine g_goto X 10 dX3_bestLie_59 (by decide) ?_
            refine g_lv (lv' := [(0, .ref s0), (1, .ref h0), (2, .int (nI k)), (3, .int (nI j)), (4, .int (nI i)), (5, .int (wbF T L k (nI i) 36)), (6, .int (nI (i + 1)))]) X [4, 5, 6, 7, 2, 1, 0] rfl ?_
            exact g_eq (ws' := [(h0, cO 1 [.ref q1, .ref q2, .ref q3]), (q1, cI d 36 K), (q2, cI d 36 L), (q3, cI d 5 S), (s0, cO 3 [.ref s1]), (s1, cI d 216 (sF T))]) (lv' := [(0, .ref s0), (1, .ref h0), (2, .int (nI k)), (3, .int (nI j)), (4, .int ((blF T L k j (i + 1)).1)), (5, .int ((blF T L k j (i + 1)).2)), (6, .int (nI (i + 1)))]) (rfl) (lv_cons (rfl) (lv_cons (rfl) (lv_cons (rfl) (lv_cons (rfl) (lv_cons (vI (by first | exact (congrArg Prod.fst (blF_n (Or.inl (by assumption)))).symm | exact (congrArg Prod.fst (blF_n (Or.inr (Int32.not_lt.mpr (by assumption))))).symm | exact (congrArg Prod.fst (blF_y (by assumption) (Int32.not_le.mp (by assumption)))).symm)) (lv_cons (vI (by first | exact (congrArg Prod.snd (blF_n (Or.inl (by assumption)))).symm | exact (congrArg Prod.snd (blF_n (Or.inr (Int32.not_lt.mpr (by assumption))))).symm | exact (congrArg Prod.snd (blF_y (by assumption) (Int32.not_le.mp (by assumption)))).symm)) (lv_cons (rfl) (rfl)))))))) (ih_10 (i + 1) (by first | assumption | omega) (by omega))
        · refine g_goto X 56 dX3_bestLie_28 (by decide) ?_
          refine g_iinc (v := nI (i + 1)) (lv' := [(6, .int (nI (i + 1))), (0, .ref s0), (1, .ref h0), (2, .int (nI k)), (3, .int (nI j)), (4, .int ((blF T L k j i).1)), (5, .int ((blF T L k j i).2))]) X dX3_bestLie_56 6 rfl (nI_inc _) (by decide) rfl ?_
          refine g_goto X 10 dX3_bestLie_59 (by decide) ?_
          refine g_lv (lv' := [(0, .ref s0), (1, .ref h0), (2, .int (nI k)), (3, .int (nI j)), (4, .int ((blF T L k j i).1)), (5, .int ((blF T L k j i).2)), (6, .int (nI (i + 1)))]) X [1, 2, 3, 4, 5, 6, 0] rfl ?_
          exact g_eq (ws' := [(h0, cO 1 [.ref q1, .ref q2, .ref q3]), (q1, cI d 36 K), (q2, cI d 36 L), (q3, cI d 5 S), (s0, cO 3 [.ref s1]), (s1, cI d 216 (sF T))]) (lv' := [(0, .ref s0), (1, .ref h0), (2, .int (nI k)), (3, .int (nI j)), (4, .int ((blF T L k j (i + 1)).1)), (5, .int ((blF T L k j (i + 1)).2)), (6, .int (nI (i + 1)))]) (rfl) (lv_cons (rfl) (lv_cons (rfl) (lv_cons (rfl) (lv_cons (rfl) (lv_cons (vI (by first | exact (congrArg Prod.fst (blF_n (Or.inl (by assumption)))).symm | exact (congrArg Prod.fst (blF_n (Or.inr (Int32.not_lt.mpr (by assumption))))).symm | exact (congrArg Prod.fst (blF_y (by assumption) (Int32.not_le.mp (by assumption)))).symm)) (lv_cons (vI (by first | exact (congrArg Prod.snd (blF_n (Or.inl (by assumption)))).symm | exact (congrArg Prod.snd (blF_n (Or.inr (Int32.not_lt.mpr (by assumption))))).symm | exact (congrArg Prod.snd (blF_y (by assumption) (Int32.not_le.mp (by assumption)))).symm)) (lv_cons (rfl) (rfl)))))))) (ih_10 (i + 1) (by first | assumption | omega) (by omega))
  refine g_lv (lv' := [(0, .ref s0), (1, .ref h0), (2, .int (nI k)), (3, .int (nI j)), (4, .int (-9)), (5, .int 0), (6, .int 0)]) X [3, 4, 5, 6, 2, 1, 0] rfl ?_
  exact g_eq (ws' := [(h0, cO 1 [.ref q1, .ref q2, .ref q3]), (q1, cI d 36 K), (q2, cI d 36 L), (q3, cI d 5 S), (s0, cO 3 [.ref s1]), (s1, cI d 216 (sF T))]) (lv' := [(0, .ref s0), (1, .ref h0), (2, .int (nI k)), (3, .int (nI j)), (4, .int ((blF T L k j 0).1)), (5, .int ((blF T L k j 0).2)), (6, .int (nI 0))]) (rfl) (lv_cons (rfl) (lv_cons (rfl) (lv_cons (rfl) (lv_cons (rfl) (lv_cons (vI (by rfl)) (lv_cons (vI (by rfl)) (lv_cons (vI (by rfl)) (rfl)))))))) (at_10 _ 0 (by first | assumption | omega) (Nat.lt_succ_self _))
set_option maxHeartbeats 4000000 in
set_option maxRecDepth 20000 in
theorem ct_X3_suit (l : Launch) (d : KD) (s0 s1 : Nat) (T : Nat → Nat → Int32) (b j o : Nat) (hj : j < 36) (ho : o < 36) : Ct l d yX3_suit cX3_suit 5 (some .boolean) { frames := 2, cells := 0, slots := 0, locals := 47 } [.ref s0, .int (nI b), .int (nI j), .int (nI o)] [(s0, cO 3 [.ref s1]), (s1, cI d 216 (sF T))] 0 0 (fun r wo => r = some (.int (b2i (suit T b j o))) ∧ wo = [(s0, cO 3 [.ref s1]), (s1, cI d 216 (sF T))]) := by
  refine ct_of (own := RX3) (ini := false) (by decide +kernel) rfl (fun h => by cases h) (Nat.le_of_ble_eq_true rfl) ?_
  intro g X
  show g 0 0 [(s0, cO 3 [.ref s1]), (s1, cI d 216 (sF T))] [(0, .ref s0), (1, .int (nI b)), (2, .int (nI j)), (3, .int (nI o))] 0 []
  refine g_iconst (v := 0) X dX3_suit_0 (by decide) ?_
  refine g_istore (lv' := [(4, .int 0), (0, .ref s0), (1, .int (nI b)), (2, .int (nI j)), (3, .int (nI o))]) X dX3_suit_1 (by decide) rfl ?_
  have at_3 : ∀ (n_ : Nat) (i : Nat) (hi : i ≤ 6) (hn : ∀ k, k < i → ¬ bitI (nI b) (nI k) = 0 → tru T k (T k j) o), (6 - i) < n_ → g 0 0 [(s0, cO 3 [.ref s1]), (s1, cI d 216 (sF T))] [(0, .ref s0), (1, .int (nI b)), (2, .int (nI j)), (3, .int (nI o)), (4, .int (nI i))] 3 [] := by
    intro n_
    induction n_ with
    | zero => intro i hi hn hn_; exact absurd hn_ (Nat.not_lt_zero _)
    | succ n_ ih_3 =>
      intro i hi hn hn_3
      refine g_iload X dX3_suit_3 4 rfl ?_
      refine g_bipush (v := 6) X dX3_suit_5 (by decide) ?_
      refine g_icmpN_ge (a := i) (b := 6) X rfl rfl (by omega) (by omega) 47 dX3_suit_7 (by decide) (fun c7_1 => ?_) (fun c7_1 => ?_)
      · refine g_iconst (v := 1) X dX3_suit_47 (by decide) ?_
        exact g_end X (gE_i dX3_suit_48 (rfl) (Nat.le_of_ble_eq_true rfl) (Nat.le_of_ble_eq_true rfl) ⟨congrArg (fun z => some (Value.int z)) (by first | exact (b2i_t (fun k hk => hn k (by omega))).symm | exact (b2i_f (fun z => absurd (z i (by omega) (by assumption)) (by assumption))).symm), rfl⟩)
      · refine g_iload_n X dX3_suit_10 rfl 1 rfl ?_
        refine g_iload X dX3_suit_11 4 rfl ?_
        refine g_ishr X dX3_suit_13 ?_
        refine g_iconst (v := 1) X dX3_suit_14 (by decide) ?_
        refine g_iand X dX3_suit_15 ?_
        refine g_tope (y := bitI (nI b) (nI i)) (rfl) ?_
        refine g_if_ne X 22 dX3_suit_16 (by decide) (fun c16_2 => ?_) (fun c16_2 => ?_)
        · refine g_aload_n X dX3_suit_22 rfl 0 rfl ?_
          refine g_iload X dX3_suit_23 4 rfl ?_
          refine g_aload_n X dX3_suit_25 rfl 0 rfl ?_
          refine g_iload X dX3_suit_26 4 rfl ?_
          refine g_iload_n X dX3_suit_28 rfl 2 rfl ?_
          refine g_dV (ci := 3) (q0 := 0) (n := 2) (wr := []) (ws' := [(s0, cO 3 [.ref s1]), (s1, cI d 216 (sF T))]) (st' := [.int (T i j), .int (nI i), .ref s0]) (As := [.int (nI i), .int (nI j)]) (st := [.int (nI i), .ref s0]) X (ct_X3_numberOf l d s0 s1 T i j (by first | assumption | omega) (by first | assumption | omega)) wd_499 wd_496 wd_497 wd_498 wd_56 hd_X3_numberOf rfl ⟨(Nat.le_of_ble_eq_true rfl), (Nat.le_of_ble_eq_true rfl)⟩ rfl rfl dX3_suit_29 ⟨(Nat.le_of_ble_eq_true rfl), (Nat.le_of_ble_eq_true rfl)⟩ rfl rfl (Nat.le_of_ble_eq_true rfl) [0, 1] [] rfl rfl rfl rfl rfl (by decide) rfl [0, 1] rfl rfl rfl rfl ?_
          refine g_iload_n X dX3_suit_32 rfl 3 rfl ?_
          refine g_dV (ci := 3) (q0 := 0) (n := 3) (wr := []) (ws' := [(s0, cO 3 [.ref s1]), (s1, cI d 216 (sF T))]) (st' := [.int (b2i (tru T i (T i j) o))]) (As := [.int (nI i), .int (T i j), .int (nI o)]) (st := []) X (ct_X3_isTrue l d s0 s1 T i o (T i j) (by first | assumption | omega) (by first | assumption | omega)) wd_495 wd_492 wd_493 wd_494 wd_56 hd_X3_isTrue rfl ⟨(Nat.le_of_ble_eq_true rfl), (Nat.le_of_ble_eq_true rfl)⟩ rfl rfl dX3_suit_33 ⟨(Nat.le_of_ble_eq_true rfl), (Nat.le_of_ble_eq_true rfl)⟩ rfl rfl (Nat.le_of_ble_eq_true rfl) [0, 1] [] rfl rfl rfl rfl rfl (by decide) rfl [0, 1] rfl rfl rfl rfl ?_
          refine g_ifB_ne X 41 dX3_suit_36 (by decide) (fun c36_3 => ?_) (fun c36_3 => ?_)
          · refine g_iinc (v := nI (i + 1)) (lv' := [(4, .int (nI (i + 1))), (0, .ref s0), (1, .int (nI b)), (2, .int (nI j)), (3, .int (nI o))]) X dX3_suit_41 4 rfl (nI_inc _) (by decide) rfl ?_
            refine g_goto X 3 dX3_suit_44 (by decide) ?_
            refine g_lv (lv' := [(0, .ref s0), (1, .int (nI b)), (2, .int (nI j)), (3, .int (nI o)), (4, .int (nI (i + 1)))]) X [1, 2, 3, 4, 0] rfl ?_
            exact ih_3 (i + 1) (by first | assumption | omega) (fun k hk => by rcases Nat.lt_succ_iff_lt_or_eq.mp hk with h | h; exact hn k h; subst h; exact fun z => by assumption) (by omega)
          · refine g_iconst (v := 0) X dX3_suit_39 (by decide) ?_
            exact g_end X (gE_i dX3_suit_40 (rfl) (Nat.le_of_ble_eq_true rfl) (Nat.le_of_ble_eq_true rfl) ⟨congrArg (fun z => some (Value.int z)) (by first | exact (b2i_t (fun k hk => hn k (by omega))).symm | exact (b2i_f (fun z => absurd (z i (by omega) (by assumption)) (by assumption))).symm), rfl⟩)
        · refine g_goto X 41 dX3_suit_19 (by decide) ?_
          refine g_iinc (v := nI (i + 1)) (lv' := [(4, .int (nI (i + 1))), (0, .ref s0), (1, .int (nI b)), (2, .int (nI j)), (3, .int (nI o))]) X dX3_suit_41 4 rfl (nI_inc _) (by decide) rfl ?_
          refine g_goto X 3 dX3_suit_44 (by decide) ?_
          refine g_lv (lv' := [(0, .ref s0), (1, .int (nI b)), (2, .int (nI j)), (3, .int (nI o)), (4, .int (nI (i + 1)))]) X [1, 2, 3, 4, 0] rfl ?_
          exact ih_3 (i + 1) (by first | assumption | omega) (fun k hk => by rcases Nat.lt_succ_iff_lt_or_eq.mp hk with h | h; exact hn k h; subst h; exact fun z => absurd (by assumption) z) (by omega)
  refine g_lv (lv' := [(0, .ref s0), (1, .int (nI b)), (2, .int (nI j)), (3, .int (nI o)), (4, .int 0)]) X [1, 2, 3, 4, 0] rfl ?_
  exact g_eq (ws' := [(s0, cO 3 [.ref s1]), (s1, cI d 216 (sF T))]) (lv' := [(0, .ref s0), (1, .int (nI b)), (2, .int (nI j)), (3, .int (nI o)), (4, .int (nI 0))]) (rfl) (lv_cons (rfl) (lv_cons (rfl) (lv_cons (rfl) (lv_cons (rfl) (lv_cons (vI (by rfl)) (rfl)))))) (at_3 _ 0 (by first | assumption | omega) (fun k hk => absurd hk (Nat.not_lt_zero k)) (Nat.lt_succ_self _))
set_option maxHeartbeats 4000000 in
set_option maxRecDepth 20000 in
theorem ct_X3_tellsAlone (l : Launch) (d : KD) (h0 q1 q2 q3 : Nat) (K L S : Nat → Int32) (s0 s1 : Nat) (T : Nat → Nat → Int32) (b j : Nat) (hj : j < 36) : Ct l d yX3_tellsAlone cX3_tellsAlone 5 (some .boolean) { frames := 3, cells := 0, slots := 0, locals := 71 } [.ref s0, .ref h0, .int (nI b), .int (nI j)] [(h0, cO 1 [.ref q1, .ref q2, .ref q3]), (q1, cI d 36 K), (q2, cI d 36 L), (q3, cI d 5 S), (s0, cO 3 [.ref s1]), (s1, cI d 216 (sF T))] 0 0 (fun r wo => r = some (.int (b2i (alone T L b j))) ∧ wo = [(h0, cO 1 [.ref q1, .ref q2, .ref q3]), (q1, cI d 36 K), (q2, cI d 36 L), (q3, cI d 5 S), (s0, cO 3 [.ref s1]), (s1, cI d 216 (sF T))]) := by
  refine ct_of (own := RX3) (ini := false) (by decide +kernel) rfl (fun h => by cases h) (Nat.le_of_ble_eq_true rfl) ?_
  intro g X
  show g 0 0 [(h0, cO 1 [.ref q1, .ref q2, .ref q3]), (q1, cI d 36 K), (q2, cI d 36 L), (q3, cI d 5 S), (s0, cO 3 [.ref s1]), (s1, cI d 216 (sF T))] [(0, .ref s0), (1, .ref h0), (2, .int (nI b)), (3, .int (nI j))] 0 []
  refine g_aload_n X dX3_tellsAlone_0 rfl 0 rfl ?_
  refine g_iload_n X dX3_tellsAlone_1 rfl 2 rfl ?_
  refine g_iload_n X dX3_tellsAlone_2 rfl 3 rfl ?_
  refine g_iload_n X dX3_tellsAlone_3 rfl 3 rfl ?_
  refine g_dV (ci := 3) (q0 := 0) (n := 3) (wr := [(h0, cO 1 [.ref q1, .ref q2, .ref q3]), (q1, cI d 36 K), (q2, cI d 36 L), (q3, cI d 5 S)]) (ws' := [(h0, cO 1 [.ref q1, .ref q2, .ref q3]), (q1, cI d 36 K), (q2, cI d 36 L), (q3, cI d 5 S), (s0, cO 3 [.ref s1]), (s1, cI d 216 (sF T))]) (st' := [.int (b2i (suit T b j j))]) (As := [.int (nI b), .int (nI j), .int (nI j)]) (st := []) X (ct_X3_suit l d s0 s1 T b j j (by first | assumption | omega) (by first | assumption | omega)) wd_699 wd_696 wd_698 wd_20 wd_56 hd_X3_suit rfl ⟨(Nat.le_of_ble_eq_true rfl), (Nat.le_of_ble_eq_true rfl)⟩ rfl rfl dX3_tellsAlone_4 ⟨(Nat.le_of_ble_eq_true rfl), (Nat.le_of_ble_eq_true rfl)⟩ rfl rfl (Nat.le_of_ble_eq_true rfl) [4, 5] [0, 1, 2, 3] rfl rfl rfl rfl rfl (by decide) rfl [0, 1, 2, 3, 4, 5] rfl rfl rfl rfl ?_
  refine g_ifB_ne X 12 dX3_tellsAlone_7 (by decide) (fun c7_1 => ?_) (fun c7_1 => ?_)
  · refine g_iconst (v := 0) X dX3_tellsAlone_12 (by decide) ?_
    refine g_istore (lv' := [(4, .int 0), (0, .ref s0), (1, .ref h0), (2, .int (nI b)), (3, .int (nI j))]) X dX3_tellsAlone_13 (by decide) rfl ?_
    have at_15 : ∀ (n_ : Nat) (i : Nat) (hi : i ≤ 36) (hn : ∀ o, o < i → ¬ o = j → 0 < L o → ¬ suit T b j o), (36 - i) < n_ → g 0 0 [(h0, cO 1 [.ref q1, .ref q2, .ref q3]), (q1, cI d 36 K), (q2, cI d 36 L), (q3, cI d 5 S), (s0, cO 3 [.ref s1]), (s1, cI d 216 (sF T))] [(0, .ref s0), (1, .ref h0), (2, .int (nI b)), (3, .int (nI j)), (4, .int (nI i))] 15 [] := by
      intro n_
      induction n_ with
      | zero => intro i hi hn hn_; exact absurd hn_ (Nat.not_lt_zero _)
      | succ n_ ih_15 =>
        intro i hi hn hn_15
        refine g_iload X dX3_tellsAlone_15 4 rfl ?_
        refine g_bipush (v := 36) X dX3_tellsAlone_17 (by decide) ?_
        refine g_icmpN_ge (a := i) (b := 36) X rfl rfl (by omega) (by omega) 56 dX3_tellsAlone_19 (by decide) (fun c19_2 => ?_) (fun c19_2 => ?_)
        · refine g_iconst (v := 1) X dX3_tellsAlone_56 (by decide) ?_
          exact g_end X (gE_i dX3_tellsAlone_57 (rfl) (Nat.le_of_ble_eq_true rfl) (Nat.le_of_ble_eq_true rfl) ⟨congrArg (fun z => some (Value.int z)) (by first | exact (b2i_t ⟨by assumption, fun o ho => hn o (by omega)⟩).symm | exact (b2i_f (fun z => absurd (by assumption) (z.2 i (by omega) (by assumption) (Int32.not_le.mp (by assumption))))).symm | exact (b2i_f (fun z => absurd z.1 (by assumption))).symm), rfl⟩)
        · refine g_iload X dX3_tellsAlone_22 4 rfl ?_
          refine g_iload_n X dX3_tellsAlone_24 rfl 3 rfl ?_
          refine g_icmpN_eq (a := i) (b := j) X rfl rfl (by omega) (by omega) 50 dX3_tellsAlone_25 (by decide) (fun c25_3 => ?_) (fun c25_3 => ?_)
          · refine g_iinc (v := nI (i + 1)) (lv' := [(4, .int (nI (i + 1))), (0, .ref s0), (1, .ref h0), (2, .int (nI b)), (3, .int (nI j))]) X dX3_tellsAlone_50 4 rfl (nI_inc _) (by decide) rfl ?_
            refine g_goto X 15 dX3_tellsAlone_53 (by decide) ?_
            refine g_lv (lv' := [(0, .ref s0), (1, .ref h0), (2, .int (nI b)), (3, .int (nI j)), (4, .int (nI (i + 1)))]) X [1, 2, 3, 4, 0] rfl ?_
            exact ih_15 (i + 1) (by first | assumption | omega) (fun k hk => by rcases Nat.lt_succ_iff_lt_or_eq.mp hk with h | h; exact hn k h; subst h; exact fun z => absurd (by assumption) z) (by omega)
          · refine g_aload_n X dX3_tellsAlone_28 rfl 1 rfl ?_
            refine g_iload X dX3_tellsAlone_29 4 rfl ?_
            refine g_dV (ci := 1) (q0 := 0) (n := 1) (wr := [(s0, cO 3 [.ref s1]), (s1, cI d 216 (sF T))]) (ws' := [(h0, cO 1 [.ref q1, .ref q2, .ref q3]), (q1, cI d 36 K), (q2, cI d 36 L), (q3, cI d 5 S), (s0, cO 3 [.ref s1]), (s1, cI d 216 (sF T))]) (st' := [.int (L i)]) (As := [.int (nI i)]) (st := []) X (ct_X1_likelyAt l d h0 q1 q2 q3 K L S i (by first | assumption | omega)) wd_491 wd_488 wd_489 wd_490 wd_53 hd_X1_likelyAt rfl ⟨(Nat.le_of_ble_eq_true rfl), (Nat.le_of_ble_eq_true rfl)⟩ rfl rfl dX3_tellsAlone_31 ⟨(Nat.le_of_ble_eq_true rfl), (Nat.le_of_ble_eq_true rfl)⟩ rfl rfl (Nat.le_of_ble_eq_true rfl) [0, 1, 2, 3] [4, 5] rfl rfl rfl rfl rfl (by decide) rfl [2, 3, 4, 5, 0, 1] rfl rfl rfl rfl ?_
            refine g_if_le X 50 dX3_tellsAlone_34 (by decide) (fun c34_4 => ?_) (fun c34_4 => ?_)
            · refine g_iinc (v := nI (i + 1)) (lv' := [(4, .int (nI (i + 1))), (0, .ref s0), (1, .ref h0), (2, .int (nI b)), (3, .int (nI j))]) X dX3_tellsAlone_50 4 rfl (nI_inc _) (by decide) rfl ?_
              refine g_goto X 15 dX3_tellsAlone_53 (by decide) ?_
              refine g_lv (lv' := [(0, .ref s0), (1, .ref h0), (2, .int (nI b)), (3, .int (nI j)), (4, .int (nI (i + 1)))]) X [1, 2, 3, 4, 0] rfl ?_
              exact ih_15 (i + 1) (by first | assumption | omega) (fun k hk => by rcases Nat.lt_succ_iff_lt_or_eq.mp hk with h | h; exact hn k h; subst h; exact fun _ z => absurd z (Int32.not_lt.mpr (by assumption))) (by omega)
            · refine g_aload_n X dX3_tellsAlone_37 rfl 0 rfl ?_
              refine g_iload_n X dX3_tellsAlone_38 rfl 2 rfl ?_
              refine g_iload_n X dX3_tellsAlone_39 rfl 3 rfl ?_
              refine g_iload X dX3_tellsAlone_40 4 rfl ?_
              refine g_dV (ci := 3) (q0 := 0) (n := 3) (wr := [(h0, cO 1 [.ref q1, .ref q2, .ref q3]), (q1, cI d 36 K), (q2, cI d 36 L), (q3, cI d 5 S)]) (ws' := [(h0, cO 1 [.ref q1, .ref q2, .ref q3]), (q1, cI d 36 K), (q2, cI d 36 L), (q3, cI d 5 S), (s0, cO 3 [.ref s1]), (s1, cI d 216 (sF T))]) (st' := [.int (b2i (suit T b j i))]) (As := [.int (nI b), .int (nI j), .int (nI i)]) (st := []) X (ct_X3_suit l d s0 s1 T b j i (by first | assumption | omega) (by first | assumption | omega)) wd_699 wd_696 wd_698 wd_20 wd_56 hd_X3_suit rfl ⟨(Nat.le_of_ble_eq_true rfl), (Nat.le_of_ble_eq_true rfl)⟩ rfl rfl dX3_tellsAlone_42 ⟨(Nat.le_of_ble_eq_true rfl), (Nat.le_of_ble_eq_true rfl)⟩ rfl rfl (Nat.le_of_ble_eq_true rfl) [4, 5] [0, 1, 2, 3] rfl rfl rfl rfl rfl (by decide) rfl [0, 1, 2, 3, 4, 5] rfl rfl rfl rfl ?_
              refine g_ifB_eq X 50 dX3_tellsAlone_45 (by decide) (fun c45_5 => ?_) (fun c45_5 => ?_)
              · refine g_iinc (v := nI (i + 1)) (lv' := [(4, .int (nI (i + 1))), (0, .ref s0), (1, .ref h0), (2, .int (nI b)), (3, .int (nI j))]) X dX3_tellsAlone_50 4 rfl (nI_inc _) (by decide) rfl ?_
                refine g_goto X 15 dX3_tellsAlone_53 (by decide) ?_
                refine g_lv (lv' := [(0, .ref s0), (1, .ref h0), (2, .int (nI b)), (3, .int (nI j)), (4, .int (nI (i + 1)))]) X [1, 2, 3, 4, 0] rfl ?_
                exact ih_15 (i + 1) (by first | assumption | omega) (fun k hk => by rcases Nat.lt_succ_iff_lt_or_eq.mp hk with h | h; exact hn k h; subst h; exact fun _ _ => by assumption) (by omega)
              · refine g_iconst (v := 0) X dX3_tellsAlone_48 (by decide) ?_
                exact g_end X (gE_i dX3_tellsAlone_49 (rfl) (Nat.le_of_ble_eq_true rfl) (Nat.le_of_ble_eq_true rfl) ⟨congrArg (fun z => some (Value.int z)) (by first | exact (b2i_t ⟨by assumption, fun o ho => hn o (by omega)⟩).symm | exact (b2i_f (fun z => absurd (by assumption) (z.2 i (by omega) (by assumption) (Int32.not_le.mp (by assumption))))).symm | exact (b2i_f (fun z => absurd z.1 (by assumption))).symm), rfl⟩)
    refine g_lv (lv' := [(0, .ref s0), (1, .ref h0), (2, .int (nI b)), (3, .int (nI j)), (4, .int 0)]) X [1, 2, 3, 4, 0] rfl ?_
    exact g_eq (ws' := [(h0, cO 1 [.ref q1, .ref q2, .ref q3]), (q1, cI d 36 K), (q2, cI d 36 L), (q3, cI d 5 S), (s0, cO 3 [.ref s1]), (s1, cI d 216 (sF T))]) (lv' := [(0, .ref s0), (1, .ref h0), (2, .int (nI b)), (3, .int (nI j)), (4, .int (nI 0))]) (rfl) (lv_cons (rfl) (lv_cons (rfl) (lv_cons (rfl) (lv_cons (rfl) (lv_cons (vI (by rfl)) (rfl)))))) (at_15 _ 0 (by first | assumption | omega) (fun k hk => absurd hk (Nat.not_lt_zero k)) (Nat.lt_succ_self _))
  · refine g_iconst (v := 0) X dX3_tellsAlone_10 (by decide) ?_
    exact g_end X (gE_i dX3_tellsAlone_11 (rfl) (Nat.le_of_ble_eq_true rfl) (Nat.le_of_ble_eq_true rfl) ⟨congrArg (fun z => some (Value.int z)) ((b2i_f (fun z => absurd z.1 (by assumption))).symm), rfl⟩)
set_option maxHeartbeats 4000000 in
set_option maxRecDepth 20000 in
theorem ct_X3_fewestToTell (l : Launch) (d : KD) (h0 q1 q2 q3 : Nat) (K L S : Nat → Int32) (s0 s1 : Nat) (T : Nat → Nat → Int32) (j : Nat) (hj : j < 36) : Ct l d yX3_fewestToTell cX3_fewestToTell 7 (some .int) { frames := 4, cells := 0, slots := 0, locals := 95 } [.ref s0, .ref h0, .int (nI j)] [(h0, cO 1 [.ref q1, .ref q2, .ref q3]), (q1, cI d 36 K), (q2, cI d 36 L), (q3, cI d 5 S), (s0, cO 3 [.ref s1]), (s1, cI d 216 (sF T))] 0 0 (fun r wo => r = some (.int ((ftF T L j 64).1)) ∧ wo = [(h0, cO 1 [.ref q1, .ref q2, .ref q3]), (q1, cI d 36 K), (q2, cI d 36 L), (q3, cI d 5 S), (s0, cO 3 [.ref s1]), (s1, cI d 216 (sF T))]) := by
  refine ct_of (own := RX3) (ini := false) (by decide +kernel) rfl (fun h => by cases h) (Nat.le_of_ble_eq_true rfl) ?_
  intro g X
  show g 0 0 [(h0, cO 1 [.ref q1, .ref q2, .ref q3]), (q1, cI d 36 K), (q2, cI d 36 L), (q3, cI d 5 S), (s0, cO 3 [.ref s1]), (s1, cI d 216 (sF T))] [(0, .ref s0), (1, .ref h0), (2, .int (nI j))] 0 []
  refine g_bipush (v := (-9)) X dX3_fewestToTell_0 (by decide) ?_
  refine g_istore_n (lv' := [(3, .int (-9)), (0, .ref s0), (1, .ref h0), (2, .int (nI j))]) X dX3_fewestToTell_2 rfl (by decide) rfl ?_
  refine g_bipush (v := 7) X dX3_fewestToTell_3 (by decide) ?_
  refine g_istore (lv' := [(4, .int 7), (3, .int (-9)), (0, .ref s0), (1, .ref h0), (2, .int (nI j))]) X dX3_fewestToTell_5 (by decide) rfl ?_
  refine g_iconst (v := 0) X dX3_fewestToTell_7 (by decide) ?_
  refine g_istore (lv' := [(5, .int 0), (4, .int 7), (3, .int (-9)), (0, .ref s0), (1, .ref h0), (2, .int (nI j))]) X dX3_fewestToTell_8 (by decide) rfl ?_
  have at_10 : ∀ (n_ : Nat) (i : Nat) (hi : i ≤ 64), (64 - i) < n_ → g 0 0 [(h0, cO 1 [.ref q1, .ref q2, .ref q3]), (q1, cI d 36 K), (q2, cI d 36 L), (q3, cI d 5 S), (s0, cO 3 [.ref s1]), (s1, cI d 216 (sF T))] [(0, .ref s0), (1, .ref h0), (2, .int (nI j)), (3, .int ((ftF T L j i).1)), (4, .int ((ftF T L j i).2)), (5, .int (nI i))] 10 [] := by
    intro n_
    induction n_ with
    | zero => intro i hi hn_; exact absurd hn_ (Nat.not_lt_zero _)
    | succ n_ ih_10 =>
      intro i hi hn_10
      refine g_iload X dX3_fewestToTell_10 5 rfl ?_
      refine g_bipush (v := 64) X dX3_fewestToTell_12 (by decide) ?_
      refine g_icmpN_ge (a := i) (b := 64) X rfl rfl (by omega) (by omega) 55 dX3_fewestToTell_14 (by decide) (fun c14_1 => ?_) (fun c14_1 => ?_)
      · refine g_iload_n X dX3_fewestToTell_55 rfl 3 rfl ?_
        exact g_end X (gE_i dX3_fewestToTell_56 (rfl) (Nat.le_of_ble_eq_true rfl) (Nat.le_of_ble_eq_true rfl) ⟨congrArg (fun z => some (Value.int z)) (by rw [show i = 64 by omega]), rfl⟩)
      · refine g_iload X dX3_fewestToTell_17 5 rfl ?_
        refine g_dS (n := 1) (wr := [(h0, cO 1 [.ref q1, .ref q2, .ref q3]), (q1, cI d 36 K), (q2, cI d 36 L), (q3, cI d 5 S), (s0, cO 3 [.ref s1]), (s1, cI d 216 (sF T))]) (ws' := [(h0, cO 1 [.ref q1, .ref q2, .ref q3]), (q1, cI d 36 K), (q2, cI d 36 L), (q3, cI d 5 S), (s0, cO 3 [.ref s1]), (s1, cI d 216 (sF T))]) (st' := [.int (bcI (nI i))]) (As := [.int (nI i)]) (st := []) X (ct_J6_bitCount_0f7a4 l d (nI i)) wd_688 wd_686 wd_687 wd_66 hd_J6_bitCount_0f7a4 ⟨(Nat.le_of_ble_eq_true rfl), (Nat.le_of_ble_eq_true rfl)⟩ rfl rfl dX3_fewestToTell_19 ⟨(Nat.le_of_ble_eq_true rfl), (Nat.le_of_ble_eq_true rfl)⟩ rfl rfl (Nat.le_of_ble_eq_true rfl) [] [0, 1, 2, 3, 4, 5] rfl rfl rfl rfl rfl (by decide) [0, 1, 2, 3, 4, 5] rfl rfl rfl rfl ?_
        refine g_istore (lv' := [(6, .int (bcI (nI i))), (0, .ref s0), (1, .ref h0), (2, .int (nI j)), (3, .int ((ftF T L j i).1)), (4, .int ((ftF T L j i).2)), (5, .int (nI i))]) X dX3_fewestToTell_22 (by decide) rfl ?_
        refine g_iload X dX3_fewestToTell_24 0 rfl ?_
        refine g_iload X dX3_fewestToTell_26 5 rfl ?_
        refine g_icmp_ge X 49 dX3_fewestToTell_28 (by decide) (fun c28_2 => ?_) (fun c28_2 => ?_)
        · refine g_iinc (v := nI (i + 1)) (lv' := [(5, .int (nI (i + 1))), (6, .int (bcI (nI i))), (0, .ref s0), (1, .ref h0), (2, .int (nI j)), (3, .int ((ftF T L j i).1)), (4, .int ((ftF T L j i).2))]) X dX3_fewestToTell_49 6 rfl (nI_inc _) (by decide) rfl ?_
          refine g_goto X 10 dX3_fewestToTell_52 (by decide) ?_
          refine g_lv (lv' := [(0, .ref s0), (1, .ref h0), (2, .int (nI j)), (3, .int ((ftF T L j i).1)), (4, .int ((ftF T L j i).2)), (5, .int (nI (i + 1)))]) X [2, 3, 4, 5, 6, 0] rfl ?_
          exact g_eq (ws' := [(h0, cO 1 [.ref q1, .ref q2, .ref q3]), (q1, cI d 36 K), (q2, cI d 36 L), (q3, cI d 5 S), (s0, cO 3 [.ref s1]), (s1, cI d 216 (sF T))]) (lv' := [(0, .ref s0), (1, .ref h0), (2, .int (nI j)), (3, .int ((ftF T L j (i + 1)).1)), (4, .int ((ftF T L j (i + 1)).2)), (5, .int (nI (i + 1)))]) (rfl) (lv_cons (rfl) (lv_cons (rfl) (lv_cons (rfl) (lv_cons (vI (by first | exact (congrArg Prod.fst (ftF_n (fun z => absurd z.1 (Int32.not_lt.mpr (by assumption))))).symm | exact (congrArg Prod.fst (ftF_n (fun z => absurd z.2 (by assumption)))).symm | exact (congrArg Prod.fst (ftF_y (Int32.not_le.mp (by assumption)) (by assumption))).symm)) (lv_cons (vI (by first | exact (congrArg Prod.snd (ftF_n (fun z => absurd z.1 (Int32.not_lt.mpr (by assumption))))).symm | exact (congrArg Prod.snd (ftF_n (fun z => absurd z.2 (by assumption)))).symm | exact (congrArg Prod.snd (ftF_y (Int32.not_le.mp (by assumption)) (by assumption))).symm)) (lv_cons (rfl) (rfl))))))) (ih_10 (i + 1) (by first | assumption | omega) (by omega))
        · refine g_aload_n X dX3_fewestToTell_31 rfl 1 rfl ?_
          refine g_aload_n X dX3_fewestToTell_32 rfl 2 rfl ?_
          refine g_iload X dX3_fewestToTell_33 6 rfl ?_
          refine g_iload_n X dX3_fewestToTell_35 rfl 3 rfl ?_
          refine g_dV (ci := 3) (q0 := 4) (n := 3) (wr := []) (ws' := [(h0, cO 1 [.ref q1, .ref q2, .ref q3]), (q1, cI d 36 K), (q2, cI d 36 L), (q3, cI d 5 S), (s0, cO 3 [.ref s1]), (s1, cI d 216 (sF T))]) (st' := [.int (b2i (alone T L i j))]) (As := [.ref h0, .int (nI i), .int (nI j)]) (st := []) X (ct_X3_tellsAlone l d h0 q1 q2 q3 K L S s0 s1 T i j (by first | assumption | omega)) wd_695 wd_692 wd_694 wd_19 wd_56 hd_X3_tellsAlone rfl ⟨(Nat.le_of_ble_eq_true rfl), (Nat.le_of_ble_eq_true rfl)⟩ rfl rfl dX3_fewestToTell_36 ⟨(Nat.le_of_ble_eq_true rfl), (Nat.le_of_ble_eq_true rfl)⟩ rfl rfl (Nat.le_of_ble_eq_true rfl) [0, 1, 2, 3, 4, 5] [] rfl rfl rfl rfl rfl (by decide) rfl [0, 1, 2, 3, 4, 5] rfl rfl rfl rfl ?_
          refine g_ifB_eq X 49 dX3_fewestToTell_39 (by decide) (fun c39_3 => ?_) (fun c39_3 => ?_)
          · refine g_iinc (v := nI (i + 1)) (lv' := [(5, .int (nI (i + 1))), (6, .int (bcI (nI i))), (0, .ref s0), (1, .ref h0), (2, .int (nI j)), (3, .int ((ftF T L j i).1)), (4, .int ((ftF T L j i).2))]) X dX3_fewestToTell_49 6 rfl (nI_inc _) (by decide) rfl ?_
            refine g_goto X 10 dX3_fewestToTell_52 (by decide) ?_
            refine g_lv (lv' := [(0, .ref s0), (1, .ref h0), (2, .int (nI j)), (3, .int ((ftF T L j i).1)), (4, .int ((ftF T L j i).2)), (5, .int (nI (i + 1)))]) X [2, 3, 4, 5, 6, 0] rfl ?_
            exact g_eq (ws' := [(h0, cO 1 [.ref q1, .ref q2, .ref q3]), (q1, cI d 36 K), (q2, cI d 36 L), (q3, cI d 5 S), (s0, cO 3 [.ref s1]), (s1, cI d 216 (sF T))]) (lv' := [(0, .ref s0), (1, .ref h0), (2, .int (nI j)), (3, .int ((ftF T L j (i + 1)).1)), (4, .int ((ftF T L j (i + 1)).2)), (5, .int (nI (i + 1)))]) (rfl) (lv_cons (rfl) (lv_cons (rfl) (lv_cons (rfl) (lv_cons (vI (by first | exact (congrArg Prod.fst (ftF_n (fun z => absurd z.1 (Int32.not_lt.mpr (by assumption))))).symm | exact (congrArg Prod.fst (ftF_n (fun z => absurd z.2 (by assumption)))).symm | exact (congrArg Prod.fst (ftF_y (Int32.not_le.mp (by assumption)) (by assumption))).symm)) (lv_cons (vI (by first | exact (congrArg Prod.snd (ftF_n (fun z => absurd z.1 (Int32.not_lt.mpr (by assumption))))).symm | exact (congrArg Prod.snd (ftF_n (fun z => absurd z.2 (by assumption)))).symm | exact (congrArg Prod.snd (ftF_y (Int32.not_le.mp (by assumption)) (by assumption))).symm)) (lv_cons (rfl) (rfl))))))) (ih_10 (i + 1) (by first | assumption | omega) (by omega))
          · refine g_iload X dX3_fewestToTell_42 6 rfl ?_
            refine g_istore_n (lv' := [(3, .int (nI i)), (6, .int (bcI (nI i))), (0, .ref s0), (1, .ref h0), (2, .int (nI j)), (4, .int ((ftF T L j i).2)), (5, .int (nI i))]) X dX3_fewestToTell_44 rfl (by decide) rfl ?_
            refine g_iload X dX3_fewestToTell_45 1 rfl ?_
            refine g_istore (lv' := [(4, .int (bcI (nI i))), (3, .int (nI i)), (6, .int (bcI (nI i))), (0, .ref s0), (1, .ref h0), (2, .int (nI j)), (5, .int (nI i))]) X dX3_fewestToTell_47 (by decide) rfl ?_
            refine g_iinc (v := nI (i + 1)) (lv' := [(5, .int (nI (i + 1))), (4, .int (bcI (nI i))), (3, .int (nI i)), (6, .int (bcI (nI i))), (0, .ref s0), (1, .ref h0), (2, .int (nI j))]) X dX3_fewestToTell_49 6 rfl (nI_inc _) (by decide) rfl ?_
            refine g_goto X 10 dX3_fewestToTell_52 (by decide) ?_
            refine g_lv (lv' := [(0, .ref s0), (1, .ref h0), (2, .int (nI j)), (3, .int (nI i)), (4, .int (bcI (nI i))), (5, .int (nI (i + 1)))]) X [4, 5, 6, 2, 1, 0] rfl ?_
            exact g_eq (ws' := [(h0, cO 1 [.ref q1, .ref q2, .ref q3]), (q1, cI d 36 K), (q2, cI d 36 L), (q3, cI d 5 S), (s0, cO 3 [.ref s1]), (s1, cI d 216 (sF T))]) (lv' := [(0, .ref s0), (1, .ref h0), (2, .int (nI j)), (3, .int ((ftF T L j (i + 1)).1)), (4, .int ((ftF T L j (i + 1)).2)), (5, .int (nI (i + 1)))]) (rfl) (lv_cons (rfl) (lv_cons (rfl) (lv_cons (rfl) (lv_cons (vI (by first | exact (congrArg Prod.fst (ftF_n (fun z => absurd z.1 (Int32.not_lt.mpr (by assumption))))).symm | exact (congrArg Prod.fst (ftF_n (fun z => absurd z.2 (by assumption)))).symm | exact (congrArg Prod.fst (ftF_y (Int32.not_le.mp (by assumption)) (by assumption))).symm)) (lv_cons (vI (by first | exact (congrArg Prod.snd (ftF_n (fun z => absurd z.1 (Int32.not_lt.mpr (by assumption))))).symm | exact (congrArg Prod.snd (ftF_n (fun z => absurd z.2 (by assumption)))).symm | exact (congrArg Prod.snd (ftF_y (Int32.not_le.mp (by assumption)) (by assumption))).symm)) (lv_cons (rfl) (rfl))))))) (ih_10 (i + 1) (by first | assumption | omega) (by omega))
  refine g_lv (lv' := [(0, .ref s0), (1, .ref h0), (2, .int (nI j)), (3, .int (-9)), (4, .int 7), (5, .int 0)]) X [3, 4, 5, 2, 1, 0] rfl ?_
  exact g_eq (ws' := [(h0, cO 1 [.ref q1, .ref q2, .ref q3]), (q1, cI d 36 K), (q2, cI d 36 L), (q3, cI d 5 S), (s0, cO 3 [.ref s1]), (s1, cI d 216 (sF T))]) (lv' := [(0, .ref s0), (1, .ref h0), (2, .int (nI j)), (3, .int ((ftF T L j 0).1)), (4, .int ((ftF T L j 0).2)), (5, .int (nI 0))]) (rfl) (lv_cons (rfl) (lv_cons (rfl) (lv_cons (rfl) (lv_cons (vI (by rfl)) (lv_cons (vI (by rfl)) (lv_cons (vI (by rfl)) (rfl))))))) (at_10 _ 0 (by first | assumption | omega) (Nat.lt_succ_self _))
set_option maxHeartbeats 4000000 in
set_option maxRecDepth 20000 in
theorem ct_X3_othersLike (l : Launch) (d : KD) (h0 q1 q2 q3 : Nat) (K L S : Nat → Int32) (s0 s1 : Nat) (T : Nat → Nat → Int32) (j : Nat) (hj : j < 36) : Ct l d yX3_othersLike cX3_othersLike 6 (some .int) { frames := 2, cells := 0, slots := 0, locals := 41 } [.ref s0, .ref h0, .int (nI j)] [(h0, cO 1 [.ref q1, .ref q2, .ref q3]), (q1, cI d 36 K), (q2, cI d 36 L), (q3, cI d 5 S), (s0, cO 3 [.ref s1]), (s1, cI d 216 (sF T))] 0 0 (fun r wo => r = some (.int (nI (alk T L j))) ∧ wo = [(h0, cO 1 [.ref q1, .ref q2, .ref q3]), (q1, cI d 36 K), (q2, cI d 36 L), (q3, cI d 5 S), (s0, cO 3 [.ref s1]), (s1, cI d 216 (sF T))]) := by
  refine ct_of (own := RX3) (ini := false) (by decide +kernel) rfl (fun h => by cases h) (Nat.le_of_ble_eq_true rfl) ?_
  intro g X
  show g 0 0 [(h0, cO 1 [.ref q1, .ref q2, .ref q3]), (q1, cI d 36 K), (q2, cI d 36 L), (q3, cI d 5 S), (s0, cO 3 [.ref s1]), (s1, cI d 216 (sF T))] [(0, .ref s0), (1, .ref h0), (2, .int (nI j))] 0 []
  refine g_iconst (v := 0) X dX3_othersLike_0 (by decide) ?_
  refine g_istore_n (lv' := [(3, .int 0), (0, .ref s0), (1, .ref h0), (2, .int (nI j))]) X dX3_othersLike_1 rfl (by decide) rfl ?_
  refine g_iconst (v := 0) X dX3_othersLike_2 (by decide) ?_
  refine g_istore (lv' := [(4, .int 0), (3, .int 0), (0, .ref s0), (1, .ref h0), (2, .int (nI j))]) X dX3_othersLike_3 (by decide) rfl ?_
  have at_5 : ∀ (n_ : Nat) (i : Nat) (hi : i ≤ 36), (36 - i) < n_ → g 0 0 [(h0, cO 1 [.ref q1, .ref q2, .ref q3]), (q1, cI d 36 K), (q2, cI d 36 L), (q3, cI d 5 S), (s0, cO 3 [.ref s1]), (s1, cI d 216 (sF T))] [(0, .ref s0), (1, .ref h0), (2, .int (nI j)), (3, .int (nI (cnt (fun o => ¬ o = j ∧ ¬ L o = 0 ∧ T 0 j = T 0 o ∧ T 4 j = T 4 o) i))), (4, .int (nI i))] 5 [] := by
    intro n_
    induction n_ with
    | zero => intro i hi hn_; exact absurd hn_ (Nat.not_lt_zero _)
    | succ n_ ih_5 =>
      intro i hi hn_5
      refine g_iload X dX3_othersLike_5 4 rfl ?_
      refine g_bipush (v := 36) X dX3_othersLike_7 (by decide) ?_
      refine g_icmpN_ge (a := i) (b := 36) X rfl rfl (by omega) (by omega) 83 dX3_othersLike_9 (by decide) (fun c9_1 => ?_) (fun c9_1 => ?_)
      · refine g_iload_n X dX3_othersLike_83 rfl 3 rfl ?_
        exact g_end X (gE_i dX3_othersLike_84 (rfl) (Nat.le_of_ble_eq_true rfl) (Nat.le_of_ble_eq_true rfl) ⟨congrArg (fun z => some (Value.int z)) (by rw [show i = 36 by omega]; rfl), rfl⟩)
      · refine g_iload X dX3_othersLike_12 4 rfl ?_
        refine g_iload_n X dX3_othersLike_14 rfl 2 rfl ?_
        refine g_icmpN_eq (a := i) (b := j) X rfl rfl (by omega) (by omega) 77 dX3_othersLike_15 (by decide) (fun c15_2 => ?_) (fun c15_2 => ?_)
        · refine g_iinc (v := nI (i + 1)) (lv' := [(4, .int (nI (i + 1))), (0, .ref s0), (1, .ref h0), (2, .int (nI j)), (3, .int (nI (cnt (fun o => ¬ o = j ∧ ¬ L o = 0 ∧ T 0 j = T 0 o ∧ T 4 j = T 4 o) i)))]) X dX3_othersLike_77 4 rfl (nI_inc _) (by decide) rfl ?_
          refine g_goto X 5 dX3_othersLike_80 (by decide) ?_
          refine g_lv (lv' := [(0, .ref s0), (1, .ref h0), (2, .int (nI j)), (3, .int (nI (cnt (fun o => ¬ o = j ∧ ¬ L o = 0 ∧ T 0 j = T 0 o ∧ T 4 j = T 4 o) i))), (4, .int (nI (i + 1)))]) X [1, 2, 3, 4, 0] rfl ?_
          exact g_eq (ws' := [(h0, cO 1 [.ref q1, .ref q2, .ref q3]), (q1, cI d 36 K), (q2, cI d 36 L), (q3, cI d 5 S), (s0, cO 3 [.ref s1]), (s1, cI d 216 (sF T))]) (lv' := [(0, .ref s0), (1, .ref h0), (2, .int (nI j)), (3, .int (nI (cnt (fun o => ¬ o = j ∧ ¬ L o = 0 ∧ T 0 j = T 0 o ∧ T 4 j = T 4 o) (i + 1)))), (4, .int (nI (i + 1)))]) (rfl) (lv_cons (rfl) (lv_cons (rfl) (lv_cons (rfl) (lv_cons (vI (by first | exact cnt_F (fun z => z.1 (by assumption)) | exact cnt_F (fun z => z.2.1 (by assumption)) | exact cnt_F (fun z => absurd z.2.2.1 (by assumption)) | exact cnt_F (fun z => absurd z.2.2.2 (by assumption)) | exact cnt_T ⟨by assumption, by assumption, by assumption, by assumption⟩)) (lv_cons (rfl) (rfl)))))) (ih_5 (i + 1) (by first | assumption | omega) (by omega))
        · refine g_aload_n X dX3_othersLike_18 rfl 1 rfl ?_
          refine g_iload X dX3_othersLike_19 4 rfl ?_
          refine g_dV (ci := 1) (q0 := 0) (n := 1) (wr := [(s0, cO 3 [.ref s1]), (s1, cI d 216 (sF T))]) (ws' := [(h0, cO 1 [.ref q1, .ref q2, .ref q3]), (q1, cI d 36 K), (q2, cI d 36 L), (q3, cI d 5 S), (s0, cO 3 [.ref s1]), (s1, cI d 216 (sF T))]) (st' := [.int (L i)]) (As := [.int (nI i)]) (st := []) X (ct_X1_likelyAt l d h0 q1 q2 q3 K L S i (by first | assumption | omega)) wd_491 wd_488 wd_489 wd_490 wd_53 hd_X1_likelyAt rfl ⟨(Nat.le_of_ble_eq_true rfl), (Nat.le_of_ble_eq_true rfl)⟩ rfl rfl dX3_othersLike_21 ⟨(Nat.le_of_ble_eq_true rfl), (Nat.le_of_ble_eq_true rfl)⟩ rfl rfl (Nat.le_of_ble_eq_true rfl) [0, 1, 2, 3] [4, 5] rfl rfl rfl rfl rfl (by decide) rfl [2, 3, 4, 5, 0, 1] rfl rfl rfl rfl ?_
          refine g_if_ne X 30 dX3_othersLike_24 (by decide) (fun c24_3 => ?_) (fun c24_3 => ?_)
          · refine g_aload_n X dX3_othersLike_30 rfl 0 rfl ?_
            refine g_iconst (v := 0) X dX3_othersLike_31 (by decide) ?_
            refine g_iload_n X dX3_othersLike_32 rfl 2 rfl ?_
            refine g_dV (ci := 3) (q0 := 0) (n := 2) (wr := [(h0, cO 1 [.ref q1, .ref q2, .ref q3]), (q1, cI d 36 K), (q2, cI d 36 L), (q3, cI d 5 S)]) (ws' := [(h0, cO 1 [.ref q1, .ref q2, .ref q3]), (q1, cI d 36 K), (q2, cI d 36 L), (q3, cI d 5 S), (s0, cO 3 [.ref s1]), (s1, cI d 216 (sF T))]) (st' := [.int (T 0 j)]) (As := [.int 0, .int (nI j)]) (st := []) X (ct_X3_numberOf l d s0 s1 T 0 j (by first | assumption | omega) (by first | assumption | omega)) wd_499 wd_496 wd_497 wd_498 wd_56 hd_X3_numberOf rfl ⟨(Nat.le_of_ble_eq_true rfl), (Nat.le_of_ble_eq_true rfl)⟩ rfl rfl dX3_othersLike_33 ⟨(Nat.le_of_ble_eq_true rfl), (Nat.le_of_ble_eq_true rfl)⟩ rfl rfl (Nat.le_of_ble_eq_true rfl) [4, 5] [0, 1, 2, 3] rfl rfl rfl rfl rfl (by decide) rfl [0, 1, 2, 3, 4, 5] rfl rfl rfl rfl ?_
            refine g_aload_n X dX3_othersLike_36 rfl 0 rfl ?_
            refine g_iconst (v := 0) X dX3_othersLike_37 (by decide) ?_
            refine g_iload X dX3_othersLike_38 4 rfl ?_
            refine g_dV (ci := 3) (q0 := 0) (n := 2) (wr := [(h0, cO 1 [.ref q1, .ref q2, .ref q3]), (q1, cI d 36 K), (q2, cI d 36 L), (q3, cI d 5 S)]) (ws' := [(h0, cO 1 [.ref q1, .ref q2, .ref q3]), (q1, cI d 36 K), (q2, cI d 36 L), (q3, cI d 5 S), (s0, cO 3 [.ref s1]), (s1, cI d 216 (sF T))]) (st' := [.int (T 0 i), .int (T 0 j)]) (As := [.int 0, .int (nI i)]) (st := [.int (T 0 j)]) X (ct_X3_numberOf l d s0 s1 T 0 i (by first | assumption | omega) (by first | assumption | omega)) wd_499 wd_496 wd_497 wd_498 wd_56 hd_X3_numberOf rfl ⟨(Nat.le_of_ble_eq_true rfl), (Nat.le_of_ble_eq_true rfl)⟩ rfl rfl dX3_othersLike_40 ⟨(Nat.le_of_ble_eq_true rfl), (Nat.le_of_ble_eq_true rfl)⟩ rfl rfl (Nat.le_of_ble_eq_true rfl) [4, 5] [0, 1, 2, 3] rfl rfl rfl rfl rfl (by decide) rfl [0, 1, 2, 3, 4, 5] rfl rfl rfl rfl ?_
            refine g_icmp_ne X 50 dX3_othersLike_43 (by decide) (fun c43_4 => ?_) (fun c43_4 => ?_)
            · refine g_iconst (v := 0) X dX3_othersLike_50 (by decide) ?_
              refine g_istore (lv' := [(5, .int 0), (0, .ref s0), (1, .ref h0), (2, .int (nI j)), (3, .int (nI (cnt (fun o => ¬ o = j ∧ ¬ L o = 0 ∧ T 0 j = T 0 o ∧ T 4 j = T 4 o) i))), (4, .int (nI i))]) X dX3_othersLike_51 (by decide) rfl ?_
              refine g_iload X dX3_othersLike_53 0 rfl ?_
              refine g_if_eq X 77 dX3_othersLike_55 (by decide) (fun _ => ?_) (fun h => absurd h (by decide))
              refine g_iinc (v := nI (i + 1)) (lv' := [(4, .int (nI (i + 1))), (5, .int 0), (0, .ref s0), (1, .ref h0), (2, .int (nI j)), (3, .int (nI (cnt (fun o => ¬ o = j ∧ ¬ L o = 0 ∧ T 0 j = T 0 o ∧ T 4 j = T 4 o) i)))]) X dX3_othersLike_77 5 rfl (nI_inc _) (by decide) rfl ?_
              refine g_goto X 5 dX3_othersLike_80 (by decide) ?_
              refine g_lv (lv' := [(0, .ref s0), (1, .ref h0), (2, .int (nI j)), (3, .int (nI (cnt (fun o => ¬ o = j ∧ ¬ L o = 0 ∧ T 0 j = T 0 o ∧ T 4 j = T 4 o) i))), (4, .int (nI (i + 1)))]) X [2, 3, 4, 5, 0] rfl ?_
              exact g_eq (ws' := [(h0, cO 1 [.ref q1, .ref q2, .ref q3]), (q1, cI d 36 K), (q2, cI d 36 L), (q3, cI d 5 S), (s0, cO 3 [.ref s1]), (s1, cI d 216 (sF T))]) (lv' := [(0, .ref s0), (1, .ref h0), (2, .int (nI j)), (3, .int (nI (cnt (fun o => ¬ o = j ∧ ¬ L o = 0 ∧ T 0 j = T 0 o ∧ T 4 j = T 4 o) (i + 1)))), (4, .int (nI (i + 1)))]) (rfl) (lv_cons (rfl) (lv_cons (rfl) (lv_cons (rfl) (lv_cons (vI (by first | exact cnt_F (fun z => z.1 (by assumption)) | exact cnt_F (fun z => z.2.1 (by assumption)) | exact cnt_F (fun z => absurd z.2.2.1 (by assumption)) | exact cnt_F (fun z => absurd z.2.2.2 (by assumption)) | exact cnt_T ⟨by assumption, by assumption, by assumption, by assumption⟩)) (lv_cons (rfl) (rfl)))))) (ih_5 (i + 1) (by first | assumption | omega) (by omega))
            · refine g_iconst (v := 1) X dX3_othersLike_46 (by decide) ?_
              refine g_goto X 51 dX3_othersLike_47 (by decide) ?_
              refine g_istore (lv' := [(5, .int 1), (0, .ref s0), (1, .ref h0), (2, .int (nI j)), (3, .int (nI (cnt (fun o => ¬ o = j ∧ ¬ L o = 0 ∧ T 0 j = T 0 o ∧ T 4 j = T 4 o) i))), (4, .int (nI i))]) X dX3_othersLike_51 (by decide) rfl ?_
              refine g_iload X dX3_othersLike_53 0 rfl ?_
              refine g_if_eq X 77 dX3_othersLike_55 (by decide) (fun h => absurd h (by decide)) (fun _ => ?_)
              refine g_aload_n X dX3_othersLike_58 rfl 1 rfl ?_
              refine g_iconst (v := 4) X dX3_othersLike_59 (by decide) ?_
              refine g_iload_n X dX3_othersLike_60 rfl 3 rfl ?_
              refine g_dV (ci := 3) (q0 := 0) (n := 2) (wr := [(h0, cO 1 [.ref q1, .ref q2, .ref q3]), (q1, cI d 36 K), (q2, cI d 36 L), (q3, cI d 5 S)]) (ws' := [(h0, cO 1 [.ref q1, .ref q2, .ref q3]), (q1, cI d 36 K), (q2, cI d 36 L), (q3, cI d 5 S), (s0, cO 3 [.ref s1]), (s1, cI d 216 (sF T))]) (st' := [.int (T 4 j)]) (As := [.int 4, .int (nI j)]) (st := []) X (ct_X3_numberOf l d s0 s1 T 4 j (by first | assumption | omega) (by first | assumption | omega)) wd_499 wd_496 wd_497 wd_498 wd_56 hd_X3_numberOf rfl ⟨(Nat.le_of_ble_eq_true rfl), (Nat.le_of_ble_eq_true rfl)⟩ rfl rfl dX3_othersLike_61 ⟨(Nat.le_of_ble_eq_true rfl), (Nat.le_of_ble_eq_true rfl)⟩ rfl rfl (Nat.le_of_ble_eq_true rfl) [4, 5] [0, 1, 2, 3] rfl rfl rfl rfl rfl (by decide) rfl [0, 1, 2, 3, 4, 5] rfl rfl rfl rfl ?_
              refine g_aload_n X dX3_othersLike_64 rfl 1 rfl ?_
              refine g_iconst (v := 4) X dX3_othersLike_65 (by decide) ?_
              refine g_iload X dX3_othersLike_66 5 rfl ?_
              refine g_dV (ci := 3) (q0 := 0) (n := 2) (wr := [(h0, cO 1 [.ref q1, .ref q2, .ref q3]), (q1, cI d 36 K), (q2, cI d 36 L), (q3, cI d 5 S)]) (ws' := [(h0, cO 1 [.ref q1, .ref q2, .ref q3]), (q1, cI d 36 K), (q2, cI d 36 L), (q3, cI d 5 S), (s0, cO 3 [.ref s1]), (s1, cI d 216 (sF T))]) (st' := [.int (T 4 i), .int (T 4 j)]) (As := [.int 4, .int (nI i)]) (st := [.int (T 4 j)]) X (ct_X3_numberOf l d s0 s1 T 4 i (by first | assumption | omega) (by first | assumption | omega)) wd_499 wd_496 wd_497 wd_498 wd_56 hd_X3_numberOf rfl ⟨(Nat.le_of_ble_eq_true rfl), (Nat.le_of_ble_eq_true rfl)⟩ rfl rfl dX3_othersLike_68 ⟨(Nat.le_of_ble_eq_true rfl), (Nat.le_of_ble_eq_true rfl)⟩ rfl rfl (Nat.le_of_ble_eq_true rfl) [4, 5] [0, 1, 2, 3] rfl rfl rfl rfl rfl (by decide) rfl [0, 1, 2, 3, 4, 5] rfl rfl rfl rfl ?_
              refine g_icmp_ne X 77 dX3_othersLike_71 (by decide) (fun c71_7 => ?_) (fun c71_7 => ?_)
              · refine g_iinc (v := nI (i + 1)) (lv' := [(4, .int (nI (i + 1))), (5, .int 1), (0, .ref s0), (1, .ref h0), (2, .int (nI j)), (3, .int (nI (cnt (fun o => ¬ o = j ∧ ¬ L o = 0 ∧ T 0 j = T 0 o ∧ T 4 j = T 4 o) i)))]) X dX3_othersLike_77 5 rfl (nI_inc _) (by decide) rfl ?_
                refine g_goto X 5 dX3_othersLike_80 (by decide) ?_
                refine g_lv (lv' := [(0, .ref s0), (1, .ref h0), (2, .int (nI j)), (3, .int (nI (cnt (fun o => ¬ o = j ∧ ¬ L o = 0 ∧ T 0 j = T 0 o ∧ T 4 j = T 4 o) i))), (4, .int (nI (i + 1)))]) X [2, 3, 4, 5, 0] rfl ?_
                exact g_eq (ws' := [(h0, cO 1 [.ref q1, .ref q2, .ref q3]), (q1, cI d 36 K), (q2, cI d 36 L), (q3, cI d 5 S), (s0, cO 3 [.ref s1]), (s1, cI d 216 (sF T))]) (lv' := [(0, .ref s0), (1, .ref h0), (2, .int (nI j)), (3, .int (nI (cnt (fun o => ¬ o = j ∧ ¬ L o = 0 ∧ T 0 j = T 0 o ∧ T 4 j = T 4 o) (i + 1)))), (4, .int (nI (i + 1)))]) (rfl) (lv_cons (rfl) (lv_cons (rfl) (lv_cons (rfl) (lv_cons (vI (by first | exact cnt_F (fun z => z.1 (by assumption)) | exact cnt_F (fun z => z.2.1 (by assumption)) | exact cnt_F (fun z => absurd z.2.2.1 (by assumption)) | exact cnt_F (fun z => absurd z.2.2.2 (by assumption)) | exact cnt_T ⟨by assumption, by assumption, by assumption, by assumption⟩)) (lv_cons (rfl) (rfl)))))) (ih_5 (i + 1) (by first | assumption | omega) (by omega))
              · refine g_iinc (v := nI (cnt (fun o => ¬ o = j ∧ ¬ L o = 0 ∧ T 0 j = T 0 o ∧ T 4 j = T 4 o) i + 1)) (lv' := [(3, .int (nI (cnt (fun o => ¬ o = j ∧ ¬ L o = 0 ∧ T 0 j = T 0 o ∧ T 4 j = T 4 o) i + 1))), (5, .int 1), (0, .ref s0), (1, .ref h0), (2, .int (nI j)), (4, .int (nI i))]) X dX3_othersLike_74 4 rfl (nI_inc _) (by decide) rfl ?_
                refine g_iinc (v := nI (i + 1)) (lv' := [(4, .int (nI (i + 1))), (3, .int (nI (cnt (fun o => ¬ o = j ∧ ¬ L o = 0 ∧ T 0 j = T 0 o ∧ T 4 j = T 4 o) i + 1))), (5, .int 1), (0, .ref s0), (1, .ref h0), (2, .int (nI j))]) X dX3_othersLike_77 5 rfl (nI_inc _) (by decide) rfl ?_
                refine g_goto X 5 dX3_othersLike_80 (by decide) ?_
                refine g_lv (lv' := [(0, .ref s0), (1, .ref h0), (2, .int (nI j)), (3, .int (nI (cnt (fun o => ¬ o = j ∧ ¬ L o = 0 ∧ T 0 j = T 0 o ∧ T 4 j = T 4 o) i + 1))), (4, .int (nI (i + 1)))]) X [3, 4, 5, 1, 0] rfl ?_
                exact g_eq (ws' := [(h0, cO 1 [.ref q1, .ref q2, .ref q3]), (q1, cI d 36 K), (q2, cI d 36 L), (q3, cI d 5 S), (s0, cO 3 [.ref s1]), (s1, cI d 216 (sF T))]) (lv' := [(0, .ref s0), (1, .ref h0), (2, .int (nI j)), (3, .int (nI (cnt (fun o => ¬ o = j ∧ ¬ L o = 0 ∧ T 0 j = T 0 o ∧ T 4 j = T 4 o) (i + 1)))), (4, .int (nI (i + 1)))]) (rfl) (lv_cons (rfl) (lv_cons (rfl) (lv_cons (rfl) (lv_cons (vI (by first | exact cnt_F (fun z => z.1 (by assumption)) | exact cnt_F (fun z => z.2.1 (by assumption)) | exact cnt_F (fun z => absurd z.2.2.1 (by assumption)) | exact cnt_F (fun z => absurd z.2.2.2 (by assumption)) | exact cnt_T ⟨by assumption, by assumption, by assumption, by assumption⟩)) (lv_cons (rfl) (rfl)))))) (ih_5 (i + 1) (by first | assumption | omega) (by omega))
          · refine g_goto X 77 dX3_othersLike_27 (by decide) ?_
            refine g_iinc (v := nI (i + 1)) (lv' := [(4, .int (nI (i + 1))), (0, .ref s0), (1, .ref h0), (2, .int (nI j)), (3, .int (nI (cnt (fun o => ¬ o = j ∧ ¬ L o = 0 ∧ T 0 j = T 0 o ∧ T 4 j = T 4 o) i)))]) X dX3_othersLike_77 4 rfl (nI_inc _) (by decide) rfl ?_
            refine g_goto X 5 dX3_othersLike_80 (by decide) ?_
            refine g_lv (lv' := [(0, .ref s0), (1, .ref h0), (2, .int (nI j)), (3, .int (nI (cnt (fun o => ¬ o = j ∧ ¬ L o = 0 ∧ T 0 j = T 0 o ∧ T 4 j = T 4 o) i))), (4, .int (nI (i + 1)))]) X [1, 2, 3, 4, 0] rfl ?_
            exact g_eq (ws' := [(h0, cO 1 [.ref q1, .ref q2, .ref q3]), (q1, cI d 36 K), (q2, cI d 36 L), (q3, cI d 5 S), (s0, cO 3 [.ref s1]), (s1, cI d 216 (sF T))]) (lv' := [(0, .ref s0), (1, .ref h0), (2, .int (nI j)), (3, .int (nI (cnt (fun o => ¬ o = j ∧ ¬ L o = 0 ∧ T 0 j = T 0 o ∧ T 4 j = T 4 o) (i + 1)))), (4, .int (nI (i + 1)))]) (rfl) (lv_cons (rfl) (lv_cons (rfl) (lv_cons (rfl) (lv_cons (vI (by first | exact cnt_F (fun z => z.1 (by assumption)) | exact cnt_F (fun z => z.2.1 (by assumption)) | exact cnt_F (fun z => absurd z.2.2.1 (by assumption)) | exact cnt_F (fun z => absurd z.2.2.2 (by assumption)) | exact cnt_T ⟨by assumption, by assumption, by assumption, by assumption⟩)) (lv_cons (rfl) (rfl)))))) (ih_5 (i + 1) (by first | assumption | omega) (by omega))
  refine g_lv (lv' := [(0, .ref s0), (1, .ref h0), (2, .int (nI j)), (3, .int 0), (4, .int 0)]) X [2, 3, 4, 1, 0] rfl ?_
  exact g_eq (ws' := [(h0, cO 1 [.ref q1, .ref q2, .ref q3]), (q1, cI d 36 K), (q2, cI d 36 L), (q3, cI d 5 S), (s0, cO 3 [.ref s1]), (s1, cI d 216 (sF T))]) (lv' := [(0, .ref s0), (1, .ref h0), (2, .int (nI j)), (3, .int (nI (cnt (fun o => ¬ o = j ∧ ¬ L o = 0 ∧ T 0 j = T 0 o ∧ T 4 j = T 4 o) 0))), (4, .int (nI 0))]) (rfl) (lv_cons (rfl) (lv_cons (rfl) (lv_cons (rfl) (lv_cons (vI (by rfl)) (lv_cons (vI (by rfl)) (rfl)))))) (at_5 _ 0 (by first | assumption | omega) (Nat.lt_succ_self _))
set_option maxHeartbeats 4000000 in
set_option maxRecDepth 20000 in
theorem ct_X3_bestHidden (l : Launch) (d : KD) (h0 q1 q2 q3 : Nat) (K L S : Nat → Int32) (s0 s1 : Nat) (T : Nat → Nat → Int32) : Ct l d yX3_bestHidden cX3_bestHidden 6 (some .int) { frames := 3, cells := 0, slots := 0, locals := 66 } [.ref s0, .ref h0] [(h0, cO 1 [.ref q1, .ref q2, .ref q3]), (q1, cI d 36 K), (q2, cI d 36 L), (q3, cI d 5 S), (s0, cO 3 [.ref s1]), (s1, cI d 216 (sF T))] 0 0 (fun r wo => r = some (.int ((bhF T L 36).1)) ∧ wo = [(h0, cO 1 [.ref q1, .ref q2, .ref q3]), (q1, cI d 36 K), (q2, cI d 36 L), (q3, cI d 5 S), (s0, cO 3 [.ref s1]), (s1, cI d 216 (sF T))]) := by
  refine ct_of (own := RX3) (ini := false) (by decide +kernel) rfl (fun h => by cases h) (Nat.le_of_ble_eq_true rfl) ?_
  intro g X
  show g 0 0 [(h0, cO 1 [.ref q1, .ref q2, .ref q3]), (q1, cI d 36 K), (q2, cI d 36 L), (q3, cI d 5 S), (s0, cO 3 [.ref s1]), (s1, cI d 216 (sF T))] [(0, .ref s0), (1, .ref h0)] 0 []
  refine g_bipush (v := (-9)) X dX3_bestHidden_0 (by decide) ?_
  refine g_istore_n (lv' := [(2, .int (-9)), (0, .ref s0), (1, .ref h0)]) X dX3_bestHidden_2 rfl (by decide) rfl ?_
  refine g_iconst (v := (-1)) X dX3_bestHidden_3 (by decide) ?_
  refine g_istore_n (lv' := [(3, .int (-1)), (2, .int (-9)), (0, .ref s0), (1, .ref h0)]) X dX3_bestHidden_4 rfl (by decide) rfl ?_
  refine g_iconst (v := 0) X dX3_bestHidden_5 (by decide) ?_
  refine g_istore (lv' := [(4, .int 0), (3, .int (-1)), (2, .int (-9)), (0, .ref s0), (1, .ref h0)]) X dX3_bestHidden_6 (by decide) rfl ?_
  have at_8 : ∀ (n_ : Nat) (i : Nat) (hi : i ≤ 36), (36 - i) < n_ → g 0 0 [(h0, cO 1 [.ref q1, .ref q2, .ref q3]), (q1, cI d 36 K), (q2, cI d 36 L), (q3, cI d 5 S), (s0, cO 3 [.ref s1]), (s1, cI d 216 (sF T))] [(0, .ref s0), (1, .ref h0), (2, .int ((bhF T L i).1)), (3, .int ((bhF T L i).2)), (4, .int (nI i))] 8 [] := by
    intro n_
    induction n_ with
    | zero => intro i hi hn_; exact absurd hn_ (Nat.not_lt_zero _)
    | succ n_ ih_8 =>
      intro i hi hn_8
      refine g_iload X dX3_bestHidden_8 4 rfl ?_
      refine g_bipush (v := 36) X dX3_bestHidden_10 (by decide) ?_
      refine g_icmpN_ge (a := i) (b := 36) X rfl rfl (by omega) (by omega) 54 dX3_bestHidden_12 (by decide) (fun c12_1 => ?_) (fun c12_1 => ?_)
      · refine g_iload_n X dX3_bestHidden_54 rfl 2 rfl ?_
        exact g_end X (gE_i dX3_bestHidden_55 (rfl) (Nat.le_of_ble_eq_true rfl) (Nat.le_of_ble_eq_true rfl) ⟨congrArg (fun z => some (Value.int z)) (by rw [show i = 36 by omega]), rfl⟩)
      · refine g_aload_n X dX3_bestHidden_15 rfl 1 rfl ?_
        refine g_iload X dX3_bestHidden_16 4 rfl ?_
        refine g_dV (ci := 1) (q0 := 0) (n := 1) (wr := [(s0, cO 3 [.ref s1]), (s1, cI d 216 (sF T))]) (ws' := [(h0, cO 1 [.ref q1, .ref q2, .ref q3]), (q1, cI d 36 K), (q2, cI d 36 L), (q3, cI d 5 S), (s0, cO 3 [.ref s1]), (s1, cI d 216 (sF T))]) (st' := [.int (L i)]) (As := [.int (nI i)]) (st := []) X (ct_X1_likelyAt l d h0 q1 q2 q3 K L S i (by first | assumption | omega)) wd_491 wd_488 wd_489 wd_490 wd_53 hd_X1_likelyAt rfl ⟨(Nat.le_of_ble_eq_true rfl), (Nat.le_of_ble_eq_true rfl)⟩ rfl rfl dX3_bestHidden_18 ⟨(Nat.le_of_ble_eq_true rfl), (Nat.le_of_ble_eq_true rfl)⟩ rfl rfl (Nat.le_of_ble_eq_true rfl) [0, 1, 2, 3] [4, 5] rfl rfl rfl rfl rfl (by decide) rfl [2, 3, 4, 5, 0, 1] rfl rfl rfl rfl ?_
        refine g_if_ne X 27 dX3_bestHidden_21 (by decide) (fun c21_2 => ?_) (fun c21_2 => ?_)
        · refine g_aload_n X dX3_bestHidden_27 rfl 0 rfl ?_
          refine g_aload_n X dX3_bestHidden_28 rfl 1 rfl ?_
          refine g_iload X dX3_bestHidden_29 4 rfl ?_
          refine g_dV (ci := 3) (q0 := 4) (n := 2) (wr := []) (ws' := [(h0, cO 1 [.ref q1, .ref q2, .ref q3]), (q1, cI d 36 K), (q2, cI d 36 L), (q3, cI d 5 S), (s0, cO 3 [.ref s1]), (s1, cI d 216 (sF T))]) (st' := [.int (nI (alk T L i))]) (As := [.ref h0, .int (nI i)]) (st := []) X (ct_X3_othersLike l d h0 q1 q2 q3 K L S s0 s1 T i (by first | assumption | omega)) wd_715 wd_712 wd_713 wd_714 wd_56 hd_X3_othersLike rfl ⟨(Nat.le_of_ble_eq_true rfl), (Nat.le_of_ble_eq_true rfl)⟩ rfl rfl dX3_bestHidden_31 ⟨(Nat.le_of_ble_eq_true rfl), (Nat.le_of_ble_eq_true rfl)⟩ rfl rfl (Nat.le_of_ble_eq_true rfl) [0, 1, 2, 3, 4, 5] [] rfl rfl rfl rfl rfl (by decide) rfl [0, 1, 2, 3, 4, 5] rfl rfl rfl rfl ?_
          refine g_istore (lv' := [(5, .int (nI (alk T L i))), (0, .ref s0), (1, .ref h0), (2, .int ((bhF T L i).1)), (3, .int ((bhF T L i).2)), (4, .int (nI i))]) X dX3_bestHidden_34 (by decide) rfl ?_
          refine g_iload X dX3_bestHidden_36 0 rfl ?_
          refine g_iload_n X dX3_bestHidden_38 rfl 4 rfl ?_
          refine g_icmp_le X 48 dX3_bestHidden_39 (by decide) (fun c39_3 => ?_) (fun c39_3 => ?_)
          · refine g_iinc (v := nI (i + 1)) (lv' := [(4, .int (nI (i + 1))), (5, .int (nI (alk T L i))), (0, .ref s0), (1, .ref h0), (2, .int ((bhF T L i).1)), (3, .int ((bhF T L i).2))]) X dX3_bestHidden_48 5 rfl (nI_inc _) (by decide) rfl ?_
            refine g_goto X 8 dX3_bestHidden_51 (by decide) ?_
            refine g_lv (lv' := [(0, .ref s0), (1, .ref h0), (2, .int ((bhF T L i).1)), (3, .int ((bhF T L i).2)), (4, .int (nI (i + 1)))]) X [2, 3, 4, 5, 0] rfl ?_
            exact g_eq (ws' := [(h0, cO 1 [.ref q1, .ref q2, .ref q3]), (q1, cI d 36 K), (q2, cI d 36 L), (q3, cI d 5 S), (s0, cO 3 [.ref s1]), (s1, cI d 216 (sF T))]) (lv' := [(0, .ref s0), (1, .ref h0), (2, .int ((bhF T L (i + 1)).1)), (3, .int ((bhF T L (i + 1)).2)), (4, .int (nI (i + 1)))]) (rfl) (lv_cons (rfl) (lv_cons (rfl) (lv_cons (vI (by first | exact (congrArg Prod.fst (bhF_n (Or.inl (by assumption)))).symm | exact (congrArg Prod.fst (bhF_n (Or.inr (Int32.not_lt.mpr (by assumption))))).symm | exact (congrArg Prod.fst (bhF_y (by assumption) (Int32.not_le.mp (by assumption)))).symm)) (lv_cons (vI (by first | exact (congrArg Prod.snd (bhF_n (Or.inl (by assumption)))).symm | exact (congrArg Prod.snd (bhF_n (Or.inr (Int32.not_lt.mpr (by assumption))))).symm | exact (congrArg Prod.snd (bhF_y (by assumption) (Int32.not_le.mp (by assumption)))).symm)) (lv_cons (rfl) (rfl)))))) (ih_8 (i + 1) (by first | assumption | omega) (by omega))
          · refine g_iload X dX3_bestHidden_42 5 rfl ?_
            refine g_istore_n (lv' := [(2, .int (nI i)), (5, .int (nI (alk T L i))), (0, .ref s0), (1, .ref h0), (3, .int ((bhF T L i).2)), (4, .int (nI i))]) X dX3_bestHidden_44 rfl (by decide) rfl ?_
            refine g_iload X dX3_bestHidden_45 1 rfl ?_
            refine g_istore_n (lv' := [(3, .int (nI (alk T L i))), (2, .int (nI i)), (5, .int (nI (alk T L i))), (0, .ref s0), (1, .ref h0), (4, .int (nI i))]) X dX3_bestHidden_47 rfl (by decide) rfl ?_
            refine g_iinc (v := nI (i + 1)) (lv' := [(4, .int (nI (i + 1))), (3, .int (nI (alk T L i))), (2, .int (nI i)), (5, .int (nI (alk T L i))), (0, .ref s0), (1, .ref h0)]) X dX3_bestHidden_48 5 rfl (nI_inc _) (by decide) rfl ?_
            refine g_goto X 8 dX3_bestHidden_51 (by decide) ?_
            refine g_lv (lv' := [(0, .ref s0), (1, .ref h0), (2, .int (nI i)), (3, .int (nI (alk T L i))), (4, .int (nI (i + 1)))]) X [4, 5, 2, 1, 0] rfl ?_
            exact g_eq (ws' := [(h0, cO 1 [.ref q1, .ref q2, .ref q3]), (q1, cI d 36 K), (q2, cI d 36 L), (q3, cI d 5 S), (s0, cO 3 [.ref s1]), (s1, cI d 216 (sF T))]) (lv' := [(0, .ref s0), (1, .ref h0), (2, .int ((bhF T L (i + 1)).1)), (3, .int ((bhF T L (i + 1)).2)), (4, .int (nI (i + 1)))]) (rfl) (lv_cons (rfl) (lv_cons (rfl) (lv_cons (vI (by first | exact (congrArg Prod.fst (bhF_n (Or.inl (by assumption)))).symm | exact (congrArg Prod.fst (bhF_n (Or.inr (Int32.not_lt.mpr (by assumption))))).symm | exact (congrArg Prod.fst (bhF_y (by assumption) (Int32.not_le.mp (by assumption)))).symm)) (lv_cons (vI (by first | exact (congrArg Prod.snd (bhF_n (Or.inl (by assumption)))).symm | exact (congrArg Prod.snd (bhF_n (Or.inr (Int32.not_lt.mpr (by assumption))))).symm | exact (congrArg Prod.snd (bhF_y (by assumption) (Int32.not_le.mp (by assumption)))).symm)) (lv_cons (rfl) (rfl)))))) (ih_8 (i + 1) (by first | assumption | omega) (by omega))
        · refine g_goto X 48 dX3_bestHidden_24 (by decide) ?_
          refine g_iinc (v := nI (i + 1)) (lv' := [(4, .int (nI (i + 1))), (0, .ref s0), (1, .ref h0), (2, .int ((bhF T L i).1)), (3, .int ((bhF T L i).2))]) X dX3_bestHidden_48 4 rfl (nI_inc _) (by decide) rfl ?_
          refine g_goto X 8 dX3_bestHidden_51 (by decide) ?_
          refine g_lv (lv' := [(0, .ref s0), (1, .ref h0), (2, .int ((bhF T L i).1)), (3, .int ((bhF T L i).2)), (4, .int (nI (i + 1)))]) X [1, 2, 3, 4, 0] rfl ?_
          exact g_eq (ws' := [(h0, cO 1 [.ref q1, .ref q2, .ref q3]), (q1, cI d 36 K), (q2, cI d 36 L), (q3, cI d 5 S), (s0, cO 3 [.ref s1]), (s1, cI d 216 (sF T))]) (lv' := [(0, .ref s0), (1, .ref h0), (2, .int ((bhF T L (i + 1)).1)), (3, .int ((bhF T L (i + 1)).2)), (4, .int (nI (i + 1)))]) (rfl) (lv_cons (rfl) (lv_cons (rfl) (lv_cons (vI (by first | exact (congrArg Prod.fst (bhF_n (Or.inl (by assumption)))).symm | exact (congrArg Prod.fst (bhF_n (Or.inr (Int32.not_lt.mpr (by assumption))))).symm | exact (congrArg Prod.fst (bhF_y (by assumption) (Int32.not_le.mp (by assumption)))).symm)) (lv_cons (vI (by first | exact (congrArg Prod.snd (bhF_n (Or.inl (by assumption)))).symm | exact (congrArg Prod.snd (bhF_n (Or.inr (Int32.not_lt.mpr (by assumption))))).symm | exact (congrArg Prod.snd (bhF_y (by assumption) (Int32.not_le.mp (by assumption)))).symm)) (lv_cons (rfl) (rfl)))))) (ih_8 (i + 1) (by first | assumption | omega) (by omega))
  refine g_lv (lv' := [(0, .ref s0), (1, .ref h0), (2, .int (-9)), (3, .int (-1)), (4, .int 0)]) X [3, 4, 2, 1, 0] rfl ?_
  exact g_eq (ws' := [(h0, cO 1 [.ref q1, .ref q2, .ref q3]), (q1, cI d 36 K), (q2, cI d 36 L), (q3, cI d 5 S), (s0, cO 3 [.ref s1]), (s1, cI d 216 (sF T))]) (lv' := [(0, .ref s0), (1, .ref h0), (2, .int ((bhF T L 0).1)), (3, .int ((bhF T L 0).2)), (4, .int (nI 0))]) (rfl) (lv_cons (rfl) (lv_cons (rfl) (lv_cons (vI (by rfl)) (lv_cons (vI (by rfl)) (lv_cons (vI (by rfl)) (rfl)))))) (at_8 _ 0 (by first | assumption | omega) (Nat.lt_succ_self _))
set_option maxHeartbeats 4000000 in
set_option maxRecDepth 20000 in
theorem ct_X3_read (l : Launch) (d : KD) (s0 s1 : Nat) (h0 q1 q2 q3 : Nat) (K L S : Nat → Int32) (p0 r1 r2 r3 : Nat) (M F Bf Zf : Nat → Int32) : Ct l d yX3_read cX3_read 4 none { frames := 4, cells := 0, slots := 0, locals := 91 } [.ref s0, .ref h0, .ref p0] [(s0, cO 3 [.ref s1]), (s1, cI d 216 M), (h0, cO 1 [.ref q1, .ref q2, .ref q3]), (q1, cI d 36 K), (q2, cI d 36 L), (q3, cI d 5 S), (p0, cO 0 [.ref r1, .ref r2, .ref r3]), (r1, cI d 36 F), (r2, cI d 36 Bf), (r3, cZ d 36 Zf)] 0 0 (fun r wo => ∃ (Z' : Nat → Bool), r = none ∧ wo = [(s0, cO 3 [.ref s1]), (s1, cI d 216 (sF (sg K (dsI K S (S 0))))), (h0, cO 1 [.ref q1, .ref q2, .ref q3]), (q1, cI d 36 K), (q2, cI d 36 L), (q3, cI d 5 S), (p0, cO 0 [.ref r1, .ref r2, .ref r3]), (r1, cI d 36 (nF (dsI K S (S 0)))), (r2, cI d 36 Bf), (r3, cZ d 36 (zF Z'))]) := by
  refine ct_of (own := RX3) (ini := false) (by decide +kernel) rfl (fun h => by cases h) (Nat.le_of_ble_eq_true rfl) ?_
  intro g X
  show g 0 0 [(s0, cO 3 [.ref s1]), (s1, cI d 216 M), (h0, cO 1 [.ref q1, .ref q2, .ref q3]), (q1, cI d 36 K), (q2, cI d 36 L), (q3, cI d 5 S), (p0, cO 0 [.ref r1, .ref r2, .ref r3]), (r1, cI d 36 F), (r2, cI d 36 Bf), (r3, cZ d 36 Zf)] [(0, .ref s0), (1, .ref h0), (2, .ref p0)] 0 []
  refine g_aload_n X dX3_read_0 rfl 2 rfl ?_
  refine g_aload_n X dX3_read_1 rfl 1 rfl ?_
  refine g_aload_n X dX3_read_2 rfl 1 rfl ?_
  refine g_iconst (v := 0) X dX3_read_3 (by decide) ?_
  refine g_dV (ci := 1) (q0 := 0) (n := 1) (wr := [(s0, cO 3 [.ref s1]), (s1, cI d 216 M), (p0, cO 0 [.ref r1, .ref r2, .ref r3]), (r1, cI d 36 F), (r2, cI d 36 Bf), (r3, cZ d 36 Zf)]) (ws' := [(s0, cO 3 [.ref s1]), (s1, cI d 216 M), (h0, cO 1 [.ref q1, .ref q2, .ref q3]), (q1, cI d 36 K), (q2, cI d 36 L), (q3, cI d 5 S), (p0, cO 0 [.ref r1, .ref r2, .ref r3]), (r1, cI d 36 F), (r2, cI d 36 Bf), (r3, cZ d 36 Zf)]) (st' := [.int (S 0), .ref h0, .ref p0]) (As := [.int 0]) (st := [.ref h0, .ref p0]) X (ct_X1_number l d h0 q1 q2 q3 K L S 0 (by first | assumption | omega)) wd_353 wd_350 wd_351 wd_352 wd_53 hd_X1_number rfl ⟨(Nat.le_of_ble_eq_true rfl), (Nat.le_of_ble_eq_true rfl)⟩ rfl rfl dX3_read_4 ⟨(Nat.le_of_ble_eq_true rfl), (Nat.le_of_ble_eq_true rfl)⟩ rfl rfl (Nat.le_of_ble_eq_true rfl) [2, 3, 4, 5] [0, 1, 6, 7, 8, 9] rfl rfl rfl rfl rfl (by decide) rfl [0, 1, 6, 7, 8, 9, 2, 3, 4, 5] rfl rfl rfl rfl ?_
  refine g_callV (ci := 0) (q0 := 4) (n := 2) (wr := [(s0, cO 3 [.ref s1]), (s1, cI d 216 M)]) (As := [.ref h0, .int (S 0)]) (st := []) X (ct_X0_searchFrom l d p0 r1 r2 r3 h0 q1 q2 q3 K L S F Bf Zf (S 0)) wd_357 wd_354 wd_355 wd_356 wd_55 hd_X0_searchFrom rfl ⟨(Nat.le_of_ble_eq_true rfl), (Nat.le_of_ble_eq_true rfl)⟩ rfl rfl dX3_read_7 ⟨(Nat.le_of_ble_eq_true rfl), (Nat.le_of_ble_eq_true rfl)⟩ rfl rfl (Nat.le_of_ble_eq_true rfl) [2, 3, 4, 5, 6, 7, 8, 9] [0, 1] rfl rfl rfl rfl rfl (by decide) rfl (fun r_ wo_ hp_ => ?_)
  obtain ⟨Zn, rfl, rfl⟩ := hp_
  show g 0 0 [(s0, cO 3 [.ref s1]), (s1, cI d 216 M), (h0, cO 1 [.ref q1, .ref q2, .ref q3]), (q1, cI d 36 K), (q2, cI d 36 L), (q3, cI d 5 S), (p0, cO 0 [.ref r1, .ref r2, .ref r3]), (r1, cI d 36 (nF (dsI K S (S 0)))), (r2, cI d 36 Bf), (r3, cZ d 36 (zF Zn))] [(0, .ref s0), (1, .ref h0), (2, .ref p0)] 10 []
  refine g_iconst (v := 0) X dX3_read_10 (by decide) ?_
  refine g_istore_n (lv' := [(3, .int 0), (0, .ref s0), (1, .ref h0), (2, .ref p0)]) X dX3_read_11 rfl (by decide) rfl ?_
  have at_12 : ∀ (n_ : Nat) (i : Nat) (hi : i ≤ 36), (36 - i) < n_ → g 0 0 [(s0, cO 3 [.ref s1]), (s1, cI d 216 (rdF M (sg K (dsI K S (S 0))) i 0)), (h0, cO 1 [.ref q1, .ref q2, .ref q3]), (q1, cI d 36 K), (q2, cI d 36 L), (q3, cI d 5 S), (p0, cO 0 [.ref r1, .ref r2, .ref r3]), (r1, cI d 36 (nF (dsI K S (S 0)))), (r2, cI d 36 Bf), (r3, cZ d 36 (zF Zn))] [(0, .ref s0), (1, .ref h0), (2, .ref p0), (3, .int (nI i))] 12 [] := by
    intro n_
    induction n_ with
    | zero => intro i hi hn_; exact absurd hn_ (Nat.not_lt_zero _)
    | succ n_ ih_12 =>
      intro i hi hn_12
      refine g_iload_n X dX3_read_12 rfl 3 rfl ?_
      refine g_bipush (v := 36) X dX3_read_13 (by decide) ?_
      refine g_icmpN_ge (a := i) (b := 36) X rfl rfl (by omega) (by omega) 88 dX3_read_15 (by decide) (fun c15_2 => ?_) (fun c15_2 => ?_)
      · obtain rfl : i = 36 := by omega
        refine g_ext (ws' := [(s0, cO 3 [.ref s1]), (s1, cI d 216 (sF (sg K (dsI K S (S 0))))), (h0, cO 1 [.ref q1, .ref q2, .ref q3]), (q1, cI d 36 K), (q2, cI d 36 L), (q3, cI d 5 S), (p0, cO 0 [.ref r1, .ref r2, .ref r3]), (r1, cI d 36 (nF (dsI K S (S 0)))), (r2, cI d 36 Bf), (r3, cZ d 36 (zF Zn))]) (h := sF (sg K (dsI K S (S 0)))) X 1 rfl (rdF_e) rfl ?_
        exact g_end X (gE_v dX3_read_88 (Nat.le_of_ble_eq_true rfl) (Nat.le_of_ble_eq_true rfl) ⟨Zn, rfl, rfl⟩)
      · refine g_aload_n X dX3_read_18 rfl 0 rfl ?_
        refine g_iconst (v := 0) X dX3_read_19 (by decide) ?_
        refine g_iload_n X dX3_read_20 rfl 3 rfl ?_
        refine g_aload_n X dX3_read_21 rfl 2 rfl ?_
        refine g_iload_n X dX3_read_22 rfl 3 rfl ?_
        refine g_dV (ci := 0) (q0 := 0) (n := 1) (wr := [(s0, cO 3 [.ref s1]), (s1, cI d 216 (rdF M (sg K (dsI K S (S 0))) i 0)), (h0, cO 1 [.ref q1, .ref q2, .ref q3]), (q1, cI d 36 K), (q2, cI d 36 L), (q3, cI d 5 S)]) (ws' := [(s0, cO 3 [.ref s1]), (s1, cI d 216 (rdF M (sg K (dsI K S (S 0))) i 0)), (h0, cO 1 [.ref q1, .ref q2, .ref q3]), (q1, cI d 36 K), (q2, cI d 36 L), (q3, cI d 5 S), (p0, cO 0 [.ref r1, .ref r2, .ref r3]), (r1, cI d 36 (nF (dsI K S (S 0)))), (r2, cI d 36 Bf), (r3, cZ d 36 (zF Zn))]) (st' := [.int (dI ((dsI K S (S 0)) i)), .int (nI i), .int 0, .ref s0]) (As := [.int (nI i)]) (st := [.int (nI i), .int 0, .ref s0]) X (ct_X0_daysTo_N l d p0 r1 r2 r3 (dsI K S (S 0)) Bf (zF Zn) i (by first | assumption | omega) (dsI_le K S (S 0))) wd_397 wd_394 wd_395 wd_396 wd_55 hd_X0_daysTo rfl ⟨(Nat.le_of_ble_eq_true rfl), (Nat.le_of_ble_eq_true rfl)⟩ rfl rfl dX3_read_23 ⟨(Nat.le_of_ble_eq_true rfl), (Nat.le_of_ble_eq_true rfl)⟩ rfl rfl (Nat.le_of_ble_eq_true rfl) [6, 7, 8, 9] [0, 1, 2, 3, 4, 5] rfl rfl rfl rfl rfl (by decide) rfl [0, 1, 2, 3, 4, 5, 6, 7, 8, 9] rfl rfl rfl rfl ?_
        refine g_dV (ci := 3) (q0 := 0) (n := 3) (wr := [(h0, cO 1 [.ref q1, .ref q2, .ref q3]), (q1, cI d 36 K), (q2, cI d 36 L), (q3, cI d 5 S), (p0, cO 0 [.ref r1, .ref r2, .ref r3]), (r1, cI d 36 (nF (dsI K S (S 0)))), (r2, cI d 36 Bf), (r3, cZ d 36 (zF Zn))]) (ws' := [(s0, cO 3 [.ref s1]), (s1, cI d 216 (upd (rdF M (sg K (dsI K S (S 0))) i 0) (0 * 36 + i) (dI ((dsI K S (S 0)) i)))), (h0, cO 1 [.ref q1, .ref q2, .ref q3]), (q1, cI d 36 K), (q2, cI d 36 L), (q3, cI d 5 S), (p0, cO 0 [.ref r1, .ref r2, .ref r3]), (r1, cI d 36 (nF (dsI K S (S 0)))), (r2, cI d 36 Bf), (r3, cZ d 36 (zF Zn))]) (st' := []) (As := [.int 0, .int (nI i), .int (dI ((dsI K S (S 0)) i))]) (st := []) X (ct_X3_put l d s0 s1 (rdF M (sg K (dsI K S (S 0))) i 0) 0 i (dI ((dsI K S (S 0)) i)) (by first | assumption | omega) (by first | assumption | omega)) wd_405 wd_402 wd_404 wd_6 wd_56 hd_X3_put rfl ⟨(Nat.le_of_ble_eq_true rfl), (Nat.le_of_ble_eq_true rfl)⟩ rfl rfl dX3_read_26 ⟨(Nat.le_of_ble_eq_true rfl), (Nat.le_of_ble_eq_true rfl)⟩ rfl rfl (Nat.le_of_ble_eq_true rfl) [0, 1] [2, 3, 4, 5, 6, 7, 8, 9] rfl rfl rfl rfl rfl (by decide) rfl [8, 9, 0, 1, 2, 3, 4, 5, 6, 7] rfl rfl rfl rfl ?_
        refine g_eq (ws' := [(s0, cO 3 [.ref s1]), (s1, cI d 216 (rdF M (sg K (dsI K S (S 0))) i 1)), (h0, cO 1 [.ref q1, .ref q2, .ref q3]), (q1, cI d 36 K), (q2, cI d 36 L), (q3, cI d 5 S), (p0, cO 0 [.ref r1, .ref r2, .ref r3]), (r1, cI d 36 (nF (dsI K S (S 0)))), (r2, cI d 36 Bf), (r3, cZ d 36 (zF Zn))]) (ws_cons (rfl) (ws_cons (cI_eq (rdF_s (by omega) (by rfl))) (ws_cons (rfl) (ws_cons (rfl) (ws_cons (rfl) (ws_cons (rfl) (ws_cons (rfl) (ws_cons (rfl) (ws_cons (rfl) (ws_cons (rfl) (rfl))))))))))) rfl ?_
        refine g_aload_n X dX3_read_29 rfl 0 rfl ?_
        refine g_iconst (v := 1) X dX3_read_30 (by decide) ?_
        refine g_iload_n X dX3_read_31 rfl 3 rfl ?_
        refine g_aload_n X dX3_read_32 rfl 2 rfl ?_
        refine g_iload_n X dX3_read_33 rfl 3 rfl ?_
        refine g_dV (ci := 0) (q0 := 0) (n := 1) (wr := [(s0, cO 3 [.ref s1]), (s1, cI d 216 (rdF M (sg K (dsI K S (S 0))) i 1)), (h0, cO 1 [.ref q1, .ref q2, .ref q3]), (q1, cI d 36 K), (q2, cI d 36 L), (q3, cI d 5 S)]) (ws' := [(s0, cO 3 [.ref s1]), (s1, cI d 216 (rdF M (sg K (dsI K S (S 0))) i 1)), (h0, cO 1 [.ref q1, .ref q2, .ref q3]), (q1, cI d 36 K), (q2, cI d 36 L), (q3, cI d 5 S), (p0, cO 0 [.ref r1, .ref r2, .ref r3]), (r1, cI d 36 (nF (dsI K S (S 0)))), (r2, cI d 36 Bf), (r3, cZ d 36 (zF Zn))]) (st' := [.int (dI ((dsI K S (S 0)) i)), .int (nI i), .int 1, .ref s0]) (As := [.int (nI i)]) (st := [.int (nI i), .int 1, .ref s0]) X (ct_X0_daysTo_N l d p0 r1 r2 r3 (dsI K S (S 0)) Bf (zF Zn) i (by first | assumption | omega) (dsI_le K S (S 0))) wd_397 wd_394 wd_395 wd_396 wd_55 hd_X0_daysTo rfl ⟨(Nat.le_of_ble_eq_true rfl), (Nat.le_of_ble_eq_true rfl)⟩ rfl rfl dX3_read_34 ⟨(Nat.le_of_ble_eq_true rfl), (Nat.le_of_ble_eq_true rfl)⟩ rfl rfl (Nat.le_of_ble_eq_true rfl) [6, 7, 8, 9] [0, 1, 2, 3, 4, 5] rfl rfl rfl rfl rfl (by decide) rfl [0, 1, 2, 3, 4, 5, 6, 7, 8, 9] rfl rfl rfl rfl ?_
        refine g_dV (ci := 3) (q0 := 0) (n := 3) (wr := [(h0, cO 1 [.ref q1, .ref q2, .ref q3]), (q1, cI d 36 K), (q2, cI d 36 L), (q3, cI d 5 S), (p0, cO 0 [.ref r1, .ref r2, .ref r3]), (r1, cI d 36 (nF (dsI K S (S 0)))), (r2, cI d 36 Bf), (r3, cZ d 36 (zF Zn))]) (ws' := [(s0, cO 3 [.ref s1]), (s1, cI d 216 (upd (rdF M (sg K (dsI K S (S 0))) i 1) (1 * 36 + i) (dI ((dsI K S (S 0)) i)))), (h0, cO 1 [.ref q1, .ref q2, .ref q3]), (q1, cI d 36 K), (q2, cI d 36 L), (q3, cI d 5 S), (p0, cO 0 [.ref r1, .ref r2, .ref r3]), (r1, cI d 36 (nF (dsI K S (S 0)))), (r2, cI d 36 Bf), (r3, cZ d 36 (zF Zn))]) (st' := []) (As := [.int 1, .int (nI i), .int (dI ((dsI K S (S 0)) i))]) (st := []) X (ct_X3_put l d s0 s1 (rdF M (sg K (dsI K S (S 0))) i 1) 1 i (dI ((dsI K S (S 0)) i)) (by first | assumption | omega) (by first | assumption | omega)) wd_405 wd_402 wd_404 wd_6 wd_56 hd_X3_put rfl ⟨(Nat.le_of_ble_eq_true rfl), (Nat.le_of_ble_eq_true rfl)⟩ rfl rfl dX3_read_37 ⟨(Nat.le_of_ble_eq_true rfl), (Nat.le_of_ble_eq_true rfl)⟩ rfl rfl (Nat.le_of_ble_eq_true rfl) [0, 1] [2, 3, 4, 5, 6, 7, 8, 9] rfl rfl rfl rfl rfl (by decide) rfl [8, 9, 0, 1, 2, 3, 4, 5, 6, 7] rfl rfl rfl rfl ?_
        refine g_eq (ws' := [(s0, cO 3 [.ref s1]), (s1, cI d 216 (rdF M (sg K (dsI K S (S 0))) i 2)), (h0, cO 1 [.ref q1, .ref q2, .ref q3]), (q1, cI d 36 K), (q2, cI d 36 L), (q3, cI d 5 S), (p0, cO 0 [.ref r1, .ref r2, .ref r3]), (r1, cI d 36 (nF (dsI K S (S 0)))), (r2, cI d 36 Bf), (r3, cZ d 36 (zF Zn))]) (ws_cons (rfl) (ws_cons (cI_eq (rdF_s (by omega) (by rfl))) (ws_cons (rfl) (ws_cons (rfl) (ws_cons (rfl) (ws_cons (rfl) (ws_cons (rfl) (ws_cons (rfl) (ws_cons (rfl) (ws_cons (rfl) (rfl))))))))))) rfl ?_
        refine g_aload_n X dX3_read_40 rfl 0 rfl ?_
        refine g_iconst (v := 2) X dX3_read_41 (by decide) ?_
        refine g_iload_n X dX3_read_42 rfl 3 rfl ?_
        refine g_iload_n X dX3_read_43 rfl 3 rfl ?_
        refine g_bipush (v := 6) X dX3_read_44 (by decide) ?_
        refine g_idiv X dX3_read_46 (by decide) ?_
        refine g_tope (y := nI (i / 6)) (nI_div (by omega) (by decide) (by decide)) ?_
        refine g_dV (ci := 3) (q0 := 0) (n := 3) (wr := [(h0, cO 1 [.ref q1, .ref q2, .ref q3]), (q1, cI d 36 K), (q2, cI d 36 L), (q3, cI d 5 S), (p0, cO 0 [.ref r1, .ref r2, .ref r3]), (r1, cI d 36 (nF (dsI K S (S 0)))), (r2, cI d 36 Bf), (r3, cZ d 36 (zF Zn))]) (ws' := [(s0, cO 3 [.ref s1]), (s1, cI d 216 (upd (rdF M (sg K (dsI K S (S 0))) i 2) (2 * 36 + i) (nI (i / 6)))), (h0, cO 1 [.ref q1, .ref q2, .ref q3]), (q1, cI d 36 K), (q2, cI d 36 L), (q3, cI d 5 S), (p0, cO 0 [.ref r1, .ref r2, .ref r3]), (r1, cI d 36 (nF (dsI K S (S 0)))), (r2, cI d 36 Bf), (r3, cZ d 36 (zF Zn))]) (st' := []) (As := [.int 2, .int (nI i), .int (nI (i / 6))]) (st := []) X (ct_X3_put l d s0 s1 (rdF M (sg K (dsI K S (S 0))) i 2) 2 i (nI (i / 6)) (by first | assumption | omega) (by first | assumption | omega)) wd_405 wd_402 wd_404 wd_6 wd_56 hd_X3_put rfl ⟨(Nat.le_of_ble_eq_true rfl), (Nat.le_of_ble_eq_true rfl)⟩ rfl rfl dX3_read_47 ⟨(Nat.le_of_ble_eq_true rfl), (Nat.le_of_ble_eq_true rfl)⟩ rfl rfl (Nat.le_of_ble_eq_true rfl) [0, 1] [2, 3, 4, 5, 6, 7, 8, 9] rfl rfl rfl rfl rfl (by decide) rfl [8, 9, 0, 1, 2, 3, 4, 5, 6, 7] rfl rfl rfl rfl ?_
        refine g_eq (ws' := [(s0, cO 3 [.ref s1]), (s1, cI d 216 (rdF M (sg K (dsI K S (S 0))) i 3)), (h0, cO 1 [.ref q1, .ref q2, .ref q3]), (q1, cI d 36 K), (q2, cI d 36 L), (q3, cI d 5 S), (p0, cO 0 [.ref r1, .ref r2, .ref r3]), (r1, cI d 36 (nF (dsI K S (S 0)))), (r2, cI d 36 Bf), (r3, cZ d 36 (zF Zn))]) (ws_cons (rfl) (ws_cons (cI_eq (rdF_s (by omega) (by rfl))) (ws_cons (rfl) (ws_cons (rfl) (ws_cons (rfl) (ws_cons (rfl) (ws_cons (rfl) (ws_cons (rfl) (ws_cons (rfl) (ws_cons (rfl) (rfl))))))))))) rfl ?_
        refine g_aload_n X dX3_read_50 rfl 0 rfl ?_
        refine g_iconst (v := 3) X dX3_read_51 (by decide) ?_
        refine g_iload_n X dX3_read_52 rfl 3 rfl ?_
        refine g_iload_n X dX3_read_53 rfl 3 rfl ?_
        refine g_bipush (v := 6) X dX3_read_54 (by decide) ?_
        refine g_irem X dX3_read_56 (by decide) ?_
        refine g_tope (y := nI (i % 6)) (nI_rem (by omega) (by decide) (by decide)) ?_
        refine g_dV (ci := 3) (q0 := 0) (n := 3) (wr := [(h0, cO 1 [.ref q1, .ref q2, .ref q3]), (q1, cI d 36 K), (q2, cI d 36 L), (q3, cI d 5 S), (p0, cO 0 [.ref r1, .ref r2, .ref r3]), (r1, cI d 36 (nF (dsI K S (S 0)))), (r2, cI d 36 Bf), (r3, cZ d 36 (zF Zn))]) (ws' := [(s0, cO 3 [.ref s1]), (s1, cI d 216 (upd (rdF M (sg K (dsI K S (S 0))) i 3) (3 * 36 + i) (nI (i % 6)))), (h0, cO 1 [.ref q1, .ref q2, .ref q3]), (q1, cI d 36 K), (q2, cI d 36 L), (q3, cI d 5 S), (p0, cO 0 [.ref r1, .ref r2, .ref r3]), (r1, cI d 36 (nF (dsI K S (S 0)))), (r2, cI d 36 Bf), (r3, cZ d 36 (zF Zn))]) (st' := []) (As := [.int 3, .int (nI i), .int (nI (i % 6))]) (st := []) X (ct_X3_put l d s0 s1 (rdF M (sg K (dsI K S (S 0))) i 3) 3 i (nI (i % 6)) (by first | assumption | omega) (by first | assumption | omega)) wd_405 wd_402 wd_404 wd_6 wd_56 hd_X3_put rfl ⟨(Nat.le_of_ble_eq_true rfl), (Nat.le_of_ble_eq_true rfl)⟩ rfl rfl dX3_read_57 ⟨(Nat.le_of_ble_eq_true rfl), (Nat.le_of_ble_eq_true rfl)⟩ rfl rfl (Nat.le_of_ble_eq_true rfl) [0, 1] [2, 3, 4, 5, 6, 7, 8, 9] rfl rfl rfl rfl rfl (by decide) rfl [8, 9, 0, 1, 2, 3, 4, 5, 6, 7] rfl rfl rfl rfl ?_
        refine g_eq (ws' := [(s0, cO 3 [.ref s1]), (s1, cI d 216 (rdF M (sg K (dsI K S (S 0))) i 4)), (h0, cO 1 [.ref q1, .ref q2, .ref q3]), (q1, cI d 36 K), (q2, cI d 36 L), (q3, cI d 5 S), (p0, cO 0 [.ref r1, .ref r2, .ref r3]), (r1, cI d 36 (nF (dsI K S (S 0)))), (r2, cI d 36 Bf), (r3, cZ d 36 (zF Zn))]) (ws_cons (rfl) (ws_cons (cI_eq (rdF_s (by omega) (by rfl))) (ws_cons (rfl) (ws_cons (rfl) (ws_cons (rfl) (ws_cons (rfl) (ws_cons (rfl) (ws_cons (rfl) (ws_cons (rfl) (ws_cons (rfl) (rfl))))))))))) rfl ?_
        refine g_aload_n X dX3_read_60 rfl 0 rfl ?_
        refine g_iconst (v := 4) X dX3_read_61 (by decide) ?_
        refine g_iload_n X dX3_read_62 rfl 3 rfl ?_
        refine g_aload_n X dX3_read_63 rfl 1 rfl ?_
        refine g_iload_n X dX3_read_64 rfl 3 rfl ?_
        refine g_dV (ci := 1) (q0 := 0) (n := 1) (wr := [(s0, cO 3 [.ref s1]), (s1, cI d 216 (rdF M (sg K (dsI K S (S 0))) i 4)), (p0, cO 0 [.ref r1, .ref r2, .ref r3]), (r1, cI d 36 (nF (dsI K S (S 0)))), (r2, cI d 36 Bf), (r3, cZ d 36 (zF Zn))]) (ws' := [(s0, cO 3 [.ref s1]), (s1, cI d 216 (rdF M (sg K (dsI K S (S 0))) i 4)), (h0, cO 1 [.ref q1, .ref q2, .ref q3]), (q1, cI d 36 K), (q2, cI d 36 L), (q3, cI d 5 S), (p0, cO 0 [.ref r1, .ref r2, .ref r3]), (r1, cI d 36 (nF (dsI K S (S 0)))), (r2, cI d 36 Bf), (r3, cZ d 36 (zF Zn))]) (st' := [.int (nI (cnt (fun w => nb i w < 36 ∧ (K (nb i w) = 1 ∨ K (nb i w) = 2)) 4)), .int (nI i), .int 4, .ref s0]) (As := [.int (nI i)]) (st := [.int (nI i), .int 4, .ref s0]) X (ct_X1_sandBeside l d h0 q1 q2 q3 K L S i (by first | assumption | omega)) wd_413 wd_410 wd_411 wd_412 wd_53 hd_X1_sandBeside rfl ⟨(Nat.le_of_ble_eq_true rfl), (Nat.le_of_ble_eq_true rfl)⟩ rfl rfl dX3_read_65 ⟨(Nat.le_of_ble_eq_true rfl), (Nat.le_of_ble_eq_true rfl)⟩ rfl rfl (Nat.le_of_ble_eq_true rfl) [2, 3, 4, 5] [0, 1, 6, 7, 8, 9] rfl rfl rfl rfl rfl (by decide) rfl [0, 1, 6, 7, 8, 9, 2, 3, 4, 5] rfl rfl rfl rfl ?_
        refine g_dV (ci := 3) (q0 := 0) (n := 3) (wr := [(h0, cO 1 [.ref q1, .ref q2, .ref q3]), (q1, cI d 36 K), (q2, cI d 36 L), (q3, cI d 5 S), (p0, cO 0 [.ref r1, .ref r2, .ref r3]), (r1, cI d 36 (nF (dsI K S (S 0)))), (r2, cI d 36 Bf), (r3, cZ d 36 (zF Zn))]) (ws' := [(s0, cO 3 [.ref s1]), (s1, cI d 216 (upd (rdF M (sg K (dsI K S (S 0))) i 4) (4 * 36 + i) (nI (cnt (fun w => nb i w < 36 ∧ (K (nb i w) = 1 ∨ K (nb i w) = 2)) 4)))), (h0, cO 1 [.ref q1, .ref q2, .ref q3]), (q1, cI d 36 K), (q2, cI d 36 L), (q3, cI d 5 S), (p0, cO 0 [.ref r1, .ref r2, .ref r3]), (r1, cI d 36 (nF (dsI K S (S 0)))), (r2, cI d 36 Bf), (r3, cZ d 36 (zF Zn))]) (st' := []) (As := [.int 4, .int (nI i), .int (nI (cnt (fun w => nb i w < 36 ∧ (K (nb i w) = 1 ∨ K (nb i w) = 2)) 4))]) (st := []) X (ct_X3_put l d s0 s1 (rdF M (sg K (dsI K S (S 0))) i 4) 4 i (nI (cnt (fun w => nb i w < 36 ∧ (K (nb i w) = 1 ∨ K (nb i w) = 2)) 4)) (by first | assumption | omega) (by first | assumption | omega)) wd_405 wd_402 wd_404 wd_6 wd_56 hd_X3_put rfl ⟨(Nat.le_of_ble_eq_true rfl), (Nat.le_of_ble_eq_true rfl)⟩ rfl rfl dX3_read_68 ⟨(Nat.le_of_ble_eq_true rfl), (Nat.le_of_ble_eq_true rfl)⟩ rfl rfl (Nat.le_of_ble_eq_true rfl) [0, 1] [2, 3, 4, 5, 6, 7, 8, 9] rfl rfl rfl rfl rfl (by decide) rfl [8, 9, 0, 1, 2, 3, 4, 5, 6, 7] rfl rfl rfl rfl ?_
        refine g_eq (ws' := [(s0, cO 3 [.ref s1]), (s1, cI d 216 (rdF M (sg K (dsI K S (S 0))) i 5)), (h0, cO 1 [.ref q1, .ref q2, .ref q3]), (q1, cI d 36 K), (q2, cI d 36 L), (q3, cI d 5 S), (p0, cO 0 [.ref r1, .ref r2, .ref r3]), (r1, cI d 36 (nF (dsI K S (S 0)))), (r2, cI d 36 Bf), (r3, cZ d 36 (zF Zn))]) (ws_cons (rfl) (ws_cons (cI_eq (rdF_s (by omega) (by rfl))) (ws_cons (rfl) (ws_cons (rfl) (ws_cons (rfl) (ws_cons (rfl) (ws_cons (rfl) (ws_cons (rfl) (ws_cons (rfl) (ws_cons (rfl) (rfl))))))))))) rfl ?_
        refine g_aload_n X dX3_read_71 rfl 0 rfl ?_
        refine g_iconst (v := 5) X dX3_read_72 (by decide) ?_
        refine g_iload_n X dX3_read_73 rfl 3 rfl ?_
        refine g_aload_n X dX3_read_74 rfl 1 rfl ?_
        refine g_iload_n X dX3_read_75 rfl 3 rfl ?_
        refine g_dV (ci := 1) (q0 := 0) (n := 1) (wr := [(s0, cO 3 [.ref s1]), (s1, cI d 216 (rdF M (sg K (dsI K S (S 0))) i 5)), (p0, cO 0 [.ref r1, .ref r2, .ref r3]), (r1, cI d 36 (nF (dsI K S (S 0)))), (r2, cI d 36 Bf), (r3, cZ d 36 (zF Zn))]) (ws' := [(s0, cO 3 [.ref s1]), (s1, cI d 216 (rdF M (sg K (dsI K S (S 0))) i 5)), (h0, cO 1 [.ref q1, .ref q2, .ref q3]), (q1, cI d 36 K), (q2, cI d 36 L), (q3, cI d 5 S), (p0, cO 0 [.ref r1, .ref r2, .ref r3]), (r1, cI d 36 (nF (dsI K S (S 0)))), (r2, cI d 36 Bf), (r3, cZ d 36 (zF Zn))]) (st' := [.int (ptF K i 36), .int (nI i), .int 5, .ref s0]) (As := [.int (nI i)]) (st := [.int (nI i), .int 5, .ref s0]) X (ct_X1_stepsToPort l d h0 q1 q2 q3 K L S i (by first | assumption | omega)) wd_425 wd_422 wd_423 wd_424 wd_53 hd_X1_stepsToPort rfl ⟨(Nat.le_of_ble_eq_true rfl), (Nat.le_of_ble_eq_true rfl)⟩ rfl rfl dX3_read_76 ⟨(Nat.le_of_ble_eq_true rfl), (Nat.le_of_ble_eq_true rfl)⟩ rfl rfl (Nat.le_of_ble_eq_true rfl) [2, 3, 4, 5] [0, 1, 6, 7, 8, 9] rfl rfl rfl rfl rfl (by decide) rfl [0, 1, 6, 7, 8, 9, 2, 3, 4, 5] rfl rfl rfl rfl ?_
        refine g_dV (ci := 3) (q0 := 0) (n := 3) (wr := [(h0, cO 1 [.ref q1, .ref q2, .ref q3]), (q1, cI d 36 K), (q2, cI d 36 L), (q3, cI d 5 S), (p0, cO 0 [.ref r1, .ref r2, .ref r3]), (r1, cI d 36 (nF (dsI K S (S 0)))), (r2, cI d 36 Bf), (r3, cZ d 36 (zF Zn))]) (ws' := [(s0, cO 3 [.ref s1]), (s1, cI d 216 (upd (rdF M (sg K (dsI K S (S 0))) i 5) (5 * 36 + i) (ptF K i 36))), (h0, cO 1 [.ref q1, .ref q2, .ref q3]), (q1, cI d 36 K), (q2, cI d 36 L), (q3, cI d 5 S), (p0, cO 0 [.ref r1, .ref r2, .ref r3]), (r1, cI d 36 (nF (dsI K S (S 0)))), (r2, cI d 36 Bf), (r3, cZ d 36 (zF Zn))]) (st' := []) (As := [.int 5, .int (nI i), .int (ptF K i 36)]) (st := []) X (ct_X3_put l d s0 s1 (rdF M (sg K (dsI K S (S 0))) i 5) 5 i (ptF K i 36) (by first | assumption | omega) (by first | assumption | omega)) wd_405 wd_402 wd_404 wd_6 wd_56 hd_X3_put rfl ⟨(Nat.le_of_ble_eq_true rfl), (Nat.le_of_ble_eq_true rfl)⟩ rfl rfl dX3_read_79 ⟨(Nat.le_of_ble_eq_true rfl), (Nat.le_of_ble_eq_true rfl)⟩ rfl rfl (Nat.le_of_ble_eq_true rfl) [0, 1] [2, 3, 4, 5, 6, 7, 8, 9] rfl rfl rfl rfl rfl (by decide) rfl [8, 9, 0, 1, 2, 3, 4, 5, 6, 7] rfl rfl rfl rfl ?_
        refine g_eq (ws' := [(s0, cO 3 [.ref s1]), (s1, cI d 216 (rdF M (sg K (dsI K S (S 0))) i 6)), (h0, cO 1 [.ref q1, .ref q2, .ref q3]), (q1, cI d 36 K), (q2, cI d 36 L), (q3, cI d 5 S), (p0, cO 0 [.ref r1, .ref r2, .ref r3]), (r1, cI d 36 (nF (dsI K S (S 0)))), (r2, cI d 36 Bf), (r3, cZ d 36 (zF Zn))]) (ws_cons (rfl) (ws_cons (cI_eq (rdF_s (by omega) (by rfl))) (ws_cons (rfl) (ws_cons (rfl) (ws_cons (rfl) (ws_cons (rfl) (ws_cons (rfl) (ws_cons (rfl) (ws_cons (rfl) (ws_cons (rfl) (rfl))))))))))) rfl ?_
        refine g_ext (ws' := [(s0, cO 3 [.ref s1]), (s1, cI d 216 (rdF M (sg K (dsI K S (S 0))) (i + 1) 0)), (h0, cO 1 [.ref q1, .ref q2, .ref q3]), (q1, cI d 36 K), (q2, cI d 36 L), (q3, cI d 5 S), (p0, cO 0 [.ref r1, .ref r2, .ref r3]), (r1, cI d 36 (nF (dsI K S (S 0)))), (r2, cI d 36 Bf), (r3, cZ d 36 (zF Zn))]) (h := rdF M (sg K (dsI K S (S 0))) (i + 1) 0) X 1 rfl (rdF_n) rfl ?_
        refine g_iinc (v := nI (i + 1)) (lv' := [(3, .int (nI (i + 1))), (0, .ref s0), (1, .ref h0), (2, .ref p0)]) X dX3_read_82 3 rfl (nI_inc _) (by decide) rfl ?_
        refine g_goto X 12 dX3_read_85 (by decide) ?_
        refine g_lv (lv' := [(0, .ref s0), (1, .ref h0), (2, .ref p0), (3, .int (nI (i + 1)))]) X [1, 2, 3, 0] rfl ?_
        exact ih_12 (i + 1) (by first | assumption | omega) (by omega)
  refine g_lv (lv' := [(0, .ref s0), (1, .ref h0), (2, .ref p0), (3, .int 0)]) X [1, 2, 3, 0] rfl ?_
  exact g_eq (ws' := [(s0, cO 3 [.ref s1]), (s1, cI d 216 (rdF M (sg K (dsI K S (S 0))) 0 0)), (h0, cO 1 [.ref q1, .ref q2, .ref q3]), (q1, cI d 36 K), (q2, cI d 36 L), (q3, cI d 5 S), (p0, cO 0 [.ref r1, .ref r2, .ref r3]), (r1, cI d 36 (nF (dsI K S (S 0)))), (r2, cI d 36 Bf), (r3, cZ d 36 (zF Zn))]) (lv' := [(0, .ref s0), (1, .ref h0), (2, .ref p0), (3, .int (nI 0))]) (ws_cons (rfl) (ws_cons (cI_eq (rdF_0.symm)) (ws_cons (rfl) (ws_cons (rfl) (ws_cons (rfl) (ws_cons (rfl) (ws_cons (rfl) (ws_cons (rfl) (ws_cons (rfl) (ws_cons (rfl) (rfl))))))))))) (lv_cons (rfl) (lv_cons (rfl) (lv_cons (rfl) (lv_cons (vI (by rfl)) (rfl))))) (at_12 _ 0 (by first | assumption | omega) (Nat.lt_succ_self _))
set_option maxHeartbeats 4000000 in
set_option maxRecDepth 20000 in
theorem ct_X2_daysUntil (l : Launch) (d : KD) (u0 u1 : Nat) (U : Nat → Int32) (x : Int32) : Ct l d yX2_daysUntil cX2_daysUntil 2 (some .int) { frames := 1, cells := 0, slots := 0, locals := 20 } [.ref u0, .int x] [(u0, cO 2 [.ref u1]), (u1, cI d 36 U)] 0 0 (fun r wo => r = some (.int (if sq x then U x.toNatClampNeg else -9)) ∧ wo = [(u0, cO 2 [.ref u1]), (u1, cI d 36 U)]) := by
  refine ct_of (own := RX2) (ini := false) (by decide +kernel) rfl (fun h => by cases h) (Nat.le_of_ble_eq_true rfl) ?_
  intro g X
  show g 0 0 [(u0, cO 2 [.ref u1]), (u1, cI d 36 U)] [(0, .ref u0), (1, .int x)] 0 []
  refine g_iload_n X dX2_daysUntil_0 rfl 1 rfl ?_
  refine g_dSN (host := "HeWreckedHimself") (n := 1) (wr := [(u0, cO 2 [.ref u1]), (u1, cI d 36 U)]) (ws' := [(u0, cO 2 [.ref u1]), (u1, cI d 36 U)]) (st' := [.int (b2i (sq x))]) (As := [.int x]) (st := []) X (ct_X5_isSquare l d x) wd_365 (by decide +kernel) wd_364 wd_52 hd_X5_isSquare ⟨(Nat.le_of_ble_eq_true rfl), (Nat.le_of_ble_eq_true rfl)⟩ rfl rfl dX2_daysUntil_1 ⟨(Nat.le_of_ble_eq_true rfl), (Nat.le_of_ble_eq_true rfl)⟩ rfl rfl (Nat.le_of_ble_eq_true rfl) [] [0, 1] rfl rfl rfl rfl rfl (by decide) [0, 1] rfl rfl rfl rfl ?_
  refine g_ifB_eq X 16 dX2_daysUntil_4 (by decide) (fun c4_1 => ?_) (fun c4_1 => ?_)
  · refine g_bipush (v := (-9)) X dX2_daysUntil_16 (by decide) ?_
    exact g_end X (gE_i dX2_daysUntil_18 (rfl) (Nat.le_of_ble_eq_true rfl) (Nat.le_of_ble_eq_true rfl) ⟨congrArg (fun z => some (Value.int z)) (by first | rw [if_pos (nI_sq hj_x), nI_clamp (by omega)] | exact (if_neg (by assumption)).symm), rfl⟩)
  · obtain ⟨j_x, hj_x, rfl⟩ := sq_nat c4_1
    have hcl_j_x : (nI j_x).toNatClampNeg = j_x := nI_clamp (by omega)
    refine g_aload_n X dX2_daysUntil_7 rfl 0 rfl ?_
    refine g_get (C := RX2) (T := TX2) (N := 1) (ci := 2) (v := .ref u1) X rfl inT2 0 (by decide) wd_138 rfl dX2_daysUntil_8 0 rfl rfl ?_
    refine g_iload_n X dX2_daysUntil_11 rfl 1 rfl ?_
    refine g_iaload_N (k := j_x) X rfl dX2_daysUntil_12 1 rfl (by first | assumption | omega) (by omega) ?_
    refine g_goto X 18 dX2_daysUntil_13 (by decide) ?_
    exact g_end X (gE_i dX2_daysUntil_18 (rfl) (Nat.le_of_ble_eq_true rfl) (Nat.le_of_ble_eq_true rfl) ⟨congrArg (fun z => some (Value.int z)) (by first | rw [if_pos (nI_sq hj_x), nI_clamp (by omega)] | exact (if_neg (by assumption)).symm), rfl⟩)
theorem ct_X2_daysUntil_N (l : Launch) (d : KD) (u0 u1 : Nat) (U : Nat → Int32) (j : Nat) (hj : j < 36) : Ct l d yX2_daysUntil cX2_daysUntil 2 (some .int) { frames := 1, cells := 0, slots := 0, locals := 20 } [.ref u0, .int (nI j)] [(u0, cO 2 [.ref u1]), (u1, cI d 36 U)] 0 0 (fun r wo => r = some (.int (U j)) ∧ wo = [(u0, cO 2 [.ref u1]), (u1, cI d 36 U)]) := by
  have h := ct_X2_daysUntil l d u0 u1 U (nI j); rwa [if_pos (nI_sq hj), nI_clamp (by omega)] at h
set_option maxHeartbeats 4000000 in
set_option maxRecDepth 20000 in
theorem ct_X2_nextOf (l : Launch) (d : KD) (u0 u1 : Nat) (h0 q1 q2 q3 : Nat) (K L S : Nat → Int32) (p0 r1 r2 r3 : Nat) (V : Nat → Option Nat) (D : Nat → Nat) (Bf Zf : Nat → Int32) (hV : ∀ q n, V q = some n → n < 2147483648) (hG : ∀ q, D q ≤ 1000000) : Ct l d yX2_nextOf cX2_nextOf 6 (some .int) { frames := 3, cells := 0, slots := 0, locals := 62 } [.ref u0, .ref h0, .ref p0] [(h0, cO 1 [.ref q1, .ref q2, .ref q3]), (q1, cI d 36 K), (q2, cI d 36 L), (q3, cI d 5 S), (p0, cO 0 [.ref r1, .ref r2, .ref r3]), (r1, cI d 36 (nF D)), (r2, cI d 36 Bf), (r3, cZ d 36 Zf), (u0, cO 2 [.ref u1]), (u1, cI d 36 (oF V))] 0 0 (fun r wo => r = some (.int (besI (nxs V L D))) ∧ wo = [(h0, cO 1 [.ref q1, .ref q2, .ref q3]), (q1, cI d 36 K), (q2, cI d 36 L), (q3, cI d 5 S), (p0, cO 0 [.ref r1, .ref r2, .ref r3]), (r1, cI d 36 (nF D)), (r2, cI d 36 Bf), (r3, cZ d 36 Zf), (u0, cO 2 [.ref u1]), (u1, cI d 36 (oF V))]) := by
  refine ct_of (own := RX2) (ini := false) (by decide +kernel) rfl (fun h => by cases h) (Nat.le_of_ble_eq_true rfl) ?_
  intro g X
  show g 0 0 [(h0, cO 1 [.ref q1, .ref q2, .ref q3]), (q1, cI d 36 K), (q2, cI d 36 L), (q3, cI d 5 S), (p0, cO 0 [.ref r1, .ref r2, .ref r3]), (r1, cI d 36 (nF D)), (r2, cI d 36 Bf), (r3, cZ d 36 Zf), (u0, cO 2 [.ref u1]), (u1, cI d 36 (oF V))] [(0, .ref u0), (1, .ref h0), (2, .ref p0)] 0 []
  refine g_iconst (v := (-1)) X dX2_nextOf_0 (by decide) ?_
  refine g_istore_n (lv' := [(3, .int (-1)), (0, .ref u0), (1, .ref h0), (2, .ref p0)]) X dX2_nextOf_1 rfl (by decide) rfl ?_
  refine g_iconst (v := 0) X dX2_nextOf_2 (by decide) ?_
  refine g_istore (lv' := [(4, .int 0), (3, .int (-1)), (0, .ref u0), (1, .ref h0), (2, .ref p0)]) X dX2_nextOf_3 (by decide) rfl ?_
  have at_5 : ∀ (n_ : Nat) (i : Nat) (hi : i ≤ 36), (36 - i) < n_ → g 0 0 [(h0, cO 1 [.ref q1, .ref q2, .ref q3]), (q1, cI d 36 K), (q2, cI d 36 L), (q3, cI d 5 S), (p0, cO 0 [.ref r1, .ref r2, .ref r3]), (r1, cI d 36 (nF D)), (r2, cI d 36 Bf), (r3, cZ d 36 Zf), (u0, cO 2 [.ref u1]), (u1, cI d 36 (oF V))] [(0, .ref u0), (1, .ref h0), (2, .ref p0), (3, .int (besI (nx V L D i))), (4, .int (nI i))] 5 [] := by
    intro n_
    induction n_ with
    | zero => intro i hi hn_; exact absurd hn_ (Nat.not_lt_zero _)
    | succ n_ ih_5 =>
      intro i hi hn_5
      have hnx := nx_in (V := V) (L := L) (D := D) i hi
      refine g_iload X dX2_nextOf_5 4 rfl ?_
      refine g_bipush (v := 36) X dX2_nextOf_7 (by decide) ?_
      refine g_icmpN_ge (a := i) (b := 36) X rfl rfl (by omega) (by omega) 85 dX2_nextOf_9 (by decide) (fun c9_1 => ?_) (fun c9_1 => ?_)
      · refine g_iload_n X dX2_nextOf_85 rfl 3 rfl ?_
        exact g_end X (gE_i dX2_nextOf_86 (rfl) (Nat.le_of_ble_eq_true rfl) (Nat.le_of_ble_eq_true rfl) ⟨congrArg (fun z => some (Value.int z)) (by rw [show i = 36 by omega]; rfl), rfl⟩)
      · refine g_aload_n X dX2_nextOf_12 rfl 0 rfl ?_
        refine g_get (C := RX2) (T := TX2) (N := 1) (ci := 2) (v := .ref u1) X rfl inT2 0 (by decide) wd_138 rfl dX2_nextOf_13 8 rfl rfl ?_
        refine g_iload X dX2_nextOf_16 4 rfl ?_
        refine g_iaload_N (k := i) X rfl dX2_nextOf_18 9 rfl (by first | assumption | omega) (by omega) ?_
        refine g_bipush (v := (-9)) X dX2_nextOf_19 (by decide) ?_
        refine g_icmp_ne X 46 dX2_nextOf_21 (by decide) (fun c21_2 => ?_) (fun c21_2 => ?_)
        · refine g_iconst (v := 0) X dX2_nextOf_46 (by decide) ?_
          refine g_istore (lv' := [(5, .int 0), (0, .ref u0), (1, .ref h0), (2, .ref p0), (3, .int (besI (nx V L D i))), (4, .int (nI i))]) X dX2_nextOf_47 (by decide) rfl ?_
          refine g_iload X dX2_nextOf_49 0 rfl ?_
          refine g_if_ne X 57 dX2_nextOf_51 (by decide) (fun h => absurd h (by decide)) (fun _ => ?_)
          refine g_goto X 79 dX2_nextOf_54 (by decide) ?_
          refine g_iinc (v := nI (i + 1)) (lv' := [(4, .int (nI (i + 1))), (5, .int 0), (0, .ref u0), (1, .ref h0), (2, .ref p0), (3, .int (besI (nx V L D i)))]) X dX2_nextOf_79 5 rfl (nI_inc _) (by decide) rfl ?_
          refine g_goto X 5 dX2_nextOf_82 (by decide) ?_
          refine g_lv (lv' := [(0, .ref u0), (1, .ref h0), (2, .ref p0), (3, .int (besI (nx V L D i))), (4, .int (nI (i + 1)))]) X [2, 3, 4, 5, 0] rfl ?_
          exact g_eq (ws' := [(h0, cO 1 [.ref q1, .ref q2, .ref q3]), (q1, cI d 36 K), (q2, cI d 36 L), (q3, cI d 5 S), (p0, cO 0 [.ref r1, .ref r2, .ref r3]), (r1, cI d 36 (nF D)), (r2, cI d 36 Bf), (r3, cZ d 36 Zf), (u0, cO 2 [.ref u1]), (u1, cI d 36 (oF V))]) (lv' := [(0, .ref u0), (1, .ref h0), (2, .ref p0), (3, .int (besI (nx V L D (i + 1)))), (4, .int (nI (i + 1)))]) (rfl) (lv_cons (rfl) (lv_cons (rfl) (lv_cons (rfl) (lv_cons (vI (by first | exact congrArg besI (nx_n (fun z => absurd z.1.1 (fun e => absurd (oI_n e) (by assumption)))).symm | exact congrArg besI (nx_n (fun z => absurd z.1.2.1 (Int32.not_lt.mpr (by assumption)))).symm | exact congrArg besI (nx_n (fun z => absurd z.1.2.2 (by assumption))).symm | exact congrArg besI (nx_n (fun z => z.2.elim (by omega) (by omega))).symm | exact (besI_t hq1).symm.trans (congrArg besI (nx_n (fun z => z.2.elim (by omega) (by omega))).symm) | exact (by rw [nx_y (oI_eq (hV i) (by assumption)) (Int32.not_le.mp (by assumption)) (by assumption) (by first | exact Or.inl hz | exact Or.inr (by omega))]; exact (besI_t (by omega)).symm))) (lv_cons (rfl) (rfl)))))) (ih_5 (i + 1) (by first | assumption | omega) (by omega))
        · refine g_aload_n X dX2_nextOf_24 rfl 1 rfl ?_
          refine g_iload X dX2_nextOf_25 4 rfl ?_
          refine g_dV (ci := 1) (q0 := 0) (n := 1) (wr := [(p0, cO 0 [.ref r1, .ref r2, .ref r3]), (r1, cI d 36 (nF D)), (r2, cI d 36 Bf), (r3, cZ d 36 Zf), (u0, cO 2 [.ref u1]), (u1, cI d 36 (oF V))]) (ws' := [(h0, cO 1 [.ref q1, .ref q2, .ref q3]), (q1, cI d 36 K), (q2, cI d 36 L), (q3, cI d 5 S), (p0, cO 0 [.ref r1, .ref r2, .ref r3]), (r1, cI d 36 (nF D)), (r2, cI d 36 Bf), (r3, cZ d 36 Zf), (u0, cO 2 [.ref u1]), (u1, cI d 36 (oF V))]) (st' := [.int (L i)]) (As := [.int (nI i)]) (st := []) X (ct_X1_likelyAt l d h0 q1 q2 q3 K L S i (by first | assumption | omega)) wd_491 wd_620 wd_489 wd_490 wd_53 hd_X1_likelyAt rfl ⟨(Nat.le_of_ble_eq_true rfl), (Nat.le_of_ble_eq_true rfl)⟩ rfl rfl dX2_nextOf_27 ⟨(Nat.le_of_ble_eq_true rfl), (Nat.le_of_ble_eq_true rfl)⟩ rfl rfl (Nat.le_of_ble_eq_true rfl) [0, 1, 2, 3] [4, 5, 6, 7, 8, 9] rfl rfl rfl rfl rfl (by decide) rfl [6, 7, 8, 9, 0, 1, 2, 3, 4, 5] rfl rfl rfl rfl ?_
          refine g_if_le X 46 dX2_nextOf_30 (by decide) (fun c30_4 => ?_) (fun c30_4 => ?_)
          · refine g_iconst (v := 0) X dX2_nextOf_46 (by decide) ?_
            refine g_istore (lv' := [(5, .int 0), (0, .ref u0), (1, .ref h0), (2, .ref p0), (3, .int (besI (nx V L D i))), (4, .int (nI i))]) X dX2_nextOf_47 (by decide) rfl ?_
            refine g_iload X dX2_nextOf_49 0 rfl ?_
            refine g_if_ne X 57 dX2_nextOf_51 (by decide) (fun h => absurd h (by decide)) (fun _ => ?_)
            refine g_goto X 79 dX2_nextOf_54 (by decide) ?_
            refine g_iinc (v := nI (i + 1)) (lv' := [(4, .int (nI (i + 1))), (5, .int 0), (0, .ref u0), (1, .ref h0), (2, .ref p0), (3, .int (besI (nx V L D i)))]) X dX2_nextOf_79 5 rfl (nI_inc _) (by decide) rfl ?_
            refine g_goto X 5 dX2_nextOf_82 (by decide) ?_
            refine g_lv (lv' := [(0, .ref u0), (1, .ref h0), (2, .ref p0), (3, .int (besI (nx V L D i))), (4, .int (nI (i + 1)))]) X [2, 3, 4, 5, 0] rfl ?_
            exact g_eq (ws' := [(h0, cO 1 [.ref q1, .ref q2, .ref q3]), (q1, cI d 36 K), (q2, cI d 36 L), (q3, cI d 5 S), (p0, cO 0 [.ref r1, .ref r2, .ref r3]), (r1, cI d 36 (nF D)), (r2, cI d 36 Bf), (r3, cZ d 36 Zf), (u0, cO 2 [.ref u1]), (u1, cI d 36 (oF V))]) (lv' := [(0, .ref u0), (1, .ref h0), (2, .ref p0), (3, .int (besI (nx V L D (i + 1)))), (4, .int (nI (i + 1)))]) (rfl) (lv_cons (rfl) (lv_cons (rfl) (lv_cons (rfl) (lv_cons (vI (by first | exact congrArg besI (nx_n (fun z => absurd z.1.1 (fun e => absurd (oI_n e) (by assumption)))).symm | exact congrArg besI (nx_n (fun z => absurd z.1.2.1 (Int32.not_lt.mpr (by assumption)))).symm | exact congrArg besI (nx_n (fun z => absurd z.1.2.2 (by assumption))).symm | exact congrArg besI (nx_n (fun z => z.2.elim (by omega) (by omega))).symm | exact (besI_t hq1).symm.trans (congrArg besI (nx_n (fun z => z.2.elim (by omega) (by omega))).symm) | exact (by rw [nx_y (oI_eq (hV i) (by assumption)) (Int32.not_le.mp (by assumption)) (by assumption) (by first | exact Or.inl hz | exact Or.inr (by omega))]; exact (besI_t (by omega)).symm))) (lv_cons (rfl) (rfl)))))) (ih_5 (i + 1) (by first | assumption | omega) (by omega))
          · refine g_aload_n X dX2_nextOf_33 rfl 2 rfl ?_
            refine g_iload X dX2_nextOf_34 4 rfl ?_
            refine g_dV (ci := 0) (q0 := 0) (n := 1) (wr := [(h0, cO 1 [.ref q1, .ref q2, .ref q3]), (q1, cI d 36 K), (q2, cI d 36 L), (q3, cI d 5 S), (u0, cO 2 [.ref u1]), (u1, cI d 36 (oF V))]) (ws' := [(h0, cO 1 [.ref q1, .ref q2, .ref q3]), (q1, cI d 36 K), (q2, cI d 36 L), (q3, cI d 5 S), (p0, cO 0 [.ref r1, .ref r2, .ref r3]), (r1, cI d 36 (nF D)), (r2, cI d 36 Bf), (r3, cZ d 36 Zf), (u0, cO 2 [.ref u1]), (u1, cI d 36 (oF V))]) (st' := [.int (b2i (D i < 1000000))]) (As := [.int (nI i)]) (st := []) X (ct_X0_comesTo_N l d p0 r1 r2 r3 D Bf Zf i (by first | assumption | omega) (by first | assumption | omega)) wd_401 wd_621 wd_399 wd_400 wd_55 hd_X0_comesTo rfl ⟨(Nat.le_of_ble_eq_true rfl), (Nat.le_of_ble_eq_true rfl)⟩ rfl rfl dX2_nextOf_36 ⟨(Nat.le_of_ble_eq_true rfl), (Nat.le_of_ble_eq_true rfl)⟩ rfl rfl (Nat.le_of_ble_eq_true rfl) [4, 5, 6, 7] [0, 1, 2, 3, 8, 9] rfl rfl rfl rfl rfl (by decide) rfl [0, 1, 2, 3, 6, 7, 8, 9, 4, 5] rfl rfl rfl rfl ?_
            refine g_ifB_eq X 46 dX2_nextOf_39 (by decide) (fun c39_6 => ?_) (fun c39_6 => ?_)
            · refine g_iconst (v := 0) X dX2_nextOf_46 (by decide) ?_
              refine g_istore (lv' := [(5, .int 0), (0, .ref u0), (1, .ref h0), (2, .ref p0), (3, .int (besI (nx V L D i))), (4, .int (nI i))]) X dX2_nextOf_47 (by decide) rfl ?_
              refine g_iload X dX2_nextOf_49 0 rfl ?_
              refine g_if_ne X 57 dX2_nextOf_51 (by decide) (fun h => absurd h (by decide)) (fun _ => ?_)
              refine g_goto X 79 dX2_nextOf_54 (by decide) ?_
              refine g_iinc (v := nI (i + 1)) (lv' := [(4, .int (nI (i + 1))), (5, .int 0), (0, .ref u0), (1, .ref h0), (2, .ref p0), (3, .int (besI (nx V L D i)))]) X dX2_nextOf_79 5 rfl (nI_inc _) (by decide) rfl ?_
              refine g_goto X 5 dX2_nextOf_82 (by decide) ?_
              refine g_lv (lv' := [(0, .ref u0), (1, .ref h0), (2, .ref p0), (3, .int (besI (nx V L D i))), (4, .int (nI (i + 1)))]) X [2, 3, 4, 5, 0] rfl ?_
              exact g_eq (ws' := [(h0, cO 1 [.ref q1, .ref q2, .ref q3]), (q1, cI d 36 K), (q2, cI d 36 L), (q3, cI d 5 S), (p0, cO 0 [.ref r1, .ref r2, .ref r3]), (r1, cI d 36 (nF D)), (r2, cI d 36 Bf), (r3, cZ d 36 Zf), (u0, cO 2 [.ref u1]), (u1, cI d 36 (oF V))]) (lv' := [(0, .ref u0), (1, .ref h0), (2, .ref p0), (3, .int (besI (nx V L D (i + 1)))), (4, .int (nI (i + 1)))]) (rfl) (lv_cons (rfl) (lv_cons (rfl) (lv_cons (rfl) (lv_cons (vI (by first | exact congrArg besI (nx_n (fun z => absurd z.1.1 (fun e => absurd (oI_n e) (by assumption)))).symm | exact congrArg besI (nx_n (fun z => absurd z.1.2.1 (Int32.not_lt.mpr (by assumption)))).symm | exact congrArg besI (nx_n (fun z => absurd z.1.2.2 (by assumption))).symm | exact congrArg besI (nx_n (fun z => z.2.elim (by omega) (by omega))).symm | exact (besI_t hq1).symm.trans (congrArg besI (nx_n (fun z => z.2.elim (by omega) (by omega))).symm) | exact (by rw [nx_y (oI_eq (hV i) (by assumption)) (Int32.not_le.mp (by assumption)) (by assumption) (by first | exact Or.inl hz | exact Or.inr (by omega))]; exact (besI_t (by omega)).symm))) (lv_cons (rfl) (rfl)))))) (ih_5 (i + 1) (by first | assumption | omega) (by omega))
            · refine g_iconst (v := 1) X dX2_nextOf_42 (by decide) ?_
              refine g_goto X 47 dX2_nextOf_43 (by decide) ?_
              refine g_istore (lv' := [(5, .int 1), (0, .ref u0), (1, .ref h0), (2, .ref p0), (3, .int (besI (nx V L D i))), (4, .int (nI i))]) X dX2_nextOf_47 (by decide) rfl ?_
              refine g_iload X dX2_nextOf_49 0 rfl ?_
              refine g_if_ne X 57 dX2_nextOf_51 (by decide) (fun _ => ?_) (fun h => absurd h (by decide))
              refine g_iload_n X dX2_nextOf_57 rfl 4 rfl ?_
              refine g_iconst (v := (-1)) X dX2_nextOf_58 (by decide) ?_
              refine g_icmp_eq X 76 dX2_nextOf_59 (by decide) (fun c59_9 => ?_) (fun c59_9 => ?_)
              · have hz : nx V L D i = 99 := hnx.elim id (fun q => absurd c59_9 (by rw [besI_t q.1]; exact nI_ne_m1 (by omega)))
                refine g_iload X dX2_nextOf_76 5 rfl ?_
                refine g_istore_n (lv' := [(3, .int (nI i)), (5, .int 1), (0, .ref u0), (1, .ref h0), (2, .ref p0), (4, .int (nI i))]) X dX2_nextOf_78 rfl (by decide) rfl ?_
                refine g_iinc (v := nI (i + 1)) (lv' := [(4, .int (nI (i + 1))), (3, .int (nI i)), (5, .int 1), (0, .ref u0), (1, .ref h0), (2, .ref p0)]) X dX2_nextOf_79 5 rfl (nI_inc _) (by decide) rfl ?_
                refine g_goto X 5 dX2_nextOf_82 (by decide) ?_
                refine g_lv (lv' := [(0, .ref u0), (1, .ref h0), (2, .ref p0), (3, .int (nI i)), (4, .int (nI (i + 1)))]) X [3, 4, 5, 1, 0] rfl ?_
                exact g_eq (ws' := [(h0, cO 1 [.ref q1, .ref q2, .ref q3]), (q1, cI d 36 K), (q2, cI d 36 L), (q3, cI d 5 S), (p0, cO 0 [.ref r1, .ref r2, .ref r3]), (r1, cI d 36 (nF D)), (r2, cI d 36 Bf), (r3, cZ d 36 Zf), (u0, cO 2 [.ref u1]), (u1, cI d 36 (oF V))]) (lv' := [(0, .ref u0), (1, .ref h0), (2, .ref p0), (3, .int (besI (nx V L D (i + 1)))), (4, .int (nI (i + 1)))]) (rfl) (lv_cons (rfl) (lv_cons (rfl) (lv_cons (rfl) (lv_cons (vI (by first | exact congrArg besI (nx_n (fun z => absurd z.1.1 (fun e => absurd (oI_n e) (by assumption)))).symm | exact congrArg besI (nx_n (fun z => absurd z.1.2.1 (Int32.not_lt.mpr (by assumption)))).symm | exact congrArg besI (nx_n (fun z => absurd z.1.2.2 (by assumption))).symm | exact congrArg besI (nx_n (fun z => z.2.elim (by omega) (by omega))).symm | exact (besI_t hq1).symm.trans (congrArg besI (nx_n (fun z => z.2.elim (by omega) (by omega))).symm) | exact (by rw [nx_y (oI_eq (hV i) (by assumption)) (Int32.not_le.mp (by assumption)) (by assumption) (by first | exact Or.inl hz | exact Or.inr (by omega))]; exact (besI_t (by omega)).symm))) (lv_cons (rfl) (rfl)))))) (ih_5 (i + 1) (by first | assumption | omega) (by omega))
              · have hq : nx V L D i < 36 ∧ D (nx V L D i) < 1000000 := hnx.elim (fun e => absurd (by rw [e]; rfl) c59_9) id
                obtain ⟨hq1, hq2⟩ := hq
                refine g_eq (lv' := [(5, .int 1), (0, .ref u0), (1, .ref h0), (2, .ref p0), (3, .int (nI (nx V L D i))), (4, .int (nI i))]) rfl (lv_cons (rfl) (lv_cons (rfl) (lv_cons (rfl) (lv_cons (rfl) (lv_cons (vI (besI_t hq1)) (lv_cons (rfl) (rfl))))))) ?_
                refine g_aload_n X dX2_nextOf_62 rfl 3 rfl ?_
                refine g_iload X dX2_nextOf_63 5 rfl ?_
                refine g_dV (ci := 0) (q0 := 0) (n := 1) (wr := [(h0, cO 1 [.ref q1, .ref q2, .ref q3]), (q1, cI d 36 K), (q2, cI d 36 L), (q3, cI d 5 S), (u0, cO 2 [.ref u1]), (u1, cI d 36 (oF V))]) (ws' := [(h0, cO 1 [.ref q1, .ref q2, .ref q3]), (q1, cI d 36 K), (q2, cI d 36 L), (q3, cI d 5 S), (p0, cO 0 [.ref r1, .ref r2, .ref r3]), (r1, cI d 36 (nF D)), (r2, cI d 36 Bf), (r3, cZ d 36 Zf), (u0, cO 2 [.ref u1]), (u1, cI d 36 (oF V))]) (st' := [.int (dI (D i))]) (As := [.int (nI i)]) (st := []) X (ct_X0_daysTo_N l d p0 r1 r2 r3 D Bf Zf i (by first | assumption | omega) (by first | assumption | omega)) wd_397 wd_622 wd_395 wd_396 wd_55 hd_X0_daysTo rfl ⟨(Nat.le_of_ble_eq_true rfl), (Nat.le_of_ble_eq_true rfl)⟩ rfl rfl dX2_nextOf_65 ⟨(Nat.le_of_ble_eq_true rfl), (Nat.le_of_ble_eq_true rfl)⟩ rfl rfl (Nat.le_of_ble_eq_true rfl) [4, 5, 6, 7] [0, 1, 2, 3, 8, 9] rfl rfl rfl rfl rfl (by decide) rfl [0, 1, 2, 3, 6, 7, 8, 9, 4, 5] rfl rfl rfl rfl ?_
                refine g_tope (y := nI (D i)) (dI_t (by assumption)) ?_
                refine g_aload_n X dX2_nextOf_68 rfl 3 rfl ?_
                refine g_iload_n X dX2_nextOf_69 rfl 4 rfl ?_
                refine g_dV (ci := 0) (q0 := 0) (n := 1) (wr := [(h0, cO 1 [.ref q1, .ref q2, .ref q3]), (q1, cI d 36 K), (q2, cI d 36 L), (q3, cI d 5 S), (u0, cO 2 [.ref u1]), (u1, cI d 36 (oF V))]) (ws' := [(h0, cO 1 [.ref q1, .ref q2, .ref q3]), (q1, cI d 36 K), (q2, cI d 36 L), (q3, cI d 5 S), (p0, cO 0 [.ref r1, .ref r2, .ref r3]), (r1, cI d 36 (nF D)), (r2, cI d 36 Bf), (r3, cZ d 36 Zf), (u0, cO 2 [.ref u1]), (u1, cI d 36 (oF V))]) (st' := [.int (dI (D (nx V L D i))), .int (nI (D i))]) (As := [.int (nI (nx V L D i))]) (st := [.int (nI (D i))]) X (ct_X0_daysTo_N l d p0 r1 r2 r3 D Bf Zf (nx V L D i) (by first | assumption | omega) (by first | assumption | omega)) wd_397 wd_622 wd_395 wd_396 wd_55 hd_X0_daysTo rfl ⟨(Nat.le_of_ble_eq_true rfl), (Nat.le_of_ble_eq_true rfl)⟩ rfl rfl dX2_nextOf_70 ⟨(Nat.le_of_ble_eq_true rfl), (Nat.le_of_ble_eq_true rfl)⟩ rfl rfl (Nat.le_of_ble_eq_true rfl) [4, 5, 6, 7] [0, 1, 2, 3, 8, 9] rfl rfl rfl rfl rfl (by decide) rfl [0, 1, 2, 3, 6, 7, 8, 9, 4, 5] rfl rfl rfl rfl ?_
                refine g_tope (y := nI (D (nx V L D i))) (dI_t hq2) ?_
                refine g_icmpN_ge (a := (D i)) (b := (D (nx V L D i))) X rfl rfl (by omega) (by omega) 79 dX2_nextOf_73 (by decide) (fun c73_10 => ?_) (fun c73_10 => ?_)
                · refine g_iinc (v := nI (i + 1)) (lv' := [(4, .int (nI (i + 1))), (5, .int 1), (0, .ref u0), (1, .ref h0), (2, .ref p0), (3, .int (nI (nx V L D i)))]) X dX2_nextOf_79 5 rfl (nI_inc _) (by decide) rfl ?_
                  refine g_goto X 5 dX2_nextOf_82 (by decide) ?_
                  refine g_lv (lv' := [(0, .ref u0), (1, .ref h0), (2, .ref p0), (3, .int (nI (nx V L D i))), (4, .int (nI (i + 1)))]) X [2, 3, 4, 5, 0] rfl ?_
                  exact g_eq (ws' := [(h0, cO 1 [.ref q1, .ref q2, .ref q3]), (q1, cI d 36 K), (q2, cI d 36 L), (q3, cI d 5 S), (p0, cO 0 [.ref r1, .ref r2, .ref r3]), (r1, cI d 36 (nF D)), (r2, cI d 36 Bf), (r3, cZ d 36 Zf), (u0, cO 2 [.ref u1]), (u1, cI d 36 (oF V))]) (lv' := [(0, .ref u0), (1, .ref h0), (2, .ref p0), (3, .int (besI (nx V L D (i + 1)))), (4, .int (nI (i + 1)))]) (rfl) (lv_cons (rfl) (lv_cons (rfl) (lv_cons (rfl) (lv_cons (vI (by first | exact congrArg besI (nx_n (fun z => absurd z.1.1 (fun e => absurd (oI_n e) (by assumption)))).symm | exact congrArg besI (nx_n (fun z => absurd z.1.2.1 (Int32.not_lt.mpr (by assumption)))).symm | exact congrArg besI (nx_n (fun z => absurd z.1.2.2 (by assumption))).symm | exact congrArg besI (nx_n (fun z => z.2.elim (by omega) (by omega))).symm | exact (besI_t hq1).symm.trans (congrArg besI (nx_n (fun z => z.2.elim (by omega) (by omega))).symm) | exact (by rw [nx_y (oI_eq (hV i) (by assumption)) (Int32.not_le.mp (by assumption)) (by assumption) (by first | exact Or.inl hz | exact Or.inr (by omega))]; exact (besI_t (by omega)).symm))) (lv_cons (rfl) (rfl)))))) (ih_5 (i + 1) (by first | assumption | omega) (by omega))
                · refine g_iload X dX2_nextOf_76 5 rfl ?_
                  refine g_istore_n (lv' := [(3, .int (nI i)), (5, .int 1), (0, .ref u0), (1, .ref h0), (2, .ref p0), (4, .int (nI i))]) X dX2_nextOf_78 rfl (by decide) rfl ?_
                  refine g_iinc (v := nI (i + 1)) (lv' := [(4, .int (nI (i + 1))), (3, .int (nI i)), (5, .int 1), (0, .ref u0), (1, .ref h0), (2, .ref p0)]) X dX2_nextOf_79 5 rfl (nI_inc _) (by decide) rfl ?_
                  refine g_goto X 5 dX2_nextOf_82 (by decide) ?_
                  refine g_lv (lv' := [(0, .ref u0), (1, .ref h0), (2, .ref p0), (3, .int (nI i)), (4, .int (nI (i + 1)))]) X [3, 4, 5, 1, 0] rfl ?_
                  exact g_eq (ws' := [(h0, cO 1 [.ref q1, .ref q2, .ref q3]), (q1, cI d 36 K), (q2, cI d 36 L), (q3, cI d 5 S), (p0, cO 0 [.ref r1, .ref r2, .ref r3]), (r1, cI d 36 (nF D)), (r2, cI d 36 Bf), (r3, cZ d 36 Zf), (u0, cO 2 [.ref u1]), (u1, cI d 36 (oF V))]) (lv' := [(0, .ref u0), (1, .ref h0), (2, .ref p0), (3, .int (besI (nx V L D (i + 1)))), (4, .int (nI (i + 1)))]) (rfl) (lv_cons (rfl) (lv_cons (rfl) (lv_cons (rfl) (lv_cons (vI (by first | exact congrArg besI (nx_n (fun z => absurd z.1.1 (fun e => absurd (oI_n e) (by assumption)))).symm | exact congrArg besI (nx_n (fun z => absurd z.1.2.1 (Int32.not_lt.mpr (by assumption)))).symm | exact congrArg besI (nx_n (fun z => absurd z.1.2.2 (by assumption))).symm | exact congrArg besI (nx_n (fun z => z.2.elim (by omega) (by omega))).symm | exact (besI_t hq1).symm.trans (congrArg besI (nx_n (fun z => z.2.elim (by omega) (by omega))).symm) | exact (by rw [nx_y (oI_eq (hV i) (by assumption)) (Int32.not_le.mp (by assumption)) (by assumption) (by first | exact Or.inl hz | exact Or.inr (by omega))]; exact (besI_t (by omega)).symm))) (lv_cons (rfl) (rfl)))))) (ih_5 (i + 1) (by first | assumption | omega) (by omega))
  refine g_lv (lv' := [(0, .ref u0), (1, .ref h0), (2, .ref p0), (3, .int (-1)), (4, .int 0)]) X [2, 3, 4, 1, 0] rfl ?_
  exact g_eq (ws' := [(h0, cO 1 [.ref q1, .ref q2, .ref q3]), (q1, cI d 36 K), (q2, cI d 36 L), (q3, cI d 5 S), (p0, cO 0 [.ref r1, .ref r2, .ref r3]), (r1, cI d 36 (nF D)), (r2, cI d 36 Bf), (r3, cZ d 36 Zf), (u0, cO 2 [.ref u1]), (u1, cI d 36 (oF V))]) (lv' := [(0, .ref u0), (1, .ref h0), (2, .ref p0), (3, .int (besI (nx V L D 0))), (4, .int (nI 0))]) (rfl) (lv_cons (rfl) (lv_cons (rfl) (lv_cons (rfl) (lv_cons (vI (by rfl)) (lv_cons (vI (by rfl)) (rfl)))))) (at_5 _ 0 (by first | assumption | omega) (Nat.lt_succ_self _))
set_option maxHeartbeats 4000000 in
set_option maxRecDepth 20000 in
theorem ct_X2_search (l : Launch) (d : KD) (u0 u1 : Nat) (h0 q1 q2 q3 : Nat) (K L S : Nat → Int32) (p0 r1 r2 r3 : Nat) (U F Bf Zf : Nat → Int32) : Ct l d yX2_search cX2_search 6 none { frames := 4, cells := 0, slots := 0, locals := 91 } [.ref u0, .ref h0, .ref p0] [(h0, cO 1 [.ref q1, .ref q2, .ref q3]), (q1, cI d 36 K), (q2, cI d 36 L), (q3, cI d 5 S), (p0, cO 0 [.ref r1, .ref r2, .ref r3]), (r1, cI d 36 F), (r2, cI d 36 Bf), (r3, cZ d 36 Zf), (u0, cO 2 [.ref u1]), (u1, cI d 36 U)] 0 0 (fun r wo => ∃ (Z' : Nat → Bool), r = none ∧ wo = [(h0, cO 1 [.ref q1, .ref q2, .ref q3]), (q1, cI d 36 K), (q2, cI d 36 L), (q3, cI d 5 S), (p0, cO 0 [.ref r1, .ref r2, .ref r3]), (r1, cI d 36 (nF (dsI K S (S 0)))), (r2, cI d 36 Bf), (r3, cZ d 36 (zF Z')), (u0, cO 2 [.ref u1]), (u1, cI d 36 (oF (unt L (dsI K S (S 0)))))]) := by
  refine ct_of (own := RX2) (ini := false) (by decide +kernel) rfl (fun h => by cases h) (Nat.le_of_ble_eq_true rfl) ?_
  intro g X
  show g 0 0 [(h0, cO 1 [.ref q1, .ref q2, .ref q3]), (q1, cI d 36 K), (q2, cI d 36 L), (q3, cI d 5 S), (p0, cO 0 [.ref r1, .ref r2, .ref r3]), (r1, cI d 36 F), (r2, cI d 36 Bf), (r3, cZ d 36 Zf), (u0, cO 2 [.ref u1]), (u1, cI d 36 U)] [(0, .ref u0), (1, .ref h0), (2, .ref p0)] 0 []
  refine g_iconst (v := 0) X dX2_search_0 (by decide) ?_
  refine g_istore_n (lv' := [(3, .int 0), (0, .ref u0), (1, .ref h0), (2, .ref p0)]) X dX2_search_1 rfl (by decide) rfl ?_
  have at_2 : ∀ (n_ : Nat) (i : Nat) (hi : i ≤ 36), (36 - i) < n_ → g 0 0 [(h0, cO 1 [.ref q1, .ref q2, .ref q3]), (q1, cI d 36 K), (q2, cI d 36 L), (q3, cI d 5 S), (p0, cO 0 [.ref r1, .ref r2, .ref r3]), (r1, cI d 36 F), (r2, cI d 36 Bf), (r3, cZ d 36 Zf), (u0, cO 2 [.ref u1]), (u1, cI d 36 (fun k => if k < i then -9 else U k))] [(0, .ref u0), (1, .ref h0), (2, .ref p0), (3, .int (nI i))] 2 [] := by
    intro n_
    induction n_ with
    | zero => intro i hi hn_; exact absurd hn_ (Nat.not_lt_zero _)
    | succ n_ ih_2 =>
      intro i hi hn_2
      refine g_iload_n X dX2_search_2 rfl 3 rfl ?_
      refine g_bipush (v := 36) X dX2_search_3 (by decide) ?_
      refine g_icmpN_ge (a := i) (b := 36) X rfl rfl (by omega) (by omega) 22 dX2_search_5 (by decide) (fun c5_1 => ?_) (fun c5_1 => ?_)
      · refine g_ext (ws' := [(h0, cO 1 [.ref q1, .ref q2, .ref q3]), (q1, cI d 36 K), (q2, cI d 36 L), (q3, cI d 5 S), (p0, cO 0 [.ref r1, .ref r2, .ref r3]), (r1, cI d 36 F), (r2, cI d 36 Bf), (r3, cZ d 36 Zf), (u0, cO 2 [.ref u1]), (u1, cI d 36 (oF (fun _ => none)))]) (h := oF (fun _ => none)) X 9 rfl (fun j hj => by rw [if_pos (by omega)]; rfl) rfl ?_
        refine g_aload_n X dX2_search_22 rfl 2 rfl ?_
        refine g_aload_n X dX2_search_23 rfl 1 rfl ?_
        refine g_aload_n X dX2_search_24 rfl 1 rfl ?_
        refine g_iconst (v := 0) X dX2_search_25 (by decide) ?_
        refine g_dV (ci := 1) (q0 := 0) (n := 1) (wr := [(p0, cO 0 [.ref r1, .ref r2, .ref r3]), (r1, cI d 36 F), (r2, cI d 36 Bf), (r3, cZ d 36 Zf), (u0, cO 2 [.ref u1]), (u1, cI d 36 (oF (fun _ => none)))]) (ws' := [(h0, cO 1 [.ref q1, .ref q2, .ref q3]), (q1, cI d 36 K), (q2, cI d 36 L), (q3, cI d 5 S), (p0, cO 0 [.ref r1, .ref r2, .ref r3]), (r1, cI d 36 F), (r2, cI d 36 Bf), (r3, cZ d 36 Zf), (u0, cO 2 [.ref u1]), (u1, cI d 36 (oF (fun _ => none)))]) (st' := [.int (S 0), .ref h0, .ref p0]) (As := [.int 0]) (st := [.ref h0, .ref p0]) X (ct_X1_number l d h0 q1 q2 q3 K L S 0 (by first | assumption | omega)) wd_353 wd_614 wd_351 wd_352 wd_53 hd_X1_number rfl ⟨(Nat.le_of_ble_eq_true rfl), (Nat.le_of_ble_eq_true rfl)⟩ rfl rfl dX2_search_26 ⟨(Nat.le_of_ble_eq_true rfl), (Nat.le_of_ble_eq_true rfl)⟩ rfl rfl (Nat.le_of_ble_eq_true rfl) [0, 1, 2, 3] [4, 5, 6, 7, 8, 9] rfl rfl rfl rfl rfl (by decide) rfl [6, 7, 8, 9, 0, 1, 2, 3, 4, 5] rfl rfl rfl rfl ?_
        refine g_callV (ci := 0) (q0 := 4) (n := 2) (wr := [(u0, cO 2 [.ref u1]), (u1, cI d 36 (oF (fun _ => none)))]) (As := [.ref h0, .int (S 0)]) (st := []) X (ct_X0_searchFrom l d p0 r1 r2 r3 h0 q1 q2 q3 K L S F Bf Zf (S 0)) wd_357 wd_615 wd_355 wd_356 wd_55 hd_X0_searchFrom rfl ⟨(Nat.le_of_ble_eq_true rfl), (Nat.le_of_ble_eq_true rfl)⟩ rfl rfl dX2_search_29 ⟨(Nat.le_of_ble_eq_true rfl), (Nat.le_of_ble_eq_true rfl)⟩ rfl rfl (Nat.le_of_ble_eq_true rfl) [0, 1, 2, 3, 4, 5, 6, 7] [8, 9] rfl rfl rfl rfl rfl (by decide) rfl (fun r_ wo_ hp_ => ?_)
        obtain ⟨Zn, rfl, rfl⟩ := hp_
        show g 0 0 [(u0, cO 2 [.ref u1]), (u1, cI d 36 (oF (fun _ => none))), (h0, cO 1 [.ref q1, .ref q2, .ref q3]), (q1, cI d 36 K), (q2, cI d 36 L), (q3, cI d 5 S), (p0, cO 0 [.ref r1, .ref r2, .ref r3]), (r1, cI d 36 (nF (dsI K S (S 0)))), (r2, cI d 36 Bf), (r3, cZ d 36 (zF Zn))] [(0, .ref u0), (1, .ref h0), (2, .ref p0), (3, .int (nI i))] 32 []
        refine g_ws (ws' := [(h0, cO 1 [.ref q1, .ref q2, .ref q3]), (q1, cI d 36 K), (q2, cI d 36 L), (q3, cI d 5 S), (p0, cO 0 [.ref r1, .ref r2, .ref r3]), (r1, cI d 36 (nF (dsI K S (S 0)))), (r2, cI d 36 Bf), (r3, cZ d 36 (zF Zn)), (u0, cO 2 [.ref u1]), (u1, cI d 36 (oF (fun _ => none)))]) X [2, 3, 4, 5, 6, 7, 8, 9, 0, 1] rfl rfl rfl ?_
        refine g_iconst (v := 0) X dX2_search_32 (by decide) ?_
        refine g_istore_n (lv' := [(3, .int 0), (0, .ref u0), (1, .ref h0), (2, .ref p0)]) X dX2_search_33 rfl (by decide) rfl ?_
        refine g_iconst (v := 0) X dX2_search_34 (by decide) ?_
        refine g_istore (lv' := [(4, .int 0), (3, .int 0), (0, .ref u0), (1, .ref h0), (2, .ref p0)]) X dX2_search_35 (by decide) rfl ?_
        have at_37 : ∀ (n_ : Nat) (n : Nat) (gn : Nat) (V : Nat → Option Nat) (hn : n ≤ 36) (hgn : gn ≤ n * 2000000) (hV : ∀ q v, V q = some v → v ≤ n * 2000000 + 1000000) (hs : sch L (dsI K S (S 0)) (36 - n) V gn = unt L (dsI K S (S 0))), (36 - n) < n_ → g 0 0 [(h0, cO 1 [.ref q1, .ref q2, .ref q3]), (q1, cI d 36 K), (q2, cI d 36 L), (q3, cI d 5 S), (p0, cO 0 [.ref r1, .ref r2, .ref r3]), (r1, cI d 36 (nF (dsI K S (S 0)))), (r2, cI d 36 Bf), (r3, cZ d 36 (zF Zn)), (u0, cO 2 [.ref u1]), (u1, cI d 36 (oF V))] [(0, .ref u0), (1, .ref h0), (2, .ref p0), (3, .int (nI gn)), (4, .int (nI n))] 37 [] := by
          intro n_
          induction n_ with
          | zero => intro n gn V hn hgn hV hs hn_; exact absurd hn_ (Nat.not_lt_zero _)
          | succ n_ ih_37 =>
            intro n gn V hn hgn hV hs hn_37
            refine g_iload X dX2_search_37 4 rfl ?_
            refine g_bipush (v := 36) X dX2_search_39 (by decide) ?_
            refine g_icmpN_ge (a := n) (b := 36) X rfl rfl (by omega) (by omega) 93 dX2_search_41 (by decide) (fun c41_3 => ?_) (fun c41_3 => ?_)
            · exact g_end X (gE_v dX2_search_93 (Nat.le_of_ble_eq_true rfl) (Nat.le_of_ble_eq_true rfl) ⟨Zn, rfl, ws_cons (rfl) (ws_cons (rfl) (ws_cons (rfl) (ws_cons (rfl) (ws_cons (rfl) (ws_cons (rfl) (ws_cons (rfl) (ws_cons (rfl) (ws_cons (rfl) (ws_cons (cI_eq (by first | (rw [← hs, show n = 36 by omega]; rfl) | (rw [← hs, sch_n (by assumption)]))) (rfl))))))))))⟩)
            · refine g_aload_n X dX2_search_44 rfl 0 rfl ?_
              refine g_aload_n X dX2_search_45 rfl 1 rfl ?_
              refine g_aload_n X dX2_search_46 rfl 2 rfl ?_
              refine g_dV (ci := 2) (q0 := 8) (n := 2) (wr := []) (ws' := [(h0, cO 1 [.ref q1, .ref q2, .ref q3]), (q1, cI d 36 K), (q2, cI d 36 L), (q3, cI d 5 S), (p0, cO 0 [.ref r1, .ref r2, .ref r3]), (r1, cI d 36 (nF (dsI K S (S 0)))), (r2, cI d 36 Bf), (r3, cZ d 36 (zF Zn)), (u0, cO 2 [.ref u1]), (u1, cI d 36 (oF V))]) (st' := [.int (besI (nxs V L (dsI K S (S 0))))]) (As := [.ref h0, .ref p0]) (st := []) X (ct_X2_nextOf l d u0 u1 h0 q1 q2 q3 K L S p0 r1 r2 r3 V (dsI K S (S 0)) Bf (zF Zn) (fun q v z => by have := hV q v z; omega) (dsI_le K S (S 0))) wd_619 wd_616 wd_618 wd_17 wd_57 hd_X2_nextOf rfl ⟨(Nat.le_of_ble_eq_true rfl), (Nat.le_of_ble_eq_true rfl)⟩ rfl rfl dX2_search_47 ⟨(Nat.le_of_ble_eq_true rfl), (Nat.le_of_ble_eq_true rfl)⟩ rfl rfl (Nat.le_of_ble_eq_true rfl) [0, 1, 2, 3, 4, 5, 6, 7, 8, 9] [] rfl rfl rfl rfl rfl (by decide) rfl [0, 1, 2, 3, 4, 5, 6, 7, 8, 9] rfl rfl rfl rfl ?_
              refine g_istore (lv' := [(5, .int (besI (nxs V L (dsI K S (S 0))))), (0, .ref u0), (1, .ref h0), (2, .ref p0), (3, .int (nI gn)), (4, .int (nI n))]) X dX2_search_50 (by decide) rfl ?_
              refine g_iload X dX2_search_52 0 rfl ?_
              refine g_dSN (host := "HeWreckedHimself") (n := 1) (wr := [(h0, cO 1 [.ref q1, .ref q2, .ref q3]), (q1, cI d 36 K), (q2, cI d 36 L), (q3, cI d 5 S), (p0, cO 0 [.ref r1, .ref r2, .ref r3]), (r1, cI d 36 (nF (dsI K S (S 0)))), (r2, cI d 36 Bf), (r3, cZ d 36 (zF Zn)), (u0, cO 2 [.ref u1]), (u1, cI d 36 (oF V))]) (ws' := [(h0, cO 1 [.ref q1, .ref q2, .ref q3]), (q1, cI d 36 K), (q2, cI d 36 L), (q3, cI d 5 S), (p0, cO 0 [.ref r1, .ref r2, .ref r3]), (r1, cI d 36 (nF (dsI K S (S 0)))), (r2, cI d 36 Bf), (r3, cZ d 36 (zF Zn)), (u0, cO 2 [.ref u1]), (u1, cI d 36 (oF V))]) (st' := [.int (b2i ((nxs V L (dsI K S (S 0))) < 36))]) (As := [.int (besI (nxs V L (dsI K S (S 0))))]) (st := []) X (ct_X5_isSquare_b l d (nxs V L (dsI K S (S 0)))) wd_365 (by decide +kernel) wd_364 wd_52 hd_X5_isSquare ⟨(Nat.le_of_ble_eq_true rfl), (Nat.le_of_ble_eq_true rfl)⟩ rfl rfl dX2_search_54 ⟨(Nat.le_of_ble_eq_true rfl), (Nat.le_of_ble_eq_true rfl)⟩ rfl rfl (Nat.le_of_ble_eq_true rfl) [] [0, 1, 2, 3, 4, 5, 6, 7, 8, 9] rfl rfl rfl rfl rfl (by decide) [0, 1, 2, 3, 4, 5, 6, 7, 8, 9] rfl rfl rfl rfl ?_
              refine g_ifB_ne X 61 dX2_search_57 (by decide) (fun c57_4 => ?_) (fun c57_4 => ?_)
              · have hx : nxs V L (dsI K S (S 0)) < 36 := c57_4
                have hd := nxs_in hx
                refine g_eq (lv' := [(5, .int (nI (nxs V L (dsI K S (S 0))))), (0, .ref u0), (1, .ref h0), (2, .ref p0), (3, .int (nI gn)), (4, .int (nI n))]) rfl (lv_cons (vI (besI_t hx)) (lv_cons (rfl) (lv_cons (rfl) (lv_cons (rfl) (lv_cons (rfl) (lv_cons (rfl) (rfl))))))) ?_
                refine g_aload_n X dX2_search_61 rfl 1 rfl ?_
                refine g_get (C := RX2) (T := TX2) (N := 1) (ci := 2) (v := .ref u1) X rfl inT2 0 (by decide) wd_138 rfl dX2_search_62 8 rfl rfl ?_
                refine g_iload X dX2_search_65 0 rfl ?_
                refine g_iload_n X dX2_search_67 rfl 4 rfl ?_
                refine g_aload_n X dX2_search_68 rfl 3 rfl ?_
                refine g_iload X dX2_search_69 0 rfl ?_
                refine g_dV (ci := 0) (q0 := 0) (n := 1) (wr := [(h0, cO 1 [.ref q1, .ref q2, .ref q3]), (q1, cI d 36 K), (q2, cI d 36 L), (q3, cI d 5 S), (u0, cO 2 [.ref u1]), (u1, cI d 36 (oF V))]) (ws' := [(h0, cO 1 [.ref q1, .ref q2, .ref q3]), (q1, cI d 36 K), (q2, cI d 36 L), (q3, cI d 5 S), (p0, cO 0 [.ref r1, .ref r2, .ref r3]), (r1, cI d 36 (nF (dsI K S (S 0)))), (r2, cI d 36 Bf), (r3, cZ d 36 (zF Zn)), (u0, cO 2 [.ref u1]), (u1, cI d 36 (oF V))]) (st' := [.int (dI ((dsI K S (S 0)) (nxs V L (dsI K S (S 0))))), .int (nI gn), .int (nI (nxs V L (dsI K S (S 0)))), .ref u1]) (As := [.int (nI (nxs V L (dsI K S (S 0))))]) (st := [.int (nI gn), .int (nI (nxs V L (dsI K S (S 0)))), .ref u1]) X (ct_X0_daysTo_N l d p0 r1 r2 r3 (dsI K S (S 0)) Bf (zF Zn) (nxs V L (dsI K S (S 0))) (by first | assumption | omega) (dsI_le K S (S 0))) wd_397 wd_622 wd_395 wd_396 wd_55 hd_X0_daysTo rfl ⟨(Nat.le_of_ble_eq_true rfl), (Nat.le_of_ble_eq_true rfl)⟩ rfl rfl dX2_search_71 ⟨(Nat.le_of_ble_eq_true rfl), (Nat.le_of_ble_eq_true rfl)⟩ rfl rfl (Nat.le_of_ble_eq_true rfl) [4, 5, 6, 7] [0, 1, 2, 3, 8, 9] rfl rfl rfl rfl rfl (by decide) rfl [0, 1, 2, 3, 6, 7, 8, 9, 4, 5] rfl rfl rfl rfl ?_
                refine g_tope (y := nI (dsI K S (S 0) (nxs V L (dsI K S (S 0))))) (dI_t hd) ?_
                refine g_iadd X dX2_search_74 ?_
                refine g_tope (y := nI (gn + (dsI K S (S 0) (nxs V L (dsI K S (S 0)))))) (nI_add _ _) ?_
                refine g_iastore_N (k := (nxs V L (dsI K S (S 0)))) (ws' := [(h0, cO 1 [.ref q1, .ref q2, .ref q3]), (q1, cI d 36 K), (q2, cI d 36 L), (q3, cI d 5 S), (p0, cO 0 [.ref r1, .ref r2, .ref r3]), (r1, cI d 36 (nF (dsI K S (S 0)))), (r2, cI d 36 Bf), (r3, cZ d 36 (zF Zn)), (u0, cO 2 [.ref u1]), (u1, cI d 36 (upd (oF V) (nxs V L (dsI K S (S 0))) (nI (gn + (dsI K S (S 0) (nxs V L (dsI K S (S 0))))))))]) X rfl dX2_search_75 9 rfl (by first | assumption | omega) (by omega) rfl ?_
                refine g_eq (ws' := [(h0, cO 1 [.ref q1, .ref q2, .ref q3]), (q1, cI d 36 K), (q2, cI d 36 L), (q3, cI d 5 S), (p0, cO 0 [.ref r1, .ref r2, .ref r3]), (r1, cI d 36 (nF (dsI K S (S 0)))), (r2, cI d 36 Bf), (r3, cZ d 36 (zF Zn)), (u0, cO 2 [.ref u1]), (u1, cI d 36 (oF (sO V (nxs V L (dsI K S (S 0))) (gn + dsI K S (S 0) (nxs V L (dsI K S (S 0)))))))]) (ws_cons (rfl) (ws_cons (rfl) (ws_cons (rfl) (ws_cons (rfl) (ws_cons (rfl) (ws_cons (rfl) (ws_cons (rfl) (ws_cons (rfl) (ws_cons (rfl) (ws_cons (cI_eq (sO_u)) (rfl))))))))))) rfl ?_
                refine g_iload_n X dX2_search_76 rfl 4 rfl ?_
                refine g_iconst (v := 2) X dX2_search_77 (by decide) ?_
                refine g_aload_n X dX2_search_78 rfl 3 rfl ?_
                refine g_iload X dX2_search_79 0 rfl ?_
                refine g_dV (ci := 0) (q0 := 0) (n := 1) (wr := [(h0, cO 1 [.ref q1, .ref q2, .ref q3]), (q1, cI d 36 K), (q2, cI d 36 L), (q3, cI d 5 S), (u0, cO 2 [.ref u1]), (u1, cI d 36 (oF (sO V (nxs V L (dsI K S (S 0))) (gn + dsI K S (S 0) (nxs V L (dsI K S (S 0)))))))]) (ws' := [(h0, cO 1 [.ref q1, .ref q2, .ref q3]), (q1, cI d 36 K), (q2, cI d 36 L), (q3, cI d 5 S), (p0, cO 0 [.ref r1, .ref r2, .ref r3]), (r1, cI d 36 (nF (dsI K S (S 0)))), (r2, cI d 36 Bf), (r3, cZ d 36 (zF Zn)), (u0, cO 2 [.ref u1]), (u1, cI d 36 (oF (sO V (nxs V L (dsI K S (S 0))) (gn + dsI K S (S 0) (nxs V L (dsI K S (S 0)))))))]) (st' := [.int (dI ((dsI K S (S 0)) (nxs V L (dsI K S (S 0))))), .int 2, .int (nI gn)]) (As := [.int (nI (nxs V L (dsI K S (S 0))))]) (st := [.int 2, .int (nI gn)]) X (ct_X0_daysTo_N l d p0 r1 r2 r3 (dsI K S (S 0)) Bf (zF Zn) (nxs V L (dsI K S (S 0))) (by first | assumption | omega) (dsI_le K S (S 0))) wd_397 wd_622 wd_395 wd_396 wd_55 hd_X0_daysTo rfl ⟨(Nat.le_of_ble_eq_true rfl), (Nat.le_of_ble_eq_true rfl)⟩ rfl rfl dX2_search_81 ⟨(Nat.le_of_ble_eq_true rfl), (Nat.le_of_ble_eq_true rfl)⟩ rfl rfl (Nat.le_of_ble_eq_true rfl) [4, 5, 6, 7] [0, 1, 2, 3, 8, 9] rfl rfl rfl rfl rfl (by decide) rfl [0, 1, 2, 3, 6, 7, 8, 9, 4, 5] rfl rfl rfl rfl ?_
                refine g_tope (y := nI (dsI K S (S 0) (nxs V L (dsI K S (S 0))))) (dI_t hd) ?_
                refine g_imul X dX2_search_84 ?_
                refine g_tope (y := nI (2 * (dsI K S (S 0) (nxs V L (dsI K S (S 0)))))) (nI_mulN _ _) ?_
                refine g_iadd X dX2_search_85 ?_
                refine g_tope (y := nI (gn + (2 * (dsI K S (S 0) (nxs V L (dsI K S (S 0))))))) (nI_add _ _) ?_
                refine g_istore_n (lv' := [(3, .int (nI (gn + (2 * (dsI K S (S 0) (nxs V L (dsI K S (S 0)))))))), (5, .int (nI (nxs V L (dsI K S (S 0))))), (0, .ref u0), (1, .ref h0), (2, .ref p0), (4, .int (nI n))]) X dX2_search_86 rfl (by decide) rfl ?_
                refine g_iinc (v := nI (n + 1)) (lv' := [(4, .int (nI (n + 1))), (3, .int (nI (gn + (2 * (dsI K S (S 0) (nxs V L (dsI K S (S 0)))))))), (5, .int (nI (nxs V L (dsI K S (S 0))))), (0, .ref u0), (1, .ref h0), (2, .ref p0)]) X dX2_search_87 5 rfl (nI_inc _) (by decide) rfl ?_
                refine g_goto X 37 dX2_search_90 (by decide) ?_
                refine g_lv (lv' := [(0, .ref u0), (1, .ref h0), (2, .ref p0), (3, .int (nI (gn + (2 * (dsI K S (S 0) (nxs V L (dsI K S (S 0)))))))), (4, .int (nI (n + 1)))]) X [3, 4, 5, 1, 0] rfl ?_
                exact ih_37 (n + 1) (gn + (2 * (dsI K S (S 0) (nxs V L (dsI K S (S 0)))))) (sO V (nxs V L (dsI K S (S 0))) (gn + dsI K S (S 0) (nxs V L (dsI K S (S 0))))) (by first | assumption | omega) (by omega) (sO_bd hV (by omega) (by omega)) ((sch_y (by omega) hx).trans hs) (by omega)
              · exact g_end X (gE_v dX2_search_60 (Nat.le_of_ble_eq_true rfl) (Nat.le_of_ble_eq_true rfl) ⟨Zn, rfl, ws_cons (rfl) (ws_cons (rfl) (ws_cons (rfl) (ws_cons (rfl) (ws_cons (rfl) (ws_cons (rfl) (ws_cons (rfl) (ws_cons (rfl) (ws_cons (rfl) (ws_cons (cI_eq (by first | (rw [← hs, show n = 36 by omega]; rfl) | (rw [← hs, sch_n (by assumption)]))) (rfl))))))))))⟩)
        refine g_lv (lv' := [(0, .ref u0), (1, .ref h0), (2, .ref p0), (3, .int 0), (4, .int 0)]) X [2, 3, 4, 1, 0] rfl ?_
        exact g_eq (ws' := [(h0, cO 1 [.ref q1, .ref q2, .ref q3]), (q1, cI d 36 K), (q2, cI d 36 L), (q3, cI d 5 S), (p0, cO 0 [.ref r1, .ref r2, .ref r3]), (r1, cI d 36 (nF (dsI K S (S 0)))), (r2, cI d 36 Bf), (r3, cZ d 36 (zF Zn)), (u0, cO 2 [.ref u1]), (u1, cI d 36 (oF (fun _ => none)))]) (lv' := [(0, .ref u0), (1, .ref h0), (2, .ref p0), (3, .int (nI 0)), (4, .int (nI 0))]) (rfl) (lv_cons (rfl) (lv_cons (rfl) (lv_cons (rfl) (lv_cons (vI (by rfl)) (lv_cons (vI (by rfl)) (rfl)))))) (at_37 _ 0 0 (fun _ => none) (by first | assumption | omega) (Nat.le_refl 0) (fun q v z => by cases z) (rfl) (Nat.lt_succ_self _))
      · refine g_aload_n X dX2_search_8 rfl 0 rfl ?_
        refine g_get (C := RX2) (T := TX2) (N := 1) (ci := 2) (v := .ref u1) X rfl inT2 0 (by decide) wd_138 rfl dX2_search_9 8 rfl rfl ?_
        refine g_iload_n X dX2_search_12 rfl 3 rfl ?_
        refine g_bipush (v := (-9)) X dX2_search_13 (by decide) ?_
        refine g_iastore_N (k := i) (ws' := [(h0, cO 1 [.ref q1, .ref q2, .ref q3]), (q1, cI d 36 K), (q2, cI d 36 L), (q3, cI d 5 S), (p0, cO 0 [.ref r1, .ref r2, .ref r3]), (r1, cI d 36 F), (r2, cI d 36 Bf), (r3, cZ d 36 Zf), (u0, cO 2 [.ref u1]), (u1, cI d 36 (upd (fun k => if k < i then -9 else U k) i (-9)))]) X rfl dX2_search_15 9 rfl (by first | assumption | omega) (by omega) rfl ?_
        refine g_iinc (v := nI (i + 1)) (lv' := [(3, .int (nI (i + 1))), (0, .ref u0), (1, .ref h0), (2, .ref p0)]) X dX2_search_16 3 rfl (nI_inc _) (by decide) rfl ?_
        refine g_goto X 2 dX2_search_19 (by decide) ?_
        refine g_lv (lv' := [(0, .ref u0), (1, .ref h0), (2, .ref p0), (3, .int (nI (i + 1)))]) X [1, 2, 3, 0] rfl ?_
        exact g_eq (ws' := [(h0, cO 1 [.ref q1, .ref q2, .ref q3]), (q1, cI d 36 K), (q2, cI d 36 L), (q3, cI d 5 S), (p0, cO 0 [.ref r1, .ref r2, .ref r3]), (r1, cI d 36 F), (r2, cI d 36 Bf), (r3, cZ d 36 Zf), (u0, cO 2 [.ref u1]), (u1, cI d 36 (fun k => if k < (i + 1) then -9 else U k))]) (lv' := [(0, .ref u0), (1, .ref h0), (2, .ref p0), (3, .int (nI (i + 1)))]) (ws_cons (rfl) (ws_cons (rfl) (ws_cons (rfl) (ws_cons (rfl) (ws_cons (rfl) (ws_cons (rfl) (ws_cons (rfl) (ws_cons (rfl) (ws_cons (rfl) (ws_cons (cI_eq (fill_s)) (rfl))))))))))) (rfl) (ih_2 (i + 1) (by first | assumption | omega) (by omega))
  refine g_lv (lv' := [(0, .ref u0), (1, .ref h0), (2, .ref p0), (3, .int 0)]) X [1, 2, 3, 0] rfl ?_
  exact g_eq (ws' := [(h0, cO 1 [.ref q1, .ref q2, .ref q3]), (q1, cI d 36 K), (q2, cI d 36 L), (q3, cI d 5 S), (p0, cO 0 [.ref r1, .ref r2, .ref r3]), (r1, cI d 36 F), (r2, cI d 36 Bf), (r3, cZ d 36 Zf), (u0, cO 2 [.ref u1]), (u1, cI d 36 (fun k => if k < 0 then -9 else U k))]) (lv' := [(0, .ref u0), (1, .ref h0), (2, .ref p0), (3, .int (nI 0))]) (ws_cons (rfl) (ws_cons (rfl) (ws_cons (rfl) (ws_cons (rfl) (ws_cons (rfl) (ws_cons (rfl) (ws_cons (rfl) (ws_cons (rfl) (ws_cons (rfl) (ws_cons (cI_eq (by funext k; exact (if_neg (Nat.not_lt_zero k)).symm)) (rfl))))))))))) (lv_cons (rfl) (lv_cons (rfl) (lv_cons (rfl) (lv_cons (vI (by rfl)) (rfl))))) (at_2 _ 0 (by first | assumption | omega) (Nat.lt_succ_self _))
set_option maxHeartbeats 4000000 in
set_option maxRecDepth 20000 in
theorem ct_X2_sumByLikely (l : Launch) (d : KD) (u0 u1 : Nat) (h0 q1 q2 q3 : Nat) (K L S : Nat → Int32) (U : Nat → Int32) : Ct l d yX2_sumByLikely cX2_sumByLikely 5 (some .long) { frames := 2, cells := 0, slots := 0, locals := 41 } [.ref u0, .ref h0] [(h0, cO 1 [.ref q1, .ref q2, .ref q3]), (q1, cI d 36 K), (q2, cI d 36 L), (q3, cI d 5 S), (u0, cO 2 [.ref u1]), (u1, cI d 36 U)] 0 0 (fun r wo => r = some (.long (slI U L 36)) ∧ wo = [(h0, cO 1 [.ref q1, .ref q2, .ref q3]), (q1, cI d 36 K), (q2, cI d 36 L), (q3, cI d 5 S), (u0, cO 2 [.ref u1]), (u1, cI d 36 U)]) := by
  refine ct_of (own := RX2) (ini := false) (by decide +kernel) rfl (fun h => by cases h) (Nat.le_of_ble_eq_true rfl) ?_
  intro g X
  show g 0 0 [(h0, cO 1 [.ref q1, .ref q2, .ref q3]), (q1, cI d 36 K), (q2, cI d 36 L), (q3, cI d 5 S), (u0, cO 2 [.ref u1]), (u1, cI d 36 U)] [(0, .ref u0), (1, .ref h0)] 0 []
  refine g_lconst (v := 0) X dX2_sumByLikely_0 (by decide) ?_
  refine g_lstore_n (lv' := [(2, .long 0), (0, .ref u0), (1, .ref h0)]) X dX2_sumByLikely_1 rfl (by decide) rfl ?_
  refine g_iconst (v := 0) X dX2_sumByLikely_2 (by decide) ?_
  refine g_istore (lv' := [(4, .int 0), (2, .long 0), (0, .ref u0), (1, .ref h0)]) X dX2_sumByLikely_3 (by decide) rfl ?_
  have at_5 : ∀ (n_ : Nat) (i : Nat) (hi : i ≤ 36), (36 - i) < n_ → g 0 0 [(h0, cO 1 [.ref q1, .ref q2, .ref q3]), (q1, cI d 36 K), (q2, cI d 36 L), (q3, cI d 5 S), (u0, cO 2 [.ref u1]), (u1, cI d 36 U)] [(0, .ref u0), (1, .ref h0), (2, .long (slI U L i)), (4, .int (nI i))] 5 [] := by
    intro n_
    induction n_ with
    | zero => intro i hi hn_; exact absurd hn_ (Nat.not_lt_zero _)
    | succ n_ ih_5 =>
      intro i hi hn_5
      refine g_iload X dX2_sumByLikely_5 3 rfl ?_
      refine g_bipush (v := 36) X dX2_sumByLikely_7 (by decide) ?_
      refine g_icmpN_ge (a := i) (b := 36) X rfl rfl (by omega) (by omega) 49 dX2_sumByLikely_9 (by decide) (fun c9_1 => ?_) (fun c9_1 => ?_)
      · refine g_lload_n X dX2_sumByLikely_49 rfl 2 rfl ?_
        exact g_end X (gE_l dX2_sumByLikely_50 (Nat.le_of_ble_eq_true rfl) (Nat.le_of_ble_eq_true rfl) ⟨congrArg (fun z => some (Value.long z)) (by rw [show i = 36 by omega]), rfl⟩)
      · refine g_aload_n X dX2_sumByLikely_12 rfl 0 rfl ?_
        refine g_get (C := RX2) (T := TX2) (N := 1) (ci := 2) (v := .ref u1) X rfl inT2 0 (by decide) wd_138 rfl dX2_sumByLikely_13 4 rfl rfl ?_
        refine g_iload X dX2_sumByLikely_16 3 rfl ?_
        refine g_iaload_N (k := i) X rfl dX2_sumByLikely_18 5 rfl (by first | assumption | omega) (by omega) ?_
        refine g_bipush (v := (-9)) X dX2_sumByLikely_19 (by decide) ?_
        refine g_icmp_eq X 43 dX2_sumByLikely_21 (by decide) (fun c21_2 => ?_) (fun c21_2 => ?_)
        · refine g_iinc (v := nI (i + 1)) (lv' := [(4, .int (nI (i + 1))), (0, .ref u0), (1, .ref h0), (2, .long (slI U L i))]) X dX2_sumByLikely_43 3 rfl (nI_inc _) (by decide) rfl ?_
          refine g_goto X 5 dX2_sumByLikely_46 (by decide) ?_
          refine g_lv (lv' := [(0, .ref u0), (1, .ref h0), (2, .long (slI U L i)), (4, .int (nI (i + 1)))]) X [1, 2, 3, 0] rfl ?_
          exact g_eq (ws' := [(h0, cO 1 [.ref q1, .ref q2, .ref q3]), (q1, cI d 36 K), (q2, cI d 36 L), (q3, cI d 5 S), (u0, cO 2 [.ref u1]), (u1, cI d 36 U)]) (lv' := [(0, .ref u0), (1, .ref h0), (2, .long (slI U L (i + 1))), (4, .int (nI (i + 1)))]) (rfl) (lv_cons (rfl) (lv_cons (rfl) (lv_cons (vL (by first | exact slI_n (by assumption) | exact slI_y (by assumption))) (lv_cons (rfl) (rfl))))) (ih_5 (i + 1) (by first | assumption | omega) (by omega))
        · refine g_lload_n X dX2_sumByLikely_24 rfl 2 rfl ?_
          refine g_aload_n X dX2_sumByLikely_25 rfl 1 rfl ?_
          refine g_iload X dX2_sumByLikely_26 3 rfl ?_
          refine g_dV (ci := 1) (q0 := 0) (n := 1) (wr := [(u0, cO 2 [.ref u1]), (u1, cI d 36 U)]) (ws' := [(h0, cO 1 [.ref q1, .ref q2, .ref q3]), (q1, cI d 36 K), (q2, cI d 36 L), (q3, cI d 5 S), (u0, cO 2 [.ref u1]), (u1, cI d 36 U)]) (st' := [.int (L i), .long (slI U L i)]) (As := [.int (nI i)]) (st := [.long (slI U L i)]) X (ct_X1_likelyAt l d h0 q1 q2 q3 K L S i (by first | assumption | omega)) wd_491 wd_620 wd_489 wd_490 wd_53 hd_X1_likelyAt rfl ⟨(Nat.le_of_ble_eq_true rfl), (Nat.le_of_ble_eq_true rfl)⟩ rfl rfl dX2_sumByLikely_28 ⟨(Nat.le_of_ble_eq_true rfl), (Nat.le_of_ble_eq_true rfl)⟩ rfl rfl (Nat.le_of_ble_eq_true rfl) [0, 1, 2, 3] [4, 5] rfl rfl rfl rfl rfl (by decide) rfl [2, 3, 4, 5, 0, 1] rfl rfl rfl rfl ?_
          refine g_i2l X dX2_sumByLikely_31 ?_
          refine g_aload_n X dX2_sumByLikely_32 rfl 0 rfl ?_
          refine g_get (C := RX2) (T := TX2) (N := 1) (ci := 2) (v := .ref u1) X rfl inT2 0 (by decide) wd_138 rfl dX2_sumByLikely_33 4 rfl rfl ?_
          refine g_iload X dX2_sumByLikely_36 3 rfl ?_
          refine g_iaload_N (k := i) X rfl dX2_sumByLikely_38 5 rfl (by first | assumption | omega) (by omega) ?_
          refine g_i2l X dX2_sumByLikely_39 ?_
          refine g_lmul X dX2_sumByLikely_40 ?_
          refine g_ladd X dX2_sumByLikely_41 ?_
          refine g_lstore_n (lv' := [(2, .long ((slI U L i) + ((Int32.toInt64 (L i)) * (Int32.toInt64 (U i))))), (0, .ref u0), (1, .ref h0), (4, .int (nI i))]) X dX2_sumByLikely_42 rfl (by decide) rfl ?_
          refine g_iinc (v := nI (i + 1)) (lv' := [(4, .int (nI (i + 1))), (2, .long ((slI U L i) + ((Int32.toInt64 (L i)) * (Int32.toInt64 (U i))))), (0, .ref u0), (1, .ref h0)]) X dX2_sumByLikely_43 3 rfl (nI_inc _) (by decide) rfl ?_
          refine g_goto X 5 dX2_sumByLikely_46 (by decide) ?_
          refine g_lv (lv' := [(0, .ref u0), (1, .ref h0), (2, .long ((slI U L i) + ((Int32.toInt64 (L i)) * (Int32.toInt64 (U i))))), (4, .int (nI (i + 1)))]) X [2, 3, 1, 0] rfl ?_
          exact g_eq (ws' := [(h0, cO 1 [.ref q1, .ref q2, .ref q3]), (q1, cI d 36 K), (q2, cI d 36 L), (q3, cI d 5 S), (u0, cO 2 [.ref u1]), (u1, cI d 36 U)]) (lv' := [(0, .ref u0), (1, .ref h0), (2, .long (slI U L (i + 1))), (4, .int (nI (i + 1)))]) (rfl) (lv_cons (rfl) (lv_cons (rfl) (lv_cons (vL (by first | exact slI_n (by assumption) | exact slI_y (by assumption))) (lv_cons (rfl) (rfl))))) (ih_5 (i + 1) (by first | assumption | omega) (by omega))
  refine g_lv (lv' := [(0, .ref u0), (1, .ref h0), (2, .long 0), (4, .int 0)]) X [2, 3, 1, 0] rfl ?_
  exact g_eq (ws' := [(h0, cO 1 [.ref q1, .ref q2, .ref q3]), (q1, cI d 36 K), (q2, cI d 36 L), (q3, cI d 5 S), (u0, cO 2 [.ref u1]), (u1, cI d 36 U)]) (lv' := [(0, .ref u0), (1, .ref h0), (2, .long (slI U L 0)), (4, .int (nI 0))]) (rfl) (lv_cons (rfl) (lv_cons (rfl) (lv_cons (vL (by rfl)) (lv_cons (vI (by rfl)) (rfl))))) (at_5 _ 0 (by first | assumption | omega) (Nat.lt_succ_self _))
set_option maxHeartbeats 4000000 in
set_option maxRecDepth 20000 in
theorem ct_X2_weightFound (l : Launch) (d : KD) (u0 u1 : Nat) (h0 q1 q2 q3 : Nat) (K L S : Nat → Int32) (U : Nat → Int32) : Ct l d yX2_weightFound cX2_weightFound 5 (some .long) { frames := 2, cells := 0, slots := 0, locals := 41 } [.ref u0, .ref h0] [(h0, cO 1 [.ref q1, .ref q2, .ref q3]), (q1, cI d 36 K), (q2, cI d 36 L), (q3, cI d 5 S), (u0, cO 2 [.ref u1]), (u1, cI d 36 U)] 0 0 (fun r wo => r = some (.long (wfI U L 36)) ∧ wo = [(h0, cO 1 [.ref q1, .ref q2, .ref q3]), (q1, cI d 36 K), (q2, cI d 36 L), (q3, cI d 5 S), (u0, cO 2 [.ref u1]), (u1, cI d 36 U)]) := by
  refine ct_of (own := RX2) (ini := false) (by decide +kernel) rfl (fun h => by cases h) (Nat.le_of_ble_eq_true rfl) ?_
  intro g X
  show g 0 0 [(h0, cO 1 [.ref q1, .ref q2, .ref q3]), (q1, cI d 36 K), (q2, cI d 36 L), (q3, cI d 5 S), (u0, cO 2 [.ref u1]), (u1, cI d 36 U)] [(0, .ref u0), (1, .ref h0)] 0 []
  refine g_lconst (v := 0) X dX2_weightFound_0 (by decide) ?_
  refine g_lstore_n (lv' := [(2, .long 0), (0, .ref u0), (1, .ref h0)]) X dX2_weightFound_1 rfl (by decide) rfl ?_
  refine g_iconst (v := 0) X dX2_weightFound_2 (by decide) ?_
  refine g_istore (lv' := [(4, .int 0), (2, .long 0), (0, .ref u0), (1, .ref h0)]) X dX2_weightFound_3 (by decide) rfl ?_
  have at_5 : ∀ (n_ : Nat) (i : Nat) (hi : i ≤ 36), (36 - i) < n_ → g 0 0 [(h0, cO 1 [.ref q1, .ref q2, .ref q3]), (q1, cI d 36 K), (q2, cI d 36 L), (q3, cI d 5 S), (u0, cO 2 [.ref u1]), (u1, cI d 36 U)] [(0, .ref u0), (1, .ref h0), (2, .long (wfI U L i)), (4, .int (nI i))] 5 [] := by
    intro n_
    induction n_ with
    | zero => intro i hi hn_; exact absurd hn_ (Nat.not_lt_zero _)
    | succ n_ ih_5 =>
      intro i hi hn_5
      refine g_iload X dX2_weightFound_5 3 rfl ?_
      refine g_bipush (v := 36) X dX2_weightFound_7 (by decide) ?_
      refine g_icmpN_ge (a := i) (b := 36) X rfl rfl (by omega) (by omega) 40 dX2_weightFound_9 (by decide) (fun c9_1 => ?_) (fun c9_1 => ?_)
      · refine g_lload_n X dX2_weightFound_40 rfl 2 rfl ?_
        exact g_end X (gE_l dX2_weightFound_41 (Nat.le_of_ble_eq_true rfl) (Nat.le_of_ble_eq_true rfl) ⟨congrArg (fun z => some (Value.long z)) (by rw [show i = 36 by omega]), rfl⟩)
      · refine g_aload_n X dX2_weightFound_12 rfl 0 rfl ?_
        refine g_get (C := RX2) (T := TX2) (N := 1) (ci := 2) (v := .ref u1) X rfl inT2 0 (by decide) wd_138 rfl dX2_weightFound_13 4 rfl rfl ?_
        refine g_iload X dX2_weightFound_16 3 rfl ?_
        refine g_iaload_N (k := i) X rfl dX2_weightFound_18 5 rfl (by first | assumption | omega) (by omega) ?_
        refine g_bipush (v := (-9)) X dX2_weightFound_19 (by decide) ?_
        refine g_icmp_eq X 34 dX2_weightFound_21 (by decide) (fun c21_2 => ?_) (fun c21_2 => ?_)
        · refine g_iinc (v := nI (i + 1)) (lv' := [(4, .int (nI (i + 1))), (0, .ref u0), (1, .ref h0), (2, .long (wfI U L i))]) X dX2_weightFound_34 3 rfl (nI_inc _) (by decide) rfl ?_
          refine g_goto X 5 dX2_weightFound_37 (by decide) ?_
          refine g_lv (lv' := [(0, .ref u0), (1, .ref h0), (2, .long (wfI U L i)), (4, .int (nI (i + 1)))]) X [1, 2, 3, 0] rfl ?_
          exact g_eq (ws' := [(h0, cO 1 [.ref q1, .ref q2, .ref q3]), (q1, cI d 36 K), (q2, cI d 36 L), (q3, cI d 5 S), (u0, cO 2 [.ref u1]), (u1, cI d 36 U)]) (lv' := [(0, .ref u0), (1, .ref h0), (2, .long (wfI U L (i + 1))), (4, .int (nI (i + 1)))]) (rfl) (lv_cons (rfl) (lv_cons (rfl) (lv_cons (vL (by first | exact wfI_n (by assumption) | exact wfI_y (by assumption))) (lv_cons (rfl) (rfl))))) (ih_5 (i + 1) (by first | assumption | omega) (by omega))
        · refine g_lload_n X dX2_weightFound_24 rfl 2 rfl ?_
          refine g_aload_n X dX2_weightFound_25 rfl 1 rfl ?_
          refine g_iload X dX2_weightFound_26 3 rfl ?_
          refine g_dV (ci := 1) (q0 := 0) (n := 1) (wr := [(u0, cO 2 [.ref u1]), (u1, cI d 36 U)]) (ws' := [(h0, cO 1 [.ref q1, .ref q2, .ref q3]), (q1, cI d 36 K), (q2, cI d 36 L), (q3, cI d 5 S), (u0, cO 2 [.ref u1]), (u1, cI d 36 U)]) (st' := [.int (L i), .long (wfI U L i)]) (As := [.int (nI i)]) (st := [.long (wfI U L i)]) X (ct_X1_likelyAt l d h0 q1 q2 q3 K L S i (by first | assumption | omega)) wd_491 wd_620 wd_489 wd_490 wd_53 hd_X1_likelyAt rfl ⟨(Nat.le_of_ble_eq_true rfl), (Nat.le_of_ble_eq_true rfl)⟩ rfl rfl dX2_weightFound_28 ⟨(Nat.le_of_ble_eq_true rfl), (Nat.le_of_ble_eq_true rfl)⟩ rfl rfl (Nat.le_of_ble_eq_true rfl) [0, 1, 2, 3] [4, 5] rfl rfl rfl rfl rfl (by decide) rfl [2, 3, 4, 5, 0, 1] rfl rfl rfl rfl ?_
          refine g_i2l X dX2_weightFound_31 ?_
          refine g_ladd X dX2_weightFound_32 ?_
          refine g_lstore_n (lv' := [(2, .long ((wfI U L i) + (Int32.toInt64 (L i)))), (0, .ref u0), (1, .ref h0), (4, .int (nI i))]) X dX2_weightFound_33 rfl (by decide) rfl ?_
          refine g_iinc (v := nI (i + 1)) (lv' := [(4, .int (nI (i + 1))), (2, .long ((wfI U L i) + (Int32.toInt64 (L i)))), (0, .ref u0), (1, .ref h0)]) X dX2_weightFound_34 3 rfl (nI_inc _) (by decide) rfl ?_
          refine g_goto X 5 dX2_weightFound_37 (by decide) ?_
          refine g_lv (lv' := [(0, .ref u0), (1, .ref h0), (2, .long ((wfI U L i) + (Int32.toInt64 (L i)))), (4, .int (nI (i + 1)))]) X [2, 3, 1, 0] rfl ?_
          exact g_eq (ws' := [(h0, cO 1 [.ref q1, .ref q2, .ref q3]), (q1, cI d 36 K), (q2, cI d 36 L), (q3, cI d 5 S), (u0, cO 2 [.ref u1]), (u1, cI d 36 U)]) (lv' := [(0, .ref u0), (1, .ref h0), (2, .long (wfI U L (i + 1))), (4, .int (nI (i + 1)))]) (rfl) (lv_cons (rfl) (lv_cons (rfl) (lv_cons (vL (by first | exact wfI_n (by assumption) | exact wfI_y (by assumption))) (lv_cons (rfl) (rfl))))) (ih_5 (i + 1) (by first | assumption | omega) (by omega))
  refine g_lv (lv' := [(0, .ref u0), (1, .ref h0), (2, .long 0), (4, .int 0)]) X [2, 3, 1, 0] rfl ?_
  exact g_eq (ws' := [(h0, cO 1 [.ref q1, .ref q2, .ref q3]), (q1, cI d 36 K), (q2, cI d 36 L), (q3, cI d 5 S), (u0, cO 2 [.ref u1]), (u1, cI d 36 U)]) (lv' := [(0, .ref u0), (1, .ref h0), (2, .long (wfI U L 0)), (4, .int (nI 0))]) (rfl) (lv_cons (rfl) (lv_cons (rfl) (lv_cons (vL (by rfl)) (lv_cons (vI (by rfl)) (rfl))))) (at_5 _ 0 (by first | assumption | omega) (Nat.lt_succ_self _))
