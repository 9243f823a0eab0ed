theorem hd_X1_beside : yX1_beside.cls ≠ "java/lang/invoke/MethodHandle" ∧ yX1_beside.cls ≠ "java/lang/invoke/VarHandle" ∧ (parseMethodDescriptor yX1_beside.desc).map (fun d => d.parameters.length) = some 2 := by decide +kernel
theorem hd_X1_canBe : yX1_canBe.cls = "HeWreckedHimself$Sea" ∧ yX1_canBe.cls ≠ "java/lang/invoke/MethodHandle" ∧ yX1_canBe.cls ≠ "java/lang/invoke/VarHandle" ∧ (parseMethodDescriptor yX1_canBe.desc).map (fun d => d.parameters.length) = some 1 := by decide +kernel
theorem hd_X1_canBeSailed : yX1_canBeSailed.cls ≠ "java/lang/invoke/MethodHandle" ∧ yX1_canBeSailed.cls ≠ "java/lang/invoke/VarHandle" ∧ (parseMethodDescriptor yX1_canBeSailed.desc).map (fun d => d.parameters.length) = some 2 := by decide +kernel
theorem hd_X1_isSand : yX1_isSand.cls = "HeWreckedHimself$Sea" ∧ yX1_isSand.cls ≠ "java/lang/invoke/MethodHandle" ∧ yX1_isSand.cls ≠ "java/lang/invoke/VarHandle" ∧ (parseMethodDescriptor yX1_isSand.desc).map (fun d => d.parameters.length) = some 1 := by decide +kernel
theorem hd_X1_kindOf : yX1_kindOf.cls = "HeWreckedHimself$Sea" ∧ yX1_kindOf.cls ≠ "java/lang/invoke/MethodHandle" ∧ yX1_kindOf.cls ≠ "java/lang/invoke/VarHandle" ∧ (parseMethodDescriptor yX1_kindOf.desc).map (fun d => d.parameters.length) = some 1 := by decide +kernel
theorem hd_X1_likelyAt : yX1_likelyAt.cls = "HeWreckedHimself$Sea" ∧ yX1_likelyAt.cls ≠ "java/lang/invoke/MethodHandle" ∧ yX1_likelyAt.cls ≠ "java/lang/invoke/VarHandle" ∧ (parseMethodDescriptor yX1_likelyAt.desc).map (fun d => d.parameters.length) = some 1 := by decide +kernel
theorem hd_X5_isSquare : yX5_isSquare.cls ≠ "java/lang/invoke/MethodHandle" ∧ yX5_isSquare.cls ≠ "java/lang/invoke/VarHandle" ∧ (parseMethodDescriptor yX5_isSquare.desc).map (fun d => d.parameters.length) = some 1 := by decide +kernel
set_option maxHeartbeats 4000000 in
set_option maxRecDepth 20000 in
theorem ct_X5_isSquare (l : Launch) (d : KD) (x : Int32) : Ct l d yX5_isSquare cX5_isSquare 1 (some .boolean) { frames := 0, cells := 0, slots := 0, locals := 0 } [.int x] [] 0 0 (fun r wo => r = some (.int (b2i (sq x))) ∧ wo = []) := by
  refine ct_of (own := RX5) (ini := false) (by decide +kernel) rfl (fun h => by cases h) (Nat.le_of_ble_eq_true rfl) ?_
  intro g X
  show g 0 0 [] [(0, .int x)] 0 []
  refine g_iload_n X dX5_isSquare_0 rfl 0 rfl ?_
  refine g_if_lt X 14 dX5_isSquare_1 (by decide) (fun c1_1 => ?_) (fun c1_1 => ?_)
  · refine g_iconst (v := 0) X dX5_isSquare_14 (by decide) ?_
    exact g_end X (gE_i dX5_isSquare_15 (rfl) (Nat.le_of_ble_eq_true rfl) (Nat.le_of_ble_eq_true rfl) ⟨congrArg (fun z => some (Value.int z)) (by first | exact (b2i_t (by grind)).symm | exact (b2i_f (by grind)).symm), rfl⟩)
  · refine g_iload_n X dX5_isSquare_4 rfl 0 rfl ?_
    refine g_bipush (v := 36) X dX5_isSquare_5 (by decide) ?_
    refine g_icmp_ge X 14 dX5_isSquare_7 (by decide) (fun c7_2 => ?_) (fun c7_2 => ?_)
    · refine g_iconst (v := 0) X dX5_isSquare_14 (by decide) ?_
      exact g_end X (gE_i dX5_isSquare_15 (rfl) (Nat.le_of_ble_eq_true rfl) (Nat.le_of_ble_eq_true rfl) ⟨congrArg (fun z => some (Value.int z)) (by first | exact (b2i_t (by grind)).symm | exact (b2i_f (by grind)).symm), rfl⟩)
    · refine g_iconst (v := 1) X dX5_isSquare_10 (by decide) ?_
      refine g_goto X 15 dX5_isSquare_11 (by decide) ?_
      exact g_end X (gE_i dX5_isSquare_15 (rfl) (Nat.le_of_ble_eq_true rfl) (Nat.le_of_ble_eq_true rfl) ⟨congrArg (fun z => some (Value.int z)) (by first | exact (b2i_t (by grind)).symm | exact (b2i_f (by grind)).symm), rfl⟩)
set_option maxHeartbeats 4000000 in
set_option maxRecDepth 20000 in
theorem ct_X5_isKind (l : Launch) (d : KD) (x : Int32) : Ct l d yX5_isKind cX5_isKind 1 (some .boolean) { frames := 0, cells := 0, slots := 0, locals := 0 } [.int x] [] 0 0 (fun r wo => r = some (.int (b2i (kd x))) ∧ wo = []) := by
  refine ct_of (own := RX5) (ini := false) (by decide +kernel) rfl (fun h => by cases h) (Nat.le_of_ble_eq_true rfl) ?_
  intro g X
  show g 0 0 [] [(0, .int x)] 0 []
  refine g_iload_n X dX5_isKind_0 rfl 0 rfl ?_
  refine g_if_lt X 14 dX5_isKind_1 (by decide) (fun c1_1 => ?_) (fun c1_1 => ?_)
  · refine g_iconst (v := 0) X dX5_isKind_14 (by decide) ?_
    exact g_end X (gE_i dX5_isKind_15 (rfl) (Nat.le_of_ble_eq_true rfl) (Nat.le_of_ble_eq_true rfl) ⟨congrArg (fun z => some (Value.int z)) (by first | exact (b2i_t (by grind)).symm | exact (b2i_f (by grind)).symm), rfl⟩)
  · refine g_iload_n X dX5_isKind_4 rfl 0 rfl ?_
    refine g_bipush (v := 6) X dX5_isKind_5 (by decide) ?_
    refine g_icmp_ge X 14 dX5_isKind_7 (by decide) (fun c7_2 => ?_) (fun c7_2 => ?_)
    · refine g_iconst (v := 0) X dX5_isKind_14 (by decide) ?_
      exact g_end X (gE_i dX5_isKind_15 (rfl) (Nat.le_of_ble_eq_true rfl) (Nat.le_of_ble_eq_true rfl) ⟨congrArg (fun z => some (Value.int z)) (by first | exact (b2i_t (by grind)).symm | exact (b2i_f (by grind)).symm), rfl⟩)
    · refine g_iconst (v := 1) X dX5_isKind_10 (by decide) ?_
      refine g_goto X 15 dX5_isKind_11 (by decide) ?_
      exact g_end X (gE_i dX5_isKind_15 (rfl) (Nat.le_of_ble_eq_true rfl) (Nat.le_of_ble_eq_true rfl) ⟨congrArg (fun z => some (Value.int z)) (by first | exact (b2i_t (by grind)).symm | exact (b2i_f (by grind)).symm), rfl⟩)
set_option maxHeartbeats 4000000 in
set_option maxRecDepth 20000 in
theorem ct_X5_isOneOfTwo (l : Launch) (d : KD) (x : Int32) : Ct l d yX5_isOneOfTwo cX5_isOneOfTwo 1 (some .boolean) { frames := 0, cells := 0, slots := 0, locals := 0 } [.int x] [] 0 0 (fun r wo => r = some (.int (b2i (x = 0 ∨ x = 1))) ∧ wo = []) := by
  refine ct_of (own := RX5) (ini := false) (by decide +kernel) rfl (fun h => by cases h) (Nat.le_of_ble_eq_true rfl) ?_
  intro g X
  show g 0 0 [] [(0, .int x)] 0 []
  refine g_iload_n X dX5_isOneOfTwo_0 rfl 0 rfl ?_
  refine g_if_eq X 9 dX5_isOneOfTwo_1 (by decide) (fun c1_1 => ?_) (fun c1_1 => ?_)
  · refine g_iconst (v := 1) X dX5_isOneOfTwo_9 (by decide) ?_
    refine g_goto X 14 dX5_isOneOfTwo_10 (by decide) ?_
    exact g_end X (gE_i dX5_isOneOfTwo_14 (rfl) (Nat.le_of_ble_eq_true rfl) (Nat.le_of_ble_eq_true rfl) ⟨congrArg (fun z => some (Value.int z)) (by first | exact (b2i_t (by grind)).symm | exact (b2i_f (by grind)).symm), rfl⟩)
  · refine g_iload_n X dX5_isOneOfTwo_4 rfl 0 rfl ?_
    refine g_iconst (v := 1) X dX5_isOneOfTwo_5 (by decide) ?_
    refine g_icmp_ne X 13 dX5_isOneOfTwo_6 (by decide) (fun c6_2 => ?_) (fun c6_2 => ?_)
    · refine g_iconst (v := 0) X dX5_isOneOfTwo_13 (by decide) ?_
      exact g_end X (gE_i dX5_isOneOfTwo_14 (rfl) (Nat.le_of_ble_eq_true rfl) (Nat.le_of_ble_eq_true rfl) ⟨congrArg (fun z => some (Value.int z)) (by first | exact (b2i_t (by grind)).symm | exact (b2i_f (by grind)).symm), rfl⟩)
    · refine g_iconst (v := 1) X dX5_isOneOfTwo_9 (by decide) ?_
      refine g_goto X 14 dX5_isOneOfTwo_10 (by decide) ?_
      exact g_end X (gE_i dX5_isOneOfTwo_14 (rfl) (Nat.le_of_ble_eq_true rfl) (Nat.le_of_ble_eq_true rfl) ⟨congrArg (fun z => some (Value.int z)) (by first | exact (b2i_t (by grind)).symm | exact (b2i_f (by grind)).symm), rfl⟩)
set_option maxHeartbeats 4000000 in
set_option maxRecDepth 20000 in
theorem ct_X1_beside (l : Launch) (d : KD) (j w : Nat) (hj : j < 36) (hw : w < 2147483648) : Ct l d yX1_beside cX1_beside 2 (some .int) { frames := 0, cells := 0, slots := 0, locals := 0 } [.int (nI j), .int (nI w)] [] 0 0 (fun r wo => r = some (.int (besI (nb j w))) ∧ wo = []) := by
  refine ct_of (own := RX1) (ini := false) (by decide +kernel) rfl (fun h => by cases h) (Nat.le_of_ble_eq_true rfl) ?_
  intro g X
  show g 0 0 [] [(0, .int (nI j)), (1, .int (nI w))] 0 []
  refine g_iload_n X dX1_beside_0 rfl 0 rfl ?_
  refine g_ifN_lt (a := j) X rfl (by omega) 10 dX1_beside_1 (by decide) (fun c1_1 => absurd c1_1 (by omega)) (fun c1_1 => ?_)
  refine g_iload_n X dX1_beside_4 rfl 0 rfl ?_
  refine g_bipush (v := 36) X dX1_beside_5 (by decide) ?_
  refine g_icmpN_lt (a := j) (b := 36) X rfl rfl (by omega) (by omega) 12 dX1_beside_7 (by decide) (fun c7_2 => ?_) (fun c7_2 => absurd hj c7_2)
  refine g_iload_n X dX1_beside_12 rfl 1 rfl ?_
  rcases Nat.decEq w 0 with k13_3 | k13_3
  rotate_left
  · subst k13_3
    refine g_tope (y := 0) (by rfl) ?_
    refine g_eq (lv' := [(0, .int (nI j)), (1, .int 0)]) rfl (by rfl) ?_
    have z := nb_0 j hj
    refine g_tableIn (off := 31) X 44 dX1_beside_13 (by decide) (by decide) (by decide +kernel) (by decide) ?_
    refine g_iload_n X dX1_beside_44 rfl 0 rfl ?_
    refine g_bipush (v := 6) X dX1_beside_45 (by decide) ?_
    refine g_icmpN_lt (a := j) (b := 6) X rfl rfl (by omega) (by omega) 57 dX1_beside_47 (by decide) (fun c47_4 => ?_) (fun c47_4 => ?_)
    · refine g_iconst (v := (-1)) X dX1_beside_57 (by decide) ?_
      exact g_end X (gE_i dX1_beside_58 (rfl) (Nat.le_of_ble_eq_true rfl) (Nat.le_of_ble_eq_true rfl) ⟨congrArg (fun z => some (Value.int z)) (by first | exact z.1 (by omega) | exact z.2 (by omega)), rfl⟩)
    · refine g_iload_n X dX1_beside_50 rfl 0 rfl ?_
      refine g_bipush (v := 6) X dX1_beside_51 (by decide) ?_
      refine g_isub X dX1_beside_53 ?_
      refine g_goto X 58 dX1_beside_54 (by decide) ?_
      exact g_end X (gE_i dX1_beside_58 (rfl) (Nat.le_of_ble_eq_true rfl) (Nat.le_of_ble_eq_true rfl) ⟨congrArg (fun z => some (Value.int z)) (by first | exact z.1 (by omega) | exact z.2 (by omega)), rfl⟩)
  rcases Nat.decEq w 1 with k13_5 | k13_5
  rotate_left
  · subst k13_5
    refine g_tope (y := 1) (by rfl) ?_
    refine g_eq (lv' := [(0, .int (nI j)), (1, .int 1)]) rfl (by rfl) ?_
    have z := nb_1 j hj
    refine g_tableIn (off := 46) X 59 dX1_beside_13 (by decide) (by decide) (by decide +kernel) (by decide) ?_
    refine g_iload_n X dX1_beside_59 rfl 0 rfl ?_
    refine g_bipush (v := 6) X dX1_beside_60 (by decide) ?_
    refine g_irem X dX1_beside_62 (by decide) ?_
    refine g_tope (y := nI (j % 6)) (nI_rem (by omega) (by decide) (by decide)) ?_
    refine g_ifN_le (a := (j % 6)) X rfl (by omega) 72 dX1_beside_63 (by decide) (fun c63_6 => ?_) (fun c63_6 => ?_)
    · refine g_iconst (v := (-1)) X dX1_beside_72 (by decide) ?_
      exact g_end X (gE_i dX1_beside_73 (rfl) (Nat.le_of_ble_eq_true rfl) (Nat.le_of_ble_eq_true rfl) ⟨congrArg (fun z => some (Value.int z)) (by first | exact z.1 (by omega) | exact z.2 (by omega)), rfl⟩)
    · refine g_iload_n X dX1_beside_66 rfl 0 rfl ?_
      refine g_iconst (v := 1) X dX1_beside_67 (by decide) ?_
      refine g_isub X dX1_beside_68 ?_
      refine g_goto X 73 dX1_beside_69 (by decide) ?_
      exact g_end X (gE_i dX1_beside_73 (rfl) (Nat.le_of_ble_eq_true rfl) (Nat.le_of_ble_eq_true rfl) ⟨congrArg (fun z => some (Value.int z)) (by first | exact z.1 (by omega) | exact z.2 (by omega)), rfl⟩)
  rcases Nat.decEq w 2 with k13_7 | k13_7
  rotate_left
  · subst k13_7
    refine g_tope (y := 2) (by rfl) ?_
    refine g_eq (lv' := [(0, .int (nI j)), (1, .int 2)]) rfl (by rfl) ?_
    have z := nb_2 j hj
    refine g_tableIn (off := 61) X 74 dX1_beside_13 (by decide) (by decide) (by decide +kernel) (by decide) ?_
    refine g_iload_n X dX1_beside_74 rfl 0 rfl ?_
    refine g_bipush (v := 6) X dX1_beside_75 (by decide) ?_
    refine g_irem X dX1_beside_77 (by decide) ?_
    refine g_tope (y := nI (j % 6)) (nI_rem (by omega) (by decide) (by decide)) ?_
    refine g_iconst (v := 5) X dX1_beside_78 (by decide) ?_
    refine g_icmpN_ge (a := (j % 6)) (b := 5) X rfl rfl (by omega) (by omega) 88 dX1_beside_79 (by decide) (fun c79_8 => ?_) (fun c79_8 => ?_)
    · refine g_iconst (v := (-1)) X dX1_beside_88 (by decide) ?_
      exact g_end X (gE_i dX1_beside_89 (rfl) (Nat.le_of_ble_eq_true rfl) (Nat.le_of_ble_eq_true rfl) ⟨congrArg (fun z => some (Value.int z)) (by first | exact z.1 (by omega) | exact z.2 (by omega)), rfl⟩)
    · refine g_iload_n X dX1_beside_82 rfl 0 rfl ?_
      refine g_iconst (v := 1) X dX1_beside_83 (by decide) ?_
      refine g_iadd X dX1_beside_84 ?_
      refine g_tope (y := nI (j + 1)) (nI_add _ _) ?_
      refine g_goto X 89 dX1_beside_85 (by decide) ?_
      exact g_end X (gE_i dX1_beside_89 (rfl) (Nat.le_of_ble_eq_true rfl) (Nat.le_of_ble_eq_true rfl) ⟨congrArg (fun z => some (Value.int z)) (by first | exact z.1 (by omega) | exact z.2 (by omega)), rfl⟩)
  rcases Nat.decEq w 3 with k13_9 | k13_9
  rotate_left
  · subst k13_9
    refine g_tope (y := 3) (by rfl) ?_
    refine g_eq (lv' := [(0, .int (nI j)), (1, .int 3)]) rfl (by rfl) ?_
    have z := nb_3 j hj
    refine g_tableIn (off := 77) X 90 dX1_beside_13 (by decide) (by decide) (by decide +kernel) (by decide) ?_
    refine g_iload_n X dX1_beside_90 rfl 0 rfl ?_
    refine g_bipush (v := 30) X dX1_beside_91 (by decide) ?_
    refine g_icmpN_ge (a := j) (b := 30) X rfl rfl (by omega) (by omega) 103 dX1_beside_93 (by decide) (fun c93_10 => ?_) (fun c93_10 => ?_)
    · refine g_iconst (v := (-1)) X dX1_beside_103 (by decide) ?_
      exact g_end X (gE_i dX1_beside_104 (rfl) (Nat.le_of_ble_eq_true rfl) (Nat.le_of_ble_eq_true rfl) ⟨congrArg (fun z => some (Value.int z)) (by first | exact z.1 (by omega) | exact z.2 (by omega)), rfl⟩)
    · refine g_iload_n X dX1_beside_96 rfl 0 rfl ?_
      refine g_bipush (v := 6) X dX1_beside_97 (by decide) ?_
      refine g_iadd X dX1_beside_99 ?_
      refine g_tope (y := nI (j + 6)) (nI_add _ _) ?_
      refine g_goto X 104 dX1_beside_100 (by decide) ?_
      exact g_end X (gE_i dX1_beside_104 (rfl) (Nat.le_of_ble_eq_true rfl) (Nat.le_of_ble_eq_true rfl) ⟨congrArg (fun z => some (Value.int z)) (by first | exact z.1 (by omega) | exact z.2 (by omega)), rfl⟩)
  have z : (4 ≤ w → -1 = besI (nb j w)) ∧ (4 ≤ w → -1 = besI (nb j w)) := ⟨fun h => by rw [nb_w h]; rfl, fun h => by rw [nb_w h]; rfl⟩
  have nt_13 : ¬ (nI w).toInt = 0 ∧ ¬ (nI w).toInt = 1 ∧ ¬ (nI w).toInt = 2 ∧ ¬ (nI w).toInt = 3 := by rw [nI_toInt (by omega)]; omega
  refine g_tableOut X 105 dX1_beside_13 (by omega) (by decide) ?_
  refine g_iconst (v := (-1)) X dX1_beside_105 (by decide) ?_
  exact g_end X (gE_i dX1_beside_106 (rfl) (Nat.le_of_ble_eq_true rfl) (Nat.le_of_ble_eq_true rfl) ⟨congrArg (fun z => some (Value.int z)) (by first | exact z.1 (by omega) | exact z.2 (by omega)), rfl⟩)
set_option maxHeartbeats 4000000 in
set_option maxRecDepth 20000 in
theorem ct_X1_canBeSailed (l : Launch) (d : KD) (k dr : Int32) : Ct l d yX1_canBeSailed cX1_canBeSailed 2 (some .boolean) { frames := 0, cells := 0, slots := 0, locals := 0 } [.int k, .int dr] [] 0 0 (fun r wo => r = some (.int (b2i (csl k dr))) ∧ wo = []) := by
  refine ct_of (own := RX1) (ini := false) (by decide +kernel) rfl (fun h => by cases h) (Nat.le_of_ble_eq_true rfl) ?_
  intro g X
  show g 0 0 [] [(0, .int k), (1, .int dr)] 0 []
  refine g_iload_n X dX1_canBeSailed_0 rfl 0 rfl ?_
  refine g_iconst (v := 2) X dX1_canBeSailed_1 (by decide) ?_
  refine g_icmp_ne X 16 dX1_canBeSailed_2 (by decide) (fun c2_1 => ?_) (fun c2_1 => ?_)
  · refine g_iload_n X dX1_canBeSailed_16 rfl 0 rfl ?_
    refine g_iconst (v := 1) X dX1_canBeSailed_17 (by decide) ?_
    refine g_icmp_eq X 25 dX1_canBeSailed_18 (by decide) (fun c18_2 => ?_) (fun c18_2 => ?_)
    · refine g_iconst (v := 0) X dX1_canBeSailed_25 (by decide) ?_
      exact g_end X (gE_i dX1_canBeSailed_26 (rfl) (Nat.le_of_ble_eq_true rfl) (Nat.le_of_ble_eq_true rfl) ⟨congrArg (fun z => some (Value.int z)) (by first | exact (b2i_t (by grind)).symm | exact (b2i_f (by grind)).symm), rfl⟩)
    · refine g_iconst (v := 1) X dX1_canBeSailed_21 (by decide) ?_
      refine g_goto X 26 dX1_canBeSailed_22 (by decide) ?_
      exact g_end X (gE_i dX1_canBeSailed_26 (rfl) (Nat.le_of_ble_eq_true rfl) (Nat.le_of_ble_eq_true rfl) ⟨congrArg (fun z => some (Value.int z)) (by first | exact (b2i_t (by grind)).symm | exact (b2i_f (by grind)).symm), rfl⟩)
  · refine g_iload_n X dX1_canBeSailed_5 rfl 1 rfl ?_
    refine g_iconst (v := 3) X dX1_canBeSailed_6 (by decide) ?_
    refine g_icmp_gt X 14 dX1_canBeSailed_7 (by decide) (fun c7_3 => ?_) (fun c7_3 => ?_)
    · refine g_iconst (v := 0) X dX1_canBeSailed_14 (by decide) ?_
      exact g_end X (gE_i dX1_canBeSailed_15 (rfl) (Nat.le_of_ble_eq_true rfl) (Nat.le_of_ble_eq_true rfl) ⟨congrArg (fun z => some (Value.int z)) (by first | exact (b2i_t (by grind)).symm | exact (b2i_f (by grind)).symm), rfl⟩)
    · refine g_iconst (v := 1) X dX1_canBeSailed_10 (by decide) ?_
      refine g_goto X 15 dX1_canBeSailed_11 (by decide) ?_
      exact g_end X (gE_i dX1_canBeSailed_15 (rfl) (Nat.le_of_ble_eq_true rfl) (Nat.le_of_ble_eq_true rfl) ⟨congrArg (fun z => some (Value.int z)) (by first | exact (b2i_t (by grind)).symm | exact (b2i_f (by grind)).symm), rfl⟩)
set_option maxHeartbeats 4000000 in
set_option maxRecDepth 20000 in
theorem ct_X1_kindOf (l : Launch) (d : KD) (h0 q1 q2 q3 : Nat) (K L S : Nat → Int32) (x : Int32) : Ct l d yX1_kindOf cX1_kindOf 2 (some .int) { frames := 1, cells := 0, slots := 0, locals := 20 } [.ref h0, .int x] [(h0, cO 1 [.ref q1, .ref q2, .ref q3]), (q1, cI d 36 K), (q2, cI d 36 L), (q3, cI d 5 S)] 0 0 (fun r wo => r = some (.int (kAt K x)) ∧ wo = [(h0, cO 1 [.ref q1, .ref q2, .ref q3]), (q1, cI d 36 K), (q2, cI d 36 L), (q3, cI d 5 S)]) := by
  refine ct_of (own := RX1) (ini := false) (by decide +kernel) rfl (fun h => by cases h) (Nat.le_of_ble_eq_true rfl) ?_
  intro g X
  show g 0 0 [(h0, cO 1 [.ref q1, .ref q2, .ref q3]), (q1, cI d 36 K), (q2, cI d 36 L), (q3, cI d 5 S)] [(0, .ref h0), (1, .int x)] 0 []
  refine g_iload_n X dX1_kindOf_0 rfl 1 rfl ?_
  refine g_dSN (host := "HeWreckedHimself") (n := 1) (wr := [(h0, cO 1 [.ref q1, .ref q2, .ref q3]), (q1, cI d 36 K), (q2, cI d 36 L), (q3, cI d 5 S)]) (ws' := [(h0, cO 1 [.ref q1, .ref q2, .ref q3]), (q1, cI d 36 K), (q2, cI d 36 L), (q3, cI d 5 S)]) (st' := [.int (b2i (sq x))]) (As := [.int x]) (st := []) X (ct_X5_isSquare l d x) wd_365 (by decide +kernel) wd_364 wd_52 hd_X5_isSquare ⟨(Nat.le_of_ble_eq_true rfl), (Nat.le_of_ble_eq_true rfl)⟩ rfl rfl dX1_kindOf_1 ⟨(Nat.le_of_ble_eq_true rfl), (Nat.le_of_ble_eq_true rfl)⟩ rfl rfl (Nat.le_of_ble_eq_true rfl) [] [0, 1, 2, 3] rfl rfl rfl rfl rfl (by decide) [0, 1, 2, 3] rfl rfl rfl rfl ?_
  refine g_ifB_eq X 16 dX1_kindOf_4 (by decide) (fun c4_1 => ?_) (fun c4_1 => ?_)
  · refine g_iconst (v := 0) X dX1_kindOf_16 (by decide) ?_
    exact g_end X (gE_i dX1_kindOf_17 (rfl) (Nat.le_of_ble_eq_true rfl) (Nat.le_of_ble_eq_true rfl) ⟨congrArg (fun z => some (Value.int z)) (by grind [kAt, kAt_N]), rfl⟩)
  · obtain ⟨j_x, hj_x, rfl⟩ := sq_nat c4_1
    refine g_aload_n X dX1_kindOf_7 rfl 0 rfl ?_
    refine g_get (C := RX1) (T := TX1) (N := 3) (ci := 1) (v := .ref q1) X rfl inT1 0 (by decide) wd_81 rfl dX1_kindOf_8 0 rfl rfl ?_
    refine g_iload_n X dX1_kindOf_11 rfl 1 rfl ?_
    refine g_iaload_N (k := j_x) X rfl dX1_kindOf_12 1 rfl (by first | assumption | omega) (by omega) ?_
    refine g_goto X 17 dX1_kindOf_13 (by decide) ?_
    exact g_end X (gE_i dX1_kindOf_17 (rfl) (Nat.le_of_ble_eq_true rfl) (Nat.le_of_ble_eq_true rfl) ⟨congrArg (fun z => some (Value.int z)) (by grind [kAt, kAt_N]), rfl⟩)
theorem ct_X1_kindOf_N (l : Launch) (d : KD) (h0 q1 q2 q3 : Nat) (K L S : Nat → Int32) (j : Nat) (hj : j < 36) : Ct l d yX1_kindOf cX1_kindOf 2 (some .int) { frames := 1, cells := 0, slots := 0, locals := 20 } [.ref h0, .int (nI j)] [(h0, cO 1 [.ref q1, .ref q2, .ref q3]), (q1, cI d 36 K), (q2, cI d 36 L), (q3, cI d 5 S)] 0 0 (fun r wo => r = some (.int (K j)) ∧ wo = [(h0, cO 1 [.ref q1, .ref q2, .ref q3]), (q1, cI d 36 K), (q2, cI d 36 L), (q3, cI d 5 S)]) := by
  have h := ct_X1_kindOf l d h0 q1 q2 q3 K L S (nI j); rwa [kAt_N hj] at h
set_option maxHeartbeats 4000000 in
set_option maxRecDepth 20000 in
theorem ct_X1_likelyAt (l : Launch) (d : KD) (h0 q1 q2 q3 : Nat) (K L S : Nat → Int32) (j : Nat) (hj : j < 36) : Ct l d yX1_likelyAt cX1_likelyAt 2 (some .int) { frames := 1, cells := 0, slots := 0, locals := 20 } [.ref h0, .int (nI j)] [(h0, cO 1 [.ref q1, .ref q2, .ref q3]), (q1, cI d 36 K), (q2, cI d 36 L), (q3, cI d 5 S)] 0 0 (fun r wo => r = some (.int (L j)) ∧ wo = [(h0, cO 1 [.ref q1, .ref q2, .ref q3]), (q1, cI d 36 K), (q2, cI d 36 L), (q3, cI d 5 S)]) := by
  refine ct_of (own := RX1) (ini := false) (by decide +kernel) rfl (fun h => by cases h) (Nat.le_of_ble_eq_true rfl) ?_
  intro g X
  show g 0 0 [(h0, cO 1 [.ref q1, .ref q2, .ref q3]), (q1, cI d 36 K), (q2, cI d 36 L), (q3, cI d 5 S)] [(0, .ref h0), (1, .int (nI j))] 0 []
  refine g_iload_n X dX1_likelyAt_0 rfl 1 rfl ?_
  refine g_dSN (host := "HeWreckedHimself") (n := 1) (wr := [(h0, cO 1 [.ref q1, .ref q2, .ref q3]), (q1, cI d 36 K), (q2, cI d 36 L), (q3, cI d 5 S)]) (ws' := [(h0, cO 1 [.ref q1, .ref q2, .ref q3]), (q1, cI d 36 K), (q2, cI d 36 L), (q3, cI d 5 S)]) (st' := [.int (b2i (sq (nI j)))]) (As := [.int (nI j)]) (st := []) X (ct_X5_isSquare l d (nI j)) wd_365 (by decide +kernel) wd_364 wd_52 hd_X5_isSquare ⟨(Nat.le_of_ble_eq_true rfl), (Nat.le_of_ble_eq_true rfl)⟩ rfl rfl dX1_likelyAt_1 ⟨(Nat.le_of_ble_eq_true rfl), (Nat.le_of_ble_eq_true rfl)⟩ rfl rfl (Nat.le_of_ble_eq_true rfl) [] [0, 1, 2, 3] rfl rfl rfl rfl rfl (by decide) [0, 1, 2, 3] rfl rfl rfl rfl ?_
  refine g_ifB_eq X 16 dX1_likelyAt_4 (by decide) (fun c4_1 => absurd (nI_sq hj) c4_1) (fun c4_1 => ?_)
  refine g_aload_n X dX1_likelyAt_7 rfl 0 rfl ?_
  refine g_get (C := RX1) (T := TX1) (N := 3) (ci := 1) (v := .ref q2) X rfl inT1 1 (by decide) wd_82 rfl dX1_likelyAt_8 0 rfl rfl ?_
  refine g_iload_n X dX1_likelyAt_11 rfl 1 rfl ?_
  refine g_iaload_N (k := j) X rfl dX1_likelyAt_12 2 rfl (by first | assumption | omega) (by omega) ?_
  refine g_goto X 17 dX1_likelyAt_13 (by decide) ?_
  exact g_end X (gE_i dX1_likelyAt_17 (rfl) (Nat.le_of_ble_eq_true rfl) (Nat.le_of_ble_eq_true rfl) ⟨rfl, rfl⟩)
set_option maxHeartbeats 4000000 in
set_option maxRecDepth 20000 in
theorem ct_X1_turn (l : Launch) (d : KD) (h0 q1 q2 q3 : Nat) (K L S : Nat → Int32) (j : Nat) (v : Int32) (hj : j < 36) : Ct l d yX1_turn cX1_turn 3 none { frames := 1, cells := 0, slots := 0, locals := 20 } [.ref h0, .int (nI j), .int v] [(h0, cO 1 [.ref q1, .ref q2, .ref q3]), (q1, cI d 36 K), (q2, cI d 36 L), (q3, cI d 5 S)] 0 0 (fun r wo => r = none ∧ wo = [(h0, cO 1 [.ref q1, .ref q2, .ref q3]), (q1, cI d 36 (upd K j v)), (q2, cI d 36 L), (q3, cI d 5 S)]) := by
  refine ct_of (own := RX1) (ini := false) (by decide +kernel) rfl (fun h => by cases h) (Nat.le_of_ble_eq_true rfl) ?_
  intro g X
  show g 0 0 [(h0, cO 1 [.ref q1, .ref q2, .ref q3]), (q1, cI d 36 K), (q2, cI d 36 L), (q3, cI d 5 S)] [(0, .ref h0), (1, .int (nI j)), (2, .int v)] 0 []
  refine g_iload_n X dX1_turn_0 rfl 1 rfl ?_
  refine g_dSN (host := "HeWreckedHimself") (n := 1) (wr := [(h0, cO 1 [.ref q1, .ref q2, .ref q3]), (q1, cI d 36 K), (q2, cI d 36 L), (q3, cI d 5 S)]) (ws' := [(h0, cO 1 [.ref q1, .ref q2, .ref q3]), (q1, cI d 36 K), (q2, cI d 36 L), (q3, cI d 5 S)]) (st' := [.int (b2i (sq (nI j)))]) (As := [.int (nI j)]) (st := []) X (ct_X5_isSquare l d (nI j)) wd_365 (by decide +kernel) wd_364 wd_52 hd_X5_isSquare ⟨(Nat.le_of_ble_eq_true rfl), (Nat.le_of_ble_eq_true rfl)⟩ rfl rfl dX1_turn_1 ⟨(Nat.le_of_ble_eq_true rfl), (Nat.le_of_ble_eq_true rfl)⟩ rfl rfl (Nat.le_of_ble_eq_true rfl) [] [0, 1, 2, 3] rfl rfl rfl rfl rfl (by decide) [0, 1, 2, 3] rfl rfl rfl rfl ?_
  refine g_ifB_eq X 14 dX1_turn_4 (by decide) (fun c4_1 => absurd (nI_sq hj) c4_1) (fun c4_1 => ?_)
  refine g_aload_n X dX1_turn_7 rfl 0 rfl ?_
  refine g_get (C := RX1) (T := TX1) (N := 3) (ci := 1) (v := .ref q1) X rfl inT1 0 (by decide) wd_81 rfl dX1_turn_8 0 rfl rfl ?_
  refine g_iload_n X dX1_turn_11 rfl 1 rfl ?_
  refine g_iload_n X dX1_turn_12 rfl 2 rfl ?_
  refine g_iastore_N (k := j) (ws' := [(h0, cO 1 [.ref q1, .ref q2, .ref q3]), (q1, cI d 36 (upd K j v)), (q2, cI d 36 L), (q3, cI d 5 S)]) X rfl dX1_turn_13 1 rfl (by first | assumption | omega) (by omega) rfl ?_
  exact g_end X (gE_v dX1_turn_14 (Nat.le_of_ble_eq_true rfl) (Nat.le_of_ble_eq_true rfl) ⟨rfl, rfl⟩)
set_option maxHeartbeats 4000000 in
set_option maxRecDepth 20000 in
theorem ct_X1_putLikely (l : Launch) (d : KD) (h0 q1 q2 q3 : Nat) (K L S : Nat → Int32) (j : Nat) (v : Int32) (hj : j < 36) : Ct l d yX1_putLikely cX1_putLikely 3 none { frames := 1, cells := 0, slots := 0, locals := 20 } [.ref h0, .int (nI j), .int v] [(h0, cO 1 [.ref q1, .ref q2, .ref q3]), (q1, cI d 36 K), (q2, cI d 36 L), (q3, cI d 5 S)] 0 0 (fun r wo => r = none ∧ wo = [(h0, cO 1 [.ref q1, .ref q2, .ref q3]), (q1, cI d 36 K), (q2, cI d 36 (upd L j v)), (q3, cI d 5 S)]) := by
  refine ct_of (own := RX1) (ini := false) (by decide +kernel) rfl (fun h => by cases h) (Nat.le_of_ble_eq_true rfl) ?_
  intro g X
  show g 0 0 [(h0, cO 1 [.ref q1, .ref q2, .ref q3]), (q1, cI d 36 K), (q2, cI d 36 L), (q3, cI d 5 S)] [(0, .ref h0), (1, .int (nI j)), (2, .int v)] 0 []
  refine g_iload_n X dX1_putLikely_0 rfl 1 rfl ?_
  refine g_dSN (host := "HeWreckedHimself") (n := 1) (wr := [(h0, cO 1 [.ref q1, .ref q2, .ref q3]), (q1, cI d 36 K), (q2, cI d 36 L), (q3, cI d 5 S)]) (ws' := [(h0, cO 1 [.ref q1, .ref q2, .ref q3]), (q1, cI d 36 K), (q2, cI d 36 L), (q3, cI d 5 S)]) (st' := [.int (b2i (sq (nI j)))]) (As := [.int (nI j)]) (st := []) X (ct_X5_isSquare l d (nI j)) wd_365 (by decide +kernel) wd_364 wd_52 hd_X5_isSquare ⟨(Nat.le_of_ble_eq_true rfl), (Nat.le_of_ble_eq_true rfl)⟩ rfl rfl dX1_putLikely_1 ⟨(Nat.le_of_ble_eq_true rfl), (Nat.le_of_ble_eq_true rfl)⟩ rfl rfl (Nat.le_of_ble_eq_true rfl) [] [0, 1, 2, 3] rfl rfl rfl rfl rfl (by decide) [0, 1, 2, 3] rfl rfl rfl rfl ?_
  refine g_ifB_eq X 14 dX1_putLikely_4 (by decide) (fun c4_1 => absurd (nI_sq hj) c4_1) (fun c4_1 => ?_)
  refine g_aload_n X dX1_putLikely_7 rfl 0 rfl ?_
  refine g_get (C := RX1) (T := TX1) (N := 3) (ci := 1) (v := .ref q2) X rfl inT1 1 (by decide) wd_82 rfl dX1_putLikely_8 0 rfl rfl ?_
  refine g_iload_n X dX1_putLikely_11 rfl 1 rfl ?_
  refine g_iload_n X dX1_putLikely_12 rfl 2 rfl ?_
  refine g_iastore_N (k := j) (ws' := [(h0, cO 1 [.ref q1, .ref q2, .ref q3]), (q1, cI d 36 K), (q2, cI d 36 (upd L j v)), (q3, cI d 5 S)]) X rfl dX1_putLikely_13 2 rfl (by first | assumption | omega) (by omega) rfl ?_
  exact g_end X (gE_v dX1_putLikely_14 (Nat.le_of_ble_eq_true rfl) (Nat.le_of_ble_eq_true rfl) ⟨rfl, rfl⟩)
set_option maxHeartbeats 4000000 in
set_option maxRecDepth 20000 in
theorem ct_X1_number (l : Launch) (d : KD) (h0 q1 q2 q3 : Nat) (K L S : Nat → Int32) (j : Nat) (hj : j < 5) : Ct l d yX1_number cX1_number 2 (some .int) { frames := 0, cells := 0, slots := 0, locals := 0 } [.ref h0, .int (nI j)] [(h0, cO 1 [.ref q1, .ref q2, .ref q3]), (q1, cI d 36 K), (q2, cI d 36 L), (q3, cI d 5 S)] 0 0 (fun r wo => r = some (.int (S j)) ∧ wo = [(h0, cO 1 [.ref q1, .ref q2, .ref q3]), (q1, cI d 36 K), (q2, cI d 36 L), (q3, cI d 5 S)]) := by
  refine ct_of (own := RX1) (ini := false) (by decide +kernel) rfl (fun h => by cases h) (Nat.le_of_ble_eq_true rfl) ?_
  intro g X
  show g 0 0 [(h0, cO 1 [.ref q1, .ref q2, .ref q3]), (q1, cI d 36 K), (q2, cI d 36 L), (q3, cI d 5 S)] [(0, .ref h0), (1, .int (nI j))] 0 []
  refine g_iload_n X dX1_number_0 rfl 1 rfl ?_
  refine g_ifN_lt (a := j) X rfl (by omega) 18 dX1_number_1 (by decide) (fun c1_1 => absurd c1_1 (by omega)) (fun c1_1 => ?_)
  refine g_iload_n X dX1_number_4 rfl 1 rfl ?_
  refine g_iconst (v := 5) X dX1_number_5 (by decide) ?_
  refine g_icmpN_ge (a := j) (b := 5) X rfl rfl (by omega) (by omega) 18 dX1_number_6 (by decide) (fun c6_2 => ?_) (fun c6_2 => ?_)
  · refine g_iconst (v := 0) X dX1_number_18 (by decide) ?_
    exact g_end X (gE_i dX1_number_19 (rfl) (Nat.le_of_ble_eq_true rfl) (Nat.le_of_ble_eq_true rfl) ⟨congrArg (fun z => some (Value.int z)) (by grind), rfl⟩)
  · refine g_aload_n X dX1_number_9 rfl 0 rfl ?_
    refine g_get (C := RX1) (T := TX1) (N := 3) (ci := 1) (v := .ref q3) X rfl inT1 2 (by decide) wd_83 rfl dX1_number_10 0 rfl rfl ?_
    refine g_iload_n X dX1_number_13 rfl 1 rfl ?_
    refine g_iaload_N (k := j) X rfl dX1_number_14 3 rfl (by first | assumption | omega) (by omega) ?_
    refine g_goto X 19 dX1_number_15 (by decide) ?_
    exact g_end X (gE_i dX1_number_19 (rfl) (Nat.le_of_ble_eq_true rfl) (Nat.le_of_ble_eq_true rfl) ⟨rfl, rfl⟩)
set_option maxHeartbeats 4000000 in
set_option maxRecDepth 20000 in
theorem ct_X1_putNumber (l : Launch) (d : KD) (h0 q1 q2 q3 : Nat) (K L S : Nat → Int32) (j : Nat) (v : Int32) (hj : j < 5) : Ct l d yX1_putNumber cX1_putNumber 3 none { frames := 0, cells := 0, slots := 0, locals := 0 } [.ref h0, .int (nI j), .int v] [(h0, cO 1 [.ref q1, .ref q2, .ref q3]), (q1, cI d 36 K), (q2, cI d 36 L), (q3, cI d 5 S)] 0 0 (fun r wo => r = none ∧ wo = [(h0, cO 1 [.ref q1, .ref q2, .ref q3]), (q1, cI d 36 K), (q2, cI d 36 L), (q3, cI d 5 (upd S j v))]) := by
  refine ct_of (own := RX1) (ini := false) (by decide +kernel) rfl (fun h => by cases h) (Nat.le_of_ble_eq_true rfl) ?_
  intro g X
  show g 0 0 [(h0, cO 1 [.ref q1, .ref q2, .ref q3]), (q1, cI d 36 K), (q2, cI d 36 L), (q3, cI d 5 S)] [(0, .ref h0), (1, .int (nI j)), (2, .int v)] 0 []
  refine g_iload_n X dX1_putNumber_0 rfl 1 rfl ?_
  refine g_ifN_lt (a := j) X rfl (by omega) 16 dX1_putNumber_1 (by decide) (fun c1_1 => absurd c1_1 (by omega)) (fun c1_1 => ?_)
  refine g_iload_n X dX1_putNumber_4 rfl 1 rfl ?_
  refine g_iconst (v := 5) X dX1_putNumber_5 (by decide) ?_
  refine g_icmpN_ge (a := j) (b := 5) X rfl rfl (by omega) (by omega) 16 dX1_putNumber_6 (by decide) (fun c6_2 => absurd c6_2 (by omega)) (fun c6_2 => ?_)
  refine g_aload_n X dX1_putNumber_9 rfl 0 rfl ?_
  refine g_get (C := RX1) (T := TX1) (N := 3) (ci := 1) (v := .ref q3) X rfl inT1 2 (by decide) wd_83 rfl dX1_putNumber_10 0 rfl rfl ?_
  refine g_iload_n X dX1_putNumber_13 rfl 1 rfl ?_
  refine g_iload_n X dX1_putNumber_14 rfl 2 rfl ?_
  refine g_iastore_N (k := j) (ws' := [(h0, cO 1 [.ref q1, .ref q2, .ref q3]), (q1, cI d 36 K), (q2, cI d 36 L), (q3, cI d 5 (upd S j v))]) X rfl dX1_putNumber_15 3 rfl (by first | assumption | omega) (by omega) rfl ?_
  exact g_end X (gE_v dX1_putNumber_16 (Nat.le_of_ble_eq_true rfl) (Nat.le_of_ble_eq_true rfl) ⟨rfl, rfl⟩)
set_option maxHeartbeats 4000000 in
set_option maxRecDepth 20000 in
theorem ct_X1_canBe (l : Launch) (d : KD) (h0 q1 q2 q3 : Nat) (K L S : Nat → Int32) (x : Int32) : Ct l d yX1_canBe cX1_canBe 2 (some .boolean) { frames := 1, cells := 0, slots := 0, locals := 21 } [.ref h0, .int x] [(h0, cO 1 [.ref q1, .ref q2, .ref q3]), (q1, cI d 36 K), (q2, cI d 36 L), (q3, cI d 5 S)] 0 0 (fun r wo => r = some (.int (b2i (cbe K S x))) ∧ wo = [(h0, cO 1 [.ref q1, .ref q2, .ref q3]), (q1, cI d 36 K), (q2, cI d 36 L), (q3, cI d 5 S)]) := by
  refine ct_of (own := RX1) (ini := false) (by decide +kernel) rfl (fun h => by cases h) (Nat.le_of_ble_eq_true rfl) ?_
  intro g X
  show g 0 0 [(h0, cO 1 [.ref q1, .ref q2, .ref q3]), (q1, cI d 36 K), (q2, cI d 36 L), (q3, cI d 5 S)] [(0, .ref h0), (1, .int x)] 0 []
  refine g_iload_n X dX1_canBe_0 rfl 1 rfl ?_
  refine g_dSN (host := "HeWreckedHimself") (n := 1) (wr := [(h0, cO 1 [.ref q1, .ref q2, .ref q3]), (q1, cI d 36 K), (q2, cI d 36 L), (q3, cI d 5 S)]) (ws' := [(h0, cO 1 [.ref q1, .ref q2, .ref q3]), (q1, cI d 36 K), (q2, cI d 36 L), (q3, cI d 5 S)]) (st' := [.int (b2i (sq x))]) (As := [.int x]) (st := []) X (ct_X5_isSquare l d x) wd_365 (by decide +kernel) wd_364 wd_52 hd_X5_isSquare ⟨(Nat.le_of_ble_eq_true rfl), (Nat.le_of_ble_eq_true rfl)⟩ rfl rfl dX1_canBe_1 ⟨(Nat.le_of_ble_eq_true rfl), (Nat.le_of_ble_eq_true rfl)⟩ rfl rfl (Nat.le_of_ble_eq_true rfl) [] [0, 1, 2, 3] rfl rfl rfl rfl rfl (by decide) [0, 1, 2, 3] rfl rfl rfl rfl ?_
  refine g_ifB_eq X 29 dX1_canBe_4 (by decide) (fun c4_1 => ?_) (fun c4_1 => ?_)
  · refine g_iconst (v := 0) X dX1_canBe_29 (by decide) ?_
    exact g_end X (gE_i dX1_canBe_30 (rfl) (Nat.le_of_ble_eq_true rfl) (Nat.le_of_ble_eq_true rfl) ⟨congrArg (fun z => some (Value.int z)) (by first | exact (b2i_t ((cbe_N hj_x).mpr (by assumption))).symm | exact (b2i_f (fun z => absurd ((cbe_N hj_x).mp z) (by assumption))).symm | exact (b2i_f (fun z => absurd z.1 (by assumption))).symm), rfl⟩)
  · obtain ⟨j_x, hj_x, rfl⟩ := sq_nat c4_1
    refine g_aload_n X dX1_canBe_7 rfl 0 rfl ?_
    refine g_get (C := RX1) (T := TX1) (N := 3) (ci := 1) (v := .ref q1) X rfl inT1 0 (by decide) wd_81 rfl dX1_canBe_8 0 rfl rfl ?_
    refine g_iload_n X dX1_canBe_11 rfl 1 rfl ?_
    refine g_iaload_N (k := j_x) X rfl dX1_canBe_12 1 rfl (by first | assumption | omega) (by omega) ?_
    refine g_aload_n X dX1_canBe_13 rfl 0 rfl ?_
    refine g_get (C := RX1) (T := TX1) (N := 3) (ci := 1) (v := .ref q3) X rfl inT1 2 (by decide) wd_83 rfl dX1_canBe_14 0 rfl rfl ?_
    refine g_iconst (v := 1) X dX1_canBe_17 (by decide) ?_
    refine g_iaload_N (k := 1) X rfl dX1_canBe_18 3 rfl (by first | assumption | omega) (by omega) ?_
    refine g_dS (n := 2) (wr := [(h0, cO 1 [.ref q1, .ref q2, .ref q3]), (q1, cI d 36 K), (q2, cI d 36 L), (q3, cI d 5 S)]) (ws' := [(h0, cO 1 [.ref q1, .ref q2, .ref q3]), (q1, cI d 36 K), (q2, cI d 36 L), (q3, cI d 5 S)]) (st' := [.int (b2i (csl (K j_x) (S 1)))]) (As := [.int (K j_x), .int (S 1)]) (st := []) X (ct_X1_canBeSailed l d (K j_x) (S 1)) wd_373 wd_371 wd_372 wd_53 hd_X1_canBeSailed ⟨(Nat.le_of_ble_eq_true rfl), (Nat.le_of_ble_eq_true rfl)⟩ rfl rfl dX1_canBe_19 ⟨(Nat.le_of_ble_eq_true rfl), (Nat.le_of_ble_eq_true rfl)⟩ rfl rfl (Nat.le_of_ble_eq_true rfl) [] [0, 1, 2, 3] rfl rfl rfl rfl rfl (by decide) [0, 1, 2, 3] rfl rfl rfl rfl ?_
    refine g_ifB_eq X 29 dX1_canBe_22 (by decide) (fun c22_2 => ?_) (fun c22_2 => ?_)
    · refine g_iconst (v := 0) X dX1_canBe_29 (by decide) ?_
      exact g_end X (gE_i dX1_canBe_30 (rfl) (Nat.le_of_ble_eq_true rfl) (Nat.le_of_ble_eq_true rfl) ⟨congrArg (fun z => some (Value.int z)) (by first | exact (b2i_t ((cbe_N hj_x).mpr (by assumption))).symm | exact (b2i_f (fun z => absurd ((cbe_N hj_x).mp z) (by assumption))).symm | exact (b2i_f (fun z => absurd z.1 (by assumption))).symm), rfl⟩)
    · refine g_iconst (v := 1) X dX1_canBe_25 (by decide) ?_
      refine g_goto X 30 dX1_canBe_26 (by decide) ?_
      exact g_end X (gE_i dX1_canBe_30 (rfl) (Nat.le_of_ble_eq_true rfl) (Nat.le_of_ble_eq_true rfl) ⟨congrArg (fun z => some (Value.int z)) (by first | exact (b2i_t ((cbe_N hj_x).mpr (by assumption))).symm | exact (b2i_f (fun z => absurd ((cbe_N hj_x).mp z) (by assumption))).symm | exact (b2i_f (fun z => absurd z.1 (by assumption))).symm), rfl⟩)
theorem ct_X1_canBe_N (l : Launch) (d : KD) (h0 q1 q2 q3 : Nat) (K L S : Nat → Int32) (j : Nat) (hj : j < 36) : Ct l d yX1_canBe cX1_canBe 2 (some .boolean) { frames := 1, cells := 0, slots := 0, locals := 21 } [.ref h0, .int (nI j)] [(h0, cO 1 [.ref q1, .ref q2, .ref q3]), (q1, cI d 36 K), (q2, cI d 36 L), (q3, cI d 5 S)] 0 0 (fun r wo => r = some (.int (b2i (csl (K j) (S 1)))) ∧ wo = [(h0, cO 1 [.ref q1, .ref q2, .ref q3]), (q1, cI d 36 K), (q2, cI d 36 L), (q3, cI d 5 S)]) := by
  have h := ct_X1_canBe l d h0 q1 q2 q3 K L S (nI j); rwa [b2i_c (cbe_N hj)] at h
set_option maxHeartbeats 4000000 in
set_option maxRecDepth 20000 in
theorem ct_X1_canBeAtHome (l : Launch) (d : KD) (h0 q1 q2 q3 : Nat) (K L S : Nat → Int32) : Ct l d yX1_canBeAtHome cX1_canBeAtHome 1 (some .boolean) { frames := 2, cells := 0, slots := 0, locals := 42 } [.ref h0] [(h0, cO 1 [.ref q1, .ref q2, .ref q3]), (q1, cI d 36 K), (q2, cI d 36 L), (q3, cI d 5 S)] 0 0 (fun r wo => r = some (.int (b2i (cbe K S (S 0)))) ∧ wo = [(h0, cO 1 [.ref q1, .ref q2, .ref q3]), (q1, cI d 36 K), (q2, cI d 36 L), (q3, cI d 5 S)]) := by
  refine ct_of (own := RX1) (ini := false) (by decide +kernel) rfl (fun h => by cases h) (Nat.le_of_ble_eq_true rfl) ?_
  intro g X
  show g 0 0 [(h0, cO 1 [.ref q1, .ref q2, .ref q3]), (q1, cI d 36 K), (q2, cI d 36 L), (q3, cI d 5 S)] [(0, .ref h0)] 0 []
  refine g_aload_n X dX1_canBeAtHome_0 rfl 0 rfl ?_
  refine g_aload_n X dX1_canBeAtHome_1 rfl 0 rfl ?_
  refine g_get (C := RX1) (T := TX1) (N := 3) (ci := 1) (v := .ref q3) X rfl inT1 2 (by decide) wd_83 rfl dX1_canBeAtHome_2 0 rfl rfl ?_
  refine g_iconst (v := 0) X dX1_canBeAtHome_5 (by decide) ?_
  refine g_iaload_N (k := 0) X rfl dX1_canBeAtHome_6 3 rfl (by first | assumption | omega) (by omega) ?_
  refine g_dV (ci := 1) (q0 := 0) (n := 1) (wr := []) (ws' := [(h0, cO 1 [.ref q1, .ref q2, .ref q3]), (q1, cI d 36 K), (q2, cI d 36 L), (q3, cI d 5 S)]) (st' := [.int (b2i (cbe K S (S 0)))]) (As := [.int (S 0)]) (st := []) X (ct_X1_canBe l d h0 q1 q2 q3 K L S (S 0)) wd_369 wd_461 wd_367 wd_368 wd_53 hd_X1_canBe rfl ⟨(Nat.le_of_ble_eq_true rfl), (Nat.le_of_ble_eq_true rfl)⟩ rfl rfl dX1_canBeAtHome_7 ⟨(Nat.le_of_ble_eq_true rfl), (Nat.le_of_ble_eq_true rfl)⟩ rfl rfl (Nat.le_of_ble_eq_true rfl) [0, 1, 2, 3] [] rfl rfl rfl rfl rfl (by decide) rfl [0, 1, 2, 3] rfl rfl rfl rfl ?_
  exact g_end X (gE_i dX1_canBeAtHome_10 (b2i_nar _) (Nat.le_of_ble_eq_true rfl) (Nat.le_of_ble_eq_true rfl) ⟨rfl, rfl⟩)
set_option maxHeartbeats 4000000 in
set_option maxRecDepth 20000 in
theorem ct_X1_daysToGo (l : Launch) (d : KD) (h0 q1 q2 q3 : Nat) (K L S : Nat → Int32) (j w : Nat) (hj : j < 36) (hw : w < 2147483648) : Ct l d yX1_daysToGo cX1_daysToGo 4 (some .int) { frames := 1, cells := 0, slots := 0, locals := 21 } [.ref h0, .int (nI j), .int (nI w)] [(h0, cO 1 [.ref q1, .ref q2, .ref q3]), (q1, cI d 36 K), (q2, cI d 36 L), (q3, cI d 5 S)] 0 0 (fun r wo => r = some (.int (stp K S j w)) ∧ wo = [(h0, cO 1 [.ref q1, .ref q2, .ref q3]), (q1, cI d 36 K), (q2, cI d 36 L), (q3, cI d 5 S)]) := by
  refine ct_of (own := RX1) (ini := false) (by decide +kernel) rfl (fun h => by cases h) (Nat.le_of_ble_eq_true rfl) ?_
  intro g X
  show g 0 0 [(h0, cO 1 [.ref q1, .ref q2, .ref q3]), (q1, cI d 36 K), (q2, cI d 36 L), (q3, cI d 5 S)] [(0, .ref h0), (1, .int (nI j)), (2, .int (nI w))] 0 []
  refine g_iload_n X dX1_daysToGo_0 rfl 1 rfl ?_
  refine g_iload_n X dX1_daysToGo_1 rfl 2 rfl ?_
  refine g_dS (n := 2) (wr := [(h0, cO 1 [.ref q1, .ref q2, .ref q3]), (q1, cI d 36 K), (q2, cI d 36 L), (q3, cI d 5 S)]) (ws' := [(h0, cO 1 [.ref q1, .ref q2, .ref q3]), (q1, cI d 36 K), (q2, cI d 36 L), (q3, cI d 5 S)]) (st' := [.int (besI (nb j w))]) (As := [.int (nI j), .int (nI w)]) (st := []) X (ct_X1_beside l d j w (by first | assumption | omega) (by first | assumption | omega)) wd_388 wd_386 wd_387 wd_53 hd_X1_beside ⟨(Nat.le_of_ble_eq_true rfl), (Nat.le_of_ble_eq_true rfl)⟩ rfl rfl dX1_daysToGo_2 ⟨(Nat.le_of_ble_eq_true rfl), (Nat.le_of_ble_eq_true rfl)⟩ rfl rfl (Nat.le_of_ble_eq_true rfl) [] [0, 1, 2, 3] rfl rfl rfl rfl rfl (by decide) [0, 1, 2, 3] rfl rfl rfl rfl ?_
  refine g_topi (fun nx enx => ?_)
  refine g_istore_n (lv' := [(3, .int nx), (0, .ref h0), (1, .int (nI j)), (2, .int (nI w))]) X dX1_daysToGo_5 rfl (by decide) rfl ?_
  refine g_iload_n X dX1_daysToGo_6 rfl 0 rfl ?_
  refine g_dSN (host := "HeWreckedHimself") (n := 1) (wr := [(h0, cO 1 [.ref q1, .ref q2, .ref q3]), (q1, cI d 36 K), (q2, cI d 36 L), (q3, cI d 5 S)]) (ws' := [(h0, cO 1 [.ref q1, .ref q2, .ref q3]), (q1, cI d 36 K), (q2, cI d 36 L), (q3, cI d 5 S)]) (st' := [.int (b2i (sq nx))]) (As := [.int nx]) (st := []) X (ct_X5_isSquare l d nx) wd_365 (by decide +kernel) wd_364 wd_52 hd_X5_isSquare ⟨(Nat.le_of_ble_eq_true rfl), (Nat.le_of_ble_eq_true rfl)⟩ rfl rfl dX1_daysToGo_7 ⟨(Nat.le_of_ble_eq_true rfl), (Nat.le_of_ble_eq_true rfl)⟩ rfl rfl (Nat.le_of_ble_eq_true rfl) [] [0, 1, 2, 3] rfl rfl rfl rfl rfl (by decide) [0, 1, 2, 3] rfl rfl rfl rfl ?_
  refine g_ifB_eq X 31 dX1_daysToGo_10 (by decide) (fun c10_1 => ?_) (fun c10_1 => ?_)
  · have hn : ¬ nb j w < 36 := fun z => c10_1 (by rw [enx, besI, if_pos z]; exact nI_sq z)
    refine g_bipush (v := (-9)) X dX1_daysToGo_31 (by decide) ?_
    exact g_end X (gE_i dX1_daysToGo_33 (rfl) (Nat.le_of_ble_eq_true rfl) (Nat.le_of_ble_eq_true rfl) ⟨congrArg (fun z => some (Value.int z)) (by first | (rw [stp_t hn (by assumption)]; first | exact (cst_2 (by assumption)).symm | exact (cst_3 (by assumption)).symm | exact (cst_40 (by assumption) (by assumption)).symm | exact (cst_41 (by assumption) (by assumption)).symm | exact (cst_o (by assumption) (by assumption) (by assumption)).symm) | (unfold stp; rw [if_neg (by grind)])), rfl⟩)
  · have hn : nb j w < 36 := Nat.lt_of_not_le fun z => absurd (enx ▸ c10_1 : sq (besI (nb j w))) (by unfold besI; rw [if_neg (by omega)]; decide)
    obtain rfl : nx = nI (nb j w) := by rw [enx]; exact if_pos hn
    refine g_aload_n X dX1_daysToGo_13 rfl 1 rfl ?_
    refine g_get (C := RX1) (T := TX1) (N := 3) (ci := 1) (v := .ref q1) X rfl inT1 0 (by decide) wd_81 rfl dX1_daysToGo_14 0 rfl rfl ?_
    refine g_iload_n X dX1_daysToGo_17 rfl 0 rfl ?_
    refine g_iaload_N (k := (nb j w)) X rfl dX1_daysToGo_18 1 rfl (by first | assumption | omega) (by omega) ?_
    refine g_aload_n X dX1_daysToGo_19 rfl 1 rfl ?_
    refine g_get (C := RX1) (T := TX1) (N := 3) (ci := 1) (v := .ref q3) X rfl inT1 2 (by decide) wd_83 rfl dX1_daysToGo_20 0 rfl rfl ?_
    refine g_iconst (v := 1) X dX1_daysToGo_23 (by decide) ?_
    refine g_iaload_N (k := 1) X rfl dX1_daysToGo_24 3 rfl (by first | assumption | omega) (by omega) ?_
    refine g_dS (n := 2) (wr := [(h0, cO 1 [.ref q1, .ref q2, .ref q3]), (q1, cI d 36 K), (q2, cI d 36 L), (q3, cI d 5 S)]) (ws' := [(h0, cO 1 [.ref q1, .ref q2, .ref q3]), (q1, cI d 36 K), (q2, cI d 36 L), (q3, cI d 5 S)]) (st' := [.int (b2i (csl (K (nb j w)) (S 1)))]) (As := [.int (K (nb j w)), .int (S 1)]) (st := []) X (ct_X1_canBeSailed l d (K (nb j w)) (S 1)) wd_373 wd_371 wd_372 wd_53 hd_X1_canBeSailed ⟨(Nat.le_of_ble_eq_true rfl), (Nat.le_of_ble_eq_true rfl)⟩ rfl rfl dX1_daysToGo_25 ⟨(Nat.le_of_ble_eq_true rfl), (Nat.le_of_ble_eq_true rfl)⟩ rfl rfl (Nat.le_of_ble_eq_true rfl) [] [0, 1, 2, 3] rfl rfl rfl rfl rfl (by decide) [0, 1, 2, 3] rfl rfl rfl rfl ?_
    refine g_ifB_ne X 34 dX1_daysToGo_28 (by decide) (fun c28_2 => ?_) (fun c28_2 => ?_)
    · refine g_aload_n X dX1_daysToGo_34 rfl 1 rfl ?_
      refine g_get (C := RX1) (T := TX1) (N := 3) (ci := 1) (v := .ref q1) X rfl inT1 0 (by decide) wd_81 rfl dX1_daysToGo_35 0 rfl rfl ?_
      refine g_iload_n X dX1_daysToGo_38 rfl 0 rfl ?_
      refine g_iaload_N (k := (nb j w)) X rfl dX1_daysToGo_39 1 rfl (by first | assumption | omega) (by omega) ?_
      rcases Classical.em (K (nb j w) = 2) with k40_3 | k40_3
      · refine g_tope (y := 2) (k40_3) ?_
        refine g_tableIn (off := 28) X 68 dX1_daysToGo_40 (by decide) (by decide) (by decide +kernel) (by decide) ?_
        refine g_iconst (v := 3) X dX1_daysToGo_68 (by decide) ?_
        exact g_end X (gE_i dX1_daysToGo_69 (rfl) (Nat.le_of_ble_eq_true rfl) (Nat.le_of_ble_eq_true rfl) ⟨congrArg (fun z => some (Value.int z)) (by first | (rw [stp_t hn (by assumption)]; first | exact (cst_2 (by assumption)).symm | exact (cst_3 (by assumption)).symm | exact (cst_40 (by assumption) (by assumption)).symm | exact (cst_41 (by assumption) (by assumption)).symm | exact (cst_o (by assumption) (by assumption) (by assumption)).symm) | (unfold stp; rw [if_neg (by grind)])), rfl⟩)
      rcases Classical.em (K (nb j w) = 3) with k40_4 | k40_4
      · refine g_tope (y := 3) (k40_4) ?_
        refine g_tableIn (off := 30) X 70 dX1_daysToGo_40 (by decide) (by decide) (by decide +kernel) (by decide) ?_
        refine g_iconst (v := 2) X dX1_daysToGo_70 (by decide) ?_
        exact g_end X (gE_i dX1_daysToGo_71 (rfl) (Nat.le_of_ble_eq_true rfl) (Nat.le_of_ble_eq_true rfl) ⟨congrArg (fun z => some (Value.int z)) (by first | (rw [stp_t hn (by assumption)]; first | exact (cst_2 (by assumption)).symm | exact (cst_3 (by assumption)).symm | exact (cst_40 (by assumption) (by assumption)).symm | exact (cst_41 (by assumption) (by assumption)).symm | exact (cst_o (by assumption) (by assumption) (by assumption)).symm) | (unfold stp; rw [if_neg (by grind)])), rfl⟩)
      rcases Classical.em (K (nb j w) = 4) with k40_5 | k40_5
      · refine g_tope (y := 4) (k40_5) ?_
        refine g_tableIn (off := 32) X 72 dX1_daysToGo_40 (by decide) (by decide) (by decide +kernel) (by decide) ?_
        refine g_iload_n X dX1_daysToGo_72 rfl 3 rfl ?_
        refine g_ifN_ne (a := w) X rfl (by omega) 80 dX1_daysToGo_73 (by decide) (fun c73_6 => ?_) (fun c73_6 => ?_)
        · refine g_iconst (v := 1) X dX1_daysToGo_80 (by decide) ?_
          exact g_end X (gE_i dX1_daysToGo_81 (rfl) (Nat.le_of_ble_eq_true rfl) (Nat.le_of_ble_eq_true rfl) ⟨congrArg (fun z => some (Value.int z)) (by first | (rw [stp_t hn (by assumption)]; first | exact (cst_2 (by assumption)).symm | exact (cst_3 (by assumption)).symm | exact (cst_40 (by assumption) (by assumption)).symm | exact (cst_41 (by assumption) (by assumption)).symm | exact (cst_o (by assumption) (by assumption) (by assumption)).symm) | (unfold stp; rw [if_neg (by grind)])), rfl⟩)
        · refine g_iconst (v := 3) X dX1_daysToGo_76 (by decide) ?_
          refine g_goto X 81 dX1_daysToGo_77 (by decide) ?_
          exact g_end X (gE_i dX1_daysToGo_81 (rfl) (Nat.le_of_ble_eq_true rfl) (Nat.le_of_ble_eq_true rfl) ⟨congrArg (fun z => some (Value.int z)) (by first | (rw [stp_t hn (by assumption)]; first | exact (cst_2 (by assumption)).symm | exact (cst_3 (by assumption)).symm | exact (cst_40 (by assumption) (by assumption)).symm | exact (cst_41 (by assumption) (by assumption)).symm | exact (cst_o (by assumption) (by assumption) (by assumption)).symm) | (unfold stp; rw [if_neg (by grind)])), rfl⟩)
      have nt_40 : ¬ (K (nb j w)).toInt = 2 ∧ ¬ (K (nb j w)).toInt = 3 ∧ ¬ (K (nb j w)).toInt = 4 := by refine ⟨lv_neT k40_3 rfl, lv_neT k40_4 rfl, lv_neT k40_5 rfl⟩
      refine g_tableOut X 82 dX1_daysToGo_40 (by omega) (by decide) ?_
      refine g_iconst (v := 1) X dX1_daysToGo_82 (by decide) ?_
      exact g_end X (gE_i dX1_daysToGo_83 (rfl) (Nat.le_of_ble_eq_true rfl) (Nat.le_of_ble_eq_true rfl) ⟨congrArg (fun z => some (Value.int z)) (by first | (rw [stp_t hn (by assumption)]; first | exact (cst_2 (by assumption)).symm | exact (cst_3 (by assumption)).symm | exact (cst_40 (by assumption) (by assumption)).symm | exact (cst_41 (by assumption) (by assumption)).symm | exact (cst_o (by assumption) (by assumption) (by assumption)).symm) | (unfold stp; rw [if_neg (by grind)])), rfl⟩)
    · refine g_bipush (v := (-9)) X dX1_daysToGo_31 (by decide) ?_
      exact g_end X (gE_i dX1_daysToGo_33 (rfl) (Nat.le_of_ble_eq_true rfl) (Nat.le_of_ble_eq_true rfl) ⟨congrArg (fun z => some (Value.int z)) (by first | (rw [stp_t hn (by assumption)]; first | exact (cst_2 (by assumption)).symm | exact (cst_3 (by assumption)).symm | exact (cst_40 (by assumption) (by assumption)).symm | exact (cst_41 (by assumption) (by assumption)).symm | exact (cst_o (by assumption) (by assumption) (by assumption)).symm) | (unfold stp; rw [if_neg (by grind)])), rfl⟩)
set_option maxHeartbeats 4000000 in
set_option maxRecDepth 20000 in
theorem ct_X1_left (l : Launch) (d : KD) (h0 q1 q2 q3 : Nat) (K L S : Nat → Int32) : Ct l d yX1_left cX1_left 3 (some .int) { frames := 0, cells := 0, slots := 0, locals := 0 } [.ref h0] [(h0, cO 1 [.ref q1, .ref q2, .ref q3]), (q1, cI d 36 K), (q2, cI d 36 L), (q3, cI d 5 S)] 0 0 (fun r wo => r = some (.int (nI (cnt (fun q => 0 < L q) 36))) ∧ wo = [(h0, cO 1 [.ref q1, .ref q2, .ref q3]), (q1, cI d 36 K), (q2, cI d 36 L), (q3, cI d 5 S)]) := by
  refine ct_of (own := RX1) (ini := false) (by decide +kernel) rfl (fun h => by cases h) (Nat.le_of_ble_eq_true rfl) ?_
  intro g X
  show g 0 0 [(h0, cO 1 [.ref q1, .ref q2, .ref q3]), (q1, cI d 36 K), (q2, cI d 36 L), (q3, cI d 5 S)] [(0, .ref h0)] 0 []
  refine g_iconst (v := 0) X dX1_left_0 (by decide) ?_
  refine g_istore_n (lv' := [(1, .int 0), (0, .ref h0)]) X dX1_left_1 rfl (by decide) rfl ?_
  refine g_iconst (v := 0) X dX1_left_2 (by decide) ?_
  refine g_istore_n (lv' := [(2, .int 0), (1, .int 0), (0, .ref h0)]) X dX1_left_3 rfl (by decide) rfl ?_
  have at_4 : ∀ (n_ : Nat) (i : Nat) (hi : i ≤ 36), (36 - i) < n_ → g 0 0 [(h0, cO 1 [.ref q1, .ref q2, .ref q3]), (q1, cI d 36 K), (q2, cI d 36 L), (q3, cI d 5 S)] [(0, .ref h0), (1, .int (nI (cnt (fun q => 0 < L q) i))), (2, .int (nI i))] 4 [] := by
    intro n_
    induction n_ with
    | zero => intro i hi hn_; exact absurd hn_ (Nat.not_lt_zero _)
    | succ n_ ih_4 =>
      intro i hi hn_4
      refine g_iload_n X dX1_left_4 rfl 2 rfl ?_
      refine g_aload_n X dX1_left_5 rfl 0 rfl ?_
      refine g_get (C := RX1) (T := TX1) (N := 3) (ci := 1) (v := .ref q2) X rfl inT1 1 (by decide) wd_82 rfl dX1_left_6 0 rfl rfl ?_
      refine g_alen (v := 36) X dX1_left_9 2 rfl (by rfl) ?_
      refine g_icmpN_ge (a := i) (b := 36) X rfl rfl (by omega) (by omega) 31 dX1_left_10 (by decide) (fun c10_1 => ?_) (fun c10_1 => ?_)
      · refine g_iload_n X dX1_left_31 rfl 1 rfl ?_
        exact g_end X (gE_i dX1_left_32 (rfl) (Nat.le_of_ble_eq_true rfl) (Nat.le_of_ble_eq_true rfl) ⟨congrArg (fun z => some (Value.int z)) (by grind), rfl⟩)
      · refine g_aload_n X dX1_left_13 rfl 0 rfl ?_
        refine g_get (C := RX1) (T := TX1) (N := 3) (ci := 1) (v := .ref q2) X rfl inT1 1 (by decide) wd_82 rfl dX1_left_14 0 rfl rfl ?_
        refine g_iload_n X dX1_left_17 rfl 2 rfl ?_
        refine g_iaload_N (k := i) X rfl dX1_left_18 2 rfl (by first | assumption | omega) (by omega) ?_
        refine g_if_le X 25 dX1_left_19 (by decide) (fun c19_2 => ?_) (fun c19_2 => ?_)
        · refine g_iinc (v := nI (i + 1)) (lv' := [(2, .int (nI (i + 1))), (0, .ref h0), (1, .int (nI (cnt (fun q => 0 < L q) i)))]) X dX1_left_25 2 rfl (nI_inc _) (by decide) rfl ?_
          refine g_goto X 4 dX1_left_28 (by decide) ?_
          refine g_lv (lv' := [(0, .ref h0), (1, .int (nI (cnt (fun q => 0 < L q) i))), (2, .int (nI (i + 1)))]) X [1, 2, 0] rfl ?_
          exact g_eq (ws' := [(h0, cO 1 [.ref q1, .ref q2, .ref q3]), (q1, cI d 36 K), (q2, cI d 36 L), (q3, cI d 5 S)]) (lv' := [(0, .ref h0), (1, .int (nI (cnt (fun q => 0 < L q) (i + 1)))), (2, .int (nI (i + 1)))]) (rfl) (lv_cons (rfl) (lv_cons (vI (by first | exact cnt_T (by assumption) | exact cnt_F (by assumption) | exact cnt_T (Int32.not_le.mp (by assumption)) | exact cnt_F (Int32.not_lt.mpr (by assumption)))) (lv_cons (rfl) (rfl)))) (ih_4 (i + 1) (by first | assumption | omega) (by omega))
        · refine g_iinc (v := nI (cnt (fun q => 0 < L q) i + 1)) (lv' := [(1, .int (nI (cnt (fun q => 0 < L q) i + 1))), (0, .ref h0), (2, .int (nI i))]) X dX1_left_22 1 rfl (nI_inc _) (by decide) rfl ?_
          refine g_iinc (v := nI (i + 1)) (lv' := [(2, .int (nI (i + 1))), (1, .int (nI (cnt (fun q => 0 < L q) i + 1))), (0, .ref h0)]) X dX1_left_25 2 rfl (nI_inc _) (by decide) rfl ?_
          refine g_goto X 4 dX1_left_28 (by decide) ?_
          refine g_lv (lv' := [(0, .ref h0), (1, .int (nI (cnt (fun q => 0 < L q) i + 1))), (2, .int (nI (i + 1)))]) X [2, 1, 0] rfl ?_
          exact g_eq (ws' := [(h0, cO 1 [.ref q1, .ref q2, .ref q3]), (q1, cI d 36 K), (q2, cI d 36 L), (q3, cI d 5 S)]) (lv' := [(0, .ref h0), (1, .int (nI (cnt (fun q => 0 < L q) (i + 1)))), (2, .int (nI (i + 1)))]) (rfl) (lv_cons (rfl) (lv_cons (vI (by first | exact cnt_T (by assumption) | exact cnt_F (by assumption) | exact cnt_T (Int32.not_le.mp (by assumption)) | exact cnt_F (Int32.not_lt.mpr (by assumption)))) (lv_cons (rfl) (rfl)))) (ih_4 (i + 1) (by first | assumption | omega) (by omega))
  refine g_lv (lv' := [(0, .ref h0), (1, .int 0), (2, .int 0)]) X [2, 1, 0] rfl ?_
  exact g_eq (ws' := [(h0, cO 1 [.ref q1, .ref q2, .ref q3]), (q1, cI d 36 K), (q2, cI d 36 L), (q3, cI d 5 S)]) (lv' := [(0, .ref h0), (1, .int (nI (cnt (fun q => 0 < L q) 0))), (2, .int (nI 0))]) (rfl) (lv_cons (rfl) (lv_cons (vI (by rfl)) (lv_cons (vI (by rfl)) (rfl)))) (at_4 _ 0 (by first | assumption | omega) (Nat.lt_succ_self _))
set_option maxHeartbeats 4000000 in
set_option maxRecDepth 20000 in
theorem ct_X1_weight (l : Launch) (d : KD) (h0 q1 q2 q3 : Nat) (K L S : Nat → Int32) : Ct l d yX1_weight cX1_weight 3 (some .int) { frames := 0, cells := 0, slots := 0, locals := 0 } [.ref h0] [(h0, cO 1 [.ref q1, .ref q2, .ref q3]), (q1, cI d 36 K), (q2, cI d 36 L), (q3, cI d 5 S)] 0 0 (fun r wo => r = some (.int (smI L 36)) ∧ wo = [(h0, cO 1 [.ref q1, .ref q2, .ref q3]), (q1, cI d 36 K), (q2, cI d 36 L), (q3, cI d 5 S)]) := by
  refine ct_of (own := RX1) (ini := false) (by decide +kernel) rfl (fun h => by cases h) (Nat.le_of_ble_eq_true rfl) ?_
  intro g X
  show g 0 0 [(h0, cO 1 [.ref q1, .ref q2, .ref q3]), (q1, cI d 36 K), (q2, cI d 36 L), (q3, cI d 5 S)] [(0, .ref h0)] 0 []
  refine g_iconst (v := 0) X dX1_weight_0 (by decide) ?_
  refine g_istore_n (lv' := [(1, .int 0), (0, .ref h0)]) X dX1_weight_1 rfl (by decide) rfl ?_
  refine g_iconst (v := 0) X dX1_weight_2 (by decide) ?_
  refine g_istore_n (lv' := [(2, .int 0), (1, .int 0), (0, .ref h0)]) X dX1_weight_3 rfl (by decide) rfl ?_
  have at_4 : ∀ (n_ : Nat) (i : Nat) (hi : i ≤ 36), (36 - i) < n_ → g 0 0 [(h0, cO 1 [.ref q1, .ref q2, .ref q3]), (q1, cI d 36 K), (q2, cI d 36 L), (q3, cI d 5 S)] [(0, .ref h0), (1, .int (smI L i)), (2, .int (nI i))] 4 [] := by
    intro n_
    induction n_ with
    | zero => intro i hi hn_; exact absurd hn_ (Nat.not_lt_zero _)
    | succ n_ ih_4 =>
      intro i hi hn_4
      refine g_iload_n X dX1_weight_4 rfl 2 rfl ?_
      refine g_aload_n X dX1_weight_5 rfl 0 rfl ?_
      refine g_get (C := RX1) (T := TX1) (N := 3) (ci := 1) (v := .ref q2) X rfl inT1 1 (by decide) wd_82 rfl dX1_weight_6 0 rfl rfl ?_
      refine g_alen (v := 36) X dX1_weight_9 2 rfl (by rfl) ?_
      refine g_icmpN_ge (a := i) (b := 36) X rfl rfl (by omega) (by omega) 28 dX1_weight_10 (by decide) (fun c10_1 => ?_) (fun c10_1 => ?_)
      · refine g_iload_n X dX1_weight_28 rfl 1 rfl ?_
        exact g_end X (gE_i dX1_weight_29 (rfl) (Nat.le_of_ble_eq_true rfl) (Nat.le_of_ble_eq_true rfl) ⟨congrArg (fun z => some (Value.int z)) (by grind), rfl⟩)
      · refine g_iload_n X dX1_weight_13 rfl 1 rfl ?_
        refine g_aload_n X dX1_weight_14 rfl 0 rfl ?_
        refine g_get (C := RX1) (T := TX1) (N := 3) (ci := 1) (v := .ref q2) X rfl inT1 1 (by decide) wd_82 rfl dX1_weight_15 0 rfl rfl ?_
        refine g_iload_n X dX1_weight_18 rfl 2 rfl ?_
        refine g_iaload_N (k := i) X rfl dX1_weight_19 2 rfl (by first | assumption | omega) (by omega) ?_
        refine g_iadd X dX1_weight_20 ?_
        refine g_istore_n (lv' := [(1, .int ((smI L i) + (L i))), (0, .ref h0), (2, .int (nI i))]) X dX1_weight_21 rfl (by decide) rfl ?_
        refine g_iinc (v := nI (i + 1)) (lv' := [(2, .int (nI (i + 1))), (1, .int ((smI L i) + (L i))), (0, .ref h0)]) X dX1_weight_22 2 rfl (nI_inc _) (by decide) rfl ?_
        refine g_goto X 4 dX1_weight_25 (by decide) ?_
        refine g_lv (lv' := [(0, .ref h0), (1, .int ((smI L i) + (L i))), (2, .int (nI (i + 1)))]) X [2, 1, 0] rfl ?_
        exact g_eq (ws' := [(h0, cO 1 [.ref q1, .ref q2, .ref q3]), (q1, cI d 36 K), (q2, cI d 36 L), (q3, cI d 5 S)]) (lv' := [(0, .ref h0), (1, .int (smI L (i + 1))), (2, .int (nI (i + 1)))]) (rfl) (lv_cons (rfl) (lv_cons (vI (by rfl)) (lv_cons (rfl) (rfl)))) (ih_4 (i + 1) (by first | assumption | omega) (by omega))
  refine g_lv (lv' := [(0, .ref h0), (1, .int 0), (2, .int 0)]) X [2, 1, 0] rfl ?_
  exact g_eq (ws' := [(h0, cO 1 [.ref q1, .ref q2, .ref q3]), (q1, cI d 36 K), (q2, cI d 36 L), (q3, cI d 5 S)]) (lv' := [(0, .ref h0), (1, .int (smI L 0)), (2, .int (nI 0))]) (rfl) (lv_cons (rfl) (lv_cons (vI (by rfl)) (lv_cons (vI (by rfl)) (rfl)))) (at_4 _ 0 (by first | assumption | omega) (Nat.lt_succ_self _))
set_option maxHeartbeats 4000000 in
set_option maxRecDepth 20000 in
theorem ct_X1_squaresToBeOn (l : Launch) (d : KD) (h0 q1 q2 q3 : Nat) (K L S : Nat → Int32) : Ct l d yX1_squaresToBeOn cX1_squaresToBeOn 3 (some .int) { frames := 2, cells := 0, slots := 0, locals := 42 } [.ref h0] [(h0, cO 1 [.ref q1, .ref q2, .ref q3]), (q1, cI d 36 K), (q2, cI d 36 L), (q3, cI d 5 S)] 0 0 (fun r wo => r = some (.int (nI (cnt (fun q => csl (K q) (S 1)) 36))) ∧ wo = [(h0, cO 1 [.ref q1, .ref q2, .ref q3]), (q1, cI d 36 K), (q2, cI d 36 L), (q3, cI d 5 S)]) := by
  refine ct_of (own := RX1) (ini := false) (by decide +kernel) rfl (fun h => by cases h) (Nat.le_of_ble_eq_true rfl) ?_
  intro g X
  show g 0 0 [(h0, cO 1 [.ref q1, .ref q2, .ref q3]), (q1, cI d 36 K), (q2, cI d 36 L), (q3, cI d 5 S)] [(0, .ref h0)] 0 []
  refine g_iconst (v := 0) X dX1_squaresToBeOn_0 (by decide) ?_
  refine g_istore_n (lv' := [(1, .int 0), (0, .ref h0)]) X dX1_squaresToBeOn_1 rfl (by decide) rfl ?_
  refine g_iconst (v := 0) X dX1_squaresToBeOn_2 (by decide) ?_
  refine g_istore_n (lv' := [(2, .int 0), (1, .int 0), (0, .ref h0)]) X dX1_squaresToBeOn_3 rfl (by decide) rfl ?_
  have at_4 : ∀ (n_ : Nat) (i : Nat) (hi : i ≤ 36), (36 - i) < n_ → g 0 0 [(h0, cO 1 [.ref q1, .ref q2, .ref q3]), (q1, cI d 36 K), (q2, cI d 36 L), (q3, cI d 5 S)] [(0, .ref h0), (1, .int (nI (cnt (fun q => csl (K q) (S 1)) i))), (2, .int (nI i))] 4 [] := by
    intro n_
    induction n_ with
    | zero => intro i hi hn_; exact absurd hn_ (Nat.not_lt_zero _)
    | succ n_ ih_4 =>
      intro i hi hn_4
      refine g_iload_n X dX1_squaresToBeOn_4 rfl 2 rfl ?_
      refine g_bipush (v := 36) X dX1_squaresToBeOn_5 (by decide) ?_
      refine g_icmpN_ge (a := i) (b := 36) X rfl rfl (by omega) (by omega) 27 dX1_squaresToBeOn_7 (by decide) (fun c7_1 => ?_) (fun c7_1 => ?_)
      · refine g_iload_n X dX1_squaresToBeOn_27 rfl 1 rfl ?_
        exact g_end X (gE_i dX1_squaresToBeOn_28 (rfl) (Nat.le_of_ble_eq_true rfl) (Nat.le_of_ble_eq_true rfl) ⟨congrArg (fun z => some (Value.int z)) (by grind), rfl⟩)
      · refine g_aload_n X dX1_squaresToBeOn_10 rfl 0 rfl ?_
        refine g_iload_n X dX1_squaresToBeOn_11 rfl 2 rfl ?_
        refine g_dV (ci := 1) (q0 := 0) (n := 1) (wr := []) (ws' := [(h0, cO 1 [.ref q1, .ref q2, .ref q3]), (q1, cI d 36 K), (q2, cI d 36 L), (q3, cI d 5 S)]) (st' := [.int (b2i (csl (K i) (S 1)))]) (As := [.int (nI i)]) (st := []) X (ct_X1_canBe_N l d h0 q1 q2 q3 K L S i (by first | assumption | omega)) wd_369 wd_461 wd_367 wd_368 wd_53 hd_X1_canBe rfl ⟨(Nat.le_of_ble_eq_true rfl), (Nat.le_of_ble_eq_true rfl)⟩ rfl rfl dX1_squaresToBeOn_12 ⟨(Nat.le_of_ble_eq_true rfl), (Nat.le_of_ble_eq_true rfl)⟩ rfl rfl (Nat.le_of_ble_eq_true rfl) [0, 1, 2, 3] [] rfl rfl rfl rfl rfl (by decide) rfl [0, 1, 2, 3] rfl rfl rfl rfl ?_
        refine g_ifB_eq X 21 dX1_squaresToBeOn_15 (by decide) (fun c15_2 => ?_) (fun c15_2 => ?_)
        · refine g_iinc (v := nI (i + 1)) (lv' := [(2, .int (nI (i + 1))), (0, .ref h0), (1, .int (nI (cnt (fun q => csl (K q) (S 1)) i)))]) X dX1_squaresToBeOn_21 2 rfl (nI_inc _) (by decide) rfl ?_
          refine g_goto X 4 dX1_squaresToBeOn_24 (by decide) ?_
          refine g_lv (lv' := [(0, .ref h0), (1, .int (nI (cnt (fun q => csl (K q) (S 1)) i))), (2, .int (nI (i + 1)))]) X [1, 2, 0] rfl ?_
          exact g_eq (ws' := [(h0, cO 1 [.ref q1, .ref q2, .ref q3]), (q1, cI d 36 K), (q2, cI d 36 L), (q3, cI d 5 S)]) (lv' := [(0, .ref h0), (1, .int (nI (cnt (fun q => csl (K q) (S 1)) (i + 1)))), (2, .int (nI (i + 1)))]) (rfl) (lv_cons (rfl) (lv_cons (vI (by first | exact cnt_T (by assumption) | exact cnt_F (by assumption) | exact cnt_T (Int32.not_le.mp (by assumption)) | exact cnt_F (Int32.not_lt.mpr (by assumption)))) (lv_cons (rfl) (rfl)))) (ih_4 (i + 1) (by first | assumption | omega) (by omega))
        · refine g_iinc (v := nI (cnt (fun q => csl (K q) (S 1)) i + 1)) (lv' := [(1, .int (nI (cnt (fun q => csl (K q) (S 1)) i + 1))), (0, .ref h0), (2, .int (nI i))]) X dX1_squaresToBeOn_18 1 rfl (nI_inc _) (by decide) rfl ?_
          refine g_iinc (v := nI (i + 1)) (lv' := [(2, .int (nI (i + 1))), (1, .int (nI (cnt (fun q => csl (K q) (S 1)) i + 1))), (0, .ref h0)]) X dX1_squaresToBeOn_21 2 rfl (nI_inc _) (by decide) rfl ?_
          refine g_goto X 4 dX1_squaresToBeOn_24 (by decide) ?_
          refine g_lv (lv' := [(0, .ref h0), (1, .int (nI (cnt (fun q => csl (K q) (S 1)) i + 1))), (2, .int (nI (i + 1)))]) X [2, 1, 0] rfl ?_
          exact g_eq (ws' := [(h0, cO 1 [.ref q1, .ref q2, .ref q3]), (q1, cI d 36 K), (q2, cI d 36 L), (q3, cI d 5 S)]) (lv' := [(0, .ref h0), (1, .int (nI (cnt (fun q => csl (K q) (S 1)) (i + 1)))), (2, .int (nI (i + 1)))]) (rfl) (lv_cons (rfl) (lv_cons (vI (by first | exact cnt_T (by assumption) | exact cnt_F (by assumption) | exact cnt_T (Int32.not_le.mp (by assumption)) | exact cnt_F (Int32.not_lt.mpr (by assumption)))) (lv_cons (rfl) (rfl)))) (ih_4 (i + 1) (by first | assumption | omega) (by omega))
  refine g_lv (lv' := [(0, .ref h0), (1, .int 0), (2, .int 0)]) X [2, 1, 0] rfl ?_
  exact g_eq (ws' := [(h0, cO 1 [.ref q1, .ref q2, .ref q3]), (q1, cI d 36 K), (q2, cI d 36 L), (q3, cI d 5 S)]) (lv' := [(0, .ref h0), (1, .int (nI (cnt (fun q => csl (K q) (S 1)) 0))), (2, .int (nI 0))]) (rfl) (lv_cons (rfl) (lv_cons (vI (by rfl)) (lv_cons (vI (by rfl)) (rfl)))) (at_4 _ 0 (by first | assumption | omega) (Nat.lt_succ_self _))
set_option maxHeartbeats 4000000 in
set_option maxRecDepth 20000 in
theorem ct_X1_isSand (l : Launch) (d : KD) (h0 q1 q2 q3 : Nat) (K L S : Nat → Int32) (x : Int32) : Ct l d yX1_isSand cX1_isSand 3 (some .boolean) { frames := 2, cells := 0, slots := 0, locals := 41 } [.ref h0, .int x] [(h0, cO 1 [.ref q1, .ref q2, .ref q3]), (q1, cI d 36 K), (q2, cI d 36 L), (q3, cI d 5 S)] 0 0 (fun r wo => r = some (.int (b2i (kAt K x = 1 ∨ kAt K x = 2))) ∧ wo = [(h0, cO 1 [.ref q1, .ref q2, .ref q3]), (q1, cI d 36 K), (q2, cI d 36 L), (q3, cI d 5 S)]) := by
  refine ct_of (own := RX1) (ini := false) (by decide +kernel) rfl (fun h => by cases h) (Nat.le_of_ble_eq_true rfl) ?_
  intro g X
  show g 0 0 [(h0, cO 1 [.ref q1, .ref q2, .ref q3]), (q1, cI d 36 K), (q2, cI d 36 L), (q3, cI d 5 S)] [(0, .ref h0), (1, .int x)] 0 []
  refine g_aload_n X dX1_isSand_0 rfl 0 rfl ?_
  refine g_iload_n X dX1_isSand_1 rfl 1 rfl ?_
  refine g_dV (ci := 1) (q0 := 0) (n := 1) (wr := []) (ws' := [(h0, cO 1 [.ref q1, .ref q2, .ref q3]), (q1, cI d 36 K), (q2, cI d 36 L), (q3, cI d 5 S)]) (st' := [.int (kAt K x)]) (As := [.int x]) (st := []) X (ct_X1_kindOf l d h0 q1 q2 q3 K L S x) wd_421 wd_418 wd_419 wd_420 wd_53 hd_X1_kindOf rfl ⟨(Nat.le_of_ble_eq_true rfl), (Nat.le_of_ble_eq_true rfl)⟩ rfl rfl dX1_isSand_2 ⟨(Nat.le_of_ble_eq_true rfl), (Nat.le_of_ble_eq_true rfl)⟩ rfl rfl (Nat.le_of_ble_eq_true rfl) [0, 1, 2, 3] [] rfl rfl rfl rfl rfl (by decide) rfl [0, 1, 2, 3] rfl rfl rfl rfl ?_
  refine g_topi (fun kx ekx => ?_)
  refine g_istore_n (lv' := [(2, .int kx), (0, .ref h0), (1, .int x)]) X dX1_isSand_5 rfl (by decide) rfl ?_
  refine g_iload_n X dX1_isSand_6 rfl 0 rfl ?_
  refine g_iconst (v := 1) X dX1_isSand_7 (by decide) ?_
  refine g_icmp_eq X 16 dX1_isSand_8 (by decide) (fun c8_1 => ?_) (fun c8_1 => ?_)
  · refine g_iconst (v := 1) X dX1_isSand_16 (by decide) ?_
    refine g_goto X 21 dX1_isSand_17 (by decide) ?_
    exact g_end X (gE_i dX1_isSand_21 (rfl) (Nat.le_of_ble_eq_true rfl) (Nat.le_of_ble_eq_true rfl) ⟨congrArg (fun z => some (Value.int z)) (by subst ekx; first | exact (b2i_t (by grind)).symm | exact (b2i_f (by grind)).symm), rfl⟩)
  · refine g_iload_n X dX1_isSand_11 rfl 0 rfl ?_
    refine g_iconst (v := 2) X dX1_isSand_12 (by decide) ?_
    refine g_icmp_ne X 20 dX1_isSand_13 (by decide) (fun c13_2 => ?_) (fun c13_2 => ?_)
    · refine g_iconst (v := 0) X dX1_isSand_20 (by decide) ?_
      exact g_end X (gE_i dX1_isSand_21 (rfl) (Nat.le_of_ble_eq_true rfl) (Nat.le_of_ble_eq_true rfl) ⟨congrArg (fun z => some (Value.int z)) (by subst ekx; first | exact (b2i_t (by grind)).symm | exact (b2i_f (by grind)).symm), rfl⟩)
    · refine g_iconst (v := 1) X dX1_isSand_16 (by decide) ?_
      refine g_goto X 21 dX1_isSand_17 (by decide) ?_
      exact g_end X (gE_i dX1_isSand_21 (rfl) (Nat.le_of_ble_eq_true rfl) (Nat.le_of_ble_eq_true rfl) ⟨congrArg (fun z => some (Value.int z)) (by subst ekx; first | exact (b2i_t (by grind)).symm | exact (b2i_f (by grind)).symm), rfl⟩)
theorem sandP_b {K : Nat → Int32} {n : Nat} : (kAt K (besI n) = 1 ∨ kAt K (besI n) = 2) ↔ (n < 36 ∧ (K n = 1 ∨ K n = 2)) := by
  rw [kAt_b]; split <;> grind
theorem ct_X1_isSand_b (l : Launch) (d : KD) (h0 q1 q2 q3 : Nat) (K L S : Nat → Int32) (n : Nat) : Ct l d yX1_isSand cX1_isSand 3 (some .boolean) { frames := 2, cells := 0, slots := 0, locals := 41 } [.ref h0, .int (besI n)] [(h0, cO 1 [.ref q1, .ref q2, .ref q3]), (q1, cI d 36 K), (q2, cI d 36 L), (q3, cI d 5 S)] 0 0 (fun r wo => r = some (.int (b2i (n < 36 ∧ (K n = 1 ∨ K n = 2)))) ∧ wo = [(h0, cO 1 [.ref q1, .ref q2, .ref q3]), (q1, cI d 36 K), (q2, cI d 36 L), (q3, cI d 5 S)]) := by
  have h := ct_X1_isSand l d h0 q1 q2 q3 K L S (besI n); rwa [b2i_c sandP_b] at h
set_option maxHeartbeats 4000000 in
set_option maxRecDepth 20000 in
theorem ct_X1_sandBeside (l : Launch) (d : KD) (h0 q1 q2 q3 : Nat) (K L S : Nat → Int32) (j : Nat) (hj : j < 36) : Ct l d yX1_sandBeside cX1_sandBeside 4 (some .int) { frames := 3, cells := 0, slots := 0, locals := 63 } [.ref h0, .int (nI j)] [(h0, cO 1 [.ref q1, .ref q2, .ref q3]), (q1, cI d 36 K), (q2, cI d 36 L), (q3, cI d 5 S)] 0 0 (fun r wo => r = some (.int (nI (cnt (fun w => nb j w < 36 ∧ (K (nb j w) = 1 ∨ K (nb j w) = 2)) 4))) ∧ wo = [(h0, cO 1 [.ref q1, .ref q2, .ref q3]), (q1, cI d 36 K), (q2, cI d 36 L), (q3, cI d 5 S)]) := by
  refine ct_of (own := RX1) (ini := false) (by decide +kernel) rfl (fun h => by cases h) (Nat.le_of_ble_eq_true rfl) ?_
  intro g X
  show g 0 0 [(h0, cO 1 [.ref q1, .ref q2, .ref q3]), (q1, cI d 36 K), (q2, cI d 36 L), (q3, cI d 5 S)] [(0, .ref h0), (1, .int (nI j))] 0 []
  refine g_iconst (v := 0) X dX1_sandBeside_0 (by decide) ?_
  refine g_istore_n (lv' := [(2, .int 0), (0, .ref h0), (1, .int (nI j))]) X dX1_sandBeside_1 rfl (by decide) rfl ?_
  refine g_iconst (v := 0) X dX1_sandBeside_2 (by decide) ?_
  refine g_istore_n (lv' := [(3, .int 0), (2, .int 0), (0, .ref h0), (1, .int (nI j))]) X dX1_sandBeside_3 rfl (by decide) rfl ?_
  have at_4 : ∀ (n_ : Nat) (i : Nat) (hi : i ≤ 4), (4 - i) < n_ → g 0 0 [(h0, cO 1 [.ref q1, .ref q2, .ref q3]), (q1, cI d 36 K), (q2, cI d 36 L), (q3, cI d 5 S)] [(0, .ref h0), (1, .int (nI j)), (2, .int (nI (cnt (fun w => nb j w < 36 ∧ (K (nb j w) = 1 ∨ K (nb j w) = 2)) i))), (3, .int (nI i))] 4 [] := by
    intro n_
    induction n_ with
    | zero => intro i hi hn_; exact absurd hn_ (Nat.not_lt_zero _)
    | succ n_ ih_4 =>
      intro i hi hn_4
      refine g_iload_n X dX1_sandBeside_4 rfl 3 rfl ?_
      refine g_iconst (v := 4) X dX1_sandBeside_5 (by decide) ?_
      refine g_icmpN_ge (a := i) (b := 4) X rfl rfl (by omega) (by omega) 30 dX1_sandBeside_6 (by decide) (fun c6_1 => ?_) (fun c6_1 => ?_)
      · refine g_iload_n X dX1_sandBeside_30 rfl 2 rfl ?_
        exact g_end X (gE_i dX1_sandBeside_31 (rfl) (Nat.le_of_ble_eq_true rfl) (Nat.le_of_ble_eq_true rfl) ⟨congrArg (fun z => some (Value.int z)) (by grind), rfl⟩)
      · refine g_aload_n X dX1_sandBeside_9 rfl 0 rfl ?_
        refine g_iload_n X dX1_sandBeside_10 rfl 1 rfl ?_
        refine g_iload_n X dX1_sandBeside_11 rfl 3 rfl ?_
        refine g_dS (n := 2) (wr := [(h0, cO 1 [.ref q1, .ref q2, .ref q3]), (q1, cI d 36 K), (q2, cI d 36 L), (q3, cI d 5 S)]) (ws' := [(h0, cO 1 [.ref q1, .ref q2, .ref q3]), (q1, cI d 36 K), (q2, cI d 36 L), (q3, cI d 5 S)]) (st' := [.int (besI (nb j i)), .ref h0]) (As := [.int (nI j), .int (nI i)]) (st := [.ref h0]) X (ct_X1_beside l d j i (by first | assumption | omega) (by first | assumption | omega)) wd_388 wd_386 wd_387 wd_53 hd_X1_beside ⟨(Nat.le_of_ble_eq_true rfl), (Nat.le_of_ble_eq_true rfl)⟩ rfl rfl dX1_sandBeside_12 ⟨(Nat.le_of_ble_eq_true rfl), (Nat.le_of_ble_eq_true rfl)⟩ rfl rfl (Nat.le_of_ble_eq_true rfl) [] [0, 1, 2, 3] rfl rfl rfl rfl rfl (by decide) [0, 1, 2, 3] rfl rfl rfl rfl ?_
        refine g_dV (ci := 1) (q0 := 0) (n := 1) (wr := []) (ws' := [(h0, cO 1 [.ref q1, .ref q2, .ref q3]), (q1, cI d 36 K), (q2, cI d 36 L), (q3, cI d 5 S)]) (st' := [.int (b2i ((nb j i) < 36 ∧ (K (nb j i) = 1 ∨ K (nb j i) = 2)))]) (As := [.int (besI (nb j i))]) (st := []) X (ct_X1_isSand_b l d h0 q1 q2 q3 K L S (nb j i)) wd_417 wd_414 wd_416 wd_7 wd_53 hd_X1_isSand rfl ⟨(Nat.le_of_ble_eq_true rfl), (Nat.le_of_ble_eq_true rfl)⟩ rfl rfl dX1_sandBeside_15 ⟨(Nat.le_of_ble_eq_true rfl), (Nat.le_of_ble_eq_true rfl)⟩ rfl rfl (Nat.le_of_ble_eq_true rfl) [0, 1, 2, 3] [] rfl rfl rfl rfl rfl (by decide) rfl [0, 1, 2, 3] rfl rfl rfl rfl ?_
        refine g_ifB_eq X 24 dX1_sandBeside_18 (by decide) (fun c18_2 => ?_) (fun c18_2 => ?_)
        · refine g_iinc (v := nI (i + 1)) (lv' := [(3, .int (nI (i + 1))), (0, .ref h0), (1, .int (nI j)), (2, .int (nI (cnt (fun w => nb j w < 36 ∧ (K (nb j w) = 1 ∨ K (nb j w) = 2)) i)))]) X dX1_sandBeside_24 3 rfl (nI_inc _) (by decide) rfl ?_
          refine g_goto X 4 dX1_sandBeside_27 (by decide) ?_
          refine g_lv (lv' := [(0, .ref h0), (1, .int (nI j)), (2, .int (nI (cnt (fun w => nb j w < 36 ∧ (K (nb j w) = 1 ∨ K (nb j w) = 2)) i))), (3, .int (nI (i + 1)))]) X [1, 2, 3, 0] rfl ?_
          exact g_eq (ws' := [(h0, cO 1 [.ref q1, .ref q2, .ref q3]), (q1, cI d 36 K), (q2, cI d 36 L), (q3, cI d 5 S)]) (lv' := [(0, .ref h0), (1, .int (nI j)), (2, .int (nI (cnt (fun w => nb j w < 36 ∧ (K (nb j w) = 1 ∨ K (nb j w) = 2)) (i + 1)))), (3, .int (nI (i + 1)))]) (rfl) (lv_cons (rfl) (lv_cons (rfl) (lv_cons (vI (by first | exact cnt_T (by assumption) | exact cnt_F (by assumption) | exact cnt_T (Int32.not_le.mp (by assumption)) | exact cnt_F (Int32.not_lt.mpr (by assumption)))) (lv_cons (rfl) (rfl))))) (ih_4 (i + 1) (by first | assumption | omega) (by omega))
        · refine g_iinc (v := nI (cnt (fun w => nb j w < 36 ∧ (K (nb j w) = 1 ∨ K (nb j w) = 2)) i + 1)) (lv' := [(2, .int (nI (cnt (fun w => nb j w < 36 ∧ (K (nb j w) = 1 ∨ K (nb j w) = 2)) i + 1))), (0, .ref h0), (1, .int (nI j)), (3, .int (nI i))]) X dX1_sandBeside_21 2 rfl (nI_inc _) (by decide) rfl ?_
          refine g_iinc (v := nI (i + 1)) (lv' := [(3, .int (nI (i + 1))), (2, .int (nI (cnt (fun w => nb j w < 36 ∧ (K (nb j w) = 1 ∨ K (nb j w) = 2)) i + 1))), (0, .ref h0), (1, .int (nI j))]) X dX1_sandBeside_24 3 rfl (nI_inc _) (by decide) rfl ?_
          refine g_goto X 4 dX1_sandBeside_27 (by decide) ?_
          refine g_lv (lv' := [(0, .ref h0), (1, .int (nI j)), (2, .int (nI (cnt (fun w => nb j w < 36 ∧ (K (nb j w) = 1 ∨ K (nb j w) = 2)) i + 1))), (3, .int (nI (i + 1)))]) X [2, 3, 1, 0] rfl ?_
          exact g_eq (ws' := [(h0, cO 1 [.ref q1, .ref q2, .ref q3]), (q1, cI d 36 K), (q2, cI d 36 L), (q3, cI d 5 S)]) (lv' := [(0, .ref h0), (1, .int (nI j)), (2, .int (nI (cnt (fun w => nb j w < 36 ∧ (K (nb j w) = 1 ∨ K (nb j w) = 2)) (i + 1)))), (3, .int (nI (i + 1)))]) (rfl) (lv_cons (rfl) (lv_cons (rfl) (lv_cons (vI (by first | exact cnt_T (by assumption) | exact cnt_F (by assumption) | exact cnt_T (Int32.not_le.mp (by assumption)) | exact cnt_F (Int32.not_lt.mpr (by assumption)))) (lv_cons (rfl) (rfl))))) (ih_4 (i + 1) (by first | assumption | omega) (by omega))
  refine g_lv (lv' := [(0, .ref h0), (1, .int (nI j)), (2, .int 0), (3, .int 0)]) X [2, 3, 1, 0] rfl ?_
  exact g_eq (ws' := [(h0, cO 1 [.ref q1, .ref q2, .ref q3]), (q1, cI d 36 K), (q2, cI d 36 L), (q3, cI d 5 S)]) (lv' := [(0, .ref h0), (1, .int (nI j)), (2, .int (nI (cnt (fun w => nb j w < 36 ∧ (K (nb j w) = 1 ∨ K (nb j w) = 2)) 0))), (3, .int (nI 0))]) (rfl) (lv_cons (rfl) (lv_cons (rfl) (lv_cons (vI (by rfl)) (lv_cons (vI (by rfl)) (rfl))))) (at_4 _ 0 (by first | assumption | omega) (Nat.lt_succ_self _))
theorem ct_X1_canBe_b (l : Launch) (d : KD) (h0 q1 q2 q3 : Nat) (K L S : Nat → Int32) (n : Nat) : Ct l d yX1_canBe cX1_canBe 2 (some .boolean) { frames := 1, cells := 0, slots := 0, locals := 21 } [.ref h0, .int (besI n)] [(h0, cO 1 [.ref q1, .ref q2, .ref q3]), (q1, cI d 36 K), (q2, cI d 36 L), (q3, cI d 5 S)] 0 0 (fun r wo => r = some (.int (b2i (n < 36 ∧ csl (K n) (S 1)))) ∧ wo = [(h0, cO 1 [.ref q1, .ref q2, .ref q3]), (q1, cI d 36 K), (q2, cI d 36 L), (q3, cI d 5 S)]) := by
  have h := ct_X1_canBe l d h0 q1 q2 q3 K L S (besI n); rwa [b2i_c cbe_b] at h
set_option maxHeartbeats 4000000 in
set_option maxRecDepth 20000 in
theorem ct_X1_isBesideWreck (l : Launch) (d : KD) (h0 q1 q2 q3 : Nat) (K L S : Nat → Int32) (j : Nat) (hj : j < 36) : Ct l d yX1_isBesideWreck cX1_isBesideWreck 4 (some .boolean) { frames := 3, cells := 0, slots := 0, locals := 63 } [.ref h0, .int (nI j)] [(h0, cO 1 [.ref q1, .ref q2, .ref q3]), (q1, cI d 36 K), (q2, cI d 36 L), (q3, cI d 5 S)] 0 0 (fun r wo => r = some (.int (b2i (bwx K S j))) ∧ wo = [(h0, cO 1 [.ref q1, .ref q2, .ref q3]), (q1, cI d 36 K), (q2, cI d 36 L), (q3, cI d 5 S)]) := by
  refine ct_of (own := RX1) (ini := false) (by decide +kernel) rfl (fun h => by cases h) (Nat.le_of_ble_eq_true rfl) ?_
  intro g X
  show g 0 0 [(h0, cO 1 [.ref q1, .ref q2, .ref q3]), (q1, cI d 36 K), (q2, cI d 36 L), (q3, cI d 5 S)] [(0, .ref h0), (1, .int (nI j))] 0 []
  refine g_iconst (v := 0) X dX1_isBesideWreck_0 (by decide) ?_
  refine g_istore_n (lv' := [(2, .int 0), (0, .ref h0), (1, .int (nI j))]) X dX1_isBesideWreck_1 rfl (by decide) rfl ?_
  have at_2 : ∀ (n_ : Nat) (i : Nat) (hi : i ≤ 4) (hn : ∀ w, w < i → ¬ bw K S j w), (4 - i) < n_ → g 0 0 [(h0, cO 1 [.ref q1, .ref q2, .ref q3]), (q1, cI d 36 K), (q2, cI d 36 L), (q3, cI d 5 S)] [(0, .ref h0), (1, .int (nI j)), (2, .int (nI i))] 2 [] := by
    intro n_
    induction n_ with
    | zero => intro i hi hn hn_; exact absurd hn_ (Nat.not_lt_zero _)
    | succ n_ ih_2 =>
      intro i hi hn hn_2
      refine g_iload_n X dX1_isBesideWreck_2 rfl 2 rfl ?_
      refine g_iconst (v := 4) X dX1_isBesideWreck_3 (by decide) ?_
      refine g_icmpN_ge (a := i) (b := 4) X rfl rfl (by omega) (by omega) 37 dX1_isBesideWreck_4 (by decide) (fun c4_1 => ?_) (fun c4_1 => ?_)
      · refine g_iconst (v := 0) X dX1_isBesideWreck_37 (by decide) ?_
        exact g_end X (gE_i dX1_isBesideWreck_38 (rfl) (Nat.le_of_ble_eq_true rfl) (Nat.le_of_ble_eq_true rfl) ⟨congrArg (fun z => some (Value.int z)) (by first | exact (b2i_t ⟨i, by omega, by grind⟩).symm | exact (b2i_f (fun ⟨w, h1, h2⟩ => hn w (by omega) h2)).symm), rfl⟩)
      · refine g_iload_n X dX1_isBesideWreck_7 rfl 1 rfl ?_
        refine g_iload_n X dX1_isBesideWreck_8 rfl 2 rfl ?_
        refine g_dS (n := 2) (wr := [(h0, cO 1 [.ref q1, .ref q2, .ref q3]), (q1, cI d 36 K), (q2, cI d 36 L), (q3, cI d 5 S)]) (ws' := [(h0, cO 1 [.ref q1, .ref q2, .ref q3]), (q1, cI d 36 K), (q2, cI d 36 L), (q3, cI d 5 S)]) (st' := [.int (besI (nb j i))]) (As := [.int (nI j), .int (nI i)]) (st := []) X (ct_X1_beside l d j i (by first | assumption | omega) (by first | assumption | omega)) wd_388 wd_386 wd_387 wd_53 hd_X1_beside ⟨(Nat.le_of_ble_eq_true rfl), (Nat.le_of_ble_eq_true rfl)⟩ rfl rfl dX1_isBesideWreck_9 ⟨(Nat.le_of_ble_eq_true rfl), (Nat.le_of_ble_eq_true rfl)⟩ rfl rfl (Nat.le_of_ble_eq_true rfl) [] [0, 1, 2, 3] rfl rfl rfl rfl rfl (by decide) [0, 1, 2, 3] rfl rfl rfl rfl ?_
        refine g_istore_n (lv' := [(3, .int (besI (nb j i))), (0, .ref h0), (1, .int (nI j)), (2, .int (nI i))]) X dX1_isBesideWreck_12 rfl (by decide) rfl ?_
        refine g_aload_n X dX1_isBesideWreck_13 rfl 1 rfl ?_
        refine g_iload_n X dX1_isBesideWreck_14 rfl 0 rfl ?_
        refine g_dV (ci := 1) (q0 := 0) (n := 1) (wr := []) (ws' := [(h0, cO 1 [.ref q1, .ref q2, .ref q3]), (q1, cI d 36 K), (q2, cI d 36 L), (q3, cI d 5 S)]) (st' := [.int (b2i ((nb j i) < 36 ∧ (K (nb j i) = 1 ∨ K (nb j i) = 2)))]) (As := [.int (besI (nb j i))]) (st := []) X (ct_X1_isSand_b l d h0 q1 q2 q3 K L S (nb j i)) wd_417 wd_414 wd_416 wd_7 wd_53 hd_X1_isSand rfl ⟨(Nat.le_of_ble_eq_true rfl), (Nat.le_of_ble_eq_true rfl)⟩ rfl rfl dX1_isBesideWreck_15 ⟨(Nat.le_of_ble_eq_true rfl), (Nat.le_of_ble_eq_true rfl)⟩ rfl rfl (Nat.le_of_ble_eq_true rfl) [0, 1, 2, 3] [] rfl rfl rfl rfl rfl (by decide) rfl [0, 1, 2, 3] rfl rfl rfl rfl ?_
        refine g_ifB_eq X 31 dX1_isBesideWreck_18 (by decide) (fun c18_2 => ?_) (fun c18_2 => ?_)
        · refine g_iinc (v := nI (i + 1)) (lv' := [(2, .int (nI (i + 1))), (3, .int (besI (nb j i))), (0, .ref h0), (1, .int (nI j))]) X dX1_isBesideWreck_31 3 rfl (nI_inc _) (by decide) rfl ?_
          refine g_goto X 2 dX1_isBesideWreck_34 (by decide) ?_
          refine g_lv (lv' := [(0, .ref h0), (1, .int (nI j)), (2, .int (nI (i + 1)))]) X [2, 3, 0] rfl ?_
          exact ih_2 (i + 1) (by first | assumption | omega) (fun w hw => by rcases Nat.lt_succ_iff_lt_or_eq.mp hw with h | h; exact hn w h; subst h; exact fun z => by have := csl_sand z.2; grind) (by omega)
        · refine g_aload_n X dX1_isBesideWreck_21 rfl 1 rfl ?_
          refine g_iload_n X dX1_isBesideWreck_22 rfl 0 rfl ?_
          refine g_dV (ci := 1) (q0 := 0) (n := 1) (wr := []) (ws' := [(h0, cO 1 [.ref q1, .ref q2, .ref q3]), (q1, cI d 36 K), (q2, cI d 36 L), (q3, cI d 5 S)]) (st' := [.int (b2i ((nb j i) < 36 ∧ csl (K (nb j i)) (S 1)))]) (As := [.int (besI (nb j i))]) (st := []) X (ct_X1_canBe_b l d h0 q1 q2 q3 K L S (nb j i)) wd_369 wd_461 wd_367 wd_368 wd_53 hd_X1_canBe rfl ⟨(Nat.le_of_ble_eq_true rfl), (Nat.le_of_ble_eq_true rfl)⟩ rfl rfl dX1_isBesideWreck_23 ⟨(Nat.le_of_ble_eq_true rfl), (Nat.le_of_ble_eq_true rfl)⟩ rfl rfl (Nat.le_of_ble_eq_true rfl) [0, 1, 2, 3] [] rfl rfl rfl rfl rfl (by decide) rfl [0, 1, 2, 3] rfl rfl rfl rfl ?_
          refine g_ifB_ne X 31 dX1_isBesideWreck_26 (by decide) (fun c26_3 => ?_) (fun c26_3 => ?_)
          · refine g_iinc (v := nI (i + 1)) (lv' := [(2, .int (nI (i + 1))), (3, .int (besI (nb j i))), (0, .ref h0), (1, .int (nI j))]) X dX1_isBesideWreck_31 3 rfl (nI_inc _) (by decide) rfl ?_
            refine g_goto X 2 dX1_isBesideWreck_34 (by decide) ?_
            refine g_lv (lv' := [(0, .ref h0), (1, .int (nI j)), (2, .int (nI (i + 1)))]) X [2, 3, 0] rfl ?_
            exact ih_2 (i + 1) (by first | assumption | omega) (fun w hw => by rcases Nat.lt_succ_iff_lt_or_eq.mp hw with h | h; exact hn w h; subst h; exact fun z => by have := csl_sand z.2; grind) (by omega)
          · refine g_iconst (v := 1) X dX1_isBesideWreck_29 (by decide) ?_
            exact g_end X (gE_i dX1_isBesideWreck_30 (rfl) (Nat.le_of_ble_eq_true rfl) (Nat.le_of_ble_eq_true rfl) ⟨congrArg (fun z => some (Value.int z)) (by first | exact (b2i_t ⟨i, by omega, by grind⟩).symm | exact (b2i_f (fun ⟨w, h1, h2⟩ => hn w (by omega) h2)).symm), rfl⟩)
  refine g_lv (lv' := [(0, .ref h0), (1, .int (nI j)), (2, .int 0)]) X [1, 2, 0] rfl ?_
  exact g_eq (ws' := [(h0, cO 1 [.ref q1, .ref q2, .ref q3]), (q1, cI d 36 K), (q2, cI d 36 L), (q3, cI d 5 S)]) (lv' := [(0, .ref h0), (1, .int (nI j)), (2, .int (nI 0))]) (rfl) (lv_cons (rfl) (lv_cons (rfl) (lv_cons (vI (by rfl)) (rfl)))) (at_2 _ 0 (by first | assumption | omega) (fun w hw => absurd hw (Nat.not_lt_zero w)) (Nat.lt_succ_self _))
set_option maxHeartbeats 4000000 in
set_option maxRecDepth 20000 in
theorem ct_X1_stepsToPort (l : Launch) (d : KD) (h0 q1 q2 q3 : Nat) (K L S : Nat → Int32) (j : Nat) (hj : j < 36) : Ct l d yX1_stepsToPort cX1_stepsToPort 5 (some .int) { frames := 2, cells := 0, slots := 0, locals := 41 } [.ref h0, .int (nI j)] [(h0, cO 1 [.ref q1, .ref q2, .ref q3]), (q1, cI d 36 K), (q2, cI d 36 L), (q3, cI d 5 S)] 0 0 (fun r wo => r = some (.int (ptF K j 36)) ∧ wo = [(h0, cO 1 [.ref q1, .ref q2, .ref q3]), (q1, cI d 36 K), (q2, cI d 36 L), (q3, cI d 5 S)]) := by
  refine ct_of (own := RX1) (ini := false) (by decide +kernel) rfl (fun h => by cases h) (Nat.le_of_ble_eq_true rfl) ?_
  intro g X
  show g 0 0 [(h0, cO 1 [.ref q1, .ref q2, .ref q3]), (q1, cI d 36 K), (q2, cI d 36 L), (q3, cI d 5 S)] [(0, .ref h0), (1, .int (nI j))] 0 []
  refine g_bipush (v := (-9)) X dX1_stepsToPort_0 (by decide) ?_
  refine g_istore_n (lv' := [(2, .int (-9)), (0, .ref h0), (1, .int (nI j))]) X dX1_stepsToPort_2 rfl (by decide) rfl ?_
  refine g_iconst (v := 0) X dX1_stepsToPort_3 (by decide) ?_
  refine g_istore_n (lv' := [(3, .int 0), (2, .int (-9)), (0, .ref h0), (1, .int (nI j))]) X dX1_stepsToPort_4 rfl (by decide) rfl ?_
  have at_5 : ∀ (n_ : Nat) (i : Nat) (hi : i ≤ 36), (36 - i) < n_ → g 0 0 [(h0, cO 1 [.ref q1, .ref q2, .ref q3]), (q1, cI d 36 K), (q2, cI d 36 L), (q3, cI d 5 S)] [(0, .ref h0), (1, .int (nI j)), (2, .int (ptF K j i)), (3, .int (nI i))] 5 [] := by
    intro n_
    induction n_ with
    | zero => intro i hi hn_; exact absurd hn_ (Nat.not_lt_zero _)
    | succ n_ ih_5 =>
      intro i hi hn_5
      refine g_iload_n X dX1_stepsToPort_5 rfl 3 rfl ?_
      refine g_bipush (v := 36) X dX1_stepsToPort_6 (by decide) ?_
      refine g_icmpN_ge (a := i) (b := 36) X rfl rfl (by omega) (by omega) 71 dX1_stepsToPort_8 (by decide) (fun c8_1 => ?_) (fun c8_1 => ?_)
      · refine g_iload_n X dX1_stepsToPort_71 rfl 2 rfl ?_
        exact g_end X (gE_i dX1_stepsToPort_72 (rfl) (Nat.le_of_ble_eq_true rfl) (Nat.le_of_ble_eq_true rfl) ⟨congrArg (fun z => some (Value.int z)) (by rw [show i = 36 by omega]), rfl⟩)
      · refine g_aload_n X dX1_stepsToPort_11 rfl 0 rfl ?_
        refine g_iload_n X dX1_stepsToPort_12 rfl 3 rfl ?_
        refine g_dV (ci := 1) (q0 := 0) (n := 1) (wr := []) (ws' := [(h0, cO 1 [.ref q1, .ref q2, .ref q3]), (q1, cI d 36 K), (q2, cI d 36 L), (q3, cI d 5 S)]) (st' := [.int (K i)]) (As := [.int (nI i)]) (st := []) X (ct_X1_kindOf_N l d h0 q1 q2 q3 K L S i (by first | assumption | omega)) wd_421 wd_418 wd_419 wd_420 wd_53 hd_X1_kindOf rfl ⟨(Nat.le_of_ble_eq_true rfl), (Nat.le_of_ble_eq_true rfl)⟩ rfl rfl dX1_stepsToPort_13 ⟨(Nat.le_of_ble_eq_true rfl), (Nat.le_of_ble_eq_true rfl)⟩ rfl rfl (Nat.le_of_ble_eq_true rfl) [0, 1, 2, 3] [] rfl rfl rfl rfl rfl (by decide) rfl [0, 1, 2, 3] rfl rfl rfl rfl ?_
        refine g_iconst (v := 5) X dX1_stepsToPort_16 (by decide) ?_
        refine g_icmp_eq X 23 dX1_stepsToPort_17 (by decide) (fun c17_2 => ?_) (fun c17_2 => ?_)
        · refine g_iload_n X dX1_stepsToPort_23 rfl 3 rfl ?_
          refine g_bipush (v := 6) X dX1_stepsToPort_24 (by decide) ?_
          refine g_idiv X dX1_stepsToPort_26 (by decide) ?_
          refine g_tope (y := nI (i / 6)) (nI_div (by omega) (by decide) (by decide)) ?_
          refine g_iload_n X dX1_stepsToPort_27 rfl 1 rfl ?_
          refine g_bipush (v := 6) X dX1_stepsToPort_28 (by decide) ?_
          refine g_idiv X dX1_stepsToPort_30 (by decide) ?_
          refine g_tope (y := nI (j / 6)) (nI_div (by omega) (by decide) (by decide)) ?_
          refine g_isub X dX1_stepsToPort_31 ?_
          refine g_mabs X wd_426 wd_427 wd_63 wd_428 (Nat.le_of_ble_eq_true rfl) (Nat.le_of_ble_eq_true rfl) (Nat.le_of_ble_eq_true rfl) (Nat.le_of_ble_eq_true rfl) dX1_stepsToPort_32 ?_
          refine g_iload_n X dX1_stepsToPort_35 rfl 3 rfl ?_
          refine g_bipush (v := 6) X dX1_stepsToPort_36 (by decide) ?_
          refine g_irem X dX1_stepsToPort_38 (by decide) ?_
          refine g_tope (y := nI (i % 6)) (nI_rem (by omega) (by decide) (by decide)) ?_
          refine g_iload_n X dX1_stepsToPort_39 rfl 1 rfl ?_
          refine g_bipush (v := 6) X dX1_stepsToPort_40 (by decide) ?_
          refine g_irem X dX1_stepsToPort_42 (by decide) ?_
          refine g_tope (y := nI (j % 6)) (nI_rem (by omega) (by decide) (by decide)) ?_
          refine g_isub X dX1_stepsToPort_43 ?_
          refine g_mabs X wd_426 wd_427 wd_63 wd_428 (Nat.le_of_ble_eq_true rfl) (Nat.le_of_ble_eq_true rfl) (Nat.le_of_ble_eq_true rfl) (Nat.le_of_ble_eq_true rfl) dX1_stepsToPort_44 ?_
          refine g_iadd X dX1_stepsToPort_47 ?_
          refine g_istore (lv' := [(4, .int ((ab ((nI (i / 6)) - (nI (j / 6)))) + (ab ((nI (i % 6)) - (nI (j % 6)))))), (0, .ref h0), (1, .int (nI j)), (2, .int (ptF K j i)), (3, .int (nI i))]) X dX1_stepsToPort_48 (by decide) rfl ?_
          refine g_iload_n X dX1_stepsToPort_50 rfl 3 rfl ?_
          refine g_bipush (v := (-9)) X dX1_stepsToPort_51 (by decide) ?_
          refine g_icmp_eq X 62 dX1_stepsToPort_53 (by decide) (fun c53_3 => ?_) (fun c53_3 => ?_)
          · refine g_iload X dX1_stepsToPort_62 0 rfl ?_
            refine g_istore_n (lv' := [(2, .int ((ab ((nI (i / 6)) - (nI (j / 6)))) + (ab ((nI (i % 6)) - (nI (j % 6)))))), (4, .int ((ab ((nI (i / 6)) - (nI (j / 6)))) + (ab ((nI (i % 6)) - (nI (j % 6)))))), (0, .ref h0), (1, .int (nI j)), (3, .int (nI i))]) X dX1_stepsToPort_64 rfl (by decide) rfl ?_
            refine g_iinc (v := nI (i + 1)) (lv' := [(3, .int (nI (i + 1))), (2, .int ((ab ((nI (i / 6)) - (nI (j / 6)))) + (ab ((nI (i % 6)) - (nI (j % 6)))))), (4, .int ((ab ((nI (i / 6)) - (nI (j / 6)))) + (ab ((nI (i % 6)) - (nI (j % 6)))))), (0, .ref h0), (1, .int (nI j))]) X dX1_stepsToPort_65 4 rfl (nI_inc _) (by decide) rfl ?_
            refine g_goto X 5 dX1_stepsToPort_68 (by decide) ?_
            refine g_lv (lv' := [(0, .ref h0), (1, .int (nI j)), (2, .int ((ab ((nI (i / 6)) - (nI (j / 6)))) + (ab ((nI (i % 6)) - (nI (j % 6)))))), (3, .int (nI (i + 1)))]) X [3, 4, 1, 0] rfl ?_
            exact g_eq (ws' := [(h0, cO 1 [.ref q1, .ref q2, .ref q3]), (q1, cI d 36 K), (q2, cI d 36 L), (q3, cI d 5 S)]) (lv' := [(0, .ref h0), (1, .int (nI j)), (2, .int (ptF K j (i + 1))), (3, .int (nI (i + 1)))]) (rfl) (lv_cons (rfl) (lv_cons (rfl) (lv_cons (vI (ptF_s (by assumption) (Or.inl (by assumption)))) (lv_cons (rfl) (rfl))))) (ih_5 (i + 1) (by first | assumption | omega) (by omega))
          · refine g_iload X dX1_stepsToPort_56 0 rfl ?_
            refine g_iload_n X dX1_stepsToPort_58 rfl 3 rfl ?_
            refine g_icmp_ge X 65 dX1_stepsToPort_59 (by decide) (fun c59_4 => ?_) (fun c59_4 => ?_)
            · refine g_iinc (v := nI (i + 1)) (lv' := [(3, .int (nI (i + 1))), (4, .int ((ab ((nI (i / 6)) - (nI (j / 6)))) + (ab ((nI (i % 6)) - (nI (j % 6)))))), (0, .ref h0), (1, .int (nI j)), (2, .int (ptF K j i))]) X dX1_stepsToPort_65 4 rfl (nI_inc _) (by decide) rfl ?_
              refine g_goto X 5 dX1_stepsToPort_68 (by decide) ?_
              refine g_lv (lv' := [(0, .ref h0), (1, .int (nI j)), (2, .int (ptF K j i)), (3, .int (nI (i + 1)))]) X [2, 3, 4, 0] rfl ?_
              exact g_eq (ws' := [(h0, cO 1 [.ref q1, .ref q2, .ref q3]), (q1, cI d 36 K), (q2, cI d 36 L), (q3, cI d 5 S)]) (lv' := [(0, .ref h0), (1, .int (nI j)), (2, .int (ptF K j (i + 1))), (3, .int (nI (i + 1)))]) (rfl) (lv_cons (rfl) (lv_cons (rfl) (lv_cons (vI (ptF_k (by assumption) (by assumption) (by assumption))) (lv_cons (rfl) (rfl))))) (ih_5 (i + 1) (by first | assumption | omega) (by omega))
            · refine g_iload X dX1_stepsToPort_62 0 rfl ?_
              refine g_istore_n (lv' := [(2, .int ((ab ((nI (i / 6)) - (nI (j / 6)))) + (ab ((nI (i % 6)) - (nI (j % 6)))))), (4, .int ((ab ((nI (i / 6)) - (nI (j / 6)))) + (ab ((nI (i % 6)) - (nI (j % 6)))))), (0, .ref h0), (1, .int (nI j)), (3, .int (nI i))]) X dX1_stepsToPort_64 rfl (by decide) rfl ?_
              refine g_iinc (v := nI (i + 1)) (lv' := [(3, .int (nI (i + 1))), (2, .int ((ab ((nI (i / 6)) - (nI (j / 6)))) + (ab ((nI (i % 6)) - (nI (j % 6)))))), (4, .int ((ab ((nI (i / 6)) - (nI (j / 6)))) + (ab ((nI (i % 6)) - (nI (j % 6)))))), (0, .ref h0), (1, .int (nI j))]) X dX1_stepsToPort_65 4 rfl (nI_inc _) (by decide) rfl ?_
              refine g_goto X 5 dX1_stepsToPort_68 (by decide) ?_
              refine g_lv (lv' := [(0, .ref h0), (1, .int (nI j)), (2, .int ((ab ((nI (i / 6)) - (nI (j / 6)))) + (ab ((nI (i % 6)) - (nI (j % 6)))))), (3, .int (nI (i + 1)))]) X [3, 4, 1, 0] rfl ?_
              exact g_eq (ws' := [(h0, cO 1 [.ref q1, .ref q2, .ref q3]), (q1, cI d 36 K), (q2, cI d 36 L), (q3, cI d 5 S)]) (lv' := [(0, .ref h0), (1, .int (nI j)), (2, .int (ptF K j (i + 1))), (3, .int (nI (i + 1)))]) (rfl) (lv_cons (rfl) (lv_cons (rfl) (lv_cons (vI (ptF_s (by assumption) (Or.inr (Int32.not_le.mp (by assumption))))) (lv_cons (rfl) (rfl))))) (ih_5 (i + 1) (by first | assumption | omega) (by omega))
        · refine g_goto X 65 dX1_stepsToPort_20 (by decide) ?_
          refine g_iinc (v := nI (i + 1)) (lv' := [(3, .int (nI (i + 1))), (0, .ref h0), (1, .int (nI j)), (2, .int (ptF K j i))]) X dX1_stepsToPort_65 3 rfl (nI_inc _) (by decide) rfl ?_
          refine g_goto X 5 dX1_stepsToPort_68 (by decide) ?_
          refine g_lv (lv' := [(0, .ref h0), (1, .int (nI j)), (2, .int (ptF K j i)), (3, .int (nI (i + 1)))]) X [1, 2, 3, 0] rfl ?_
          exact g_eq (ws' := [(h0, cO 1 [.ref q1, .ref q2, .ref q3]), (q1, cI d 36 K), (q2, cI d 36 L), (q3, cI d 5 S)]) (lv' := [(0, .ref h0), (1, .int (nI j)), (2, .int (ptF K j (i + 1))), (3, .int (nI (i + 1)))]) (rfl) (lv_cons (rfl) (lv_cons (rfl) (lv_cons (vI (ptF_n (by assumption))) (lv_cons (rfl) (rfl))))) (ih_5 (i + 1) (by first | assumption | omega) (by omega))
  refine g_lv (lv' := [(0, .ref h0), (1, .int (nI j)), (2, .int (-9)), (3, .int 0)]) X [2, 3, 1, 0] rfl ?_
  exact g_eq (ws' := [(h0, cO 1 [.ref q1, .ref q2, .ref q3]), (q1, cI d 36 K), (q2, cI d 36 L), (q3, cI d 5 S)]) (lv' := [(0, .ref h0), (1, .int (nI j)), (2, .int (ptF K j 0)), (3, .int (nI 0))]) (rfl) (lv_cons (rfl) (lv_cons (rfl) (lv_cons (vI (by rfl)) (lv_cons (vI (by rfl)) (rfl))))) (at_5 _ 0 (by first | assumption | omega) (Nat.lt_succ_self _))
set_option maxHeartbeats 4000000 in
set_option maxRecDepth 20000 in
theorem ct_X1_squareOfDraw (l : Launch) (d : KD) (h0 q1 q2 q3 : Nat) (K L S : Nat → Int32) (x : Int32) : Ct l d yX1_squareOfDraw cX1_squareOfDraw 4 (some .int) { frames := 2, cells := 0, slots := 0, locals := 41 } [.ref h0, .int x] [(h0, cO 1 [.ref q1, .ref q2, .ref q3]), (q1, cI d 36 K), (q2, cI d 36 L), (q3, cI d 5 S)] 0 0 (fun r wo => r = some (.int (sdF L 36 0 x)) ∧ wo = [(h0, cO 1 [.ref q1, .ref q2, .ref q3]), (q1, cI d 36 K), (q2, cI d 36 L), (q3, cI d 5 S)]) := by
  refine ct_of (own := RX1) (ini := false) (by decide +kernel) rfl (fun h => by cases h) (Nat.le_of_ble_eq_true rfl) ?_
  intro g X
  show g 0 0 [(h0, cO 1 [.ref q1, .ref q2, .ref q3]), (q1, cI d 36 K), (q2, cI d 36 L), (q3, cI d 5 S)] [(0, .ref h0), (1, .int x)] 0 []
  refine g_iload_n X dX1_squareOfDraw_0 rfl 1 rfl ?_
  refine g_istore_n (lv' := [(2, .int x), (0, .ref h0), (1, .int x)]) X dX1_squareOfDraw_1 rfl (by decide) rfl ?_
  refine g_iconst (v := 0) X dX1_squareOfDraw_2 (by decide) ?_
  refine g_istore_n (lv' := [(3, .int 0), (2, .int x), (0, .ref h0), (1, .int x)]) X dX1_squareOfDraw_3 rfl (by decide) rfl ?_
  have at_4 : ∀ (n_ : Nat) (i : Nat) (y : Int32) (hi : i ≤ 36) (hs : sdF L (36 - i) i y = sdF L 36 0 x), (36 - i) < n_ → g 0 0 [(h0, cO 1 [.ref q1, .ref q2, .ref q3]), (q1, cI d 36 K), (q2, cI d 36 L), (q3, cI d 5 S)] [(0, .ref h0), (2, .int y), (3, .int (nI i))] 4 [] := by
    intro n_
    induction n_ with
    | zero => intro i y hi hs hn_; exact absurd hn_ (Nat.not_lt_zero _)
    | succ n_ ih_4 =>
      intro i y hi hs hn_4
      refine g_iload_n X dX1_squareOfDraw_4 rfl 2 rfl ?_
      refine g_bipush (v := 36) X dX1_squareOfDraw_5 (by decide) ?_
      refine g_icmpN_ge (a := i) (b := 36) X rfl rfl (by omega) (by omega) 30 dX1_squareOfDraw_7 (by decide) (fun c7_1 => ?_) (fun c7_1 => ?_)
      · refine g_iconst (v := (-1)) X dX1_squareOfDraw_30 (by decide) ?_
        exact g_end X (gE_i dX1_squareOfDraw_31 (rfl) (Nat.le_of_ble_eq_true rfl) (Nat.le_of_ble_eq_true rfl) ⟨congrArg (fun z => some (Value.int z)) (by first | (rw [← hs, sdF_s (by omega), if_pos (Int32.not_le.mp (by assumption))]) | (rw [← hs, show i = 36 by omega]; rfl)), rfl⟩)
      · refine g_iload_n X dX1_squareOfDraw_10 rfl 1 rfl ?_
        refine g_aload_n X dX1_squareOfDraw_11 rfl 0 rfl ?_
        refine g_iload_n X dX1_squareOfDraw_12 rfl 2 rfl ?_
        refine g_dV (ci := 1) (q0 := 0) (n := 1) (wr := []) (ws' := [(h0, cO 1 [.ref q1, .ref q2, .ref q3]), (q1, cI d 36 K), (q2, cI d 36 L), (q3, cI d 5 S)]) (st' := [.int (L i), .int y]) (As := [.int (nI i)]) (st := [.int y]) X (ct_X1_likelyAt l d h0 q1 q2 q3 K L S i (by first | assumption | omega)) wd_491 wd_769 wd_489 wd_490 wd_53 hd_X1_likelyAt rfl ⟨(Nat.le_of_ble_eq_true rfl), (Nat.le_of_ble_eq_true rfl)⟩ rfl rfl dX1_squareOfDraw_13 ⟨(Nat.le_of_ble_eq_true rfl), (Nat.le_of_ble_eq_true rfl)⟩ rfl rfl (Nat.le_of_ble_eq_true rfl) [0, 1, 2, 3] [] rfl rfl rfl rfl rfl (by decide) rfl [0, 1, 2, 3] rfl rfl rfl rfl ?_
        refine g_isub X dX1_squareOfDraw_16 ?_
        refine g_istore_n (lv' := [(2, .int (y - (L i))), (0, .ref h0), (3, .int (nI i))]) X dX1_squareOfDraw_17 rfl (by decide) rfl ?_
        refine g_iload_n X dX1_squareOfDraw_18 rfl 0 rfl ?_
        refine g_if_ge X 24 dX1_squareOfDraw_19 (by decide) (fun c19_2 => ?_) (fun c19_2 => ?_)
        · refine g_iinc (v := nI (i + 1)) (lv' := [(3, .int (nI (i + 1))), (2, .int (y - (L i))), (0, .ref h0)]) X dX1_squareOfDraw_24 2 rfl (nI_inc _) (by decide) rfl ?_
          refine g_goto X 4 dX1_squareOfDraw_27 (by decide) ?_
          refine g_lv (lv' := [(0, .ref h0), (2, .int (y - (L i))), (3, .int (nI (i + 1)))]) X [2, 1, 0] rfl ?_
          exact g_eq (ws' := [(h0, cO 1 [.ref q1, .ref q2, .ref q3]), (q1, cI d 36 K), (q2, cI d 36 L), (q3, cI d 5 S)]) (lv' := [(0, .ref h0), (2, .int (y - L i)), (3, .int (nI (i + 1)))]) (rfl) (lv_cons (rfl) (lv_cons (vI (by rfl)) (lv_cons (rfl) (rfl)))) (ih_4 (i + 1) (y - L i) (by first | assumption | omega) ((sdF_b (by omega) (by assumption)).trans hs) (by omega))
        · refine g_iload_n X dX1_squareOfDraw_22 rfl 2 rfl ?_
          exact g_end X (gE_i dX1_squareOfDraw_23 (rfl) (Nat.le_of_ble_eq_true rfl) (Nat.le_of_ble_eq_true rfl) ⟨congrArg (fun z => some (Value.int z)) (by first | (rw [← hs, sdF_s (by omega), if_pos (Int32.not_le.mp (by assumption))]) | (rw [← hs, show i = 36 by omega]; rfl)), rfl⟩)
  refine g_lv (lv' := [(0, .ref h0), (2, .int x), (3, .int 0)]) X [2, 1, 0] rfl ?_
  exact g_eq (ws' := [(h0, cO 1 [.ref q1, .ref q2, .ref q3]), (q1, cI d 36 K), (q2, cI d 36 L), (q3, cI d 5 S)]) (lv' := [(0, .ref h0), (2, .int x), (3, .int (nI 0))]) (rfl) (lv_cons (rfl) (lv_cons (rfl) (lv_cons (vI (by rfl)) (rfl)))) (at_4 _ 0 x (by first | assumption | omega) (by rfl) (Nat.lt_succ_self _))
set_option maxHeartbeats 4000000 in
set_option maxRecDepth 20000 in
theorem ct_X1_takeFrom (l : Launch) (d : KD) (h0 q1 q2 q3 g0 p1 p2 p3 : Nat) (K L S K2 L2 S2 : Nat → Int32) : Ct l d yX1_takeFrom cX1_takeFrom 2 none { frames := 1, cells := 0, slots := 0, locals := 26 } [.ref h0, .ref g0] [(h0, cO 1 [.ref q1, .ref q2, .ref q3]), (q1, cI d 36 K), (q2, cI d 36 L), (q3, cI d 5 S), (g0, cO 1 [.ref p1, .ref p2, .ref p3]), (p1, cI d 36 K2), (p2, cI d 36 L2), (p3, cI d 5 S2)] 0 0 (fun r wo => r = none ∧ wo = [(h0, cO 1 [.ref q1, .ref q2, .ref q3]), (q1, cI d 36 K2), (q2, cI d 36 L2), (q3, cI d 5 S2), (g0, cO 1 [.ref p1, .ref p2, .ref p3]), (p1, cI d 36 K2), (p2, cI d 36 L2), (p3, cI d 5 S2)]) := by
  refine ct_of (own := RX1) (ini := false) (by decide +kernel) rfl (fun h => by cases h) (Nat.le_of_ble_eq_true rfl) ?_
  intro g X
  show g 0 0 [(h0, cO 1 [.ref q1, .ref q2, .ref q3]), (q1, cI d 36 K), (q2, cI d 36 L), (q3, cI d 5 S), (g0, cO 1 [.ref p1, .ref p2, .ref p3]), (p1, cI d 36 K2), (p2, cI d 36 L2), (p3, cI d 5 S2)] [(0, .ref h0), (1, .ref g0)] 0 []
  refine g_aload_n X dX1_takeFrom_0 rfl 1 rfl ?_
  refine g_get (C := RX1) (T := TX1) (N := 3) (ci := 1) (v := .ref p1) X rfl inT1 0 (by decide) wd_81 rfl dX1_takeFrom_1 4 rfl rfl ?_
  refine g_iconst (v := 0) X dX1_takeFrom_4 (by decide) ?_
  refine g_aload_n X dX1_takeFrom_5 rfl 0 rfl ?_
  refine g_get (C := RX1) (T := TX1) (N := 3) (ci := 1) (v := .ref q1) X rfl inT1 0 (by decide) wd_81 rfl dX1_takeFrom_6 0 rfl rfl ?_
  refine g_iconst (v := 0) X dX1_takeFrom_9 (by decide) ?_
  refine g_bipush (v := 36) X dX1_takeFrom_10 (by decide) ?_
  refine g_copyi (ws' := [(h0, cO 1 [.ref q1, .ref q2, .ref q3]), (q1, cI d 36 (va_cpy K2 K (0 : Int32).toNatClampNeg (0 : Int32).toNatClampNeg (36 : Int32).toNatClampNeg)), (q2, cI d 36 L), (q3, cI d 5 S), (g0, cO 1 [.ref p1, .ref p2, .ref p3]), (p1, cI d 36 K2), (p2, cI d 36 L2), (p3, cI d 5 S2)]) X wd_339 wd_341 wd_340 wd_65 rfl (Nat.le_of_ble_eq_true rfl) (Nat.le_of_ble_eq_true rfl) dX1_takeFrom_12 5 1 rfl rfl (by decide) (by decide) (by decide) (by decide) (by decide) rfl ?_
  refine g_ext (ws' := [(h0, cO 1 [.ref q1, .ref q2, .ref q3]), (q1, cI d 36 K2), (q2, cI d 36 L), (q3, cI d 5 S), (g0, cO 1 [.ref p1, .ref p2, .ref p3]), (p1, cI d 36 K2), (p2, cI d 36 L2), (p3, cI d 5 S2)]) (h := K2) X 1 rfl (cpy36 rfl) rfl ?_
  refine g_aload_n X dX1_takeFrom_15 rfl 1 rfl ?_
  refine g_get (C := RX1) (T := TX1) (N := 3) (ci := 1) (v := .ref p2) X rfl inT1 1 (by decide) wd_82 rfl dX1_takeFrom_16 4 rfl rfl ?_
  refine g_iconst (v := 0) X dX1_takeFrom_19 (by decide) ?_
  refine g_aload_n X dX1_takeFrom_20 rfl 0 rfl ?_
  refine g_get (C := RX1) (T := TX1) (N := 3) (ci := 1) (v := .ref q2) X rfl inT1 1 (by decide) wd_82 rfl dX1_takeFrom_21 0 rfl rfl ?_
  refine g_iconst (v := 0) X dX1_takeFrom_24 (by decide) ?_
  refine g_bipush (v := 36) X dX1_takeFrom_25 (by decide) ?_
  refine g_copyi (ws' := [(h0, cO 1 [.ref q1, .ref q2, .ref q3]), (q1, cI d 36 K2), (q2, cI d 36 (va_cpy L2 L (0 : Int32).toNatClampNeg (0 : Int32).toNatClampNeg (36 : Int32).toNatClampNeg)), (q3, cI d 5 S), (g0, cO 1 [.ref p1, .ref p2, .ref p3]), (p1, cI d 36 K2), (p2, cI d 36 L2), (p3, cI d 5 S2)]) X wd_339 wd_341 wd_340 wd_65 rfl (Nat.le_of_ble_eq_true rfl) (Nat.le_of_ble_eq_true rfl) dX1_takeFrom_27 6 2 rfl rfl (by decide) (by decide) (by decide) (by decide) (by decide) rfl ?_
  refine g_ext (ws' := [(h0, cO 1 [.ref q1, .ref q2, .ref q3]), (q1, cI d 36 K2), (q2, cI d 36 L2), (q3, cI d 5 S), (g0, cO 1 [.ref p1, .ref p2, .ref p3]), (p1, cI d 36 K2), (p2, cI d 36 L2), (p3, cI d 5 S2)]) (h := L2) X 2 rfl (cpy36 rfl) rfl ?_
  refine g_aload_n X dX1_takeFrom_30 rfl 1 rfl ?_
  refine g_get (C := RX1) (T := TX1) (N := 3) (ci := 1) (v := .ref p3) X rfl inT1 2 (by decide) wd_83 rfl dX1_takeFrom_31 4 rfl rfl ?_
  refine g_iconst (v := 0) X dX1_takeFrom_34 (by decide) ?_
  refine g_aload_n X dX1_takeFrom_35 rfl 0 rfl ?_
  refine g_get (C := RX1) (T := TX1) (N := 3) (ci := 1) (v := .ref q3) X rfl inT1 2 (by decide) wd_83 rfl dX1_takeFrom_36 0 rfl rfl ?_
  refine g_iconst (v := 0) X dX1_takeFrom_39 (by decide) ?_
  refine g_iconst (v := 5) X dX1_takeFrom_40 (by decide) ?_
  refine g_copyi (ws' := [(h0, cO 1 [.ref q1, .ref q2, .ref q3]), (q1, cI d 36 K2), (q2, cI d 36 L2), (q3, cI d 5 (va_cpy S2 S (0 : Int32).toNatClampNeg (0 : Int32).toNatClampNeg (5 : Int32).toNatClampNeg)), (g0, cO 1 [.ref p1, .ref p2, .ref p3]), (p1, cI d 36 K2), (p2, cI d 36 L2), (p3, cI d 5 S2)]) X wd_339 wd_341 wd_340 wd_65 rfl (Nat.le_of_ble_eq_true rfl) (Nat.le_of_ble_eq_true rfl) dX1_takeFrom_41 7 3 rfl rfl (by decide) (by decide) (by decide) (by decide) (by decide) rfl ?_
  refine g_ext (ws' := [(h0, cO 1 [.ref q1, .ref q2, .ref q3]), (q1, cI d 36 K2), (q2, cI d 36 L2), (q3, cI d 5 S2), (g0, cO 1 [.ref p1, .ref p2, .ref p3]), (p1, cI d 36 K2), (p2, cI d 36 L2), (p3, cI d 5 S2)]) (h := S2) X 3 rfl (cpy36 rfl) rfl ?_
  exact g_end X (gE_v dX1_takeFrom_44 (Nat.le_of_ble_eq_true rfl) (Nat.le_of_ble_eq_true rfl) ⟨rfl, rfl⟩)
