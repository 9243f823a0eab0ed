theorem hd_J0_indexOf_0f7a4 : yJ0_indexOf_0f7a4.cls = "java/lang/String" ∧ yJ0_indexOf_0f7a4.cls ≠ "java/lang/invoke/MethodHandle" ∧ yJ0_indexOf_0f7a4.cls ≠ "java/lang/invoke/VarHandle" ∧ (parseMethodDescriptor yJ0_indexOf_0f7a4.desc).map (fun d => d.parameters.length) = some 1 := by decide +kernel
set_option maxHeartbeats 4000000 in
set_option maxRecDepth 20000 in
theorem ct_X4_letterAt (l : Launch) (d : KD) (e0 e1 tn : Nat) (A : Nat → Nat) (p : Nat) (htn : tn ≤ 96) (hp : p < 2147483648) : Ct l d yX4_letterAt cX4_letterAt 2 (some .int) { frames := 0, cells := 0, slots := 0, locals := 0 } [.ref e0, .int (nI p)] [(e0, cO 4 [.ref e1, .int (nI tn)]), (e1, cI d 96 (nF A))] 0 0 (fun r wo => r = some (.int (ltA A tn p)) ∧ wo = [(e0, cO 4 [.ref e1, .int (nI tn)]), (e1, cI d 96 (nF A))]) := by
  refine ct_of (own := RX4) (ini := false) (by decide +kernel) rfl (fun h => by cases h) (Nat.le_of_ble_eq_true rfl) ?_
  intro g X
  show g 0 0 [(e0, cO 4 [.ref e1, .int (nI tn)]), (e1, cI d 96 (nF A))] [(0, .ref e0), (1, .int (nI p))] 0 []
  refine g_iload_n X dX4_letterAt_0 rfl 1 rfl ?_
  refine g_ifN_lt (a := p) X rfl (by omega) 30 dX4_letterAt_1 (by decide) (fun c1_1 => absurd c1_1 (by omega)) (fun c1_1 => ?_)
  refine g_iload_n X dX4_letterAt_4 rfl 1 rfl ?_
  refine g_aload_n X dX4_letterAt_5 rfl 0 rfl ?_
  refine g_get (C := RX4) (T := TX4) (N := 2) (ci := 4) (v := .int (nI tn)) X rfl inT4 1 (by decide) wd_99 rfl dX4_letterAt_6 0 rfl rfl ?_
  refine g_icmpN_ge (a := p) (b := tn) X rfl rfl (by omega) (by omega) 30 dX4_letterAt_9 (by decide) (fun c9_2 => ?_) (fun c9_2 => ?_)
  · refine g_iconst (v := (-1)) X dX4_letterAt_30 (by decide) ?_
    exact g_end X (gE_i dX4_letterAt_31 (rfl) (Nat.le_of_ble_eq_true rfl) (Nat.le_of_ble_eq_true rfl) ⟨congrArg (fun z => some (Value.int z)) (by first | exact (if_pos (by omega)).symm | exact (if_neg (by omega)).symm), rfl⟩)
  · refine g_iload_n X dX4_letterAt_12 rfl 1 rfl ?_
    refine g_aload_n X dX4_letterAt_13 rfl 0 rfl ?_
    refine g_get (C := RX4) (T := TX4) (N := 2) (ci := 4) (v := .ref e1) X rfl inT4 0 (by decide) wd_98 rfl dX4_letterAt_14 0 rfl rfl ?_
    refine g_alen (v := 96) X dX4_letterAt_17 1 rfl (by rfl) ?_
    refine g_icmpN_ge (a := p) (b := 96) X rfl rfl (by omega) (by omega) 30 dX4_letterAt_18 (by decide) (fun c18_3 => absurd c18_3 (by omega)) (fun c18_3 => ?_)
    refine g_aload_n X dX4_letterAt_21 rfl 0 rfl ?_
    refine g_get (C := RX4) (T := TX4) (N := 2) (ci := 4) (v := .ref e1) X rfl inT4 0 (by decide) wd_98 rfl dX4_letterAt_22 0 rfl rfl ?_
    refine g_iload_n X dX4_letterAt_25 rfl 1 rfl ?_
    refine g_iaload_N (k := p) X rfl dX4_letterAt_26 1 rfl (by first | assumption | omega) (by omega) ?_
    refine g_goto X 31 dX4_letterAt_27 (by decide) ?_
    exact g_end X (gE_i dX4_letterAt_31 (rfl) (Nat.le_of_ble_eq_true rfl) (Nat.le_of_ble_eq_true rfl) ⟨congrArg (fun z => some (Value.int z)) (by first | exact (if_pos (by omega)).symm | exact (if_neg (by omega)).symm), rfl⟩)
set_option maxHeartbeats 4000000 in
set_option maxRecDepth 20000 in
theorem ct_X4_formBehind (l : Launch) (d : KD) (x : Int32) : Ct l d yX4_formBehind cX4_formBehind 1 (some (.object "java/lang/String")) { frames := 0, cells := 0, slots := 0, locals := 0 } [.int x] [] 0 0 (fun r wo => r = some (.ref (kS d (fbi x))) ∧ wo = []) := by
  refine ct_of (own := RX4) (ini := false) (by decide +kernel) rfl (fun h => by cases h) (Nat.le_of_ble_eq_true rfl) ?_
  intro g X
  show g 0 0 [] [(0, .int x)] 0 []
  refine g_iload_n X dX4_formBehind_0 rfl 0 rfl ?_
  rcases Classical.em (x = 99) with k1_1 | k1_1
  · subst k1_1
    refine g_tableIn (off := 107) X 108 dX4_formBehind_1 (by decide) (by decide) (by decide +kernel) (by decide) ?_
    refine g_ldcS (i := 4) (tx := "0000;") X (by decide +kernel) dX4_formBehind_108 ?_
    exact g_end X (gE_a dX4_formBehind_110 (Nat.le_of_ble_eq_true rfl) (Nat.le_of_ble_eq_true rfl) ⟨congrArg (fun z => some (Value.ref z)) (congrArg (kS d) (by first | decide | exact fbi_6 nt_1)), rfl⟩)
  rcases Classical.em (x = 100) with k1_2 | k1_2
  · subst k1_2
    refine g_tableIn (off := 104) X 105 dX4_formBehind_1 (by decide) (by decide) (by decide +kernel) (by decide) ?_
    refine g_ldcS (i := 3) (tx := "00;") X (by decide +kernel) dX4_formBehind_105 ?_
    exact g_end X (gE_a dX4_formBehind_107 (Nat.le_of_ble_eq_true rfl) (Nat.le_of_ble_eq_true rfl) ⟨congrArg (fun z => some (Value.ref z)) (congrArg (kS d) (by first | decide | exact fbi_6 nt_1)), rfl⟩)
  rcases Classical.em (x = 104) with k1_3 | k1_3
  · subst k1_3
    refine g_tableIn (off := 104) X 105 dX4_formBehind_1 (by decide) (by decide) (by decide +kernel) (by decide) ?_
    refine g_ldcS (i := 3) (tx := "00;") X (by decide +kernel) dX4_formBehind_105 ?_
    exact g_end X (gE_a dX4_formBehind_107 (Nat.le_of_ble_eq_true rfl) (Nat.le_of_ble_eq_true rfl) ⟨congrArg (fun z => some (Value.ref z)) (congrArg (kS d) (by first | decide | exact fbi_6 nt_1)), rfl⟩)
  rcases Classical.em (x = 107) with k1_4 | k1_4
  · subst k1_4
    refine g_tableIn (off := 95) X 96 dX4_formBehind_1 (by decide) (by decide) (by decide +kernel) (by decide) ?_
    refine g_ldcS (i := 0) (tx := "K00;") X (by decide +kernel) dX4_formBehind_96 ?_
    exact g_end X (gE_a dX4_formBehind_98 (Nat.le_of_ble_eq_true rfl) (Nat.le_of_ble_eq_true rfl) ⟨congrArg (fun z => some (Value.ref z)) (congrArg (kS d) (by first | decide | exact fbi_6 nt_1)), rfl⟩)
  rcases Classical.em (x = 108) with k1_5 | k1_5
  · subst k1_5
    refine g_tableIn (off := 101) X 102 dX4_formBehind_1 (by decide) (by decide) (by decide +kernel) (by decide) ?_
    refine g_ldcS (i := 2) (tx := "00000;") X (by decide +kernel) dX4_formBehind_102 ?_
    exact g_end X (gE_a dX4_formBehind_104 (Nat.le_of_ble_eq_true rfl) (Nat.le_of_ble_eq_true rfl) ⟨congrArg (fun z => some (Value.ref z)) (congrArg (kS d) (by first | decide | exact fbi_6 nt_1)), rfl⟩)
  rcases Classical.em (x = 115) with k1_6 | k1_6
  · subst k1_6
    refine g_tableIn (off := 110) X 111 dX4_formBehind_1 (by decide) (by decide) (by decide +kernel) (by decide) ?_
    refine g_ldcS (i := 5) (tx := "S00;") X (by decide +kernel) dX4_formBehind_111 ?_
    exact g_end X (gE_a dX4_formBehind_113 (Nat.le_of_ble_eq_true rfl) (Nat.le_of_ble_eq_true rfl) ⟨congrArg (fun z => some (Value.ref z)) (congrArg (kS d) (by first | decide | exact fbi_6 nt_1)), rfl⟩)
  rcases Classical.em (x = 118) with k1_7 | k1_7
  · subst k1_7
    refine g_tableIn (off := 98) X 99 dX4_formBehind_1 (by decide) (by decide) (by decide +kernel) (by decide) ?_
    refine g_ldcS (i := 1) (tx := "K0000;") X (by decide +kernel) dX4_formBehind_99 ?_
    exact g_end X (gE_a dX4_formBehind_101 (Nat.le_of_ble_eq_true rfl) (Nat.le_of_ble_eq_true rfl) ⟨congrArg (fun z => some (Value.ref z)) (congrArg (kS d) (by first | decide | exact fbi_6 nt_1)), rfl⟩)
  have nt_1 : ¬ (x).toInt = 99 ∧ ¬ (x).toInt = 100 ∧ ¬ (x).toInt = 104 ∧ ¬ (x).toInt = 107 ∧ ¬ (x).toInt = 108 ∧ ¬ (x).toInt = 115 ∧ ¬ (x).toInt = 118 := by refine ⟨lv_neT k1_1 rfl, lv_neT k1_2 rfl, lv_neT k1_3 rfl, lv_neT k1_4 rfl, lv_neT k1_5 rfl, lv_neT k1_6 rfl, lv_neT k1_7 rfl⟩
  by_cases hr_ : 99 ≤ (x).toInt ∧ (x).toInt ≤ 118
  · refine g_tableIn (off := 113) X 114 dX4_formBehind_1 (by omega) (by omega) ((by decide +kernel : ∀ n : Nat, n < 20 → (¬ n = 0 ∧ ¬ n = 1 ∧ ¬ n = 5 ∧ ¬ n = 8 ∧ ¬ n = 9 ∧ ¬ n = 16 ∧ ¬ n = 19) → (#[107, 104, 113, 113, 113, 104, 113, 113, 95, 101, 113, 113, 113, 113, 113, 113, 110, 113, 113, 98] : Array Int)[n]? = some 113) _ (by omega) ⟨by omega, by omega, by omega, by omega, by omega, by omega, by omega⟩) (by decide) ?_
    refine g_ldcS (i := 6) (tx := "") X (by decide +kernel) dX4_formBehind_114 ?_
    exact g_end X (gE_a dX4_formBehind_116 (Nat.le_of_ble_eq_true rfl) (Nat.le_of_ble_eq_true rfl) ⟨congrArg (fun z => some (Value.ref z)) (congrArg (kS d) (by first | decide | exact fbi_6 nt_1)), rfl⟩)
  refine g_tableOut X 114 dX4_formBehind_1 (by omega) (by decide) ?_
  refine g_ldcS (i := 6) (tx := "") X (by decide +kernel) dX4_formBehind_114 ?_
  exact g_end X (gE_a dX4_formBehind_116 (Nat.le_of_ble_eq_true rfl) (Nat.le_of_ble_eq_true rfl) ⟨congrArg (fun z => some (Value.ref z)) (congrArg (kS d) (by first | decide | exact fbi_6 nt_1)), rfl⟩)
set_option maxHeartbeats 4000000 in
set_option maxRecDepth 20000 in
theorem ct_X4_suitsForm (l : Launch) (d : KD) (f y : Int32) (hy : y < 256) : Ct l d yX4_suitsForm cX4_suitsForm 2 (some .boolean) { frames := 4, cells := 0, slots := 0, locals := 91 } [.int f, .int y] [] 0 0 (fun r wo => r = some (.int (b2i (sut f y))) ∧ wo = []) := by
  refine ct_of (own := RX4) (ini := false) (by decide +kernel) rfl (fun h => by cases h) (Nat.le_of_ble_eq_true rfl) ?_
  intro g X
  show g 0 0 [] [(0, .int f), (1, .int y)] 0 []
  refine g_iload_n X dX4_suitsForm_0 rfl 1 rfl ?_
  refine g_if_ge X 6 dX4_suitsForm_1 (by decide) (fun c1_1 => ?_) (fun c1_1 => ?_)
  · have hy8 := i0_255 c1_1 (by grind)
    obtain ⟨j_y, hj_y, rfl⟩ := hy8
    have hcl_j_y : (nI j_y).toNatClampNeg = j_y := nI_clamp (by omega)
    refine g_iload_n X dX4_suitsForm_6 rfl 0 rfl ?_
    rcases Classical.em (f = 48) with k7_2 | k7_2
    · subst k7_2
      refine g_lookup (off := 65) X 72 dX4_suitsForm_7 (by decide) (by decide +kernel) (by decide) ?_
      refine g_iload_n X dX4_suitsForm_72 rfl 1 rfl ?_
      refine g_bipush (v := 48) X dX4_suitsForm_73 (by decide) ?_
      refine g_icmp_lt X 88 dX4_suitsForm_75 (by decide) (fun c75_3 => ?_) (fun c75_3 => ?_)
      · refine g_iconst (v := 0) X dX4_suitsForm_88 (by decide) ?_
        exact g_end X (gE_i dX4_suitsForm_89 (rfl) (Nat.le_of_ble_eq_true rfl) (Nat.le_of_ble_eq_true rfl) ⟨congrArg (fun z => some (Value.int z)) (by first | exact (b2i_t (by grind)).symm | exact (b2i_f (by grind)).symm), rfl⟩)
      · refine g_iload_n X dX4_suitsForm_78 rfl 1 rfl ?_
        refine g_bipush (v := 57) X dX4_suitsForm_79 (by decide) ?_
        refine g_icmp_gt X 88 dX4_suitsForm_81 (by decide) (fun c81_4 => ?_) (fun c81_4 => ?_)
        · refine g_iconst (v := 0) X dX4_suitsForm_88 (by decide) ?_
          exact g_end X (gE_i dX4_suitsForm_89 (rfl) (Nat.le_of_ble_eq_true rfl) (Nat.le_of_ble_eq_true rfl) ⟨congrArg (fun z => some (Value.int z)) (by first | exact (b2i_t (by grind)).symm | exact (b2i_f (by grind)).symm), rfl⟩)
        · refine g_iconst (v := 1) X dX4_suitsForm_84 (by decide) ?_
          refine g_goto X 89 dX4_suitsForm_85 (by decide) ?_
          exact g_end X (gE_i dX4_suitsForm_89 (rfl) (Nat.le_of_ble_eq_true rfl) (Nat.le_of_ble_eq_true rfl) ⟨congrArg (fun z => some (Value.int z)) (by first | exact (b2i_t (by grind)).symm | exact (b2i_f (by grind)).symm), rfl⟩)
    rcases Classical.em (f = 75) with k7_5 | k7_5
    · subst k7_5
      refine g_lookup (off := 33) X 40 dX4_suitsForm_7 (by decide) (by decide +kernel) (by decide) ?_
      refine g_ldcS (i := 7) (tx := "osrfcp") X (by decide +kernel) dX4_suitsForm_40 ?_
      refine g_iload_n X dX4_suitsForm_42 rfl 1 rfl ?_
      refine g_i2c X dX4_suitsForm_43 ?_
      refine g_tope (y := nI j_y) (i2c_n (by omega)) ?_
      refine g_dVS (n := 1) (st' := [.int (ixo 7 j_y)]) (As := [.int (nI j_y)]) (st := []) X 7 (by omega) (ct_J0_indexOf_0f7a4 l d 7 j_y (by first | assumption | omega) (by first | assumption | omega) (by decide)) wd_278 wd_275 wd_276 wd_277 wd_59 hd_J0_indexOf_0f7a4 ⟨(Nat.le_of_ble_eq_true rfl), (Nat.le_of_ble_eq_true rfl)⟩ rfl rfl dX4_suitsForm_44 ⟨(Nat.le_of_ble_eq_true rfl), (Nat.le_of_ble_eq_true rfl)⟩ rfl rfl (Nat.le_of_ble_eq_true rfl) [] rfl rfl rfl ?_
      refine g_if_lt X 54 dX4_suitsForm_47 (by decide) (fun c47_6 => ?_) (fun c47_6 => ?_)
      · refine g_iconst (v := 0) X dX4_suitsForm_54 (by decide) ?_
        exact g_end X (gE_i dX4_suitsForm_55 (rfl) (Nat.le_of_ble_eq_true rfl) (Nat.le_of_ble_eq_true rfl) ⟨congrArg (fun z => some (Value.int z)) (by first | exact (b2i_t (by grind)).symm | exact (b2i_f (by grind)).symm), rfl⟩)
      · refine g_iconst (v := 1) X dX4_suitsForm_50 (by decide) ?_
        refine g_goto X 55 dX4_suitsForm_51 (by decide) ?_
        exact g_end X (gE_i dX4_suitsForm_55 (rfl) (Nat.le_of_ble_eq_true rfl) (Nat.le_of_ble_eq_true rfl) ⟨congrArg (fun z => some (Value.int z)) (by first | exact (b2i_t (by grind)).symm | exact (b2i_f (by grind)).symm), rfl⟩)
    rcases Classical.em (f = 83) with k7_7 | k7_7
    · subst k7_7
      refine g_lookup (off := 49) X 56 dX4_suitsForm_7 (by decide) (by decide +kernel) (by decide) ?_
      refine g_ldcS (i := 8) (tx := "dbrcsp") X (by decide +kernel) dX4_suitsForm_56 ?_
      refine g_iload_n X dX4_suitsForm_58 rfl 1 rfl ?_
      refine g_i2c X dX4_suitsForm_59 ?_
      refine g_tope (y := nI j_y) (i2c_n (by omega)) ?_
      refine g_dVS (n := 1) (st' := [.int (ixo 8 j_y)]) (As := [.int (nI j_y)]) (st := []) X 8 (by omega) (ct_J0_indexOf_0f7a4 l d 8 j_y (by first | assumption | omega) (by first | assumption | omega) (by decide)) wd_278 wd_275 wd_276 wd_277 wd_59 hd_J0_indexOf_0f7a4 ⟨(Nat.le_of_ble_eq_true rfl), (Nat.le_of_ble_eq_true rfl)⟩ rfl rfl dX4_suitsForm_60 ⟨(Nat.le_of_ble_eq_true rfl), (Nat.le_of_ble_eq_true rfl)⟩ rfl rfl (Nat.le_of_ble_eq_true rfl) [] rfl rfl rfl ?_
      refine g_if_lt X 70 dX4_suitsForm_63 (by decide) (fun c63_8 => ?_) (fun c63_8 => ?_)
      · refine g_iconst (v := 0) X dX4_suitsForm_70 (by decide) ?_
        exact g_end X (gE_i dX4_suitsForm_71 (rfl) (Nat.le_of_ble_eq_true rfl) (Nat.le_of_ble_eq_true rfl) ⟨congrArg (fun z => some (Value.int z)) (by first | exact (b2i_t (by grind)).symm | exact (b2i_f (by grind)).symm), rfl⟩)
      · refine g_iconst (v := 1) X dX4_suitsForm_66 (by decide) ?_
        refine g_goto X 71 dX4_suitsForm_67 (by decide) ?_
        exact g_end X (gE_i dX4_suitsForm_71 (rfl) (Nat.le_of_ble_eq_true rfl) (Nat.le_of_ble_eq_true rfl) ⟨congrArg (fun z => some (Value.int z)) (by first | exact (b2i_t (by grind)).symm | exact (b2i_f (by grind)).symm), rfl⟩)
    refine g_lookup (off := 83) X 90 dX4_suitsForm_7 (by decide) (by show Op.lookupswitch.offset [(48, 65), (75, 33), (83, 49)] (83) (f).toInt = 83; rw [lv_osw (a := 48) k7_2 rfl]; rw [lv_osw (a := 75) k7_5 rfl]; rw [lv_osw (a := 83) k7_7 rfl]; rfl) (by decide) ?_
    refine g_iload_n X dX4_suitsForm_90 rfl 1 rfl ?_
    refine g_iload_n X dX4_suitsForm_91 rfl 0 rfl ?_
    refine g_icmp_ne X 99 dX4_suitsForm_92 (by decide) (fun c92_9 => ?_) (fun c92_9 => ?_)
    · refine g_iconst (v := 0) X dX4_suitsForm_99 (by decide) ?_
      exact g_end X (gE_i dX4_suitsForm_100 (rfl) (Nat.le_of_ble_eq_true rfl) (Nat.le_of_ble_eq_true rfl) ⟨congrArg (fun z => some (Value.int z)) (by first | exact (b2i_t (by grind)).symm | exact (b2i_f (by grind)).symm), rfl⟩)
    · refine g_iconst (v := 1) X dX4_suitsForm_95 (by decide) ?_
      refine g_goto X 100 dX4_suitsForm_96 (by decide) ?_
      exact g_end X (gE_i dX4_suitsForm_100 (rfl) (Nat.le_of_ble_eq_true rfl) (Nat.le_of_ble_eq_true rfl) ⟨congrArg (fun z => some (Value.int z)) (by first | exact (b2i_t (by grind)).symm | exact (b2i_f (by grind)).symm), rfl⟩)
  · refine g_iconst (v := 0) X dX4_suitsForm_4 (by decide) ?_
    exact g_end X (gE_i dX4_suitsForm_5 (rfl) (Nat.le_of_ble_eq_true rfl) (Nat.le_of_ble_eq_true rfl) ⟨congrArg (fun z => some (Value.int z)) (by first | exact (b2i_t (by grind)).symm | exact (b2i_f (by grind)).symm), rfl⟩)
