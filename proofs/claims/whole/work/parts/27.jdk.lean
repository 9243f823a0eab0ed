theorem hd_J0_checkIndex_df160 : yJ0_checkIndex_df160.cls ≠ "java/lang/invoke/MethodHandle" ∧ yJ0_checkIndex_df160.cls ≠ "java/lang/invoke/VarHandle" ∧ (parseMethodDescriptor yJ0_checkIndex_df160.desc).map (fun d => d.parameters.length) = some 2 := by decide +kernel
theorem hd_J0_coder_7d493 : yJ0_coder_7d493.cls = "java/lang/String" ∧ yJ0_coder_7d493.cls ≠ "java/lang/invoke/MethodHandle" ∧ yJ0_coder_7d493.cls ≠ "java/lang/invoke/VarHandle" ∧ (parseMethodDescriptor yJ0_coder_7d493.desc).map (fun d => d.parameters.length) = some 0 := by decide +kernel
theorem hd_J0_indexOf_7cf53 : yJ0_indexOf_7cf53.cls = "java/lang/String" ∧ yJ0_indexOf_7cf53.cls ≠ "java/lang/invoke/MethodHandle" ∧ yJ0_indexOf_7cf53.cls ≠ "java/lang/invoke/VarHandle" ∧ (parseMethodDescriptor yJ0_indexOf_7cf53.desc).map (fun d => d.parameters.length) = some 2 := by decide +kernel
theorem hd_J0_isLatin1_aae02 : yJ0_isLatin1_aae02.cls = "java/lang/String" ∧ yJ0_isLatin1_aae02.cls ≠ "java/lang/invoke/MethodHandle" ∧ yJ0_isLatin1_aae02.cls ≠ "java/lang/invoke/VarHandle" ∧ (parseMethodDescriptor yJ0_isLatin1_aae02.desc).map (fun d => d.parameters.length) = some 0 := by decide +kernel
theorem hd_J0_length_8abf5 : yJ0_length_8abf5.cls = "java/lang/String" ∧ yJ0_length_8abf5.cls ≠ "java/lang/invoke/MethodHandle" ∧ yJ0_length_8abf5.cls ≠ "java/lang/invoke/VarHandle" ∧ (parseMethodDescriptor yJ0_length_8abf5.desc).map (fun d => d.parameters.length) = some 0 := by decide +kernel
theorem hd_J1_canEncode_9a6ad : yJ1_canEncode_9a6ad.cls ≠ "java/lang/invoke/MethodHandle" ∧ yJ1_canEncode_9a6ad.cls ≠ "java/lang/invoke/VarHandle" ∧ (parseMethodDescriptor yJ1_canEncode_9a6ad.desc).map (fun d => d.parameters.length) = some 1 := by decide +kernel
theorem hd_J1_charAt_3b067 : yJ1_charAt_3b067.cls ≠ "java/lang/invoke/MethodHandle" ∧ yJ1_charAt_3b067.cls ≠ "java/lang/invoke/VarHandle" ∧ (parseMethodDescriptor yJ1_charAt_3b067.desc).map (fun d => d.parameters.length) = some 2 := by decide +kernel
theorem hd_J1_indexOfChar_4cfef : yJ1_indexOfChar_4cfef.cls ≠ "java/lang/invoke/MethodHandle" ∧ yJ1_indexOfChar_4cfef.cls ≠ "java/lang/invoke/VarHandle" ∧ (parseMethodDescriptor yJ1_indexOfChar_4cfef.desc).map (fun d => d.parameters.length) = some 4 := by decide +kernel
theorem hd_J1_indexOf_4cfef : yJ1_indexOf_4cfef.cls ≠ "java/lang/invoke/MethodHandle" ∧ yJ1_indexOf_4cfef.cls ≠ "java/lang/invoke/VarHandle" ∧ (parseMethodDescriptor yJ1_indexOf_4cfef.desc).map (fun d => d.parameters.length) = some 4 := by decide +kernel
theorem hd_J3_checkIndex_8e157 : yJ3_checkIndex_8e157.cls ≠ "java/lang/invoke/MethodHandle" ∧ yJ3_checkIndex_8e157.cls ≠ "java/lang/invoke/VarHandle" ∧ (parseMethodDescriptor yJ3_checkIndex_8e157.desc).map (fun d => d.parameters.length) = some 3 := by decide +kernel
set_option maxHeartbeats 4000000 in
set_option maxRecDepth 20000 in
theorem ct_J0_coder_7d493 (l : Launch) (d : KD) (i : Nat) (hi9 : i < 9) : Ct l d yJ0_coder_7d493 cJ0_coder_7d493 1 (some .byte) { frames := 0, cells := 0, slots := 0, locals := 0 } [.ref (kS d i)] [] 0 0 (fun r wo => r = some (.int 0) ∧ wo = []) := by
  refine ct_of (own := RJ0) (ini := false) (by decide +kernel) rfl (fun h => by cases h) (Nat.le_of_ble_eq_true rfl) ?_
  intro g X
  show g 0 0 [] [(0, .ref (kS d i))] 0 []
  refine g_getsC X wd_231 dJ0_coder_7d493_0 ?_
  refine g_if_eq X 13 dJ0_coder_7d493_3 (by decide) (fun h => absurd h (by decide)) (fun _ => ?_)
  refine g_aload_n X dJ0_coder_7d493_6 rfl 0 rfl ?_
  refine g_getStrC X i (by first | assumption | omega) wd_1103 dJ0_coder_7d493_7 ?_
  refine g_goto X 14 dJ0_coder_7d493_10 (by decide) ?_
  exact g_end X (gE_i dJ0_coder_7d493_14 (rfl) (Nat.le_of_ble_eq_true rfl) (Nat.le_of_ble_eq_true rfl) ⟨rfl, rfl⟩)
set_option maxHeartbeats 4000000 in
set_option maxRecDepth 20000 in
theorem ct_J0_length_8abf5 (l : Launch) (d : KD) (i : Nat) (hi9 : i < 9) : Ct l d yJ0_length_8abf5 cJ0_length_8abf5 1 (some .int) { frames := 1, cells := 0, slots := 0, locals := 20 } [.ref (kS d i)] [] 0 0 (fun r wo => r = some (.int (nI (strL.getD i 0))) ∧ wo = []) := by
  refine ct_of (own := RJ0) (ini := false) (by decide +kernel) rfl (fun h => by cases h) (Nat.le_of_ble_eq_true rfl) ?_
  intro g X
  show g 0 0 [] [(0, .ref (kS d i))] 0 []
  refine g_aload_n X dJ0_length_8abf5_0 rfl 0 rfl ?_
  refine g_getStrV X i (by first | assumption | omega) wd_1102 dJ0_length_8abf5_1 ?_
  refine g_strlen (v := nI (strL.getD i 0)) X i (by first | assumption | omega) rfl dJ0_length_8abf5_4 ?_
  refine g_aload_n X dJ0_length_8abf5_5 rfl 0 rfl ?_
  refine g_dVS (n := 0) (st' := [.int 0, .int (nI (strL.getD i 0))]) (As := []) (st := [.int (nI (strL.getD i 0))]) X i (by first | assumption | omega) (ct_J0_coder_7d493 l d i (by first | assumption | omega)) wd_230 wd_227 wd_228 wd_229 wd_59 hd_J0_coder_7d493 ⟨(Nat.le_of_ble_eq_true rfl), (Nat.le_of_ble_eq_true rfl)⟩ rfl rfl dJ0_length_8abf5_6 ⟨(Nat.le_of_ble_eq_true rfl), (Nat.le_of_ble_eq_true rfl)⟩ rfl rfl (Nat.le_of_ble_eq_true rfl) [] rfl rfl rfl ?_
  refine g_ishr X dJ0_length_8abf5_9 ?_
  exact g_end X (gE_i dJ0_length_8abf5_10 (rfl) (Nat.le_of_ble_eq_true rfl) (Nat.le_of_ble_eq_true rfl) ⟨congrArg (fun z => some (Value.int z)) (shr_0 (by have := strL_le i; omega)), rfl⟩)
set_option maxHeartbeats 4000000 in
set_option maxRecDepth 20000 in
theorem ct_J0_isLatin1_aae02 (l : Launch) (d : KD) (i : Nat) (hi9 : i < 9) : Ct l d yJ0_isLatin1_aae02 cJ0_isLatin1_aae02 1 (some .boolean) { frames := 0, cells := 0, slots := 0, locals := 0 } [.ref (kS d i)] [] 0 0 (fun r wo => r = some (.int 1) ∧ wo = []) := by
  refine ct_of (own := RJ0) (ini := false) (by decide +kernel) rfl (fun h => by cases h) (Nat.le_of_ble_eq_true rfl) ?_
  intro g X
  show g 0 0 [] [(0, .ref (kS d i))] 0 []
  refine g_getsC X wd_231 dJ0_isLatin1_aae02_0 ?_
  refine g_if_eq X 17 dJ0_isLatin1_aae02_3 (by decide) (fun h => absurd h (by decide)) (fun _ => ?_)
  refine g_aload_n X dJ0_isLatin1_aae02_6 rfl 0 rfl ?_
  refine g_getStrC X i (by first | assumption | omega) wd_1103 dJ0_isLatin1_aae02_7 ?_
  refine g_if_ne X 17 dJ0_isLatin1_aae02_10 (by decide) (fun h => absurd h (by decide)) (fun _ => ?_)
  refine g_iconst (v := 1) X dJ0_isLatin1_aae02_13 (by decide) ?_
  refine g_goto X 18 dJ0_isLatin1_aae02_14 (by decide) ?_
  exact g_end X (gE_i dJ0_isLatin1_aae02_18 (rfl) (Nat.le_of_ble_eq_true rfl) (Nat.le_of_ble_eq_true rfl) ⟨rfl, rfl⟩)
set_option maxHeartbeats 4000000 in
set_option maxRecDepth 20000 in
theorem ct_J0_isEmpty_aae02 (l : Launch) (d : KD) (i : Nat) (hi9 : i < 9) : Ct l d yJ0_isEmpty_aae02 cJ0_isEmpty_aae02 1 (some .boolean) { frames := 0, cells := 0, slots := 0, locals := 0 } [.ref (kS d i)] [] 0 0 (fun r wo => r = some (.int (b2i (strL.getD i 0 = 0))) ∧ wo = []) := by
  refine ct_of (own := RJ0) (ini := false) (by decide +kernel) rfl (fun h => by cases h) (Nat.le_of_ble_eq_true rfl) ?_
  intro g X
  show g 0 0 [] [(0, .ref (kS d i))] 0 []
  refine g_aload_n X dJ0_isEmpty_aae02_0 rfl 0 rfl ?_
  refine g_getStrV X i (by first | assumption | omega) wd_1102 dJ0_isEmpty_aae02_1 ?_
  refine g_strlen (v := nI (strL.getD i 0)) X i (by first | assumption | omega) rfl dJ0_isEmpty_aae02_4 ?_
  refine g_ifN_ne (a := (strL.getD i 0)) X rfl (by have := strL_le i; omega) 12 dJ0_isEmpty_aae02_5 (by decide) (fun c5_1 => ?_) (fun c5_1 => ?_)
  · refine g_iconst (v := 0) X dJ0_isEmpty_aae02_12 (by decide) ?_
    exact g_end X (gE_i dJ0_isEmpty_aae02_13 (rfl) (Nat.le_of_ble_eq_true rfl) (Nat.le_of_ble_eq_true rfl) ⟨congrArg (fun z => some (Value.int z)) (by first | exact (b2i_t (by assumption)).symm | exact (b2i_f (by assumption)).symm), rfl⟩)
  · refine g_iconst (v := 1) X dJ0_isEmpty_aae02_8 (by decide) ?_
    refine g_goto X 13 dJ0_isEmpty_aae02_9 (by decide) ?_
    exact g_end X (gE_i dJ0_isEmpty_aae02_13 (rfl) (Nat.le_of_ble_eq_true rfl) (Nat.le_of_ble_eq_true rfl) ⟨congrArg (fun z => some (Value.int z)) (by first | exact (b2i_t (by assumption)).symm | exact (b2i_f (by assumption)).symm), rfl⟩)
set_option maxHeartbeats 4000000 in
set_option maxRecDepth 20000 in
theorem ct_J3_checkIndex_0 (l : Launch) (d : KD) (k n : Nat) (hk : k < n) (hn : n < 2147483648) : Ct l d yJ3_checkIndex_8e157 cJ3_checkIndex_8e157 3 (some .int) { frames := 0, cells := 0, slots := 0, locals := 0 } [.int (nI k), .int (nI n), .null] [] 0 0 (fun r wo => r = some (.int (nI k)) ∧ wo = []) := by
  refine ct_of (own := RJ3) (ini := false) (by decide +kernel) rfl (fun h => by cases h) (Nat.le_of_ble_eq_true rfl) ?_
  intro g X
  show g 0 0 [] [(0, .int (nI k)), (1, .int (nI n)), (2, .null)] 0 []
  refine g_iload_n X dJ3_checkIndex_8e157_0 rfl 0 rfl ?_
  refine g_ifN_lt (a := k) X rfl (by omega) 9 dJ3_checkIndex_8e157_1 (by decide) (fun c1_1 => absurd c1_1 (by omega)) (fun c1_1 => ?_)
  refine g_iload_n X dJ3_checkIndex_8e157_4 rfl 0 rfl ?_
  refine g_iload_n X dJ3_checkIndex_8e157_5 rfl 1 rfl ?_
  refine g_icmpN_lt (a := k) (b := n) X rfl rfl (by omega) (by omega) 16 dJ3_checkIndex_8e157_6 (by decide) (fun c6_2 => ?_) (fun c6_2 => absurd hk c6_2)
  refine g_iload_n X dJ3_checkIndex_8e157_16 rfl 0 rfl ?_
  exact g_end X (gE_i dJ3_checkIndex_8e157_17 (rfl) (Nat.le_of_ble_eq_true rfl) (Nat.le_of_ble_eq_true rfl) ⟨rfl, rfl⟩)
set_option maxHeartbeats 4000000 in
set_option maxRecDepth 20000 in
theorem ct_J3_checkIndex_1 (l : Launch) (d : KD) (k n fa : Nat) (hk : k < n) (hn : n < 2147483648) : Ct l d yJ3_checkIndex_8e157 cJ3_checkIndex_8e157 3 (some .int) { frames := 0, cells := 0, slots := 0, locals := 0 } [.int (nI k), .int (nI n), .ref fa] [] 0 0 (fun r wo => r = some (.int (nI k)) ∧ wo = []) := by
  refine ct_of (own := RJ3) (ini := false) (by decide +kernel) rfl (fun h => by cases h) (Nat.le_of_ble_eq_true rfl) ?_
  intro g X
  show g 0 0 [] [(0, .int (nI k)), (1, .int (nI n)), (2, .ref fa)] 0 []
  refine g_iload_n X dJ3_checkIndex_8e157_0 rfl 0 rfl ?_
  refine g_ifN_lt (a := k) X rfl (by omega) 9 dJ3_checkIndex_8e157_1 (by decide) (fun c1_1 => absurd c1_1 (by omega)) (fun c1_1 => ?_)
  refine g_iload_n X dJ3_checkIndex_8e157_4 rfl 0 rfl ?_
  refine g_iload_n X dJ3_checkIndex_8e157_5 rfl 1 rfl ?_
  refine g_icmpN_lt (a := k) (b := n) X rfl rfl (by omega) (by omega) 16 dJ3_checkIndex_8e157_6 (by decide) (fun c6_2 => ?_) (fun c6_2 => absurd hk c6_2)
  refine g_iload_n X dJ3_checkIndex_8e157_16 rfl 0 rfl ?_
  exact g_end X (gE_i dJ3_checkIndex_8e157_17 (rfl) (Nat.le_of_ble_eq_true rfl) (Nat.le_of_ble_eq_true rfl) ⟨rfl, rfl⟩)
set_option maxHeartbeats 4000000 in
set_option maxRecDepth 20000 in
theorem ct_J0_checkIndex_df160 (l : Launch) (d : KD) (k n : Nat) (hk : k < n) (hn : n < 2147483648) : Ct l d yJ0_checkIndex_df160 cJ0_checkIndex_df160 2 none { frames := 1, cells := 0, slots := 0, locals := 22 } [.int (nI k), .int (nI n)] [] 0 0 (fun r wo => r = none ∧ wo = []) := by
  refine ct_of (own := RJ0) (ini := false) (by decide +kernel) rfl (fun h => by cases h) (Nat.le_of_ble_eq_true rfl) ?_
  intro g X
  show g 0 0 [] [(0, .int (nI k)), (1, .int (nI n))] 0 []
  refine g_iload_n X dJ0_checkIndex_df160_0 rfl 0 rfl ?_
  refine g_iload_n X dJ0_checkIndex_df160_1 rfl 1 rfl ?_
  refine g_getsF X wd_247 dJ0_checkIndex_df160_2 (fun v_ hv_ => ?_)
  rcases hv_ with rfl | ⟨fa, rfl⟩
  · refine g_dS (n := 3) (wr := []) (ws' := []) (st' := [.int (nI k)]) (As := [.int (nI k), .int (nI n), .null]) (st := []) X (ct_J3_checkIndex_0 l d k n (by first | assumption | omega) (by first | assumption | omega)) wd_251 wd_249 wd_250 wd_61 hd_J3_checkIndex_8e157 ⟨(Nat.le_of_ble_eq_true rfl), (Nat.le_of_ble_eq_true rfl)⟩ rfl rfl dJ0_checkIndex_df160_5 ⟨(Nat.le_of_ble_eq_true rfl), (Nat.le_of_ble_eq_true rfl)⟩ rfl rfl (Nat.le_of_ble_eq_true rfl) [] [] rfl rfl rfl rfl rfl (by decide) [] rfl rfl rfl rfl ?_
    refine g_pop X dJ0_checkIndex_df160_8 rfl ?_
    exact g_end X (gE_v dJ0_checkIndex_df160_9 (Nat.le_of_ble_eq_true rfl) (Nat.le_of_ble_eq_true rfl) ⟨rfl, rfl⟩)
  · refine g_dS (n := 3) (wr := []) (ws' := []) (st' := [.int (nI k)]) (As := [.int (nI k), .int (nI n), .ref fa]) (st := []) X (ct_J3_checkIndex_1 l d k n fa (by first | assumption | omega) (by first | assumption | omega)) wd_251 wd_249 wd_250 wd_61 hd_J3_checkIndex_8e157 ⟨(Nat.le_of_ble_eq_true rfl), (Nat.le_of_ble_eq_true rfl)⟩ rfl rfl dJ0_checkIndex_df160_5 ⟨(Nat.le_of_ble_eq_true rfl), (Nat.le_of_ble_eq_true rfl)⟩ rfl rfl (Nat.le_of_ble_eq_true rfl) [] [] rfl rfl rfl rfl rfl (by decide) [] rfl rfl rfl rfl ?_
    refine g_pop X dJ0_checkIndex_df160_8 rfl ?_
    exact g_end X (gE_v dJ0_checkIndex_df160_9 (Nat.le_of_ble_eq_true rfl) (Nat.le_of_ble_eq_true rfl) ⟨rfl, rfl⟩)
set_option maxHeartbeats 4000000 in
set_option maxRecDepth 20000 in
theorem ct_J1_charAt_3b067 (l : Launch) (d : KD) (i k : Nat) (hi9 : i < 9) (hk : k < strL.getD i 0) : Ct l d yJ1_charAt_3b067 cJ1_charAt_3b067 2 (some .char) { frames := 2, cells := 0, slots := 0, locals := 43 } [.ref (kV d i), .int (nI k)] [] 0 0 (fun r wo => r = some (.int (stc i k)) ∧ wo = []) := by
  refine ct_of (own := RJ1) (ini := false) (by decide +kernel) rfl (fun h => by cases h) (Nat.le_of_ble_eq_true rfl) ?_
  intro g X
  show g 0 0 [] [(0, .ref (kV d i)), (1, .int (nI k))] 0 []
  refine g_iload_n X dJ1_charAt_3b067_0 rfl 1 rfl ?_
  refine g_aload_n X dJ1_charAt_3b067_1 rfl 0 rfl ?_
  refine g_strlen (v := nI (strL.getD i 0)) X i (by first | assumption | omega) rfl dJ1_charAt_3b067_2 ?_
  refine g_dS (n := 2) (wr := []) (ws' := []) (st' := []) (As := [.int (nI k), .int (nI (strL.getD i 0))]) (st := []) X (ct_J0_checkIndex_df160 l d k (strL.getD i 0) (by first | assumption | omega) (by have := strL_le i; omega)) wd_246 wd_244 wd_245 wd_59 hd_J0_checkIndex_df160 ⟨(Nat.le_of_ble_eq_true rfl), (Nat.le_of_ble_eq_true rfl)⟩ rfl rfl dJ1_charAt_3b067_3 ⟨(Nat.le_of_ble_eq_true rfl), (Nat.le_of_ble_eq_true rfl)⟩ rfl rfl (Nat.le_of_ble_eq_true rfl) [] [] rfl rfl rfl rfl rfl (by decide) [] rfl rfl rfl rfl ?_
  refine g_aload_n X dJ1_charAt_3b067_6 rfl 0 rfl ?_
  refine g_iload_n X dJ1_charAt_3b067_7 rfl 1 rfl ?_
  refine g_strld X i (by first | assumption | omega) (vp_in_nI hk (by have := strL_le i; omega)) dJ1_charAt_3b067_8 ?_
  refine g_tope (y := stc i k) (by rw [nI_clamp (by have := strL_le i; omega)]; rfl) ?_
  refine g_sipush (v := 255) X dJ1_charAt_3b067_9 (by decide) ?_
  refine g_iand X dJ1_charAt_3b067_12 ?_
  refine g_i2c X dJ1_charAt_3b067_13 ?_
  refine g_tope (y := stc i k) (stc_ok i hi9 k (by have := strL_le i; omega)) ?_
  exact g_end X (gE_i dJ1_charAt_3b067_14 (stc_nar i hi9 k (by have := strL_le i; omega)) (Nat.le_of_ble_eq_true rfl) (Nat.le_of_ble_eq_true rfl) ⟨rfl, rfl⟩)
set_option maxHeartbeats 4000000 in
set_option maxRecDepth 20000 in
theorem ct_J0_charAt_5068e (l : Launch) (d : KD) (i k : Nat) (hi9 : i < 9) (hk : k < strL.getD i 0) : Ct l d yJ0_charAt_5068e cJ0_charAt_5068e 2 (some .char) { frames := 3, cells := 0, slots := 0, locals := 64 } [.ref (kS d i), .int (nI k)] [] 0 0 (fun r wo => r = some (.int (stc i k)) ∧ wo = []) := by
  refine ct_of (own := RJ0) (ini := false) (by decide +kernel) rfl (fun h => by cases h) (Nat.le_of_ble_eq_true rfl) ?_
  intro g X
  show g 0 0 [] [(0, .ref (kS d i)), (1, .int (nI k))] 0 []
  refine g_aload_n X dJ0_charAt_5068e_0 rfl 0 rfl ?_
  refine g_dVS (n := 0) (st' := [.int 1]) (As := []) (st := []) X i (by first | assumption | omega) (ct_J0_isLatin1_aae02 l d i (by first | assumption | omega)) wd_240 wd_237 wd_238 wd_239 wd_59 hd_J0_isLatin1_aae02 ⟨(Nat.le_of_ble_eq_true rfl), (Nat.le_of_ble_eq_true rfl)⟩ rfl rfl dJ0_charAt_5068e_1 ⟨(Nat.le_of_ble_eq_true rfl), (Nat.le_of_ble_eq_true rfl)⟩ rfl rfl (Nat.le_of_ble_eq_true rfl) [] rfl rfl rfl ?_
  refine g_if_eq X 16 dJ0_charAt_5068e_4 (by decide) (fun h => absurd h (by decide)) (fun _ => ?_)
  refine g_aload_n X dJ0_charAt_5068e_7 rfl 0 rfl ?_
  refine g_getStrV X i (by first | assumption | omega) wd_1102 dJ0_charAt_5068e_8 ?_
  refine g_iload_n X dJ0_charAt_5068e_11 rfl 1 rfl ?_
  refine g_dS (n := 2) (wr := []) (ws' := []) (st' := [.int (stc i k)]) (As := [.ref (kV d i), .int (nI k)]) (st := []) X (ct_J1_charAt_3b067 l d i k (by first | assumption | omega) (by first | assumption | omega)) wd_243 wd_241 wd_242 wd_60 hd_J1_charAt_3b067 ⟨(Nat.le_of_ble_eq_true rfl), (Nat.le_of_ble_eq_true rfl)⟩ rfl rfl dJ0_charAt_5068e_12 ⟨(Nat.le_of_ble_eq_true rfl), (Nat.le_of_ble_eq_true rfl)⟩ rfl rfl (Nat.le_of_ble_eq_true rfl) [] [] rfl rfl rfl rfl rfl (by decide) [] rfl rfl rfl rfl ?_
  exact g_end X (gE_i dJ0_charAt_5068e_15 (stc_nar i hi9 k (by have := strL_le i; omega)) (Nat.le_of_ble_eq_true rfl) (Nat.le_of_ble_eq_true rfl) ⟨rfl, rfl⟩)
set_option maxHeartbeats 4000000 in
set_option maxRecDepth 20000 in
theorem ct_J1_canEncode_9a6ad (l : Launch) (d : KD) (c : Nat) (hc : c < 256) : Ct l d yJ1_canEncode_9a6ad cJ1_canEncode_9a6ad 1 (some .boolean) { frames := 0, cells := 0, slots := 0, locals := 0 } [.int (nI c)] [] 0 0 (fun r wo => r = some (.int 1) ∧ wo = []) := by
  refine ct_of (own := RJ1) (ini := false) (by decide +kernel) rfl (fun h => by cases h) (Nat.le_of_ble_eq_true rfl) ?_
  intro g X
  show g 0 0 [] [(0, .int (nI c))] 0 []
  refine g_iload_n X dJ1_canEncode_9a6ad_0 rfl 0 rfl ?_
  refine g_ifN_lt (a := c) X rfl (by omega) 15 dJ1_canEncode_9a6ad_1 (by decide) (fun c1_1 => absurd c1_1 (by omega)) (fun c1_1 => ?_)
  refine g_iload_n X dJ1_canEncode_9a6ad_4 rfl 0 rfl ?_
  refine g_sipush (v := 255) X dJ1_canEncode_9a6ad_5 (by decide) ?_
  refine g_icmpN_gt (a := c) (b := 255) X rfl rfl (by omega) (by omega) 15 dJ1_canEncode_9a6ad_8 (by decide) (fun c8_2 => absurd hc (by omega)) (fun c8_2 => ?_)
  refine g_iconst (v := 1) X dJ1_canEncode_9a6ad_11 (by decide) ?_
  refine g_goto X 16 dJ1_canEncode_9a6ad_12 (by decide) ?_
  exact g_end X (gE_i dJ1_canEncode_9a6ad_16 (rfl) (Nat.le_of_ble_eq_true rfl) (Nat.le_of_ble_eq_true rfl) ⟨rfl, rfl⟩)
set_option maxHeartbeats 4000000 in
set_option maxRecDepth 20000 in
theorem ct_J1_indexOfChar_4cfef (l : Launch) (d : KD) (i c : Nat) (hi9 : i < 9) (hc : c < 256) : Ct l d yJ1_indexOfChar_4cfef cJ1_indexOfChar_4cfef 6 (some .int) { frames := 0, cells := 0, slots := 0, locals := 0 } [.ref (kV d i), .int (nI c), .int 0, .int (nI (strL.getD i 0))] [] 0 0 (fun r wo => r = some (.int (ixo i c)) ∧ wo = []) := by
  refine ct_of (own := RJ1) (ini := false) (by decide +kernel) rfl (fun h => by cases h) (Nat.le_of_ble_eq_true rfl) ?_
  intro g X
  show g 0 0 [] [(0, .ref (kV d i)), (1, .int (nI c)), (2, .int 0), (3, .int (nI (strL.getD i 0)))] 0 []
  refine g_iload_n X dJ1_indexOfChar_4cfef_0 rfl 1 rfl ?_
  refine g_i2b X dJ1_indexOfChar_4cfef_1 ?_
  refine g_istore (lv' := [(4, .int (Int8.toInt32 (Int32.toInt8 (nI c)))), (0, .ref (kV d i)), (1, .int (nI c)), (2, .int 0), (3, .int (nI (strL.getD i 0)))]) X dJ1_indexOfChar_4cfef_2 (by decide) rfl ?_
  refine g_iload_n X dJ1_indexOfChar_4cfef_4 rfl 3 rfl ?_
  refine g_istore (lv' := [(5, .int 0), (4, .int (Int8.toInt32 (Int32.toInt8 (nI c)))), (0, .ref (kV d i)), (1, .int (nI c)), (2, .int 0), (3, .int (nI (strL.getD i 0)))]) X dJ1_indexOfChar_4cfef_5 (by decide) rfl ?_
  have at_7 : ∀ (n_ : Nat) (j : Nat) (hj : j ≤ strL.getD i 0) (hs : ixF i c (strL.getD i 0 - j) j = ixo i c), (strL.getD i 0 - j) < n_ → g 0 0 [] [(0, .ref (kV d i)), (3, .int (nI (strL.getD i 0))), (4, .int (Int8.toInt32 (Int32.toInt8 (nI c)))), (5, .int (nI j))] 7 [] := by
    intro n_
    induction n_ with
    | zero => intro j hj hs hn_; exact absurd hn_ (Nat.not_lt_zero _)
    | succ n_ ih_7 =>
      intro j hj hs hn_7
      refine g_iload X dJ1_indexOfChar_4cfef_7 3 rfl ?_
      refine g_iload_n X dJ1_indexOfChar_4cfef_9 rfl 1 rfl ?_
      refine g_icmpN_ge (a := j) (b := (strL.getD i 0)) X rfl rfl (by have := strL_le i; omega) (by have := strL_le i; omega) 31 dJ1_indexOfChar_4cfef_10 (by decide) (fun c10_1 => ?_) (fun c10_1 => ?_)
      · refine g_iconst (v := (-1)) X dJ1_indexOfChar_4cfef_31 (by decide) ?_
        exact g_end X (gE_i dJ1_indexOfChar_4cfef_32 (rfl) (Nat.le_of_ble_eq_true rfl) (Nat.le_of_ble_eq_true rfl) ⟨congrArg (fun z => some (Value.int z)) (by first | (rw [← hs, show strL.getD i 0 - j = 0 by omega]; rfl) | (rw [← hs]; exact (ixF_y (by omega) (by assumption)).symm)), rfl⟩)
      · refine g_aload_n X dJ1_indexOfChar_4cfef_13 rfl 0 rfl ?_
        refine g_iload X dJ1_indexOfChar_4cfef_14 3 rfl ?_
        refine g_strld X i (by first | assumption | omega) (vp_in_nI (by omega) (by have := strL_le i; omega)) dJ1_indexOfChar_4cfef_16 ?_
        refine g_tope (y := stc i j) (by rw [nI_clamp (by have := strL_le i; omega)]; rfl) ?_
        refine g_iload X dJ1_indexOfChar_4cfef_17 2 rfl ?_
        refine g_icmp_ne X 25 dJ1_indexOfChar_4cfef_19 (by decide) (fun c19_2 => ?_) (fun c19_2 => ?_)
        · refine g_iinc (v := nI (j + 1)) (lv' := [(5, .int (nI (j + 1))), (0, .ref (kV d i)), (3, .int (nI (strL.getD i 0))), (4, .int (Int8.toInt32 (Int32.toInt8 (nI c))))]) X dJ1_indexOfChar_4cfef_25 3 rfl (nI_inc _) (by decide) rfl ?_
          refine g_goto X 7 dJ1_indexOfChar_4cfef_28 (by decide) ?_
          refine g_lv (lv' := [(0, .ref (kV d i)), (3, .int (nI (strL.getD i 0))), (4, .int (Int8.toInt32 (Int32.toInt8 (nI c)))), (5, .int (nI (j + 1)))]) X [1, 2, 3, 0] rfl ?_
          exact ih_7 (j + 1) (by first | assumption | omega) ((ixF_n (by omega) (by assumption)).trans hs) (by omega)
        · refine g_iload X dJ1_indexOfChar_4cfef_22 3 rfl ?_
          exact g_end X (gE_i dJ1_indexOfChar_4cfef_24 (rfl) (Nat.le_of_ble_eq_true rfl) (Nat.le_of_ble_eq_true rfl) ⟨congrArg (fun z => some (Value.int z)) (by first | (rw [← hs, show strL.getD i 0 - j = 0 by omega]; rfl) | (rw [← hs]; exact (ixF_y (by omega) (by assumption)).symm)), rfl⟩)
  refine g_lv (lv' := [(0, .ref (kV d i)), (3, .int (nI (strL.getD i 0))), (4, .int (Int8.toInt32 (Int32.toInt8 (nI c)))), (5, .int 0)]) X [2, 5, 1, 0] rfl ?_
  exact g_eq (ws' := []) (lv' := [(0, .ref (kV d i)), (3, .int (nI (strL.getD i 0))), (4, .int (Int8.toInt32 (Int32.toInt8 (nI c)))), (5, .int (nI 0))]) (rfl) (lv_cons (rfl) (lv_cons (rfl) (lv_cons (rfl) (lv_cons (vI (by rfl)) (rfl))))) (at_7 _ 0 (by first | assumption | omega) (rfl) (Nat.lt_succ_self _))
set_option maxHeartbeats 4000000 in
set_option maxRecDepth 20000 in
theorem ct_J1_indexOf_4cfef (l : Launch) (d : KD) (i c : Nat) (hi9 : i < 9) (hc : c < 256) (hp : 0 < strL.getD i 0) : Ct l d yJ1_indexOf_4cfef cJ1_indexOf_4cfef 4 (some .int) { frames := 1, cells := 0, slots := 0, locals := 25 } [.ref (kV d i), .int (nI c), .int 0, .int (nI (strL.getD i 0))] [] 0 0 (fun r wo => r = some (.int (ixo i c)) ∧ wo = []) := by
  refine ct_of (own := RJ1) (ini := false) (by decide +kernel) rfl (fun h => by cases h) (Nat.le_of_ble_eq_true rfl) ?_
  intro g X
  show g 0 0 [] [(0, .ref (kV d i)), (1, .int (nI c)), (2, .int 0), (3, .int (nI (strL.getD i 0)))] 0 []
  refine g_iload_n X dJ1_indexOf_4cfef_0 rfl 1 rfl ?_
  refine g_dS (n := 1) (wr := []) (ws' := []) (st' := [.int 1]) (As := [.int (nI c)]) (st := []) X (ct_J1_canEncode_9a6ad l d c (by first | assumption | omega)) wd_289 wd_287 wd_288 wd_60 hd_J1_canEncode_9a6ad ⟨(Nat.le_of_ble_eq_true rfl), (Nat.le_of_ble_eq_true rfl)⟩ rfl rfl dJ1_indexOf_4cfef_1 ⟨(Nat.le_of_ble_eq_true rfl), (Nat.le_of_ble_eq_true rfl)⟩ rfl rfl (Nat.le_of_ble_eq_true rfl) [] [] rfl rfl rfl rfl rfl (by decide) [] rfl rfl rfl rfl ?_
  refine g_if_ne X 9 dJ1_indexOf_4cfef_4 (by decide) (fun _ => ?_) (fun h => absurd h (by decide))
  refine g_iload_n X dJ1_indexOf_4cfef_9 rfl 2 rfl ?_
  refine g_iconst (v := 0) X dJ1_indexOf_4cfef_10 (by decide) ?_
  refine g_mmax X wd_290 wd_291 wd_63 wd_292 (Nat.le_of_ble_eq_true rfl) (Nat.le_of_ble_eq_true rfl) (Nat.le_of_ble_eq_true rfl) (Nat.le_of_ble_eq_true rfl) dJ1_indexOf_4cfef_11 ?_
  refine g_tope (y := 0) (by decide) ?_
  refine g_istore_n (lv' := [(2, .int 0), (0, .ref (kV d i)), (1, .int (nI c)), (3, .int (nI (strL.getD i 0)))]) X dJ1_indexOf_4cfef_14 rfl (by decide) rfl ?_
  refine g_iload_n X dJ1_indexOf_4cfef_15 rfl 3 rfl ?_
  refine g_aload_n X dJ1_indexOf_4cfef_16 rfl 1 rfl ?_
  refine g_strlen (v := nI (strL.getD i 0)) X i (by first | assumption | omega) rfl dJ1_indexOf_4cfef_17 ?_
  refine g_mmin X wd_293 wd_294 wd_63 wd_295 (Nat.le_of_ble_eq_true rfl) (Nat.le_of_ble_eq_true rfl) (Nat.le_of_ble_eq_true rfl) (Nat.le_of_ble_eq_true rfl) dJ1_indexOf_4cfef_18 ?_
  refine g_tope (y := nI (strL.getD i 0)) (mn_self _) ?_
  refine g_istore_n (lv' := [(3, .int (nI (strL.getD i 0))), (2, .int 0), (0, .ref (kV d i)), (1, .int (nI c))]) X dJ1_indexOf_4cfef_21 rfl (by decide) rfl ?_
  refine g_iload_n X dJ1_indexOf_4cfef_22 rfl 1 rfl ?_
  refine g_iload_n X dJ1_indexOf_4cfef_23 rfl 0 rfl ?_
  refine g_icmpN_lt (a := 0) (b := (strL.getD i 0)) X rfl rfl (by have := strL_le i; omega) (by have := strL_le i; omega) 29 dJ1_indexOf_4cfef_24 (by decide) (fun c24_2 => ?_) (fun c24_2 => absurd hp c24_2)
  refine g_aload_n X dJ1_indexOf_4cfef_29 rfl 2 rfl ?_
  refine g_iload_n X dJ1_indexOf_4cfef_30 rfl 3 rfl ?_
  refine g_iload_n X dJ1_indexOf_4cfef_31 rfl 1 rfl ?_
  refine g_iload_n X dJ1_indexOf_4cfef_32 rfl 0 rfl ?_
  refine g_dS (n := 4) (wr := []) (ws' := []) (st' := [.int (ixo i c)]) (As := [.ref (kV d i), .int (nI c), .int 0, .int (nI (strL.getD i 0))]) (st := []) X (ct_J1_indexOfChar_4cfef l d i c (by first | assumption | omega) (by first | assumption | omega)) wd_298 wd_296 wd_297 wd_60 hd_J1_indexOfChar_4cfef ⟨(Nat.le_of_ble_eq_true rfl), (Nat.le_of_ble_eq_true rfl)⟩ rfl rfl dJ1_indexOf_4cfef_33 ⟨(Nat.le_of_ble_eq_true rfl), (Nat.le_of_ble_eq_true rfl)⟩ rfl rfl (Nat.le_of_ble_eq_true rfl) [] [] rfl rfl rfl rfl rfl (by decide) [] rfl rfl rfl rfl ?_
  exact g_end X (gE_i dJ1_indexOf_4cfef_36 (rfl) (Nat.le_of_ble_eq_true rfl) (Nat.le_of_ble_eq_true rfl) ⟨rfl, rfl⟩)
set_option maxHeartbeats 4000000 in
set_option maxRecDepth 20000 in
theorem ct_J0_indexOf_7cf53 (l : Launch) (d : KD) (i c : Nat) (hi9 : i < 9) (hc : c < 256) (hp : 0 < strL.getD i 0) : Ct l d yJ0_indexOf_7cf53 cJ0_indexOf_7cf53 3 (some .int) { frames := 2, cells := 0, slots := 0, locals := 48 } [.ref (kS d i), .int (nI c), .int 0] [] 0 0 (fun r wo => r = some (.int (ixo i c)) ∧ wo = []) := by
  refine ct_of (own := RJ0) (ini := false) (by decide +kernel) rfl (fun h => by cases h) (Nat.le_of_ble_eq_true rfl) ?_
  intro g X
  show g 0 0 [] [(0, .ref (kS d i)), (1, .int (nI c)), (2, .int 0)] 0 []
  refine g_aload_n X dJ0_indexOf_7cf53_0 rfl 0 rfl ?_
  refine g_dVS (n := 0) (st' := [.int 1]) (As := []) (st := []) X i (by first | assumption | omega) (ct_J0_isLatin1_aae02 l d i (by first | assumption | omega)) wd_240 wd_237 wd_238 wd_239 wd_59 hd_J0_isLatin1_aae02 ⟨(Nat.le_of_ble_eq_true rfl), (Nat.le_of_ble_eq_true rfl)⟩ rfl rfl dJ0_indexOf_7cf53_1 ⟨(Nat.le_of_ble_eq_true rfl), (Nat.le_of_ble_eq_true rfl)⟩ rfl rfl (Nat.le_of_ble_eq_true rfl) [] rfl rfl rfl ?_
  refine g_if_eq X 23 dJ0_indexOf_7cf53_4 (by decide) (fun h => absurd h (by decide)) (fun _ => ?_)
  refine g_aload_n X dJ0_indexOf_7cf53_7 rfl 0 rfl ?_
  refine g_getStrV X i (by first | assumption | omega) wd_1102 dJ0_indexOf_7cf53_8 ?_
  refine g_iload_n X dJ0_indexOf_7cf53_11 rfl 1 rfl ?_
  refine g_iload_n X dJ0_indexOf_7cf53_12 rfl 2 rfl ?_
  refine g_aload_n X dJ0_indexOf_7cf53_13 rfl 0 rfl ?_
  refine g_dVS (n := 0) (st' := [.int (nI (strL.getD i 0)), .int 0, .int (nI c), .ref (kV d i)]) (As := []) (st := [.int 0, .int (nI c), .ref (kV d i)]) X i (by first | assumption | omega) (ct_J0_length_8abf5 l d i (by first | assumption | omega)) wd_226 wd_283 wd_224 wd_225 wd_59 hd_J0_length_8abf5 ⟨(Nat.le_of_ble_eq_true rfl), (Nat.le_of_ble_eq_true rfl)⟩ rfl rfl dJ0_indexOf_7cf53_14 ⟨(Nat.le_of_ble_eq_true rfl), (Nat.le_of_ble_eq_true rfl)⟩ rfl rfl (Nat.le_of_ble_eq_true rfl) [] rfl rfl rfl ?_
  refine g_dS (n := 4) (wr := []) (ws' := []) (st' := [.int (ixo i c)]) (As := [.ref (kV d i), .int (nI c), .int 0, .int (nI (strL.getD i 0))]) (st := []) X (ct_J1_indexOf_4cfef l d i c (by first | assumption | omega) (by first | assumption | omega) (by first | assumption | omega)) wd_286 wd_284 wd_285 wd_60 hd_J1_indexOf_4cfef ⟨(Nat.le_of_ble_eq_true rfl), (Nat.le_of_ble_eq_true rfl)⟩ rfl rfl dJ0_indexOf_7cf53_17 ⟨(Nat.le_of_ble_eq_true rfl), (Nat.le_of_ble_eq_true rfl)⟩ rfl rfl (Nat.le_of_ble_eq_true rfl) [] [] rfl rfl rfl rfl rfl (by decide) [] rfl rfl rfl rfl ?_
  refine g_goto X 36 dJ0_indexOf_7cf53_20 (by decide) ?_
  exact g_end X (gE_i dJ0_indexOf_7cf53_36 (rfl) (Nat.le_of_ble_eq_true rfl) (Nat.le_of_ble_eq_true rfl) ⟨rfl, rfl⟩)
set_option maxHeartbeats 4000000 in
set_option maxRecDepth 20000 in
theorem ct_J0_indexOf_0f7a4 (l : Launch) (d : KD) (i c : Nat) (hi9 : i < 9) (hc : c < 256) (hp : 0 < strL.getD i 0) : Ct l d yJ0_indexOf_0f7a4 cJ0_indexOf_0f7a4 2 (some .int) { frames := 3, cells := 0, slots := 0, locals := 70 } [.ref (kS d i), .int (nI c)] [] 0 0 (fun r wo => r = some (.int (ixo i c)) ∧ wo = []) := by
  refine ct_of (own := RJ0) (ini := false) (by decide +kernel) rfl (fun h => by cases h) (Nat.le_of_ble_eq_true rfl) ?_
  intro g X
  show g 0 0 [] [(0, .ref (kS d i)), (1, .int (nI c))] 0 []
  refine g_aload_n X dJ0_indexOf_0f7a4_0 rfl 0 rfl ?_
  refine g_iload_n X dJ0_indexOf_0f7a4_1 rfl 1 rfl ?_
  refine g_iconst (v := 0) X dJ0_indexOf_0f7a4_2 (by decide) ?_
  refine g_dVS (n := 2) (st' := [.int (ixo i c)]) (As := [.int (nI c), .int 0]) (st := []) X i (by first | assumption | omega) (ct_J0_indexOf_7cf53 l d i c (by first | assumption | omega) (by first | assumption | omega) (by first | assumption | omega)) wd_282 wd_279 wd_280 wd_281 wd_59 hd_J0_indexOf_7cf53 ⟨(Nat.le_of_ble_eq_true rfl), (Nat.le_of_ble_eq_true rfl)⟩ rfl rfl dJ0_indexOf_0f7a4_3 ⟨(Nat.le_of_ble_eq_true rfl), (Nat.le_of_ble_eq_true rfl)⟩ rfl rfl (Nat.le_of_ble_eq_true rfl) [] rfl rfl rfl ?_
  exact g_end X (gE_i dJ0_indexOf_0f7a4_6 (rfl) (Nat.le_of_ble_eq_true rfl) (Nat.le_of_ble_eq_true rfl) ⟨rfl, rfl⟩)
