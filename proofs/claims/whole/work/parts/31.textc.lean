theorem hd_X4_digit : yX4_digit.cls = "HeWreckedHimself$Text" ∧ yX4_digit.cls ≠ "java/lang/invoke/MethodHandle" ∧ yX4_digit.cls ≠ "java/lang/invoke/VarHandle" ∧ (parseMethodDescriptor yX4_digit.desc).map (fun d => d.parameters.length) = some 1 := by decide +kernel
theorem hd_X4_isRange : yX4_isRange.cls ≠ "java/lang/invoke/MethodHandle" ∧ yX4_isRange.cls ≠ "java/lang/invoke/VarHandle" ∧ (parseMethodDescriptor yX4_isRange.desc).map (fun d => d.parameters.length) = some 2 := by decide +kernel
set_option maxHeartbeats 4000000 in
set_option maxRecDepth 20000 in
theorem ct_X4_isRange (l : Launch) (d : KD) (x y : Int32) : Ct l d yX4_isRange cX4_isRange 2 (some .boolean) { frames := 1, cells := 0, slots := 0, locals := 20 } [.int x, .int y] [] 0 0 (fun r wo => r = some (.int (b2i (rgP x y))) ∧ wo = []) := by
  refine ct_of (own := RX4) (ini := false) (by decide +kernel) rfl (fun h => by cases h) (Nat.le_of_ble_eq_true rfl) ?_
  intro g X
  show g 0 0 [] [(0, .int x), (1, .int y)] 0 []
  refine g_iload_n X dX4_isRange_0 rfl 0 rfl ?_
  refine g_dSN (host := "HeWreckedHimself") (n := 1) (wr := []) (ws' := []) (st' := [.int (b2i (sq x))]) (As := [.int x]) (st := []) X (ct_X5_isSquare l d x) wd_365 (by decide +kernel) wd_364 wd_52 hd_X5_isSquare ⟨(Nat.le_of_ble_eq_true rfl), (Nat.le_of_ble_eq_true rfl)⟩ rfl rfl dX4_isRange_1 ⟨(Nat.le_of_ble_eq_true rfl), (Nat.le_of_ble_eq_true rfl)⟩ rfl rfl (Nat.le_of_ble_eq_true rfl) [] [] rfl rfl rfl rfl rfl (by decide) [] rfl rfl rfl rfl ?_
  refine g_ifB_eq X 23 dX4_isRange_4 (by decide) (fun c4_1 => ?_) (fun c4_1 => ?_)
  · refine g_iconst (v := 0) X dX4_isRange_23 (by decide) ?_
    exact g_end X (gE_i dX4_isRange_24 (rfl) (Nat.le_of_ble_eq_true rfl) (Nat.le_of_ble_eq_true rfl) ⟨congrArg (fun z => some (Value.int z)) (by first | exact (b2i_t ⟨by assumption, by assumption, Int32.not_lt.mp (by assumption)⟩).symm | exact (b2i_f (fun z => absurd z.1 (by assumption))).symm | exact (b2i_f (fun z => absurd z.2.1 (by assumption))).symm | exact (b2i_f (fun z => absurd z.2.2 (Int32.not_le.mpr (by assumption)))).symm), rfl⟩)
  · refine g_iload_n X dX4_isRange_7 rfl 1 rfl ?_
    refine g_dSN (host := "HeWreckedHimself") (n := 1) (wr := []) (ws' := []) (st' := [.int (b2i (sq y))]) (As := [.int y]) (st := []) X (ct_X5_isSquare l d y) wd_365 (by decide +kernel) wd_364 wd_52 hd_X5_isSquare ⟨(Nat.le_of_ble_eq_true rfl), (Nat.le_of_ble_eq_true rfl)⟩ rfl rfl dX4_isRange_8 ⟨(Nat.le_of_ble_eq_true rfl), (Nat.le_of_ble_eq_true rfl)⟩ rfl rfl (Nat.le_of_ble_eq_true rfl) [] [] rfl rfl rfl rfl rfl (by decide) [] rfl rfl rfl rfl ?_
    refine g_ifB_eq X 23 dX4_isRange_11 (by decide) (fun c11_2 => ?_) (fun c11_2 => ?_)
    · refine g_iconst (v := 0) X dX4_isRange_23 (by decide) ?_
      exact g_end X (gE_i dX4_isRange_24 (rfl) (Nat.le_of_ble_eq_true rfl) (Nat.le_of_ble_eq_true rfl) ⟨congrArg (fun z => some (Value.int z)) (by first | exact (b2i_t ⟨by assumption, by assumption, Int32.not_lt.mp (by assumption)⟩).symm | exact (b2i_f (fun z => absurd z.1 (by assumption))).symm | exact (b2i_f (fun z => absurd z.2.1 (by assumption))).symm | exact (b2i_f (fun z => absurd z.2.2 (Int32.not_le.mpr (by assumption)))).symm), rfl⟩)
    · refine g_iload_n X dX4_isRange_14 rfl 0 rfl ?_
      refine g_iload_n X dX4_isRange_15 rfl 1 rfl ?_
      refine g_icmp_gt X 23 dX4_isRange_16 (by decide) (fun c16_3 => ?_) (fun c16_3 => ?_)
      · refine g_iconst (v := 0) X dX4_isRange_23 (by decide) ?_
        exact g_end X (gE_i dX4_isRange_24 (rfl) (Nat.le_of_ble_eq_true rfl) (Nat.le_of_ble_eq_true rfl) ⟨congrArg (fun z => some (Value.int z)) (by first | exact (b2i_t ⟨by assumption, by assumption, Int32.not_lt.mp (by assumption)⟩).symm | exact (b2i_f (fun z => absurd z.1 (by assumption))).symm | exact (b2i_f (fun z => absurd z.2.1 (by assumption))).symm | exact (b2i_f (fun z => absurd z.2.2 (Int32.not_le.mpr (by assumption)))).symm), rfl⟩)
      · refine g_iconst (v := 1) X dX4_isRange_19 (by decide) ?_
        refine g_goto X 24 dX4_isRange_20 (by decide) ?_
        exact g_end X (gE_i dX4_isRange_24 (rfl) (Nat.le_of_ble_eq_true rfl) (Nat.le_of_ble_eq_true rfl) ⟨congrArg (fun z => some (Value.int z)) (by first | exact (b2i_t ⟨by assumption, by assumption, Int32.not_lt.mp (by assumption)⟩).symm | exact (b2i_f (fun z => absurd z.1 (by assumption))).symm | exact (b2i_f (fun z => absurd z.2.1 (by assumption))).symm | exact (b2i_f (fun z => absurd z.2.2 (Int32.not_le.mpr (by assumption)))).symm), rfl⟩)
set_option maxHeartbeats 4000000 in
set_option maxRecDepth 20000 in
theorem ct_X4_turnAll (l : Launch) (d : KD) (h0 q1 q2 q3 : Nat) (K L S : Nat → Int32) (x y z : Int32) : Ct l d yX4_turnAll cX4_turnAll 5 (some .boolean) { frames := 3, cells := 0, slots := 0, locals := 62 } [.ref h0, .int x, .int y, .int z] [(h0, cO 1 [.ref q1, .ref q2, .ref q3]), (q1, cI d 36 K), (q2, cI d 36 L), (q3, cI d 5 S)] 0 0 (fun r wo => r = some (.int ((trn K S x y z).1)) ∧ wo = [(h0, cO 1 [.ref q1, .ref q2, .ref q3]), (q1, cI d 36 ((trn K S x y z).2)), (q2, cI d 36 L), (q3, cI d 5 S)]) := by
  refine ct_of (own := RX4) (ini := false) (by decide +kernel) rfl (fun h => by cases h) (Nat.le_of_ble_eq_true rfl) ?_
  intro g X
  show g 0 0 [(h0, cO 1 [.ref q1, .ref q2, .ref q3]), (q1, cI d 36 K), (q2, cI d 36 L), (q3, cI d 5 S)] [(0, .ref h0), (1, .int x), (2, .int y), (3, .int z)] 0 []
  refine g_iload_n X dX4_turnAll_0 rfl 1 rfl ?_
  refine g_iload_n X dX4_turnAll_1 rfl 2 rfl ?_
  refine g_dS (n := 2) (wr := [(h0, cO 1 [.ref q1, .ref q2, .ref q3]), (q1, cI d 36 K), (q2, cI d 36 L), (q3, cI d 5 S)]) (ws' := [(h0, cO 1 [.ref q1, .ref q2, .ref q3]), (q1, cI d 36 K), (q2, cI d 36 L), (q3, cI d 5 S)]) (st' := [.int (b2i (rgP x y))]) (As := [.int x, .int y]) (st := []) X (ct_X4_isRange l d x y) wd_450 wd_448 wd_449 wd_54 hd_X4_isRange ⟨(Nat.le_of_ble_eq_true rfl), (Nat.le_of_ble_eq_true rfl)⟩ rfl rfl dX4_turnAll_2 ⟨(Nat.le_of_ble_eq_true rfl), (Nat.le_of_ble_eq_true rfl)⟩ rfl rfl (Nat.le_of_ble_eq_true rfl) [] [0, 1, 2, 3] rfl rfl rfl rfl rfl (by decide) [0, 1, 2, 3] rfl rfl rfl rfl ?_
  refine g_ifB_eq X 15 dX4_turnAll_5 (by decide) (fun c5_1 => ?_) (fun c5_1 => ?_)
  · refine g_iconst (v := 0) X dX4_turnAll_15 (by decide) ?_
    have e_ : (trn K S x y z) = (0, K) := if_neg (fun w => by first | exact absurd w.1 (by assumption) | exact absurd w.2 (by assumption))
    exact g_end X (gE_i dX4_turnAll_16 (rfl) (Nat.le_of_ble_eq_true rfl) (Nat.le_of_ble_eq_true rfl) ⟨congrArg (fun z => some (Value.int z)) (by rw [e_]), ws_cons (rfl) (ws_cons (cI_eq (by rw [e_])) (ws_cons (rfl) (ws_cons (rfl) (rfl))))⟩)
  · refine g_iload_n X dX4_turnAll_8 rfl 3 rfl ?_
    refine g_dSN (host := "HeWreckedHimself") (n := 1) (wr := [(h0, cO 1 [.ref q1, .ref q2, .ref q3]), (q1, cI d 36 K), (q2, cI d 36 L), (q3, cI d 5 S)]) (ws' := [(h0, cO 1 [.ref q1, .ref q2, .ref q3]), (q1, cI d 36 K), (q2, cI d 36 L), (q3, cI d 5 S)]) (st' := [.int (b2i (kd z))]) (As := [.int z]) (st := []) X (ct_X5_isKind l d z) wd_408 (by decide +kernel) wd_407 wd_52 hd_X5_isKind ⟨(Nat.le_of_ble_eq_true rfl), (Nat.le_of_ble_eq_true rfl)⟩ rfl rfl dX4_turnAll_9 ⟨(Nat.le_of_ble_eq_true rfl), (Nat.le_of_ble_eq_true rfl)⟩ rfl rfl (Nat.le_of_ble_eq_true rfl) [] [0, 1, 2, 3] rfl rfl rfl rfl rfl (by decide) [0, 1, 2, 3] rfl rfl rfl rfl ?_
    refine g_ifB_ne X 17 dX4_turnAll_12 (by decide) (fun c12_2 => ?_) (fun c12_2 => ?_)
    · have hrg : rgP x y := by assumption
      have hkz : kd z := by assumption
      obtain ⟨a, ha, rfl⟩ := sq_nat hrg.1
      obtain ⟨b, hb, rfl⟩ := sq_nat hrg.2.1
      have hab : a ≤ b := (nI_leI (by omega) (by omega)).mp hrg.2.2
      have hca : (nI a).toNatClampNeg = a := nI_clamp (by omega)
      have hcb : (nI b).toNatClampNeg = b := nI_clamp (by omega)
      refine g_iload_n X dX4_turnAll_17 rfl 1 rfl ?_
      refine g_istore (lv' := [(4, .int (nI a)), (0, .ref h0), (1, .int (nI a)), (2, .int (nI b)), (3, .int z)]) X dX4_turnAll_18 (by decide) rfl ?_
      have at_20 : ∀ (n_ : Nat) (i : Nat) (hi1 : a ≤ i) (hi : i ≤ b + 1), (37 - i) < n_ → g 0 0 [(h0, cO 1 [.ref q1, .ref q2, .ref q3]), (q1, cI d 36 (rngF K a i z)), (q2, cI d 36 L), (q3, cI d 5 S)] [(0, .ref h0), (2, .int (nI b)), (3, .int z), (4, .int (nI i))] 20 [] := by
        intro n_
        induction n_ with
        | zero => intro i hi1 hi hn_; exact absurd hn_ (Nat.not_lt_zero _)
        | succ n_ ih_20 =>
          intro i hi1 hi hn_20
          refine g_iload X dX4_turnAll_20 3 rfl ?_
          refine g_iload_n X dX4_turnAll_22 rfl 1 rfl ?_
          refine g_icmpN_gt (a := i) (b := b) X rfl rfl (by omega) (by omega) 39 dX4_turnAll_23 (by decide) (fun c23_3 => ?_) (fun c23_3 => ?_)
          · obtain rfl : b + 1 = i := by omega
            refine g_aload_n X dX4_turnAll_39 rfl 0 rfl ?_
            refine g_dV (ci := 1) (q0 := 0) (n := 0) (wr := []) (ws' := [(h0, cO 1 [.ref q1, .ref q2, .ref q3]), (q1, cI d 36 (rngF K a (b + 1) z)), (q2, cI d 36 L), (q3, cI d 5 S)]) (st' := [.int (b2i (cbe (rngF K a (b + 1) z) S (S 0)))]) (As := []) (st := []) X (ct_X1_canBeAtHome l d h0 q1 q2 q3 (rngF K a (b + 1) z) L S) wd_460 wd_457 wd_458 wd_459 wd_53 hd_X1_canBeAtHome rfl ⟨(Nat.le_of_ble_eq_true rfl), (Nat.le_of_ble_eq_true rfl)⟩ rfl rfl dX4_turnAll_40 ⟨(Nat.le_of_ble_eq_true rfl), (Nat.le_of_ble_eq_true rfl)⟩ rfl rfl (Nat.le_of_ble_eq_true rfl) [0, 1, 2, 3] [] rfl rfl rfl rfl rfl (by decide) rfl [0, 1, 2, 3] rfl rfl rfl rfl ?_
            have e_ : (trn K S (nI a) (nI b) z) = (b2i (cbe (rngF K a (b + 1) z) S (S 0)), rngF K a (b + 1) z) := by unfold trn; rw [if_pos ⟨hrg, hkz⟩, ix, ix, hca, hcb]
            exact g_end X (gE_i dX4_turnAll_43 (b2i_nar _) (Nat.le_of_ble_eq_true rfl) (Nat.le_of_ble_eq_true rfl) ⟨congrArg (fun z => some (Value.int z)) (by rw [e_]), ws_cons (rfl) (ws_cons (cI_eq (by rw [e_])) (ws_cons (rfl) (ws_cons (rfl) (rfl))))⟩)
          · refine g_aload_n X dX4_turnAll_26 rfl 0 rfl ?_
            refine g_iload X dX4_turnAll_27 3 rfl ?_
            refine g_iload_n X dX4_turnAll_29 rfl 2 rfl ?_
            refine g_dV (ci := 1) (q0 := 0) (n := 2) (wr := []) (ws' := [(h0, cO 1 [.ref q1, .ref q2, .ref q3]), (q1, cI d 36 (upd (rngF K a i z) i z)), (q2, cI d 36 L), (q3, cI d 5 S)]) (st' := []) (As := [.int (nI i), .int z]) (st := []) X (ct_X1_turn l d h0 q1 q2 q3 (rngF K a i z) L S i z (by first | assumption | omega)) wd_456 wd_453 wd_454 wd_455 wd_53 hd_X1_turn rfl ⟨(Nat.le_of_ble_eq_true rfl), (Nat.le_of_ble_eq_true rfl)⟩ rfl rfl dX4_turnAll_30 ⟨(Nat.le_of_ble_eq_true rfl), (Nat.le_of_ble_eq_true rfl)⟩ rfl rfl (Nat.le_of_ble_eq_true rfl) [0, 1, 2, 3] [] rfl rfl rfl rfl rfl (by decide) rfl [0, 1, 2, 3] rfl rfl rfl rfl ?_
            refine g_iinc (v := nI (i + 1)) (lv' := [(4, .int (nI (i + 1))), (0, .ref h0), (2, .int (nI b)), (3, .int z)]) X dX4_turnAll_33 3 rfl (nI_inc _) (by decide) rfl ?_
            refine g_goto X 20 dX4_turnAll_36 (by decide) ?_
            refine g_lv (lv' := [(0, .ref h0), (2, .int (nI b)), (3, .int z), (4, .int (nI (i + 1)))]) X [1, 2, 3, 0] rfl ?_
            exact g_eq (ws' := [(h0, cO 1 [.ref q1, .ref q2, .ref q3]), (q1, cI d 36 (rngF K a (i + 1) z)), (q2, cI d 36 L), (q3, cI d 5 S)]) (lv' := [(0, .ref h0), (2, .int (nI b)), (3, .int z), (4, .int (nI (i + 1)))]) (ws_cons (rfl) (ws_cons (cI_eq (rngF_s (by omega))) (ws_cons (rfl) (ws_cons (rfl) (rfl))))) (rfl) (ih_20 (i + 1) (by first | assumption | omega) (by first | assumption | omega) (by omega))
      refine g_lv (lv' := [(0, .ref h0), (2, .int (nI b)), (3, .int z), (4, .int (nI a))]) X [1, 3, 4, 0] rfl ?_
      exact g_eq (ws' := [(h0, cO 1 [.ref q1, .ref q2, .ref q3]), (q1, cI d 36 (rngF K a a z)), (q2, cI d 36 L), (q3, cI d 5 S)]) (lv' := [(0, .ref h0), (2, .int (nI b)), (3, .int z), (4, .int (nI a))]) (ws_cons (rfl) (ws_cons (cI_eq (rngF_0)) (ws_cons (rfl) (ws_cons (rfl) (rfl))))) (rfl) (at_20 _ a (by first | assumption | omega) (by first | assumption | omega) (Nat.lt_succ_self _))
    · refine g_iconst (v := 0) X dX4_turnAll_15 (by decide) ?_
      have e_ : (trn K S x y z) = (0, K) := if_neg (fun w => by first | exact absurd w.1 (by assumption) | exact absurd w.2 (by assumption))
      exact g_end X (gE_i dX4_turnAll_16 (rfl) (Nat.le_of_ble_eq_true rfl) (Nat.le_of_ble_eq_true rfl) ⟨congrArg (fun z => some (Value.int z)) (by rw [e_]), ws_cons (rfl) (ws_cons (cI_eq (by rw [e_])) (ws_cons (rfl) (ws_cons (rfl) (rfl))))⟩)
set_option maxHeartbeats 4000000 in
set_option maxRecDepth 20000 in
theorem ct_X4_makeAll (l : Launch) (d : KD) (h0 q1 q2 q3 : Nat) (K L S : Nat → Int32) (x y z : Int32) : Ct l d yX4_makeAll cX4_makeAll 5 (some .boolean) { frames := 2, cells := 0, slots := 0, locals := 42 } [.ref h0, .int x, .int y, .int z] [(h0, cO 1 [.ref q1, .ref q2, .ref q3]), (q1, cI d 36 K), (q2, cI d 36 L), (q3, cI d 5 S)] 0 0 (fun r wo => r = some (.int ((mka L x y z).1)) ∧ wo = [(h0, cO 1 [.ref q1, .ref q2, .ref q3]), (q1, cI d 36 K), (q2, cI d 36 ((mka L x y z).2)), (q3, cI d 5 S)]) := by
  refine ct_of (own := RX4) (ini := false) (by decide +kernel) rfl (fun h => by cases h) (Nat.le_of_ble_eq_true rfl) ?_
  intro g X
  show g 0 0 [(h0, cO 1 [.ref q1, .ref q2, .ref q3]), (q1, cI d 36 K), (q2, cI d 36 L), (q3, cI d 5 S)] [(0, .ref h0), (1, .int x), (2, .int y), (3, .int z)] 0 []
  refine g_iload_n X dX4_makeAll_0 rfl 1 rfl ?_
  refine g_iload_n X dX4_makeAll_1 rfl 2 rfl ?_
  refine g_dS (n := 2) (wr := [(h0, cO 1 [.ref q1, .ref q2, .ref q3]), (q1, cI d 36 K), (q2, cI d 36 L), (q3, cI d 5 S)]) (ws' := [(h0, cO 1 [.ref q1, .ref q2, .ref q3]), (q1, cI d 36 K), (q2, cI d 36 L), (q3, cI d 5 S)]) (st' := [.int (b2i (rgP x y))]) (As := [.int x, .int y]) (st := []) X (ct_X4_isRange l d x y) wd_450 wd_448 wd_449 wd_54 hd_X4_isRange ⟨(Nat.le_of_ble_eq_true rfl), (Nat.le_of_ble_eq_true rfl)⟩ rfl rfl dX4_makeAll_2 ⟨(Nat.le_of_ble_eq_true rfl), (Nat.le_of_ble_eq_true rfl)⟩ rfl rfl (Nat.le_of_ble_eq_true rfl) [] [0, 1, 2, 3] rfl rfl rfl rfl rfl (by decide) [0, 1, 2, 3] rfl rfl rfl rfl ?_
  refine g_ifB_ne X 10 dX4_makeAll_5 (by decide) (fun c5_1 => ?_) (fun c5_1 => ?_)
  · have hrg : rgP x y := by assumption
    obtain ⟨a, ha, rfl⟩ := sq_nat hrg.1
    obtain ⟨b, hb, rfl⟩ := sq_nat hrg.2.1
    have hab : a ≤ b := (nI_leI (by omega) (by omega)).mp hrg.2.2
    have hca : (nI a).toNatClampNeg = a := nI_clamp (by omega)
    have hcb : (nI b).toNatClampNeg = b := nI_clamp (by omega)
    refine g_iload_n X dX4_makeAll_10 rfl 1 rfl ?_
    refine g_istore (lv' := [(4, .int (nI a)), (0, .ref h0), (1, .int (nI a)), (2, .int (nI b)), (3, .int z)]) X dX4_makeAll_11 (by decide) rfl ?_
    have at_13 : ∀ (n_ : Nat) (i : Nat) (hi1 : a ≤ i) (hi : i ≤ b + 1), (37 - i) < n_ → g 0 0 [(h0, cO 1 [.ref q1, .ref q2, .ref q3]), (q1, cI d 36 K), (q2, cI d 36 (rngF L a i z)), (q3, cI d 5 S)] [(0, .ref h0), (2, .int (nI b)), (3, .int z), (4, .int (nI i))] 13 [] := by
      intro n_
      induction n_ with
      | zero => intro i hi1 hi hn_; exact absurd hn_ (Nat.not_lt_zero _)
      | succ n_ ih_13 =>
        intro i hi1 hi hn_13
        refine g_iload X dX4_makeAll_13 3 rfl ?_
        refine g_iload_n X dX4_makeAll_15 rfl 1 rfl ?_
        refine g_icmpN_gt (a := i) (b := b) X rfl rfl (by omega) (by omega) 32 dX4_makeAll_16 (by decide) (fun c16_2 => ?_) (fun c16_2 => ?_)
        · obtain rfl : b + 1 = i := by omega
          refine g_iconst (v := 1) X dX4_makeAll_32 (by decide) ?_
          have e_ : (mka L (nI a) (nI b) z) = (1, rngF L a (b + 1) z) := by unfold mka; rw [if_pos hrg, ix, ix, hca, hcb]
          exact g_end X (gE_i dX4_makeAll_33 (rfl) (Nat.le_of_ble_eq_true rfl) (Nat.le_of_ble_eq_true rfl) ⟨congrArg (fun z => some (Value.int z)) (by rw [e_]), ws_cons (rfl) (ws_cons (rfl) (ws_cons (cI_eq (by rw [e_])) (ws_cons (rfl) (rfl))))⟩)
        · refine g_aload_n X dX4_makeAll_19 rfl 0 rfl ?_
          refine g_iload X dX4_makeAll_20 3 rfl ?_
          refine g_iload_n X dX4_makeAll_22 rfl 2 rfl ?_
          refine g_dV (ci := 1) (q0 := 0) (n := 2) (wr := []) (ws' := [(h0, cO 1 [.ref q1, .ref q2, .ref q3]), (q1, cI d 36 K), (q2, cI d 36 (upd (rngF L a i z) i z)), (q3, cI d 5 S)]) (st' := []) (As := [.int (nI i), .int z]) (st := []) X (ct_X1_putLikely l d h0 q1 q2 q3 K (rngF L a i z) S i z (by first | assumption | omega)) wd_468 wd_465 wd_466 wd_467 wd_53 hd_X1_putLikely rfl ⟨(Nat.le_of_ble_eq_true rfl), (Nat.le_of_ble_eq_true rfl)⟩ rfl rfl dX4_makeAll_23 ⟨(Nat.le_of_ble_eq_true rfl), (Nat.le_of_ble_eq_true rfl)⟩ rfl rfl (Nat.le_of_ble_eq_true rfl) [0, 1, 2, 3] [] rfl rfl rfl rfl rfl (by decide) rfl [0, 1, 2, 3] rfl rfl rfl rfl ?_
          refine g_iinc (v := nI (i + 1)) (lv' := [(4, .int (nI (i + 1))), (0, .ref h0), (2, .int (nI b)), (3, .int z)]) X dX4_makeAll_26 3 rfl (nI_inc _) (by decide) rfl ?_
          refine g_goto X 13 dX4_makeAll_29 (by decide) ?_
          refine g_lv (lv' := [(0, .ref h0), (2, .int (nI b)), (3, .int z), (4, .int (nI (i + 1)))]) X [1, 2, 3, 0] rfl ?_
          exact g_eq (ws' := [(h0, cO 1 [.ref q1, .ref q2, .ref q3]), (q1, cI d 36 K), (q2, cI d 36 (rngF L a (i + 1) z)), (q3, cI d 5 S)]) (lv' := [(0, .ref h0), (2, .int (nI b)), (3, .int z), (4, .int (nI (i + 1)))]) (ws_cons (rfl) (ws_cons (rfl) (ws_cons (cI_eq (rngF_s (by omega))) (ws_cons (rfl) (rfl))))) (rfl) (ih_13 (i + 1) (by first | assumption | omega) (by first | assumption | omega) (by omega))
    refine g_lv (lv' := [(0, .ref h0), (2, .int (nI b)), (3, .int z), (4, .int (nI a))]) X [1, 3, 4, 0] rfl ?_
    exact g_eq (ws' := [(h0, cO 1 [.ref q1, .ref q2, .ref q3]), (q1, cI d 36 K), (q2, cI d 36 (rngF L a a z)), (q3, cI d 5 S)]) (lv' := [(0, .ref h0), (2, .int (nI b)), (3, .int z), (4, .int (nI a))]) (ws_cons (rfl) (ws_cons (rfl) (ws_cons (cI_eq (rngF_0)) (ws_cons (rfl) (rfl))))) (rfl) (at_13 _ a (by first | assumption | omega) (by first | assumption | omega) (Nat.lt_succ_self _))
  · refine g_iconst (v := 0) X dX4_makeAll_8 (by decide) ?_
    have e_ : (mka L x y z) = (0, L) := if_neg (by assumption)
    exact g_end X (gE_i dX4_makeAll_9 (rfl) (Nat.le_of_ble_eq_true rfl) (Nat.le_of_ble_eq_true rfl) ⟨congrArg (fun z => some (Value.int z)) (by rw [e_]), ws_cons (rfl) (ws_cons (rfl) (ws_cons (cI_eq (by rw [e_])) (ws_cons (rfl) (rfl))))⟩)
set_option maxHeartbeats 4000000 in
set_option maxRecDepth 20000 in
theorem ct_X4_putNumber (l : Launch) (d : KD) (h0 q1 q2 q3 : Nat) (K L S : Nat → Int32) (j : Nat) (y : Int32) (hj : j < 5) : Ct l d yX4_putNumber cX4_putNumber 3 (some .boolean) { frames := 3, cells := 0, slots := 0, locals := 62 } [.ref h0, .int (nI j), .int y] [(h0, cO 1 [.ref q1, .ref q2, .ref q3]), (q1, cI d 36 K), (q2, cI d 36 L), (q3, cI d 5 S)] 0 0 (fun r wo => r = some (.int ((ptn K S j y).1)) ∧ wo = [(h0, cO 1 [.ref q1, .ref q2, .ref q3]), (q1, cI d 36 K), (q2, cI d 36 L), (q3, cI d 5 ((ptn K S j y).2))]) := by
  refine ct_of (own := RX4) (ini := false) (by decide +kernel) rfl (fun h => by cases h) (Nat.le_of_ble_eq_true rfl) ?_
  intro g X
  show g 0 0 [(h0, cO 1 [.ref q1, .ref q2, .ref q3]), (q1, cI d 36 K), (q2, cI d 36 L), (q3, cI d 5 S)] [(0, .ref h0), (1, .int (nI j)), (2, .int y)] 0 []
  refine g_iload_n X dX4_putNumber_0 rfl 1 rfl ?_
  refine g_ifN_lt (a := j) X rfl (by omega) 27 dX4_putNumber_1 (by decide) (fun c1_1 => absurd c1_1 (by omega)) (fun c1_1 => ?_)
  refine g_iload_n X dX4_putNumber_4 rfl 1 rfl ?_
  refine g_iconst (v := 5) X dX4_putNumber_5 (by decide) ?_
  refine g_icmpN_ge (a := j) (b := 5) X rfl rfl (by omega) (by omega) 27 dX4_putNumber_6 (by decide) (fun c6_2 => absurd hj (by omega)) (fun c6_2 => ?_)
  refine g_iload_n X dX4_putNumber_9 rfl 2 rfl ?_
  refine g_getsN X 0 "LEAST" (by simp) (by decide +kernel) dX4_putNumber_10 ?_
  refine g_iload_n X dX4_putNumber_13 rfl 1 rfl ?_
  refine g_sld X 0 leastF (by simp) (vp_in_nI hj (by omega)) dX4_putNumber_14 ?_
  refine g_icmp_lt X 27 dX4_putNumber_15 (by decide) (fun c15_3 => ?_) (fun c15_3 => ?_)
  · refine g_iconst (v := 0) X dX4_putNumber_27 (by decide) ?_
    have e_ : (ptn K S j y) = (0, S) := if_pos (by rw [show (nI j).toNatClampNeg = j from nI_clamp (by omega)] at *; first | exact Or.inl (by assumption) | exact Or.inr (Int32.not_le.mp (by assumption)))
    exact g_end X (gE_i dX4_putNumber_28 (rfl) (Nat.le_of_ble_eq_true rfl) (Nat.le_of_ble_eq_true rfl) ⟨congrArg (fun z => some (Value.int z)) (by rw [e_]), ws_cons (rfl) (ws_cons (rfl) (ws_cons (rfl) (ws_cons (cI_eq (by rw [e_])) (rfl))))⟩)
  · refine g_iload_n X dX4_putNumber_18 rfl 2 rfl ?_
    refine g_getsN X 1 "GREATEST" (by simp) (by decide +kernel) dX4_putNumber_19 ?_
    refine g_iload_n X dX4_putNumber_22 rfl 1 rfl ?_
    refine g_sld X 1 greatF (by simp) (vp_in_nI hj (by omega)) dX4_putNumber_23 ?_
    refine g_icmp_le X 29 dX4_putNumber_24 (by decide) (fun c24_4 => ?_) (fun c24_4 => ?_)
    · refine g_aload_n X dX4_putNumber_29 rfl 0 rfl ?_
      refine g_iload_n X dX4_putNumber_30 rfl 1 rfl ?_
      refine g_iload_n X dX4_putNumber_31 rfl 2 rfl ?_
      refine g_dV (ci := 1) (q0 := 0) (n := 2) (wr := []) (ws' := [(h0, cO 1 [.ref q1, .ref q2, .ref q3]), (q1, cI d 36 K), (q2, cI d 36 L), (q3, cI d 5 (upd S j y))]) (st' := []) (As := [.int (nI j), .int y]) (st := []) X (ct_X1_putNumber l d h0 q1 q2 q3 K L S j y (by first | assumption | omega)) wd_479 wd_476 wd_477 wd_478 wd_53 hd_X1_putNumber rfl ⟨(Nat.le_of_ble_eq_true rfl), (Nat.le_of_ble_eq_true rfl)⟩ rfl rfl dX4_putNumber_32 ⟨(Nat.le_of_ble_eq_true rfl), (Nat.le_of_ble_eq_true rfl)⟩ rfl rfl (Nat.le_of_ble_eq_true rfl) [0, 1, 2, 3] [] rfl rfl rfl rfl rfl (by decide) rfl [0, 1, 2, 3] rfl rfl rfl rfl ?_
      refine g_aload_n X dX4_putNumber_35 rfl 0 rfl ?_
      refine g_dV (ci := 1) (q0 := 0) (n := 0) (wr := []) (ws' := [(h0, cO 1 [.ref q1, .ref q2, .ref q3]), (q1, cI d 36 K), (q2, cI d 36 L), (q3, cI d 5 (upd S j y))]) (st' := [.int (b2i (cbe K (upd S j y) ((upd S j y) 0)))]) (As := []) (st := []) X (ct_X1_canBeAtHome l d h0 q1 q2 q3 K L (upd S j y)) wd_460 wd_457 wd_458 wd_459 wd_53 hd_X1_canBeAtHome rfl ⟨(Nat.le_of_ble_eq_true rfl), (Nat.le_of_ble_eq_true rfl)⟩ rfl rfl dX4_putNumber_36 ⟨(Nat.le_of_ble_eq_true rfl), (Nat.le_of_ble_eq_true rfl)⟩ rfl rfl (Nat.le_of_ble_eq_true rfl) [0, 1, 2, 3] [] rfl rfl rfl rfl rfl (by decide) rfl [0, 1, 2, 3] rfl rfl rfl rfl ?_
      have e_ : (ptn K S j y) = (b2i (cbe K (upd S j y) (upd S j y 0)), upd S j y) := if_neg (by rw [show (nI j).toNatClampNeg = j from nI_clamp (by omega)] at *; exact fun w => w.elim (fun q => absurd q (by assumption)) (fun q => absurd q (Int32.not_lt.mpr (by assumption))))
      exact g_end X (gE_i dX4_putNumber_39 (b2i_nar _) (Nat.le_of_ble_eq_true rfl) (Nat.le_of_ble_eq_true rfl) ⟨congrArg (fun z => some (Value.int z)) (by rw [e_]), ws_cons (rfl) (ws_cons (rfl) (ws_cons (rfl) (ws_cons (cI_eq (by rw [e_])) (rfl))))⟩)
    · refine g_iconst (v := 0) X dX4_putNumber_27 (by decide) ?_
      have e_ : (ptn K S j y) = (0, S) := if_pos (by rw [show (nI j).toNatClampNeg = j from nI_clamp (by omega)] at *; first | exact Or.inl (by assumption) | exact Or.inr (Int32.not_le.mp (by assumption)))
      exact g_end X (gE_i dX4_putNumber_28 (rfl) (Nat.le_of_ble_eq_true rfl) (Nat.le_of_ble_eq_true rfl) ⟨congrArg (fun z => some (Value.int z)) (by rw [e_]), ws_cons (rfl) (ws_cons (rfl) (ws_cons (rfl) (ws_cons (cI_eq (by rw [e_])) (rfl))))⟩)
set_option maxHeartbeats 4000000 in
set_option maxRecDepth 20000 in
theorem ct_X4_codeAt (l : Launch) (d : KD) (e0 e1 tn : Nat) (A : Nat → Nat) (i p : Nat) (htn : tn ≤ 96) (hA : ∀ q, A q < 256) (hi9 : i < 9) (hq : 0 < strL.getD i 0) (hp : p < 2147483648) : Ct l d yX4_codeAt cX4_codeAt 4 (some .int) { frames := 4, cells := 0, slots := 0, locals := 91 } [.ref e0, .ref (kS d i), .int (nI p)] [(e0, cO 4 [.ref e1, .int (nI tn)]), (e1, cI d 96 (nF A))] 0 0 (fun r wo => r = some (.int (cdA A tn i p)) ∧ wo = [(e0, cO 4 [.ref e1, .int (nI tn)]), (e1, cI d 96 (nF A))]) := by
  refine ct_of (own := RX4) (ini := false) (by decide +kernel) rfl (fun h => by cases h) (Nat.le_of_ble_eq_true rfl) ?_
  intro g X
  show g 0 0 [(e0, cO 4 [.ref e1, .int (nI tn)]), (e1, cI d 96 (nF A))] [(0, .ref e0), (1, .ref (kS d i)), (2, .int (nI p))] 0 []
  refine g_aload_n X dX4_codeAt_0 rfl 0 rfl ?_
  refine g_iload_n X dX4_codeAt_1 rfl 2 rfl ?_
  refine g_dV (ci := 4) (q0 := 0) (n := 1) (wr := []) (ws' := [(e0, cO 4 [.ref e1, .int (nI tn)]), (e1, cI d 96 (nF A))]) (st' := [.int (ltA A tn p)]) (As := [.int (nI p)]) (st := []) X (ct_X4_letterAt l d e0 e1 tn A p (by first | assumption | omega) (by first | assumption | omega)) wd_208 wd_205 wd_207 wd_1 wd_54 hd_X4_letterAt rfl ⟨(Nat.le_of_ble_eq_true rfl), (Nat.le_of_ble_eq_true rfl)⟩ rfl rfl dX4_codeAt_2 ⟨(Nat.le_of_ble_eq_true rfl), (Nat.le_of_ble_eq_true rfl)⟩ rfl rfl (Nat.le_of_ble_eq_true rfl) [0, 1] [] rfl rfl rfl rfl rfl (by decide) rfl [0, 1] rfl rfl rfl rfl ?_
  refine g_istore_n (lv' := [(3, .int (ltA A tn p)), (0, .ref e0), (1, .ref (kS d i)), (2, .int (nI p))]) X dX4_codeAt_5 rfl (by decide) rfl ?_
  refine g_iload_n X dX4_codeAt_6 rfl 0 rfl ?_
  refine g_if_ge X 14 dX4_codeAt_7 (by decide) (fun c7_1 => ?_) (fun c7_1 => ?_)
  · have hpt := ltA_ge c7_1
    have hl : ltA A tn p = nI (A p) := if_pos hpt
    have hAp := hA p
    refine g_eq (lv' := [(3, .int (nI (A p))), (0, .ref e0), (1, .ref (kS d i)), (2, .int (nI p))]) rfl (lv_cons (vI (hl)) (lv_cons (rfl) (lv_cons (rfl) (lv_cons (rfl) (rfl))))) ?_
    refine g_aload_n X dX4_codeAt_14 rfl 2 rfl ?_
    refine g_iload_n X dX4_codeAt_15 rfl 0 rfl ?_
    refine g_i2c X dX4_codeAt_16 ?_
    refine g_tope (y := nI (A p)) (i2c_n (by omega)) ?_
    refine g_dVS (n := 1) (st' := [.int (ixo i (A p))]) (As := [.int (nI (A p))]) (st := []) X i (by assumption) (ct_J0_indexOf_0f7a4 l d i (A p) (by first | assumption | omega) (hA p) (by first | assumption | omega)) wd_278 wd_275 wd_276 wd_277 wd_59 hd_J0_indexOf_0f7a4 ⟨(Nat.le_of_ble_eq_true rfl), (Nat.le_of_ble_eq_true rfl)⟩ rfl rfl dX4_codeAt_17 ⟨(Nat.le_of_ble_eq_true rfl), (Nat.le_of_ble_eq_true rfl)⟩ rfl rfl (Nat.le_of_ble_eq_true rfl) [0, 1] rfl rfl rfl ?_
    exact g_end X (gE_i dX4_codeAt_20 (rfl) (Nat.le_of_ble_eq_true rfl) (Nat.le_of_ble_eq_true rfl) ⟨congrArg (fun z => some (Value.int z)) ((if_pos hpt).symm), rfl⟩)
  · refine g_iconst (v := (-1)) X dX4_codeAt_10 (by decide) ?_
    refine g_goto X 20 dX4_codeAt_11 (by decide) ?_
    exact g_end X (gE_i dX4_codeAt_20 (rfl) (Nat.le_of_ble_eq_true rfl) (Nat.le_of_ble_eq_true rfl) ⟨congrArg (fun z => some (Value.int z)) ((if_neg (fun z => (by assumption : ¬ 0 ≤ ltA A tn p) (by unfold ltA; rw [if_pos z]; exact nI_pos' (by have := hA p; omega)))).symm), rfl⟩)
set_option maxHeartbeats 4000000 in
set_option maxRecDepth 20000 in
theorem ct_X4_digit (l : Launch) (d : KD) (e0 e1 tn : Nat) (A : Nat → Nat) (p : Nat) (htn : tn ≤ 96) (hp : p < 2147483648) : Ct l d yX4_digit cX4_digit 2 (some .int) { frames := 1, cells := 0, slots := 0, locals := 21 } [.ref e0, .int (nI p)] [(e0, cO 4 [.ref e1, .int (nI tn)]), (e1, cI d 96 (nF A))] 0 0 (fun r wo => r = some (.int (dgA A tn p)) ∧ wo = [(e0, cO 4 [.ref e1, .int (nI tn)]), (e1, cI d 96 (nF A))]) := by
  refine ct_of (own := RX4) (ini := false) (by decide +kernel) rfl (fun h => by cases h) (Nat.le_of_ble_eq_true rfl) ?_
  intro g X
  show g 0 0 [(e0, cO 4 [.ref e1, .int (nI tn)]), (e1, cI d 96 (nF A))] [(0, .ref e0), (1, .int (nI p))] 0 []
  refine g_aload_n X dX4_digit_0 rfl 0 rfl ?_
  refine g_iload_n X dX4_digit_1 rfl 1 rfl ?_
  refine g_dV (ci := 4) (q0 := 0) (n := 1) (wr := []) (ws' := [(e0, cO 4 [.ref e1, .int (nI tn)]), (e1, cI d 96 (nF A))]) (st' := [.int (ltA A tn p)]) (As := [.int (nI p)]) (st := []) X (ct_X4_letterAt l d e0 e1 tn A p (by first | assumption | omega) (by first | assumption | omega)) wd_208 wd_205 wd_207 wd_1 wd_54 hd_X4_letterAt rfl ⟨(Nat.le_of_ble_eq_true rfl), (Nat.le_of_ble_eq_true rfl)⟩ rfl rfl dX4_digit_2 ⟨(Nat.le_of_ble_eq_true rfl), (Nat.le_of_ble_eq_true rfl)⟩ rfl rfl (Nat.le_of_ble_eq_true rfl) [0, 1] [] rfl rfl rfl rfl rfl (by decide) rfl [0, 1] rfl rfl rfl rfl ?_
  refine g_bipush (v := 48) X dX4_digit_5 (by decide) ?_
  refine g_isub X dX4_digit_7 ?_
  exact g_end X (gE_i dX4_digit_8 (rfl) (Nat.le_of_ble_eq_true rfl) (Nat.le_of_ble_eq_true rfl) ⟨congrArg (fun z => some (Value.int z)) (by rfl), rfl⟩)
set_option maxHeartbeats 4000000 in
set_option maxRecDepth 20000 in
theorem ct_X4_twoDigits (l : Launch) (d : KD) (e0 e1 tn : Nat) (A : Nat → Nat) (p : Nat) (htn : tn ≤ 96) (hp : p < 2147483647) : Ct l d yX4_twoDigits cX4_twoDigits 2 (some .int) { frames := 2, cells := 0, slots := 0, locals := 42 } [.ref e0, .int (nI p)] [(e0, cO 4 [.ref e1, .int (nI tn)]), (e1, cI d 96 (nF A))] 0 0 (fun r wo => r = some (.int (tdA A tn p)) ∧ wo = [(e0, cO 4 [.ref e1, .int (nI tn)]), (e1, cI d 96 (nF A))]) := by
  refine ct_of (own := RX4) (ini := false) (by decide +kernel) rfl (fun h => by cases h) (Nat.le_of_ble_eq_true rfl) ?_
  intro g X
  show g 0 0 [(e0, cO 4 [.ref e1, .int (nI tn)]), (e1, cI d 96 (nF A))] [(0, .ref e0), (1, .int (nI p))] 0 []
  refine g_bipush (v := 10) X dX4_twoDigits_0 (by decide) ?_
  refine g_aload_n X dX4_twoDigits_2 rfl 0 rfl ?_
  refine g_iload_n X dX4_twoDigits_3 rfl 1 rfl ?_
  refine g_dV (ci := 4) (q0 := 0) (n := 1) (wr := []) (ws' := [(e0, cO 4 [.ref e1, .int (nI tn)]), (e1, cI d 96 (nF A))]) (st' := [.int (dgA A tn p), .int 10]) (As := [.int (nI p)]) (st := [.int 10]) X (ct_X4_digit l d e0 e1 tn A p (by first | assumption | omega) (by first | assumption | omega)) wd_444 wd_441 wd_443 wd_11 wd_54 hd_X4_digit rfl ⟨(Nat.le_of_ble_eq_true rfl), (Nat.le_of_ble_eq_true rfl)⟩ rfl rfl dX4_twoDigits_4 ⟨(Nat.le_of_ble_eq_true rfl), (Nat.le_of_ble_eq_true rfl)⟩ rfl rfl (Nat.le_of_ble_eq_true rfl) [0, 1] [] rfl rfl rfl rfl rfl (by decide) rfl [0, 1] rfl rfl rfl rfl ?_
  refine g_imul X dX4_twoDigits_7 ?_
  refine g_aload_n X dX4_twoDigits_8 rfl 0 rfl ?_
  refine g_iload_n X dX4_twoDigits_9 rfl 1 rfl ?_
  refine g_iconst (v := 1) X dX4_twoDigits_10 (by decide) ?_
  refine g_iadd X dX4_twoDigits_11 ?_
  refine g_tope (y := nI (p + 1)) (nI_add _ _) ?_
  refine g_dV (ci := 4) (q0 := 0) (n := 1) (wr := []) (ws' := [(e0, cO 4 [.ref e1, .int (nI tn)]), (e1, cI d 96 (nF A))]) (st' := [.int (dgA A tn (p + 1)), .int (10 * (dgA A tn p))]) (As := [.int (nI (p + 1))]) (st := [.int (10 * (dgA A tn p))]) X (ct_X4_digit l d e0 e1 tn A (p + 1) (by first | assumption | omega) (by first | assumption | omega)) wd_444 wd_441 wd_443 wd_11 wd_54 hd_X4_digit rfl ⟨(Nat.le_of_ble_eq_true rfl), (Nat.le_of_ble_eq_true rfl)⟩ rfl rfl dX4_twoDigits_12 ⟨(Nat.le_of_ble_eq_true rfl), (Nat.le_of_ble_eq_true rfl)⟩ rfl rfl (Nat.le_of_ble_eq_true rfl) [0, 1] [] rfl rfl rfl rfl rfl (by decide) rfl [0, 1] rfl rfl rfl rfl ?_
  refine g_iadd X dX4_twoDigits_15 ?_
  exact g_end X (gE_i dX4_twoDigits_16 (rfl) (Nat.le_of_ble_eq_true rfl) (Nat.le_of_ble_eq_true rfl) ⟨congrArg (fun z => some (Value.int z)) (by rfl), rfl⟩)
