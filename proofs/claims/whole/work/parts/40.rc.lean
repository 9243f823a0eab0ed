theorem hd_X6_fromHome : yX6_fromHome.cls = "HeWreckedHimselfModel" ∧ yX6_fromHome.cls ≠ "java/lang/invoke/MethodHandle" ∧ yX6_fromHome.cls ≠ "java/lang/invoke/VarHandle" ∧ (parseMethodDescriptor yX6_fromHome.desc).map (fun d => d.parameters.length) = some 0 := by decide +kernel
theorem hd_X6_isBesideShoal : yX6_isBesideShoal.cls = "HeWreckedHimselfModel" ∧ yX6_isBesideShoal.cls ≠ "java/lang/invoke/MethodHandle" ∧ yX6_isBesideShoal.cls ≠ "java/lang/invoke/VarHandle" ∧ (parseMethodDescriptor yX6_isBesideShoal.desc).map (fun d => d.parameters.length) = some 1 := by decide +kernel
theorem hd_X6_isSquare : yX6_isSquare.cls ≠ "java/lang/invoke/MethodHandle" ∧ yX6_isSquare.cls ≠ "java/lang/invoke/VarHandle" ∧ (parseMethodDescriptor yX6_isSquare.desc).map (fun d => d.parameters.length) = some 1 := by decide +kernel
theorem hd_X6_no : yX6_no.cls = "HeWreckedHimselfModel" ∧ yX6_no.cls ≠ "java/lang/invoke/MethodHandle" ∧ yX6_no.cls ≠ "java/lang/invoke/VarHandle" ∧ (parseMethodDescriptor yX6_no.desc).map (fun d => d.parameters.length) = some 1 := by decide +kernel
theorem hd_X6_sails : yX6_sails.cls = "HeWreckedHimselfModel" ∧ yX6_sails.cls ≠ "java/lang/invoke/MethodHandle" ∧ yX6_sails.cls ≠ "java/lang/invoke/VarHandle" ∧ (parseMethodDescriptor yX6_sails.desc).map (fun d => d.parameters.length) = some 2 := by decide +kernel
set_option maxHeartbeats 4000000 in
set_option maxRecDepth 20000 in
theorem ct_X6_fromHome (l : Launch) (d : KD) (m0 a0 a1 a2 a4 a6 a8 a9 b1 b2 b3 b4 b5 b6 : Nat) (K S H : Nat → Int32) (tn ap rn : Nat) (im : Int32) (hh : sq (S 0)) : Ct l d yX6_fromHome cX6_fromHome 1 none { frames := 2, cells := 0, slots := 0, locals := 49 } [.ref m0] [(m0, cO 6 [.ref a0, .ref a1, .ref a2, .int (nI tn), .ref a4, .int (nI ap), .ref a6, .int (nI rn), .ref a8, .ref a9, .int im, .ref b1, .ref b2, .ref b3, .ref b4, .ref b5, .ref b6]), (a0, cI d 36 K), (a2, cI d 5 S), (b5, cI d 36 H)] 0 0 (fun r wo => r = none ∧ wo = [(m0, cO 6 [.ref a0, .ref a1, .ref a2, .int (nI tn), .ref a4, .int (nI ap), .ref a6, .int (nI rn), .ref a8, .ref a9, .int im, .ref b1, .ref b2, .ref b3, .ref b4, .ref b5, .ref b6]), (a0, cI d 36 K), (a2, cI d 5 S), (b5, cI d 36 (dF (dsI K S (S 0))))]) := by
  refine ct_of (own := RX6) (ini := false) (by decide +kernel) rfl (fun h => by cases h) (Nat.le_of_ble_eq_true rfl) ?_
  intro g X
  show g 0 0 [(m0, cO 6 [.ref a0, .ref a1, .ref a2, .int (nI tn), .ref a4, .int (nI ap), .ref a6, .int (nI rn), .ref a8, .ref a9, .int im, .ref b1, .ref b2, .ref b3, .ref b4, .ref b5, .ref b6]), (a0, cI d 36 K), (a2, cI d 5 S), (b5, cI d 36 H)] [(0, .ref m0)] 0 []
  obtain ⟨jh, hjh, e0⟩ := sq_nat hh
  refine g_aload_n X dX6_fromHome_0 rfl 0 rfl ?_
  refine g_aload_n X dX6_fromHome_1 rfl 0 rfl ?_
  refine g_get (C := RX6) (T := TX6) (N := 17) (ci := 6) (v := .ref a2) X rfl inT6 2 (by decide) wd_798 rfl dX6_fromHome_2 0 rfl rfl ?_
  refine g_iconst (v := 0) X dX6_fromHome_5 (by decide) ?_
  refine g_iaload_N (k := 0) X rfl dX6_fromHome_6 2 rfl (by first | assumption | omega) (by omega) ?_
  refine g_tope (y := nI jh) (e0) ?_
  refine g_aload_n X dX6_fromHome_7 rfl 0 rfl ?_
  refine g_get (C := RX6) (T := TX6) (N := 17) (ci := 6) (v := .ref b5) X rfl inT6 15 (by decide) wd_811 rfl dX6_fromHome_8 0 rfl rfl ?_
  refine g_dV (ci := 6) (q0 := 0) (n := 2) (wr := []) (ws' := [(m0, cO 6 [.ref a0, .ref a1, .ref a2, .int (nI tn), .ref a4, .int (nI ap), .ref a6, .int (nI rn), .ref a8, .ref a9, .int im, .ref b1, .ref b2, .ref b3, .ref b4, .ref b5, .ref b6]), (a0, cI d 36 K), (a2, cI d 5 S), (b5, cI d 36 (dF (dsI K S (nI jh))))]) (st' := []) (As := [.int (nI jh), .ref b5]) (st := []) X (ct_X6_sails l d m0 a0 a1 a2 a4 a6 a8 a9 b1 b2 b3 b4 b5 b6 K S H b5 jh tn ap rn im (by first | assumption | omega)) wd_904 wd_901 wd_903 wd_34 wd_58 hd_X6_sails rfl ⟨(Nat.le_of_ble_eq_true rfl), (Nat.le_of_ble_eq_true rfl)⟩ rfl rfl dX6_fromHome_11 ⟨(Nat.le_of_ble_eq_true rfl), (Nat.le_of_ble_eq_true rfl)⟩ rfl rfl (Nat.le_of_ble_eq_true rfl) [0, 1, 2, 3] [] rfl rfl rfl rfl rfl (by decide) rfl [0, 1, 2, 3] rfl rfl rfl rfl ?_
  exact g_end X (gE_v dX6_fromHome_14 (Nat.le_of_ble_eq_true rfl) (Nat.le_of_ble_eq_true rfl) ⟨rfl, ws_cons (rfl) (ws_cons (rfl) (ws_cons (rfl) (ws_cons (cI_eq (by rw [e0])) (rfl))))⟩)
set_option maxHeartbeats 4000000 in
set_option maxRecDepth 20000 in
theorem ct_X6_isBesideShoal (l : Launch) (d : KD) (m0 a0 a1 a2 a4 a6 a8 a9 b1 b2 b3 b4 b5 b6 : Nat) (K S : Nat → Int32) (tn ap rn : Nat) (im : Int32) (j : Nat) (hj : j < 36) : Ct l d yX6_isBesideShoal cX6_isBesideShoal 3 (some .boolean) { frames := 1, cells := 0, slots := 0, locals := 21 } [.ref m0, .int (nI j)] [(m0, cO 6 [.ref a0, .ref a1, .ref a2, .int (nI tn), .ref a4, .int (nI ap), .ref a6, .int (nI rn), .ref a8, .ref a9, .int im, .ref b1, .ref b2, .ref b3, .ref b4, .ref b5, .ref b6]), (a0, cI d 36 K), (a2, cI d 5 S)] 0 0 (fun r wo => r = some (.int (b2i (bwx K S j))) ∧ wo = [(m0, cO 6 [.ref a0, .ref a1, .ref a2, .int (nI tn), .ref a4, .int (nI ap), .ref a6, .int (nI rn), .ref a8, .ref a9, .int im, .ref b1, .ref b2, .ref b3, .ref b4, .ref b5, .ref b6]), (a0, cI d 36 K), (a2, cI d 5 S)]) := by
  refine ct_of (own := RX6) (ini := false) (by decide +kernel) rfl (fun h => by cases h) (Nat.le_of_ble_eq_true rfl) ?_
  intro g X
  show g 0 0 [(m0, cO 6 [.ref a0, .ref a1, .ref a2, .int (nI tn), .ref a4, .int (nI ap), .ref a6, .int (nI rn), .ref a8, .ref a9, .int im, .ref b1, .ref b2, .ref b3, .ref b4, .ref b5, .ref b6]), (a0, cI d 36 K), (a2, cI d 5 S)] [(0, .ref m0), (1, .int (nI j))] 0 []
  refine g_iconst (v := 0) X dX6_isBesideShoal_0 (by decide) ?_
  refine g_istore_n (lv' := [(2, .int 0), (0, .ref m0), (1, .int (nI j))]) X dX6_isBesideShoal_1 rfl (by decide) rfl ?_
  have at_2 : ∀ (n_ : Nat) (i : Nat) (hi : i ≤ 4) (hn : ∀ w, w < i → ¬ bw K S j w), (4 - i) < n_ → g 0 0 [(m0, cO 6 [.ref a0, .ref a1, .ref a2, .int (nI tn), .ref a4, .int (nI ap), .ref a6, .int (nI rn), .ref a8, .ref a9, .int im, .ref b1, .ref b2, .ref b3, .ref b4, .ref b5, .ref b6]), (a0, cI d 36 K), (a2, cI d 5 S)] [(0, .ref m0), (1, .int (nI j)), (2, .int (nI i))] 2 [] := by
    intro n_
    induction n_ with
    | zero => intro i hi hn hn_; exact absurd hn_ (Nat.not_lt_zero _)
    | succ n_ ih_2 =>
      intro i hi hn hn_2
      refine g_iload_n X dX6_isBesideShoal_2 rfl 2 rfl ?_
      refine g_iconst (v := 4) X dX6_isBesideShoal_3 (by decide) ?_
      refine g_icmpN_ge (a := i) (b := 4) X rfl rfl (by omega) (by omega) 37 dX6_isBesideShoal_4 (by decide) (fun c4_1 => ?_) (fun c4_1 => ?_)
      · refine g_iconst (v := 0) X dX6_isBesideShoal_37 (by decide) ?_
        exact g_end X (gE_i dX6_isBesideShoal_38 (rfl) (Nat.le_of_ble_eq_true rfl) (Nat.le_of_ble_eq_true rfl) ⟨congrArg (fun z => some (Value.int z)) ((b2i_f (fun ⟨w, h1, h2⟩ => hn w (by omega) h2)).symm), rfl⟩)
      · refine g_iload_n X dX6_isBesideShoal_7 rfl 1 rfl ?_
        refine g_iload_n X dX6_isBesideShoal_8 rfl 2 rfl ?_
        refine g_dS (n := 2) (wr := [(m0, cO 6 [.ref a0, .ref a1, .ref a2, .int (nI tn), .ref a4, .int (nI ap), .ref a6, .int (nI rn), .ref a8, .ref a9, .int im, .ref b1, .ref b2, .ref b3, .ref b4, .ref b5, .ref b6]), (a0, cI d 36 K), (a2, cI d 5 S)]) (ws' := [(m0, cO 6 [.ref a0, .ref a1, .ref a2, .int (nI tn), .ref a4, .int (nI ap), .ref a6, .int (nI rn), .ref a8, .ref a9, .int im, .ref b1, .ref b2, .ref b3, .ref b4, .ref b5, .ref b6]), (a0, cI d 36 K), (a2, cI d 5 S)]) (st' := [.int (besM (nb j i))]) (As := [.int (nI j), .int (nI i)]) (st := []) X (ct_X6_beside l d j i (by first | assumption | omega) (by first | assumption | omega)) wd_907 wd_905 wd_906 wd_58 hd_X6_beside ⟨(Nat.le_of_ble_eq_true rfl), (Nat.le_of_ble_eq_true rfl)⟩ rfl rfl dX6_isBesideShoal_9 ⟨(Nat.le_of_ble_eq_true rfl), (Nat.le_of_ble_eq_true rfl)⟩ rfl rfl (Nat.le_of_ble_eq_true rfl) [] [0, 1, 2] rfl rfl rfl rfl rfl (by decide) [0, 1, 2] rfl rfl rfl rfl ?_
        refine g_bipush (v := (-9)) X dX6_isBesideShoal_12 (by decide) ?_
        refine g_icmp_eq X 31 dX6_isBesideShoal_14 (by decide) (fun c14_2 => ?_) (fun c14_2 => ?_)
        · refine g_iinc (v := nI (i + 1)) (lv' := [(2, .int (nI (i + 1))), (0, .ref m0), (1, .int (nI j))]) X dX6_isBesideShoal_31 2 rfl (nI_inc _) (by decide) rfl ?_
          refine g_goto X 2 dX6_isBesideShoal_34 (by decide) ?_
          refine g_lv (lv' := [(0, .ref m0), (1, .int (nI j)), (2, .int (nI (i + 1)))]) X [1, 2, 0] rfl ?_
          exact ih_2 (i + 1) (by first | assumption | omega) (fun w hw => by rcases Nat.lt_succ_iff_lt_or_eq.mp hw with h | h; exact hn w h; subst h; exact fun z => besM_m9.mp c14_2 z.1) (by omega)
        · have hnb : nb j i < 36 := Decidable.not_not.mp (fun z => c14_2 (besM_m9.mpr z))
          refine g_aload_n X dX6_isBesideShoal_17 rfl 0 rfl ?_
          refine g_iload_n X dX6_isBesideShoal_18 rfl 1 rfl ?_
          refine g_iload_n X dX6_isBesideShoal_19 rfl 2 rfl ?_
          refine g_dS (n := 2) (wr := [(m0, cO 6 [.ref a0, .ref a1, .ref a2, .int (nI tn), .ref a4, .int (nI ap), .ref a6, .int (nI rn), .ref a8, .ref a9, .int im, .ref b1, .ref b2, .ref b3, .ref b4, .ref b5, .ref b6]), (a0, cI d 36 K), (a2, cI d 5 S)]) (ws' := [(m0, cO 6 [.ref a0, .ref a1, .ref a2, .int (nI tn), .ref a4, .int (nI ap), .ref a6, .int (nI rn), .ref a8, .ref a9, .int im, .ref b1, .ref b2, .ref b3, .ref b4, .ref b5, .ref b6]), (a0, cI d 36 K), (a2, cI d 5 S)]) (st' := [.int (besM (nb j i)), .ref m0]) (As := [.int (nI j), .int (nI i)]) (st := [.ref m0]) X (ct_X6_beside l d j i (by first | assumption | omega) (by first | assumption | omega)) wd_907 wd_905 wd_906 wd_58 hd_X6_beside ⟨(Nat.le_of_ble_eq_true rfl), (Nat.le_of_ble_eq_true rfl)⟩ rfl rfl dX6_isBesideShoal_20 ⟨(Nat.le_of_ble_eq_true rfl), (Nat.le_of_ble_eq_true rfl)⟩ rfl rfl (Nat.le_of_ble_eq_true rfl) [] [0, 1, 2] rfl rfl rfl rfl rfl (by decide) [0, 1, 2] rfl rfl rfl rfl ?_
          refine g_tope (y := nI (nb j i)) (besM_t hnb) ?_
          refine g_dV (ci := 6) (q0 := 0) (n := 1) (wr := []) (ws' := [(m0, cO 6 [.ref a0, .ref a1, .ref a2, .int (nI tn), .ref a4, .int (nI ap), .ref a6, .int (nI rn), .ref a8, .ref a9, .int im, .ref b1, .ref b2, .ref b3, .ref b4, .ref b5, .ref b6]), (a0, cI d 36 K), (a2, cI d 5 S)]) (st' := [.int (b2i (csl (K (nb j i)) (S 1)))]) (As := [.int (nI (nb j i))]) (st := []) X (ct_X6_canBe l d m0 a0 a1 a2 a4 a6 a8 a9 b1 b2 b3 b4 b5 b6 K S tn ap rn im (nb j i) (by first | assumption | omega)) wd_891 wd_888 wd_890 wd_31 wd_58 hd_X6_canBe rfl ⟨(Nat.le_of_ble_eq_true rfl), (Nat.le_of_ble_eq_true rfl)⟩ rfl rfl dX6_isBesideShoal_23 ⟨(Nat.le_of_ble_eq_true rfl), (Nat.le_of_ble_eq_true rfl)⟩ rfl rfl (Nat.le_of_ble_eq_true rfl) [0, 1, 2] [] rfl rfl rfl rfl rfl (by decide) rfl [0, 1, 2] rfl rfl rfl rfl ?_
          refine g_ifB_ne X 31 dX6_isBesideShoal_26 (by decide) (fun c26_3 => ?_) (fun c26_3 => ?_)
          · refine g_iinc (v := nI (i + 1)) (lv' := [(2, .int (nI (i + 1))), (0, .ref m0), (1, .int (nI j))]) X dX6_isBesideShoal_31 2 rfl (nI_inc _) (by decide) rfl ?_
            refine g_goto X 2 dX6_isBesideShoal_34 (by decide) ?_
            refine g_lv (lv' := [(0, .ref m0), (1, .int (nI j)), (2, .int (nI (i + 1)))]) X [1, 2, 0] rfl ?_
            exact ih_2 (i + 1) (by first | assumption | omega) (fun w hw => by rcases Nat.lt_succ_iff_lt_or_eq.mp hw with h | h; exact hn w h; subst h; exact fun z => absurd c26_3 z.2) (by omega)
          · refine g_iconst (v := 1) X dX6_isBesideShoal_29 (by decide) ?_
            exact g_end X (gE_i dX6_isBesideShoal_30 (rfl) (Nat.le_of_ble_eq_true rfl) (Nat.le_of_ble_eq_true rfl) ⟨congrArg (fun z => some (Value.int z)) ((b2i_t ⟨i, by omega, hnb, by assumption⟩).symm), rfl⟩)
  refine g_lv (lv' := [(0, .ref m0), (1, .int (nI j)), (2, .int 0)]) X [1, 2, 0] rfl ?_
  exact g_eq (ws' := [(m0, cO 6 [.ref a0, .ref a1, .ref a2, .int (nI tn), .ref a4, .int (nI ap), .ref a6, .int (nI rn), .ref a8, .ref a9, .int im, .ref b1, .ref b2, .ref b3, .ref b4, .ref b5, .ref b6]), (a0, cI d 36 K), (a2, cI d 5 S)]) (lv' := [(0, .ref m0), (1, .int (nI j)), (2, .int (nI 0))]) (rfl) (lv_cons (rfl) (lv_cons (rfl) (lv_cons (vI (by rfl)) (rfl)))) (at_2 _ 0 (by first | assumption | omega) (fun w hw => absurd hw (Nat.not_lt_zero w)) (Nat.lt_succ_self _))
set_option maxHeartbeats 4000000 in
set_option maxRecDepth 20000 in
theorem ct_X6_wreckAt (l : Launch) (d : KD) (m0 a0 a1 a2 a4 a6 a8 a9 b1 b2 b3 b4 b5 b6 : Nat) (K S H : Nat → Int32) (tn ap rn : Nat) (im : Int32) (hh : sq (S 0)) : Ct l d yX6_wreckAt cX6_wreckAt 3 (some .int) { frames := 3, cells := 0, slots := 0, locals := 69 } [.ref m0] [(m0, cO 6 [.ref a0, .ref a1, .ref a2, .int (nI tn), .ref a4, .int (nI ap), .ref a6, .int (nI rn), .ref a8, .ref a9, .int im, .ref b1, .ref b2, .ref b3, .ref b4, .ref b5, .ref b6]), (a0, cI d 36 K), (a2, cI d 5 S), (b5, cI d 36 H)] 0 0 (fun r wo => r = some (.int (besM (wrs K S))) ∧ wo = [(m0, cO 6 [.ref a0, .ref a1, .ref a2, .int (nI tn), .ref a4, .int (nI ap), .ref a6, .int (nI rn), .ref a8, .ref a9, .int im, .ref b1, .ref b2, .ref b3, .ref b4, .ref b5, .ref b6]), (a0, cI d 36 K), (a2, cI d 5 S), (b5, cI d 36 (dF (dsI K S (S 0))))]) := by
  refine ct_of (own := RX6) (ini := false) (by decide +kernel) rfl (fun h => by cases h) (Nat.le_of_ble_eq_true rfl) ?_
  intro g X
  show g 0 0 [(m0, cO 6 [.ref a0, .ref a1, .ref a2, .int (nI tn), .ref a4, .int (nI ap), .ref a6, .int (nI rn), .ref a8, .ref a9, .int im, .ref b1, .ref b2, .ref b3, .ref b4, .ref b5, .ref b6]), (a0, cI d 36 K), (a2, cI d 5 S), (b5, cI d 36 H)] [(0, .ref m0)] 0 []
  refine g_aload_n X dX6_wreckAt_0 rfl 0 rfl ?_
  refine g_dV (ci := 6) (q0 := 0) (n := 0) (wr := []) (ws' := [(m0, cO 6 [.ref a0, .ref a1, .ref a2, .int (nI tn), .ref a4, .int (nI ap), .ref a6, .int (nI rn), .ref a8, .ref a9, .int im, .ref b1, .ref b2, .ref b3, .ref b4, .ref b5, .ref b6]), (a0, cI d 36 K), (a2, cI d 5 S), (b5, cI d 36 (dF (dsI K S (S 0))))]) (st' := []) (As := []) (st := []) X (ct_X6_fromHome l d m0 a0 a1 a2 a4 a6 a8 a9 b1 b2 b3 b4 b5 b6 K S H tn ap rn im (by first | assumption | omega)) wd_900 wd_897 wd_899 wd_33 wd_58 hd_X6_fromHome rfl ⟨(Nat.le_of_ble_eq_true rfl), (Nat.le_of_ble_eq_true rfl)⟩ rfl rfl dX6_wreckAt_1 ⟨(Nat.le_of_ble_eq_true rfl), (Nat.le_of_ble_eq_true rfl)⟩ rfl rfl (Nat.le_of_ble_eq_true rfl) [0, 1, 2, 3] [] rfl rfl rfl rfl rfl (by decide) rfl [0, 1, 2, 3] rfl rfl rfl rfl ?_
  refine g_bipush (v := (-9)) X dX6_wreckAt_4 (by decide) ?_
  refine g_istore_n (lv' := [(1, .int (-9)), (0, .ref m0)]) X dX6_wreckAt_6 rfl (by decide) rfl ?_
  refine g_iconst (v := 0) X dX6_wreckAt_7 (by decide) ?_
  refine g_istore_n (lv' := [(2, .int 0), (1, .int (-9)), (0, .ref m0)]) X dX6_wreckAt_8 rfl (by decide) rfl ?_
  have at_9 : ∀ (n_ : Nat) (i : Nat) (hi : i ≤ 36), (36 - i) < n_ → g 0 0 [(m0, cO 6 [.ref a0, .ref a1, .ref a2, .int (nI tn), .ref a4, .int (nI ap), .ref a6, .int (nI rn), .ref a8, .ref a9, .int im, .ref b1, .ref b2, .ref b3, .ref b4, .ref b5, .ref b6]), (a0, cI d 36 K), (a2, cI d 5 S), (b5, cI d 36 (dF (dsI K S (S 0))))] [(0, .ref m0), (1, .int (besM (wrF K S (dsI K S (S 0)) i))), (2, .int (nI i))] 9 [] := by
    intro n_
    induction n_ with
    | zero => intro i hi hn_; exact absurd hn_ (Nat.not_lt_zero _)
    | succ n_ ih_9 =>
      intro i hi hn_9
      have hwr := wrF_in (K := K) (S := S) (D := dsI K S (S 0)) i hi
      refine g_iload_n X dX6_wreckAt_9 rfl 2 rfl ?_
      refine g_bipush (v := 36) X dX6_wreckAt_10 (by decide) ?_
      refine g_icmpN_ge (a := i) (b := 36) X rfl rfl (by omega) (by omega) 63 dX6_wreckAt_12 (by decide) (fun c12_1 => ?_) (fun c12_1 => ?_)
      · refine g_iload_n X dX6_wreckAt_63 rfl 1 rfl ?_
        exact g_end X (gE_i dX6_wreckAt_64 (rfl) (Nat.le_of_ble_eq_true rfl) (Nat.le_of_ble_eq_true rfl) ⟨congrArg (fun z => some (Value.int z)) (by rw [show i = 36 by omega]; rfl), rfl⟩)
      · refine g_aload_n X dX6_wreckAt_15 rfl 0 rfl ?_
        refine g_get (C := RX6) (T := TX6) (N := 17) (ci := 6) (v := .ref b5) X rfl inT6 15 (by decide) wd_811 rfl dX6_wreckAt_16 0 rfl rfl ?_
        refine g_iload_n X dX6_wreckAt_19 rfl 2 rfl ?_
        refine g_iaload_N (k := i) X rfl dX6_wreckAt_20 3 rfl (by first | assumption | omega) (by omega) ?_
        refine g_bipush (v := (-9)) X dX6_wreckAt_21 (by decide) ?_
        refine g_icmp_eq X 57 dX6_wreckAt_23 (by decide) (fun c23_2 => ?_) (fun c23_2 => ?_)
        · refine g_iinc (v := nI (i + 1)) (lv' := [(2, .int (nI (i + 1))), (0, .ref m0), (1, .int (besM (wrF K S (dsI K S (S 0)) i)))]) X dX6_wreckAt_57 2 rfl (nI_inc _) (by decide) rfl ?_
          refine g_goto X 9 dX6_wreckAt_60 (by decide) ?_
          refine g_lv (lv' := [(0, .ref m0), (1, .int (besM (wrF K S (dsI K S (S 0)) i))), (2, .int (nI (i + 1)))]) X [1, 2, 0] rfl ?_
          exact g_eq (ws' := [(m0, cO 6 [.ref a0, .ref a1, .ref a2, .int (nI tn), .ref a4, .int (nI ap), .ref a6, .int (nI rn), .ref a8, .ref a9, .int im, .ref b1, .ref b2, .ref b3, .ref b4, .ref b5, .ref b6]), (a0, cI d 36 K), (a2, cI d 5 S), (b5, cI d 36 (dF (dsI K S (S 0))))]) (lv' := [(0, .ref m0), (1, .int (besM (wrF K S (dsI K S (S 0)) (i + 1)))), (2, .int (nI (i + 1)))]) (rfl) (lv_cons (rfl) (lv_cons (vI (by first | exact congrArg besM (wrF_n (fun z => dI_m9.mp (by assumption) z.1.1)).symm | exact congrArg besM (wrF_n (fun z => absurd z.1.2 (by assumption))).symm | exact (besM_t hq1).symm.trans (congrArg besM (wrF_n (fun z => z.2.elim (by omega) (by omega))).symm) | exact (by rw [wrF_y (by assumption) (by assumption) (by first | exact Or.inl hz | exact Or.inr (by omega))]; exact (besM_t (by omega)).symm))) (lv_cons (rfl) (rfl)))) (ih_9 (i + 1) (by first | assumption | omega) (by omega))
        · have hdi : (dsI K S (S 0)) i < 1000000 := Decidable.not_not.mp (fun z => c23_2 (dI_m9.mpr z))
          refine g_aload_n X dX6_wreckAt_26 rfl 0 rfl ?_
          refine g_iload_n X dX6_wreckAt_27 rfl 2 rfl ?_
          refine g_dV (ci := 6) (q0 := 0) (n := 1) (wr := [(b5, cI d 36 (dF (dsI K S (S 0))))]) (ws' := [(m0, cO 6 [.ref a0, .ref a1, .ref a2, .int (nI tn), .ref a4, .int (nI ap), .ref a6, .int (nI rn), .ref a8, .ref a9, .int im, .ref b1, .ref b2, .ref b3, .ref b4, .ref b5, .ref b6]), (a0, cI d 36 K), (a2, cI d 5 S), (b5, cI d 36 (dF (dsI K S (S 0))))]) (st' := [.int (b2i (bwx K S i))]) (As := [.int (nI i)]) (st := []) X (ct_X6_isBesideShoal l d m0 a0 a1 a2 a4 a6 a8 a9 b1 b2 b3 b4 b5 b6 K S tn ap rn im i (by first | assumption | omega)) wd_987 wd_984 wd_986 wd_44 wd_58 hd_X6_isBesideShoal rfl ⟨(Nat.le_of_ble_eq_true rfl), (Nat.le_of_ble_eq_true rfl)⟩ rfl rfl dX6_wreckAt_28 ⟨(Nat.le_of_ble_eq_true rfl), (Nat.le_of_ble_eq_true rfl)⟩ rfl rfl (Nat.le_of_ble_eq_true rfl) [0, 1, 2] [3] rfl rfl rfl rfl rfl (by decide) rfl [1, 2, 3, 0] rfl rfl rfl rfl ?_
          refine g_ifB_eq X 57 dX6_wreckAt_31 (by decide) (fun c31_3 => ?_) (fun c31_3 => ?_)
          · refine g_iinc (v := nI (i + 1)) (lv' := [(2, .int (nI (i + 1))), (0, .ref m0), (1, .int (besM (wrF K S (dsI K S (S 0)) i)))]) X dX6_wreckAt_57 2 rfl (nI_inc _) (by decide) rfl ?_
            refine g_goto X 9 dX6_wreckAt_60 (by decide) ?_
            refine g_lv (lv' := [(0, .ref m0), (1, .int (besM (wrF K S (dsI K S (S 0)) i))), (2, .int (nI (i + 1)))]) X [1, 2, 0] rfl ?_
            exact g_eq (ws' := [(m0, cO 6 [.ref a0, .ref a1, .ref a2, .int (nI tn), .ref a4, .int (nI ap), .ref a6, .int (nI rn), .ref a8, .ref a9, .int im, .ref b1, .ref b2, .ref b3, .ref b4, .ref b5, .ref b6]), (a0, cI d 36 K), (a2, cI d 5 S), (b5, cI d 36 (dF (dsI K S (S 0))))]) (lv' := [(0, .ref m0), (1, .int (besM (wrF K S (dsI K S (S 0)) (i + 1)))), (2, .int (nI (i + 1)))]) (rfl) (lv_cons (rfl) (lv_cons (vI (by first | exact congrArg besM (wrF_n (fun z => dI_m9.mp (by assumption) z.1.1)).symm | exact congrArg besM (wrF_n (fun z => absurd z.1.2 (by assumption))).symm | exact (besM_t hq1).symm.trans (congrArg besM (wrF_n (fun z => z.2.elim (by omega) (by omega))).symm) | exact (by rw [wrF_y (by assumption) (by assumption) (by first | exact Or.inl hz | exact Or.inr (by omega))]; exact (besM_t (by omega)).symm))) (lv_cons (rfl) (rfl)))) (ih_9 (i + 1) (by first | assumption | omega) (by omega))
          · refine g_iload_n X dX6_wreckAt_34 rfl 1 rfl ?_
            refine g_bipush (v := (-9)) X dX6_wreckAt_35 (by decide) ?_
            refine g_icmp_eq X 55 dX6_wreckAt_37 (by decide) (fun c37_4 => ?_) (fun c37_4 => ?_)
            · have hz : wrF K S (dsI K S (S 0)) i = 99 := hwr.elim id (fun q => absurd c37_4 (by rw [besM_t q.1]; exact nI_ne_m9 (by omega)))
              refine g_iload_n X dX6_wreckAt_55 rfl 2 rfl ?_
              refine g_istore_n (lv' := [(1, .int (nI i)), (0, .ref m0), (2, .int (nI i))]) X dX6_wreckAt_56 rfl (by decide) rfl ?_
              refine g_iinc (v := nI (i + 1)) (lv' := [(2, .int (nI (i + 1))), (1, .int (nI i)), (0, .ref m0)]) X dX6_wreckAt_57 2 rfl (nI_inc _) (by decide) rfl ?_
              refine g_goto X 9 dX6_wreckAt_60 (by decide) ?_
              refine g_lv (lv' := [(0, .ref m0), (1, .int (nI i)), (2, .int (nI (i + 1)))]) X [2, 1, 0] rfl ?_
              exact g_eq (ws' := [(m0, cO 6 [.ref a0, .ref a1, .ref a2, .int (nI tn), .ref a4, .int (nI ap), .ref a6, .int (nI rn), .ref a8, .ref a9, .int im, .ref b1, .ref b2, .ref b3, .ref b4, .ref b5, .ref b6]), (a0, cI d 36 K), (a2, cI d 5 S), (b5, cI d 36 (dF (dsI K S (S 0))))]) (lv' := [(0, .ref m0), (1, .int (besM (wrF K S (dsI K S (S 0)) (i + 1)))), (2, .int (nI (i + 1)))]) (rfl) (lv_cons (rfl) (lv_cons (vI (by first | exact congrArg besM (wrF_n (fun z => dI_m9.mp (by assumption) z.1.1)).symm | exact congrArg besM (wrF_n (fun z => absurd z.1.2 (by assumption))).symm | exact (besM_t hq1).symm.trans (congrArg besM (wrF_n (fun z => z.2.elim (by omega) (by omega))).symm) | exact (by rw [wrF_y (by assumption) (by assumption) (by first | exact Or.inl hz | exact Or.inr (by omega))]; exact (besM_t (by omega)).symm))) (lv_cons (rfl) (rfl)))) (ih_9 (i + 1) (by first | assumption | omega) (by omega))
            · have hq : wrF K S (dsI K S (S 0)) i < 36 ∧ dsI K S (S 0) (wrF K S (dsI K S (S 0)) i) < 1000000 := hwr.elim (fun e => absurd (by rw [e]; rfl) c37_4) id
              obtain ⟨hq1, hq2⟩ := hq
              refine g_eq (lv' := [(0, .ref m0), (1, .int (nI (wrF K S (dsI K S (S 0)) i))), (2, .int (nI i))]) rfl (lv_cons (rfl) (lv_cons (vI (besM_t hq1)) (lv_cons (rfl) (rfl)))) ?_
              refine g_aload_n X dX6_wreckAt_40 rfl 0 rfl ?_
              refine g_get (C := RX6) (T := TX6) (N := 17) (ci := 6) (v := .ref b5) X rfl inT6 15 (by decide) wd_811 rfl dX6_wreckAt_41 0 rfl rfl ?_
              refine g_iload_n X dX6_wreckAt_44 rfl 2 rfl ?_
              refine g_iaload_N (k := i) X rfl dX6_wreckAt_45 3 rfl (by first | assumption | omega) (by omega) ?_
              refine g_tope (y := nI ((dsI K S (S 0)) i)) (dI_t hdi) ?_
              refine g_aload_n X dX6_wreckAt_46 rfl 0 rfl ?_
              refine g_get (C := RX6) (T := TX6) (N := 17) (ci := 6) (v := .ref b5) X rfl inT6 15 (by decide) wd_811 rfl dX6_wreckAt_47 0 rfl rfl ?_
              refine g_iload_n X dX6_wreckAt_50 rfl 1 rfl ?_
              refine g_iaload_N (k := (wrF K S (dsI K S (S 0)) i)) X rfl dX6_wreckAt_51 3 rfl (by first | assumption | omega) (by omega) ?_
              refine g_tope (y := nI ((dsI K S (S 0)) (wrF K S (dsI K S (S 0)) i))) (dI_t hq2) ?_
              refine g_icmpN_ge (a := ((dsI K S (S 0)) i)) (b := ((dsI K S (S 0)) (wrF K S (dsI K S (S 0)) i))) X rfl rfl (by omega) (by omega) 57 dX6_wreckAt_52 (by decide) (fun c52_5 => ?_) (fun c52_5 => ?_)
              · refine g_iinc (v := nI (i + 1)) (lv' := [(2, .int (nI (i + 1))), (0, .ref m0), (1, .int (nI (wrF K S (dsI K S (S 0)) i)))]) X dX6_wreckAt_57 2 rfl (nI_inc _) (by decide) rfl ?_
                refine g_goto X 9 dX6_wreckAt_60 (by decide) ?_
                refine g_lv (lv' := [(0, .ref m0), (1, .int (nI (wrF K S (dsI K S (S 0)) i))), (2, .int (nI (i + 1)))]) X [1, 2, 0] rfl ?_
                exact g_eq (ws' := [(m0, cO 6 [.ref a0, .ref a1, .ref a2, .int (nI tn), .ref a4, .int (nI ap), .ref a6, .int (nI rn), .ref a8, .ref a9, .int im, .ref b1, .ref b2, .ref b3, .ref b4, .ref b5, .ref b6]), (a0, cI d 36 K), (a2, cI d 5 S), (b5, cI d 36 (dF (dsI K S (S 0))))]) (lv' := [(0, .ref m0), (1, .int (besM (wrF K S (dsI K S (S 0)) (i + 1)))), (2, .int (nI (i + 1)))]) (rfl) (lv_cons (rfl) (lv_cons (vI (by first | exact congrArg besM (wrF_n (fun z => dI_m9.mp (by assumption) z.1.1)).symm | exact congrArg besM (wrF_n (fun z => absurd z.1.2 (by assumption))).symm | exact (besM_t hq1).symm.trans (congrArg besM (wrF_n (fun z => z.2.elim (by omega) (by omega))).symm) | exact (by rw [wrF_y (by assumption) (by assumption) (by first | exact Or.inl hz | exact Or.inr (by omega))]; exact (besM_t (by omega)).symm))) (lv_cons (rfl) (rfl)))) (ih_9 (i + 1) (by first | assumption | omega) (by omega))
              · refine g_iload_n X dX6_wreckAt_55 rfl 2 rfl ?_
                refine g_istore_n (lv' := [(1, .int (nI i)), (0, .ref m0), (2, .int (nI i))]) X dX6_wreckAt_56 rfl (by decide) rfl ?_
                refine g_iinc (v := nI (i + 1)) (lv' := [(2, .int (nI (i + 1))), (1, .int (nI i)), (0, .ref m0)]) X dX6_wreckAt_57 2 rfl (nI_inc _) (by decide) rfl ?_
                refine g_goto X 9 dX6_wreckAt_60 (by decide) ?_
                refine g_lv (lv' := [(0, .ref m0), (1, .int (nI i)), (2, .int (nI (i + 1)))]) X [2, 1, 0] rfl ?_
                exact g_eq (ws' := [(m0, cO 6 [.ref a0, .ref a1, .ref a2, .int (nI tn), .ref a4, .int (nI ap), .ref a6, .int (nI rn), .ref a8, .ref a9, .int im, .ref b1, .ref b2, .ref b3, .ref b4, .ref b5, .ref b6]), (a0, cI d 36 K), (a2, cI d 5 S), (b5, cI d 36 (dF (dsI K S (S 0))))]) (lv' := [(0, .ref m0), (1, .int (besM (wrF K S (dsI K S (S 0)) (i + 1)))), (2, .int (nI (i + 1)))]) (rfl) (lv_cons (rfl) (lv_cons (vI (by first | exact congrArg besM (wrF_n (fun z => dI_m9.mp (by assumption) z.1.1)).symm | exact congrArg besM (wrF_n (fun z => absurd z.1.2 (by assumption))).symm | exact (besM_t hq1).symm.trans (congrArg besM (wrF_n (fun z => z.2.elim (by omega) (by omega))).symm) | exact (by rw [wrF_y (by assumption) (by assumption) (by first | exact Or.inl hz | exact Or.inr (by omega))]; exact (besM_t (by omega)).symm))) (lv_cons (rfl) (rfl)))) (ih_9 (i + 1) (by first | assumption | omega) (by omega))
  refine g_lv (lv' := [(0, .ref m0), (1, .int (-9)), (2, .int 0)]) X [2, 1, 0] rfl ?_
  exact g_eq (ws' := [(m0, cO 6 [.ref a0, .ref a1, .ref a2, .int (nI tn), .ref a4, .int (nI ap), .ref a6, .int (nI rn), .ref a8, .ref a9, .int im, .ref b1, .ref b2, .ref b3, .ref b4, .ref b5, .ref b6]), (a0, cI d 36 K), (a2, cI d 5 S), (b5, cI d 36 (dF (dsI K S (S 0))))]) (lv' := [(0, .ref m0), (1, .int (besM (wrF K S (dsI K S (S 0)) 0))), (2, .int (nI 0))]) (rfl) (lv_cons (rfl) (lv_cons (vI (by rfl)) (lv_cons (vI (by rfl)) (rfl)))) (at_9 _ 0 (by first | assumption | omega) (Nat.lt_succ_self _))
set_option maxHeartbeats 4000000 in
set_option maxRecDepth 20000 in
theorem ct_X6_sandAt (l : Launch) (d : KD) (m0 a0 a1 a2 a4 a6 a8 a9 b1 b2 b3 b4 b5 b6 : Nat) (K : Nat → Int32) (tn ap rn : Nat) (im : Int32) (j : Nat) (hj : j < 36) : Ct l d yX6_sandAt cX6_sandAt 4 (some .int) { frames := 1, cells := 0, slots := 0, locals := 22 } [.ref m0, .int (nI j)] [(m0, cO 6 [.ref a0, .ref a1, .ref a2, .int (nI tn), .ref a4, .int (nI ap), .ref a6, .int (nI rn), .ref a8, .ref a9, .int im, .ref b1, .ref b2, .ref b3, .ref b4, .ref b5, .ref b6]), (a0, cI d 36 K)] 0 0 (fun r wo => r = some (.int (nI (cnt (fun w => nb j w < 36 ∧ (K (nb j w) = 1 ∨ K (nb j w) = 2)) 4))) ∧ wo = [(m0, cO 6 [.ref a0, .ref a1, .ref a2, .int (nI tn), .ref a4, .int (nI ap), .ref a6, .int (nI rn), .ref a8, .ref a9, .int im, .ref b1, .ref b2, .ref b3, .ref b4, .ref b5, .ref b6]), (a0, cI d 36 K)]) := by
  refine ct_of (own := RX6) (ini := false) (by decide +kernel) rfl (fun h => by cases h) (Nat.le_of_ble_eq_true rfl) ?_
  intro g X
  show g 0 0 [(m0, cO 6 [.ref a0, .ref a1, .ref a2, .int (nI tn), .ref a4, .int (nI ap), .ref a6, .int (nI rn), .ref a8, .ref a9, .int im, .ref b1, .ref b2, .ref b3, .ref b4, .ref b5, .ref b6]), (a0, cI d 36 K)] [(0, .ref m0), (1, .int (nI j))] 0 []
  refine g_iconst (v := 0) X dX6_sandAt_0 (by decide) ?_
  refine g_istore_n (lv' := [(2, .int 0), (0, .ref m0), (1, .int (nI j))]) X dX6_sandAt_1 rfl (by decide) rfl ?_
  refine g_iconst (v := 0) X dX6_sandAt_2 (by decide) ?_
  refine g_istore_n (lv' := [(3, .int 0), (2, .int 0), (0, .ref m0), (1, .int (nI j))]) X dX6_sandAt_3 rfl (by decide) rfl ?_
  have at_4 : ∀ (n_ : Nat) (i : Nat) (hi : i ≤ 4), (4 - i) < n_ → g 0 0 [(m0, cO 6 [.ref a0, .ref a1, .ref a2, .int (nI tn), .ref a4, .int (nI ap), .ref a6, .int (nI rn), .ref a8, .ref a9, .int im, .ref b1, .ref b2, .ref b3, .ref b4, .ref b5, .ref b6]), (a0, cI d 36 K)] [(0, .ref m0), (1, .int (nI j)), (2, .int (nI (cnt (fun w => nb j w < 36 ∧ (K (nb j w) = 1 ∨ K (nb j w) = 2)) i))), (3, .int (nI i))] 4 [] := by
    intro n_
    induction n_ with
    | zero => intro i hi hn_; exact absurd hn_ (Nat.not_lt_zero _)
    | succ n_ ih_4 =>
      intro i hi hn_4
      refine g_iload_n X dX6_sandAt_4 rfl 3 rfl ?_
      refine g_iconst (v := 4) X dX6_sandAt_5 (by decide) ?_
      refine g_icmpN_ge (a := i) (b := 4) X rfl rfl (by omega) (by omega) 46 dX6_sandAt_6 (by decide) (fun c6_1 => ?_) (fun c6_1 => ?_)
      · refine g_iload_n X dX6_sandAt_46 rfl 2 rfl ?_
        exact g_end X (gE_i dX6_sandAt_47 (rfl) (Nat.le_of_ble_eq_true rfl) (Nat.le_of_ble_eq_true rfl) ⟨congrArg (fun z => some (Value.int z)) (by grind), rfl⟩)
      · refine g_iload_n X dX6_sandAt_9 rfl 1 rfl ?_
        refine g_iload_n X dX6_sandAt_10 rfl 3 rfl ?_
        refine g_dS (n := 2) (wr := [(m0, cO 6 [.ref a0, .ref a1, .ref a2, .int (nI tn), .ref a4, .int (nI ap), .ref a6, .int (nI rn), .ref a8, .ref a9, .int im, .ref b1, .ref b2, .ref b3, .ref b4, .ref b5, .ref b6]), (a0, cI d 36 K)]) (ws' := [(m0, cO 6 [.ref a0, .ref a1, .ref a2, .int (nI tn), .ref a4, .int (nI ap), .ref a6, .int (nI rn), .ref a8, .ref a9, .int im, .ref b1, .ref b2, .ref b3, .ref b4, .ref b5, .ref b6]), (a0, cI d 36 K)]) (st' := [.int (besM (nb j i))]) (As := [.int (nI j), .int (nI i)]) (st := []) X (ct_X6_beside l d j i (by first | assumption | omega) (by first | assumption | omega)) wd_907 wd_905 wd_906 wd_58 hd_X6_beside ⟨(Nat.le_of_ble_eq_true rfl), (Nat.le_of_ble_eq_true rfl)⟩ rfl rfl dX6_sandAt_11 ⟨(Nat.le_of_ble_eq_true rfl), (Nat.le_of_ble_eq_true rfl)⟩ rfl rfl (Nat.le_of_ble_eq_true rfl) [] [0, 1] rfl rfl rfl rfl rfl (by decide) [0, 1] rfl rfl rfl rfl ?_
        refine g_bipush (v := (-9)) X dX6_sandAt_14 (by decide) ?_
        refine g_icmp_eq X 40 dX6_sandAt_16 (by decide) (fun c16_2 => ?_) (fun c16_2 => ?_)
        · refine g_iinc (v := nI (i + 1)) (lv' := [(3, .int (nI (i + 1))), (0, .ref m0), (1, .int (nI j)), (2, .int (nI (cnt (fun w => nb j w < 36 ∧ (K (nb j w) = 1 ∨ K (nb j w) = 2)) i)))]) X dX6_sandAt_40 3 rfl (nI_inc _) (by decide) rfl ?_
          refine g_goto X 4 dX6_sandAt_43 (by decide) ?_
          refine g_lv (lv' := [(0, .ref m0), (1, .int (nI j)), (2, .int (nI (cnt (fun w => nb j w < 36 ∧ (K (nb j w) = 1 ∨ K (nb j w) = 2)) i))), (3, .int (nI (i + 1)))]) X [1, 2, 3, 0] rfl ?_
          exact g_eq (ws' := [(m0, cO 6 [.ref a0, .ref a1, .ref a2, .int (nI tn), .ref a4, .int (nI ap), .ref a6, .int (nI rn), .ref a8, .ref a9, .int im, .ref b1, .ref b2, .ref b3, .ref b4, .ref b5, .ref b6]), (a0, cI d 36 K)]) (lv' := [(0, .ref m0), (1, .int (nI j)), (2, .int (nI (cnt (fun w => nb j w < 36 ∧ (K (nb j w) = 1 ∨ K (nb j w) = 2)) (i + 1)))), (3, .int (nI (i + 1)))]) (rfl) (lv_cons (rfl) (lv_cons (rfl) (lv_cons (vI (cnt_F (fun z => besM_m9.mp c16_2 z.1))) (lv_cons (rfl) (rfl))))) (ih_4 (i + 1) (by first | assumption | omega) (by omega))
        · have hnb : nb j i < 36 := Decidable.not_not.mp (fun z => c16_2 (besM_m9.mpr z))
          refine g_aload_n X dX6_sandAt_19 rfl 0 rfl ?_
          refine g_get (C := RX6) (T := TX6) (N := 17) (ci := 6) (v := .ref a0) X rfl inT6 0 (by decide) wd_796 rfl dX6_sandAt_20 0 rfl rfl ?_
          refine g_iload_n X dX6_sandAt_23 rfl 1 rfl ?_
          refine g_iload_n X dX6_sandAt_24 rfl 3 rfl ?_
          refine g_dS (n := 2) (wr := [(m0, cO 6 [.ref a0, .ref a1, .ref a2, .int (nI tn), .ref a4, .int (nI ap), .ref a6, .int (nI rn), .ref a8, .ref a9, .int im, .ref b1, .ref b2, .ref b3, .ref b4, .ref b5, .ref b6]), (a0, cI d 36 K)]) (ws' := [(m0, cO 6 [.ref a0, .ref a1, .ref a2, .int (nI tn), .ref a4, .int (nI ap), .ref a6, .int (nI rn), .ref a8, .ref a9, .int im, .ref b1, .ref b2, .ref b3, .ref b4, .ref b5, .ref b6]), (a0, cI d 36 K)]) (st' := [.int (besM (nb j i)), .ref a0]) (As := [.int (nI j), .int (nI i)]) (st := [.ref a0]) X (ct_X6_beside l d j i (by first | assumption | omega) (by first | assumption | omega)) wd_907 wd_905 wd_906 wd_58 hd_X6_beside ⟨(Nat.le_of_ble_eq_true rfl), (Nat.le_of_ble_eq_true rfl)⟩ rfl rfl dX6_sandAt_25 ⟨(Nat.le_of_ble_eq_true rfl), (Nat.le_of_ble_eq_true rfl)⟩ rfl rfl (Nat.le_of_ble_eq_true rfl) [] [0, 1] rfl rfl rfl rfl rfl (by decide) [0, 1] rfl rfl rfl rfl ?_
          refine g_tope (y := nI (nb j i)) (besM_t hnb) ?_
          refine g_iaload_N (k := (nb j i)) X rfl dX6_sandAt_28 1 rfl (by first | assumption | omega) (by omega) ?_
          refine g_iconst (v := 1) X dX6_sandAt_29 (by decide) ?_
          refine g_iconst (v := 2) X dX6_sandAt_30 (by decide) ?_
          refine g_dS (n := 3) (wr := [(m0, cO 6 [.ref a0, .ref a1, .ref a2, .int (nI tn), .ref a4, .int (nI ap), .ref a6, .int (nI rn), .ref a8, .ref a9, .int im, .ref b1, .ref b2, .ref b3, .ref b4, .ref b5, .ref b6]), (a0, cI d 36 K)]) (ws' := [(m0, cO 6 [.ref a0, .ref a1, .ref a2, .int (nI tn), .ref a4, .int (nI ap), .ref a6, .int (nI rn), .ref a8, .ref a9, .int im, .ref b1, .ref b2, .ref b3, .ref b4, .ref b5, .ref b6]), (a0, cI d 36 K)]) (st' := [.int (b2i (wit (K (nb j i)) 1 2))]) (As := [.int (K (nb j i)), .int 1, .int 2]) (st := []) X (ct_X6_within l d (K (nb j i)) 1 2) wd_887 wd_885 wd_886 wd_58 hd_X6_within ⟨(Nat.le_of_ble_eq_true rfl), (Nat.le_of_ble_eq_true rfl)⟩ rfl rfl dX6_sandAt_31 ⟨(Nat.le_of_ble_eq_true rfl), (Nat.le_of_ble_eq_true rfl)⟩ rfl rfl (Nat.le_of_ble_eq_true rfl) [] [0, 1] rfl rfl rfl rfl rfl (by decide) [0, 1] rfl rfl rfl rfl ?_
          refine g_ifB_eq X 40 dX6_sandAt_34 (by decide) (fun c34_3 => ?_) (fun c34_3 => ?_)
          · refine g_iinc (v := nI (i + 1)) (lv' := [(3, .int (nI (i + 1))), (0, .ref m0), (1, .int (nI j)), (2, .int (nI (cnt (fun w => nb j w < 36 ∧ (K (nb j w) = 1 ∨ K (nb j w) = 2)) i)))]) X dX6_sandAt_40 3 rfl (nI_inc _) (by decide) rfl ?_
            refine g_goto X 4 dX6_sandAt_43 (by decide) ?_
            refine g_lv (lv' := [(0, .ref m0), (1, .int (nI j)), (2, .int (nI (cnt (fun w => nb j w < 36 ∧ (K (nb j w) = 1 ∨ K (nb j w) = 2)) i))), (3, .int (nI (i + 1)))]) X [1, 2, 3, 0] rfl ?_
            exact g_eq (ws' := [(m0, cO 6 [.ref a0, .ref a1, .ref a2, .int (nI tn), .ref a4, .int (nI ap), .ref a6, .int (nI rn), .ref a8, .ref a9, .int im, .ref b1, .ref b2, .ref b3, .ref b4, .ref b5, .ref b6]), (a0, cI d 36 K)]) (lv' := [(0, .ref m0), (1, .int (nI j)), (2, .int (nI (cnt (fun w => nb j w < 36 ∧ (K (nb j w) = 1 ∨ K (nb j w) = 2)) (i + 1)))), (3, .int (nI (i + 1)))]) (rfl) (lv_cons (rfl) (lv_cons (rfl) (lv_cons (vI (by first | exact cnt_T (p := fun w => nb j w < 36 ∧ (K (nb j w) = 1 ∨ K (nb j w) = 2)) ⟨hnb, wit_12.mp c34_3⟩ | exact cnt_F (p := fun w => nb j w < 36 ∧ (K (nb j w) = 1 ∨ K (nb j w) = 2)) (fun z => c34_3 (wit_12.mpr z.2)))) (lv_cons (rfl) (rfl))))) (ih_4 (i + 1) (by first | assumption | omega) (by omega))
          · refine g_iinc (v := nI (cnt (fun w => nb j w < 36 ∧ (K (nb j w) = 1 ∨ K (nb j w) = 2)) i + 1)) (lv' := [(2, .int (nI (cnt (fun w => nb j w < 36 ∧ (K (nb j w) = 1 ∨ K (nb j w) = 2)) i + 1))), (0, .ref m0), (1, .int (nI j)), (3, .int (nI i))]) X dX6_sandAt_37 2 rfl (nI_inc _) (by decide) rfl ?_
            refine g_iinc (v := nI (i + 1)) (lv' := [(3, .int (nI (i + 1))), (2, .int (nI (cnt (fun w => nb j w < 36 ∧ (K (nb j w) = 1 ∨ K (nb j w) = 2)) i + 1))), (0, .ref m0), (1, .int (nI j))]) X dX6_sandAt_40 3 rfl (nI_inc _) (by decide) rfl ?_
            refine g_goto X 4 dX6_sandAt_43 (by decide) ?_
            refine g_lv (lv' := [(0, .ref m0), (1, .int (nI j)), (2, .int (nI (cnt (fun w => nb j w < 36 ∧ (K (nb j w) = 1 ∨ K (nb j w) = 2)) i + 1))), (3, .int (nI (i + 1)))]) X [2, 3, 1, 0] rfl ?_
            exact g_eq (ws' := [(m0, cO 6 [.ref a0, .ref a1, .ref a2, .int (nI tn), .ref a4, .int (nI ap), .ref a6, .int (nI rn), .ref a8, .ref a9, .int im, .ref b1, .ref b2, .ref b3, .ref b4, .ref b5, .ref b6]), (a0, cI d 36 K)]) (lv' := [(0, .ref m0), (1, .int (nI j)), (2, .int (nI (cnt (fun w => nb j w < 36 ∧ (K (nb j w) = 1 ∨ K (nb j w) = 2)) (i + 1)))), (3, .int (nI (i + 1)))]) (rfl) (lv_cons (rfl) (lv_cons (rfl) (lv_cons (vI (by first | exact cnt_T (p := fun w => nb j w < 36 ∧ (K (nb j w) = 1 ∨ K (nb j w) = 2)) ⟨hnb, wit_12.mp c34_3⟩ | exact cnt_F (p := fun w => nb j w < 36 ∧ (K (nb j w) = 1 ∨ K (nb j w) = 2)) (fun z => c34_3 (wit_12.mpr z.2)))) (lv_cons (rfl) (rfl))))) (ih_4 (i + 1) (by first | assumption | omega) (by omega))
  refine g_lv (lv' := [(0, .ref m0), (1, .int (nI j)), (2, .int 0), (3, .int 0)]) X [2, 3, 1, 0] rfl ?_
  exact g_eq (ws' := [(m0, cO 6 [.ref a0, .ref a1, .ref a2, .int (nI tn), .ref a4, .int (nI ap), .ref a6, .int (nI rn), .ref a8, .ref a9, .int im, .ref b1, .ref b2, .ref b3, .ref b4, .ref b5, .ref b6]), (a0, cI d 36 K)]) (lv' := [(0, .ref m0), (1, .int (nI j)), (2, .int (nI (cnt (fun w => nb j w < 36 ∧ (K (nb j w) = 1 ∨ K (nb j w) = 2)) 0))), (3, .int (nI 0))]) (rfl) (lv_cons (rfl) (lv_cons (rfl) (lv_cons (vI (by rfl)) (lv_cons (vI (by rfl)) (rfl))))) (at_4 _ 0 (by first | assumption | omega) (Nat.lt_succ_self _))
set_option maxHeartbeats 4000000 in
set_option maxRecDepth 20000 in
theorem ct_X6_portFrom (l : Launch) (d : KD) (m0 a0 a1 a2 a4 a6 a8 a9 b1 b2 b3 b4 b5 b6 : Nat) (K : Nat → Int32) (tn ap rn : Nat) (im : Int32) (j : Nat) (hj : j < 36) : Ct l d yX6_portFrom cX6_portFrom 5 (some .int) { frames := 1, cells := 0, slots := 0, locals := 21 } [.ref m0, .int (nI j)] [(m0, cO 6 [.ref a0, .ref a1, .ref a2, .int (nI tn), .ref a4, .int (nI ap), .ref a6, .int (nI rn), .ref a8, .ref a9, .int im, .ref b1, .ref b2, .ref b3, .ref b4, .ref b5, .ref b6]), (a0, cI d 36 K)] 0 0 (fun r wo => r = some (.int (ptF K j 36)) ∧ wo = [(m0, cO 6 [.ref a0, .ref a1, .ref a2, .int (nI tn), .ref a4, .int (nI ap), .ref a6, .int (nI rn), .ref a8, .ref a9, .int im, .ref b1, .ref b2, .ref b3, .ref b4, .ref b5, .ref b6]), (a0, cI d 36 K)]) := by
  refine ct_of (own := RX6) (ini := false) (by decide +kernel) rfl (fun h => by cases h) (Nat.le_of_ble_eq_true rfl) ?_
  intro g X
  show g 0 0 [(m0, cO 6 [.ref a0, .ref a1, .ref a2, .int (nI tn), .ref a4, .int (nI ap), .ref a6, .int (nI rn), .ref a8, .ref a9, .int im, .ref b1, .ref b2, .ref b3, .ref b4, .ref b5, .ref b6]), (a0, cI d 36 K)] [(0, .ref m0), (1, .int (nI j))] 0 []
  refine g_bipush (v := (-9)) X dX6_portFrom_0 (by decide) ?_
  refine g_istore_n (lv' := [(2, .int (-9)), (0, .ref m0), (1, .int (nI j))]) X dX6_portFrom_2 rfl (by decide) rfl ?_
  refine g_iconst (v := 0) X dX6_portFrom_3 (by decide) ?_
  refine g_istore_n (lv' := [(3, .int 0), (2, .int (-9)), (0, .ref m0), (1, .int (nI j))]) X dX6_portFrom_4 rfl (by decide) rfl ?_
  have at_5 : ∀ (n_ : Nat) (i : Nat) (hi : i ≤ 36), (36 - i) < n_ → g 0 0 [(m0, cO 6 [.ref a0, .ref a1, .ref a2, .int (nI tn), .ref a4, .int (nI ap), .ref a6, .int (nI rn), .ref a8, .ref a9, .int im, .ref b1, .ref b2, .ref b3, .ref b4, .ref b5, .ref b6]), (a0, cI d 36 K)] [(0, .ref m0), (1, .int (nI j)), (2, .int (ptF K j i)), (3, .int (nI i))] 5 [] := by
    intro n_
    induction n_ with
    | zero => intro i hi hn_; exact absurd hn_ (Nat.not_lt_zero _)
    | succ n_ ih_5 =>
      intro i hi hn_5
      refine g_iload_n X dX6_portFrom_5 rfl 3 rfl ?_
      refine g_bipush (v := 36) X dX6_portFrom_6 (by decide) ?_
      refine g_icmpN_ge (a := i) (b := 36) X rfl rfl (by omega) (by omega) 72 dX6_portFrom_8 (by decide) (fun c8_1 => ?_) (fun c8_1 => ?_)
      · refine g_iload_n X dX6_portFrom_72 rfl 2 rfl ?_
        exact g_end X (gE_i dX6_portFrom_73 (rfl) (Nat.le_of_ble_eq_true rfl) (Nat.le_of_ble_eq_true rfl) ⟨congrArg (fun z => some (Value.int z)) (by rw [show i = 36 by omega]), rfl⟩)
      · refine g_aload_n X dX6_portFrom_11 rfl 0 rfl ?_
        refine g_get (C := RX6) (T := TX6) (N := 17) (ci := 6) (v := .ref a0) X rfl inT6 0 (by decide) wd_796 rfl dX6_portFrom_12 0 rfl rfl ?_
        refine g_iload_n X dX6_portFrom_15 rfl 3 rfl ?_
        refine g_iaload_N (k := i) X rfl dX6_portFrom_16 1 rfl (by first | assumption | omega) (by omega) ?_
        refine g_iconst (v := 5) X dX6_portFrom_17 (by decide) ?_
        refine g_icmp_eq X 24 dX6_portFrom_18 (by decide) (fun c18_2 => ?_) (fun c18_2 => ?_)
        · refine g_iload_n X dX6_portFrom_24 rfl 3 rfl ?_
          refine g_bipush (v := 6) X dX6_portFrom_25 (by decide) ?_
          refine g_idiv X dX6_portFrom_27 (by decide) ?_
          refine g_tope (y := nI (i / 6)) (nI_div (by omega) (by decide) (by decide)) ?_
          refine g_iload_n X dX6_portFrom_28 rfl 1 rfl ?_
          refine g_bipush (v := 6) X dX6_portFrom_29 (by decide) ?_
          refine g_idiv X dX6_portFrom_31 (by decide) ?_
          refine g_tope (y := nI (j / 6)) (nI_div (by omega) (by decide) (by decide)) ?_
          refine g_isub X dX6_portFrom_32 ?_
          refine g_mabs X wd_928 wd_427 wd_63 wd_428 (Nat.le_of_ble_eq_true rfl) (Nat.le_of_ble_eq_true rfl) (Nat.le_of_ble_eq_true rfl) (Nat.le_of_ble_eq_true rfl) dX6_portFrom_33 ?_
          refine g_iload_n X dX6_portFrom_36 rfl 3 rfl ?_
          refine g_bipush (v := 6) X dX6_portFrom_37 (by decide) ?_
          refine g_irem X dX6_portFrom_39 (by decide) ?_
          refine g_tope (y := nI (i % 6)) (nI_rem (by omega) (by decide) (by decide)) ?_
          refine g_iload_n X dX6_portFrom_40 rfl 1 rfl ?_
          refine g_bipush (v := 6) X dX6_portFrom_41 (by decide) ?_
          refine g_irem X dX6_portFrom_43 (by decide) ?_
          refine g_tope (y := nI (j % 6)) (nI_rem (by omega) (by decide) (by decide)) ?_
          refine g_isub X dX6_portFrom_44 ?_
          refine g_mabs X wd_928 wd_427 wd_63 wd_428 (Nat.le_of_ble_eq_true rfl) (Nat.le_of_ble_eq_true rfl) (Nat.le_of_ble_eq_true rfl) (Nat.le_of_ble_eq_true rfl) dX6_portFrom_45 ?_
          refine g_iadd X dX6_portFrom_48 ?_
          refine g_istore (lv' := [(4, .int ((ab ((nI (i / 6)) - (nI (j / 6)))) + (ab ((nI (i % 6)) - (nI (j % 6)))))), (0, .ref m0), (1, .int (nI j)), (2, .int (ptF K j i)), (3, .int (nI i))]) X dX6_portFrom_49 (by decide) rfl ?_
          refine g_iload_n X dX6_portFrom_51 rfl 3 rfl ?_
          refine g_bipush (v := (-9)) X dX6_portFrom_52 (by decide) ?_
          refine g_icmp_eq X 63 dX6_portFrom_54 (by decide) (fun c54_3 => ?_) (fun c54_3 => ?_)
          · refine g_iload X dX6_portFrom_63 0 rfl ?_
            refine g_istore_n (lv' := [(2, .int ((ab ((nI (i / 6)) - (nI (j / 6)))) + (ab ((nI (i % 6)) - (nI (j % 6)))))), (4, .int ((ab ((nI (i / 6)) - (nI (j / 6)))) + (ab ((nI (i % 6)) - (nI (j % 6)))))), (0, .ref m0), (1, .int (nI j)), (3, .int (nI i))]) X dX6_portFrom_65 rfl (by decide) rfl ?_
            refine g_iinc (v := nI (i + 1)) (lv' := [(3, .int (nI (i + 1))), (2, .int ((ab ((nI (i / 6)) - (nI (j / 6)))) + (ab ((nI (i % 6)) - (nI (j % 6)))))), (4, .int ((ab ((nI (i / 6)) - (nI (j / 6)))) + (ab ((nI (i % 6)) - (nI (j % 6)))))), (0, .ref m0), (1, .int (nI j))]) X dX6_portFrom_66 4 rfl (nI_inc _) (by decide) rfl ?_
            refine g_goto X 5 dX6_portFrom_69 (by decide) ?_
            refine g_lv (lv' := [(0, .ref m0), (1, .int (nI j)), (2, .int ((ab ((nI (i / 6)) - (nI (j / 6)))) + (ab ((nI (i % 6)) - (nI (j % 6)))))), (3, .int (nI (i + 1)))]) X [3, 4, 1, 0] rfl ?_
            exact g_eq (ws' := [(m0, cO 6 [.ref a0, .ref a1, .ref a2, .int (nI tn), .ref a4, .int (nI ap), .ref a6, .int (nI rn), .ref a8, .ref a9, .int im, .ref b1, .ref b2, .ref b3, .ref b4, .ref b5, .ref b6]), (a0, cI d 36 K)]) (lv' := [(0, .ref m0), (1, .int (nI j)), (2, .int (ptF K j (i + 1))), (3, .int (nI (i + 1)))]) (rfl) (lv_cons (rfl) (lv_cons (rfl) (lv_cons (vI (by first | exact ptF_n (by assumption) | exact ptF_s (by assumption) (Or.inl (by assumption)) | exact ptF_s (by assumption) (Or.inr (Int32.not_le.mp (by assumption))) | exact ptF_k (by assumption) (by assumption) (by assumption))) (lv_cons (rfl) (rfl))))) (ih_5 (i + 1) (by first | assumption | omega) (by omega))
          · refine g_iload X dX6_portFrom_57 0 rfl ?_
            refine g_iload_n X dX6_portFrom_59 rfl 3 rfl ?_
            refine g_icmp_ge X 66 dX6_portFrom_60 (by decide) (fun c60_4 => ?_) (fun c60_4 => ?_)
            · refine g_iinc (v := nI (i + 1)) (lv' := [(3, .int (nI (i + 1))), (4, .int ((ab ((nI (i / 6)) - (nI (j / 6)))) + (ab ((nI (i % 6)) - (nI (j % 6)))))), (0, .ref m0), (1, .int (nI j)), (2, .int (ptF K j i))]) X dX6_portFrom_66 4 rfl (nI_inc _) (by decide) rfl ?_
              refine g_goto X 5 dX6_portFrom_69 (by decide) ?_
              refine g_lv (lv' := [(0, .ref m0), (1, .int (nI j)), (2, .int (ptF K j i)), (3, .int (nI (i + 1)))]) X [2, 3, 4, 0] rfl ?_
              exact g_eq (ws' := [(m0, cO 6 [.ref a0, .ref a1, .ref a2, .int (nI tn), .ref a4, .int (nI ap), .ref a6, .int (nI rn), .ref a8, .ref a9, .int im, .ref b1, .ref b2, .ref b3, .ref b4, .ref b5, .ref b6]), (a0, cI d 36 K)]) (lv' := [(0, .ref m0), (1, .int (nI j)), (2, .int (ptF K j (i + 1))), (3, .int (nI (i + 1)))]) (rfl) (lv_cons (rfl) (lv_cons (rfl) (lv_cons (vI (by first | exact ptF_n (by assumption) | exact ptF_s (by assumption) (Or.inl (by assumption)) | exact ptF_s (by assumption) (Or.inr (Int32.not_le.mp (by assumption))) | exact ptF_k (by assumption) (by assumption) (by assumption))) (lv_cons (rfl) (rfl))))) (ih_5 (i + 1) (by first | assumption | omega) (by omega))
            · refine g_iload X dX6_portFrom_63 0 rfl ?_
              refine g_istore_n (lv' := [(2, .int ((ab ((nI (i / 6)) - (nI (j / 6)))) + (ab ((nI (i % 6)) - (nI (j % 6)))))), (4, .int ((ab ((nI (i / 6)) - (nI (j / 6)))) + (ab ((nI (i % 6)) - (nI (j % 6)))))), (0, .ref m0), (1, .int (nI j)), (3, .int (nI i))]) X dX6_portFrom_65 rfl (by decide) rfl ?_
              refine g_iinc (v := nI (i + 1)) (lv' := [(3, .int (nI (i + 1))), (2, .int ((ab ((nI (i / 6)) - (nI (j / 6)))) + (ab ((nI (i % 6)) - (nI (j % 6)))))), (4, .int ((ab ((nI (i / 6)) - (nI (j / 6)))) + (ab ((nI (i % 6)) - (nI (j % 6)))))), (0, .ref m0), (1, .int (nI j))]) X dX6_portFrom_66 4 rfl (nI_inc _) (by decide) rfl ?_
              refine g_goto X 5 dX6_portFrom_69 (by decide) ?_
              refine g_lv (lv' := [(0, .ref m0), (1, .int (nI j)), (2, .int ((ab ((nI (i / 6)) - (nI (j / 6)))) + (ab ((nI (i % 6)) - (nI (j % 6)))))), (3, .int (nI (i + 1)))]) X [3, 4, 1, 0] rfl ?_
              exact g_eq (ws' := [(m0, cO 6 [.ref a0, .ref a1, .ref a2, .int (nI tn), .ref a4, .int (nI ap), .ref a6, .int (nI rn), .ref a8, .ref a9, .int im, .ref b1, .ref b2, .ref b3, .ref b4, .ref b5, .ref b6]), (a0, cI d 36 K)]) (lv' := [(0, .ref m0), (1, .int (nI j)), (2, .int (ptF K j (i + 1))), (3, .int (nI (i + 1)))]) (rfl) (lv_cons (rfl) (lv_cons (rfl) (lv_cons (vI (by first | exact ptF_n (by assumption) | exact ptF_s (by assumption) (Or.inl (by assumption)) | exact ptF_s (by assumption) (Or.inr (Int32.not_le.mp (by assumption))) | exact ptF_k (by assumption) (by assumption) (by assumption))) (lv_cons (rfl) (rfl))))) (ih_5 (i + 1) (by first | assumption | omega) (by omega))
        · refine g_goto X 66 dX6_portFrom_21 (by decide) ?_
          refine g_iinc (v := nI (i + 1)) (lv' := [(3, .int (nI (i + 1))), (0, .ref m0), (1, .int (nI j)), (2, .int (ptF K j i))]) X dX6_portFrom_66 3 rfl (nI_inc _) (by decide) rfl ?_
          refine g_goto X 5 dX6_portFrom_69 (by decide) ?_
          refine g_lv (lv' := [(0, .ref m0), (1, .int (nI j)), (2, .int (ptF K j i)), (3, .int (nI (i + 1)))]) X [1, 2, 3, 0] rfl ?_
          exact g_eq (ws' := [(m0, cO 6 [.ref a0, .ref a1, .ref a2, .int (nI tn), .ref a4, .int (nI ap), .ref a6, .int (nI rn), .ref a8, .ref a9, .int im, .ref b1, .ref b2, .ref b3, .ref b4, .ref b5, .ref b6]), (a0, cI d 36 K)]) (lv' := [(0, .ref m0), (1, .int (nI j)), (2, .int (ptF K j (i + 1))), (3, .int (nI (i + 1)))]) (rfl) (lv_cons (rfl) (lv_cons (rfl) (lv_cons (vI (by first | exact ptF_n (by assumption) | exact ptF_s (by assumption) (Or.inl (by assumption)) | exact ptF_s (by assumption) (Or.inr (Int32.not_le.mp (by assumption))) | exact ptF_k (by assumption) (by assumption) (by assumption))) (lv_cons (rfl) (rfl))))) (ih_5 (i + 1) (by first | assumption | omega) (by omega))
  refine g_lv (lv' := [(0, .ref m0), (1, .int (nI j)), (2, .int (-9)), (3, .int 0)]) X [2, 3, 1, 0] rfl ?_
  exact g_eq (ws' := [(m0, cO 6 [.ref a0, .ref a1, .ref a2, .int (nI tn), .ref a4, .int (nI ap), .ref a6, .int (nI rn), .ref a8, .ref a9, .int im, .ref b1, .ref b2, .ref b3, .ref b4, .ref b5, .ref b6]), (a0, cI d 36 K)]) (lv' := [(0, .ref m0), (1, .int (nI j)), (2, .int (ptF K j 0)), (3, .int (nI 0))]) (rfl) (lv_cons (rfl) (lv_cons (rfl) (lv_cons (vI (by rfl)) (lv_cons (vI (by rfl)) (rfl))))) (at_5 _ 0 (by first | assumption | omega) (Nat.lt_succ_self _))
set_option maxHeartbeats 4000000 in
set_option maxRecDepth 20000 in
theorem ct_X6_clear (l : Launch) (d : KD) (m0 a0 a1 a2 a4 a6 a8 a9 b1 b2 b3 b4 b5 b6 : Nat) (tn ap rn : Nat) (im : Int32) : Ct l d yX6_clear cX6_clear 2 (some .int) { frames := 0, cells := 0, slots := 0, locals := 0 } [.ref m0] [(m0, cO 6 [.ref a0, .ref a1, .ref a2, .int (nI tn), .ref a4, .int (nI ap), .ref a6, .int (nI rn), .ref a8, .ref a9, .int im, .ref b1, .ref b2, .ref b3, .ref b4, .ref b5, .ref b6])] 0 0 (fun r wo => r = some (.int (nI rn)) ∧ wo = [(m0, cO 6 [.ref a0, .ref a1, .ref a2, .int (nI tn), .ref a4, .int (nI ap), .ref a6, .int (nI 0), .ref a8, .ref a9, .int im, .ref b1, .ref b2, .ref b3, .ref b4, .ref b5, .ref b6])]) := by
  refine ct_of (own := RX6) (ini := false) (by decide +kernel) rfl (fun h => by cases h) (Nat.le_of_ble_eq_true rfl) ?_
  intro g X
  show g 0 0 [(m0, cO 6 [.ref a0, .ref a1, .ref a2, .int (nI tn), .ref a4, .int (nI ap), .ref a6, .int (nI rn), .ref a8, .ref a9, .int im, .ref b1, .ref b2, .ref b3, .ref b4, .ref b5, .ref b6])] [(0, .ref m0)] 0 []
  refine g_aload_n X dX6_clear_0 rfl 0 rfl ?_
  refine g_get (C := RX6) (T := TX6) (N := 17) (ci := 6) (v := .int (nI rn)) X rfl inT6 7 (by decide) wd_803 rfl dX6_clear_1 0 rfl rfl ?_
  refine g_istore_n (lv' := [(1, .int (nI rn)), (0, .ref m0)]) X dX6_clear_4 rfl (by decide) rfl ?_
  refine g_aload_n X dX6_clear_5 rfl 1 rfl ?_
  refine g_iconst (v := 0) X dX6_clear_6 (by decide) ?_
  refine g_put (C := RX6) (T := TX6) (N := 17) (ci := 6) (v := .int 0) (ty := .int) (ws' := [(m0, cO 6 [.ref a0, .ref a1, .ref a2, .int (nI tn), .ref a4, .int (nI ap), .ref a6, .int 0, .ref a8, .ref a9, .int im, .ref b1, .ref b2, .ref b3, .ref b4, .ref b5, .ref b6])]) X rfl inT6 tyX6 tyX6_ok nmX6 7 (by decide) wd_803 rfl rfl (by decide +kernel) dX6_clear_7 0 rfl (by rfl) rfl (Nat.le_of_ble_eq_true rfl) rfl ?_
  refine g_iload_n X dX6_clear_10 rfl 0 rfl ?_
  exact g_end X (gE_i dX6_clear_11 (rfl) (Nat.le_of_ble_eq_true rfl) (Nat.le_of_ble_eq_true rfl) ⟨rfl, ws_cons (congrArg (cO 6) (lcons (rfl) (lcons (rfl) (lcons (rfl) (lcons (rfl) (lcons (rfl) (lcons (rfl) (lcons (rfl) (lcons (vI (by rfl)) (lcons (rfl) (lcons (rfl) (lcons (rfl) (lcons (rfl) (lcons (rfl) (lcons (rfl) (lcons (rfl) (lcons (rfl) (lcons (rfl) (rfl))))))))))))))))))) (rfl)⟩)
set_option maxHeartbeats 4000000 in
set_option maxRecDepth 20000 in
theorem ct_X6_days (l : Launch) (d : KD) (m0 a0 a1 a2 a4 a6 a8 a9 b1 b2 b3 b4 b5 b6 : Nat) (K S Rf F : Nat → Int32) (tn ap rn : Nat) (im : Int32) (x y : Int32) : Ct l d yX6_days cX6_days 3 (some .int) { frames := 2, cells := 0, slots := 0, locals := 49 } [.ref m0, .int x, .int y] [(m0, cO 6 [.ref a0, .ref a1, .ref a2, .int (nI tn), .ref a4, .int (nI ap), .ref a6, .int (nI rn), .ref a8, .ref a9, .int im, .ref b1, .ref b2, .ref b3, .ref b4, .ref b5, .ref b6]), (a0, cI d 36 K), (a2, cI d 5 S), (a9, cI d 7 (rf7 Rf)), (b4, cI d 36 F)] 0 0 (fun r wo => ∃ (F' : Nat → Int32), r = some (.int ((sp_days K S x y).1)) ∧ wo = [(m0, cO 6 [.ref a0, .ref a1, .ref a2, .int (nI tn), .ref a4, .int (nI ap), .ref a6, .int (nI rn), .ref a8, .ref a9, .int im, .ref b1, .ref b2, .ref b3, .ref b4, .ref b5, .ref b6]), (a0, cI d 36 K), (a2, cI d 5 S), (a9, cI d 7 (rf7 (bmp Rf (sp_days K S x y).2))), (b4, cI d 36 F')]) := by
  refine ct_of (own := RX6) (ini := false) (by decide +kernel) rfl (fun h => by cases h) (Nat.le_of_ble_eq_true rfl) ?_
  intro g X
  show g 0 0 [(m0, cO 6 [.ref a0, .ref a1, .ref a2, .int (nI tn), .ref a4, .int (nI ap), .ref a6, .int (nI rn), .ref a8, .ref a9, .int im, .ref b1, .ref b2, .ref b3, .ref b4, .ref b5, .ref b6]), (a0, cI d 36 K), (a2, cI d 5 S), (a9, cI d 7 (rf7 Rf)), (b4, cI d 36 F)] [(0, .ref m0), (1, .int x), (2, .int y)] 0 []
  refine g_iload_n X dX6_days_0 rfl 1 rfl ?_
  refine g_dS (n := 1) (wr := [(m0, cO 6 [.ref a0, .ref a1, .ref a2, .int (nI tn), .ref a4, .int (nI ap), .ref a6, .int (nI rn), .ref a8, .ref a9, .int im, .ref b1, .ref b2, .ref b3, .ref b4, .ref b5, .ref b6]), (a0, cI d 36 K), (a2, cI d 5 S), (a9, cI d 7 (rf7 Rf)), (b4, cI d 36 F)]) (ws' := [(m0, cO 6 [.ref a0, .ref a1, .ref a2, .int (nI tn), .ref a4, .int (nI ap), .ref a6, .int (nI rn), .ref a8, .ref a9, .int im, .ref b1, .ref b2, .ref b3, .ref b4, .ref b5, .ref b6]), (a0, cI d 36 K), (a2, cI d 5 S), (a9, cI d 7 (rf7 Rf)), (b4, cI d 36 F)]) (st' := [.int (b2i (sq x))]) (As := [.int x]) (st := []) X (ct_X6_isSquare l d x) wd_884 wd_882 wd_883 wd_58 hd_X6_isSquare ⟨(Nat.le_of_ble_eq_true rfl), (Nat.le_of_ble_eq_true rfl)⟩ rfl rfl dX6_days_1 ⟨(Nat.le_of_ble_eq_true rfl), (Nat.le_of_ble_eq_true rfl)⟩ rfl rfl (Nat.le_of_ble_eq_true rfl) [] [0, 1, 2, 3, 4] rfl rfl rfl rfl rfl (by decide) [0, 1, 2, 3, 4] rfl rfl rfl rfl ?_
  refine g_ifB_eq X 14 dX6_days_4 (by decide) (fun c4_1 => ?_) (fun c4_1 => ?_)
  · refine g_aload_n X dX6_days_14 rfl 0 rfl ?_
    refine g_iconst (v := (-1)) X dX6_days_15 (by decide) ?_
    refine g_dV (ci := 6) (q0 := 0) (n := 1) (wr := [(a0, cI d 36 K), (a2, cI d 5 S), (b4, cI d 36 F)]) (ws' := [(m0, cO 6 [.ref a0, .ref a1, .ref a2, .int (nI tn), .ref a4, .int (nI ap), .ref a6, .int (nI rn), .ref a8, .ref a9, .int im, .ref b1, .ref b2, .ref b3, .ref b4, .ref b5, .ref b6]), (a0, cI d 36 K), (a2, cI d 5 S), (a9, cI d 7 (rf7 (bmp Rf 1))), (b4, cI d 36 F)]) (st' := [.int (-1)]) (As := [.int (-1)]) (st := []) X (ct_X6_no_1 l d m0 a0 a1 a2 a4 a6 a8 a9 b1 b2 b3 b4 b5 b6 Rf tn ap rn im) wd_855 wd_852 wd_854 wd_25 wd_58 hd_X6_no rfl ⟨(Nat.le_of_ble_eq_true rfl), (Nat.le_of_ble_eq_true rfl)⟩ rfl rfl dX6_days_16 ⟨(Nat.le_of_ble_eq_true rfl), (Nat.le_of_ble_eq_true rfl)⟩ rfl rfl (Nat.le_of_ble_eq_true rfl) [0, 3] [1, 2, 4] rfl rfl rfl rfl rfl (by decide) rfl [3, 0, 1, 4, 2] rfl rfl rfl rfl ?_
    have e_ : sp_days K S x y = ((-1), 1) := by unfold sp_days; grind [b2i_t, b2i_f]
    exact g_end X (gE_i dX6_days_19 (rfl) (Nat.le_of_ble_eq_true rfl) (Nat.le_of_ble_eq_true rfl) ⟨F, congrArg (fun z => some (Value.int z)) (by rw [e_]), ws_cons (rfl) (ws_cons (rfl) (ws_cons (rfl) (ws_cons (cI_eq (by first | (rw [e_]; done) | (rw [e_]; rfl) | (rw [e_]; simp only [ix, ↓reduceIte]; done) | simp [e_, *])) (ws_cons (rfl) (rfl)))))⟩)
  · obtain ⟨j_x, hj_x, rfl⟩ := sq_nat c4_1
    have hcl_j_x : (nI j_x).toNatClampNeg = j_x := nI_clamp (by omega)
    refine g_iload_n X dX6_days_7 rfl 2 rfl ?_
    refine g_dS (n := 1) (wr := [(m0, cO 6 [.ref a0, .ref a1, .ref a2, .int (nI tn), .ref a4, .int (nI ap), .ref a6, .int (nI rn), .ref a8, .ref a9, .int im, .ref b1, .ref b2, .ref b3, .ref b4, .ref b5, .ref b6]), (a0, cI d 36 K), (a2, cI d 5 S), (a9, cI d 7 (rf7 Rf)), (b4, cI d 36 F)]) (ws' := [(m0, cO 6 [.ref a0, .ref a1, .ref a2, .int (nI tn), .ref a4, .int (nI ap), .ref a6, .int (nI rn), .ref a8, .ref a9, .int im, .ref b1, .ref b2, .ref b3, .ref b4, .ref b5, .ref b6]), (a0, cI d 36 K), (a2, cI d 5 S), (a9, cI d 7 (rf7 Rf)), (b4, cI d 36 F)]) (st' := [.int (b2i (sq y))]) (As := [.int y]) (st := []) X (ct_X6_isSquare l d y) wd_884 wd_882 wd_883 wd_58 hd_X6_isSquare ⟨(Nat.le_of_ble_eq_true rfl), (Nat.le_of_ble_eq_true rfl)⟩ rfl rfl dX6_days_8 ⟨(Nat.le_of_ble_eq_true rfl), (Nat.le_of_ble_eq_true rfl)⟩ rfl rfl (Nat.le_of_ble_eq_true rfl) [] [0, 1, 2, 3, 4] rfl rfl rfl rfl rfl (by decide) [0, 1, 2, 3, 4] rfl rfl rfl rfl ?_
    refine g_ifB_ne X 20 dX6_days_11 (by decide) (fun c11_3 => ?_) (fun c11_3 => ?_)
    · obtain ⟨j_y, hj_y, rfl⟩ := sq_nat c11_3
      have hcl_j_y : (nI j_y).toNatClampNeg = j_y := nI_clamp (by omega)
      refine g_aload_n X dX6_days_20 rfl 0 rfl ?_
      refine g_iload_n X dX6_days_21 rfl 1 rfl ?_
      refine g_aload_n X dX6_days_22 rfl 0 rfl ?_
      refine g_get (C := RX6) (T := TX6) (N := 17) (ci := 6) (v := .ref b4) X rfl inT6 14 (by decide) wd_810 rfl dX6_days_23 0 rfl rfl ?_
      refine g_dV (ci := 6) (q0 := 0) (n := 2) (wr := [(a9, cI d 7 (rf7 Rf))]) (ws' := [(m0, cO 6 [.ref a0, .ref a1, .ref a2, .int (nI tn), .ref a4, .int (nI ap), .ref a6, .int (nI rn), .ref a8, .ref a9, .int im, .ref b1, .ref b2, .ref b3, .ref b4, .ref b5, .ref b6]), (a0, cI d 36 K), (a2, cI d 5 S), (a9, cI d 7 (rf7 Rf)), (b4, cI d 36 (dF (dsI K S (nI j_x))))]) (st' := []) (As := [.int (nI j_x), .ref b4]) (st := []) X (ct_X6_sails l d m0 a0 a1 a2 a4 a6 a8 a9 b1 b2 b3 b4 b5 b6 K S F b4 j_x tn ap rn im (by first | assumption | omega)) wd_904 wd_901 wd_903 wd_34 wd_58 hd_X6_sails rfl ⟨(Nat.le_of_ble_eq_true rfl), (Nat.le_of_ble_eq_true rfl)⟩ rfl rfl dX6_days_26 ⟨(Nat.le_of_ble_eq_true rfl), (Nat.le_of_ble_eq_true rfl)⟩ rfl rfl (Nat.le_of_ble_eq_true rfl) [0, 1, 2, 4] [3] rfl rfl rfl rfl rfl (by decide) rfl [1, 2, 3, 0, 4] rfl rfl rfl rfl ?_
      refine g_aload_n X dX6_days_29 rfl 0 rfl ?_
      refine g_get (C := RX6) (T := TX6) (N := 17) (ci := 6) (v := .ref b4) X rfl inT6 14 (by decide) wd_810 rfl dX6_days_30 0 rfl rfl ?_
      refine g_iload_n X dX6_days_33 rfl 2 rfl ?_
      refine g_iaload_N (k := j_y) X rfl dX6_days_34 4 rfl (by first | assumption | omega) (by omega) ?_
      have e_ : sp_days K S (nI j_x) (nI j_y) = (dI ((dsI K S (nI j_x)) j_y), 0) := by unfold sp_days; grind [b2i_t, b2i_f]
      exact g_end X (gE_i dX6_days_35 (rfl) (Nat.le_of_ble_eq_true rfl) (Nat.le_of_ble_eq_true rfl) ⟨(dF (dsI K S (nI j_x))), congrArg (fun z => some (Value.int z)) (by rw [e_]), ws_cons (rfl) (ws_cons (rfl) (ws_cons (rfl) (ws_cons (cI_eq (by first | (rw [e_]; done) | (rw [e_]; rfl) | (rw [e_]; simp only [ix, hcl_j_x, hcl_j_y, ↓reduceIte]; done) | simp [e_, *])) (ws_cons (rfl) (rfl)))))⟩)
    · refine g_aload_n X dX6_days_14 rfl 0 rfl ?_
      refine g_iconst (v := (-1)) X dX6_days_15 (by decide) ?_
      refine g_dV (ci := 6) (q0 := 0) (n := 1) (wr := [(a0, cI d 36 K), (a2, cI d 5 S), (b4, cI d 36 F)]) (ws' := [(m0, cO 6 [.ref a0, .ref a1, .ref a2, .int (nI tn), .ref a4, .int (nI ap), .ref a6, .int (nI rn), .ref a8, .ref a9, .int im, .ref b1, .ref b2, .ref b3, .ref b4, .ref b5, .ref b6]), (a0, cI d 36 K), (a2, cI d 5 S), (a9, cI d 7 (rf7 (bmp Rf 1))), (b4, cI d 36 F)]) (st' := [.int (-1)]) (As := [.int (-1)]) (st := []) X (ct_X6_no_1 l d m0 a0 a1 a2 a4 a6 a8 a9 b1 b2 b3 b4 b5 b6 Rf tn ap rn im) wd_855 wd_852 wd_854 wd_25 wd_58 hd_X6_no rfl ⟨(Nat.le_of_ble_eq_true rfl), (Nat.le_of_ble_eq_true rfl)⟩ rfl rfl dX6_days_16 ⟨(Nat.le_of_ble_eq_true rfl), (Nat.le_of_ble_eq_true rfl)⟩ rfl rfl (Nat.le_of_ble_eq_true rfl) [0, 3] [1, 2, 4] rfl rfl rfl rfl rfl (by decide) rfl [3, 0, 1, 4, 2] rfl rfl rfl rfl ?_
      have e_ : sp_days K S (nI j_x) y = ((-1), 1) := by unfold sp_days; grind [b2i_t, b2i_f]
      exact g_end X (gE_i dX6_days_19 (rfl) (Nat.le_of_ble_eq_true rfl) (Nat.le_of_ble_eq_true rfl) ⟨F, congrArg (fun z => some (Value.int z)) (by rw [e_]), ws_cons (rfl) (ws_cons (rfl) (ws_cons (rfl) (ws_cons (cI_eq (by first | (rw [e_]; done) | (rw [e_]; rfl) | (rw [e_]; simp only [ix, hcl_j_x, ↓reduceIte]; done) | simp [e_, *])) (ws_cons (rfl) (rfl)))))⟩)
