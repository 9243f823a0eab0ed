theorem hd_X6_foundAt : yX6_foundAt.cls = "HeWreckedHimselfModel" ∧ yX6_foundAt.cls ≠ "java/lang/invoke/MethodHandle" ∧ yX6_foundAt.cls ≠ "java/lang/invoke/VarHandle" ∧ (parseMethodDescriptor yX6_foundAt.desc).map (fun d => d.parameters.length) = some 1 := by decide +kernel
set_option maxHeartbeats 4000000 in
set_option maxRecDepth 20000 in
theorem ct_X6_foundAt (l : Launch) (d : KD) (m0 a0 a1 a2 a4 a6 a8 a9 b1 b2 b3 b4 b5 b6 : Nat) (L : Nat → Int32) (tn ap rn : Nat) (im : Int32) (j : Nat) (G : Nat → Nat) (hj : j < 36) (hG : ∀ q, G q < 1000000 → G q ≤ 108) : Ct l d yX6_foundAt cX6_foundAt 4 (some .int) { frames := 0, cells := 0, slots := 0, locals := 0 } [.ref m0, .int (nI j)] [(m0, cO 6 [.ref a0, .ref a1, .ref a2, .int (nI tn), .ref a4, .int (nI ap), .ref a6, .int (nI rn), .ref a8, .ref a9, .int im, .ref b1, .ref b2, .ref b3, .ref b4, .ref b5, .ref b6]), (a1, cI d 36 L), (b5, cI d 36 (dF G))] 0 0 (fun r wo => r = some (.int (fdA L G j)) ∧ wo = [(m0, cO 6 [.ref a0, .ref a1, .ref a2, .int (nI tn), .ref a4, .int (nI ap), .ref a6, .int (nI rn), .ref a8, .ref a9, .int im, .ref b1, .ref b2, .ref b3, .ref b4, .ref b5, .ref b6]), (a1, cI d 36 L), (b5, cI d 36 (dF G))]) := by
  refine ct_of (own := RX6) (ini := false) (by decide +kernel) rfl (fun h => by cases h) (Nat.le_of_ble_eq_true rfl) ?_
  intro g X
  show g 0 0 [(m0, cO 6 [.ref a0, .ref a1, .ref a2, .int (nI tn), .ref a4, .int (nI ap), .ref a6, .int (nI rn), .ref a8, .ref a9, .int im, .ref b1, .ref b2, .ref b3, .ref b4, .ref b5, .ref b6]), (a1, cI d 36 L), (b5, cI d 36 (dF G))] [(0, .ref m0), (1, .int (nI j))] 0 []
  refine g_aload_n X dX6_foundAt_0 rfl 0 rfl ?_
  refine g_get (C := RX6) (T := TX6) (N := 17) (ci := 6) (v := .ref b5) X rfl inT6 15 (by decide) wd_811 rfl dX6_foundAt_1 0 rfl rfl ?_
  refine g_iload_n X dX6_foundAt_4 rfl 1 rfl ?_
  refine g_iaload_N (k := j) X rfl dX6_foundAt_5 2 rfl (by first | assumption | omega) (by omega) ?_
  refine g_bipush (v := (-9)) X dX6_foundAt_6 (by decide) ?_
  refine g_icmp_ne X 14 dX6_foundAt_8 (by decide) (fun c8_1 => ?_) (fun c8_1 => ?_)
  · have hjd : G j < 1000000 := Decidable.not_not.mp (fun z => c8_1 (dI_m9.mpr z))
    have hj8 := hG j hjd
    refine g_aload_n X dX6_foundAt_14 rfl 0 rfl ?_
    refine g_get (C := RX6) (T := TX6) (N := 17) (ci := 6) (v := .ref b5) X rfl inT6 15 (by decide) wd_811 rfl dX6_foundAt_15 0 rfl rfl ?_
    refine g_iload_n X dX6_foundAt_18 rfl 1 rfl ?_
    refine g_iaload_N (k := j) X rfl dX6_foundAt_19 2 rfl (by first | assumption | omega) (by omega) ?_
    refine g_tope (y := nI (G j)) (dI_t hjd) ?_
    refine g_istore_n (lv' := [(2, .int (nI (G j))), (0, .ref m0), (1, .int (nI j))]) X dX6_foundAt_20 rfl (by decide) rfl ?_
    refine g_iconst (v := 0) X dX6_foundAt_21 (by decide) ?_
    refine g_istore_n (lv' := [(3, .int 0), (2, .int (nI (G j))), (0, .ref m0), (1, .int (nI j))]) X dX6_foundAt_22 rfl (by decide) rfl ?_
    have at_23 : ∀ (n_ : Nat) (q : Nat) (hq : q ≤ 36), (36 - q) < n_ → g 0 0 [(m0, cO 6 [.ref a0, .ref a1, .ref a2, .int (nI tn), .ref a4, .int (nI ap), .ref a6, .int (nI rn), .ref a8, .ref a9, .int im, .ref b1, .ref b2, .ref b3, .ref b4, .ref b5, .ref b6]), (a1, cI d 36 L), (b5, cI d 36 (dF G))] [(0, .ref m0), (1, .int (nI j)), (2, .int (nI (G j + smG (sBf L G j) q))), (3, .int (nI q))] 23 [] := by
      intro n_
      induction n_ with
      | zero => intro q hq hn_; exact absurd hn_ (Nat.not_lt_zero _)
      | succ n_ ih_23 =>
        intro q hq hn_23
        refine g_iload_n X dX6_foundAt_23 rfl 3 rfl ?_
        refine g_bipush (v := 36) X dX6_foundAt_24 (by decide) ?_
        refine g_icmpN_ge (a := q) (b := 36) X rfl rfl (by omega) (by omega) 104 dX6_foundAt_26 (by decide) (fun c26_2 => ?_) (fun c26_2 => ?_)
        · obtain rfl : q = 36 := by omega
          refine g_iload_n X dX6_foundAt_104 rfl 2 rfl ?_
          exact g_end X (gE_i dX6_foundAt_105 (rfl) (Nat.le_of_ble_eq_true rfl) (Nat.le_of_ble_eq_true rfl) ⟨congrArg (fun z => some (Value.int z)) ((fdA_y hjd).symm), rfl⟩)
        · refine g_aload_n X dX6_foundAt_29 rfl 0 rfl ?_
          refine g_get (C := RX6) (T := TX6) (N := 17) (ci := 6) (v := .ref a1) X rfl inT6 1 (by decide) wd_797 rfl dX6_foundAt_30 0 rfl rfl ?_
          refine g_iload_n X dX6_foundAt_33 rfl 3 rfl ?_
          refine g_iaload_N (k := q) X rfl dX6_foundAt_34 1 rfl (by first | assumption | omega) (by omega) ?_
          refine g_if_eq X 98 dX6_foundAt_35 (by decide) (fun c35_3 => ?_) (fun c35_3 => ?_)
          · refine g_iinc (v := nI (q + 1)) (lv' := [(3, .int (nI (q + 1))), (0, .ref m0), (1, .int (nI j)), (2, .int (nI (G j + smG (sBf L G j) q)))]) X dX6_foundAt_98 3 rfl (nI_inc _) (by decide) rfl ?_
            refine g_goto X 23 dX6_foundAt_101 (by decide) ?_
            refine g_lv (lv' := [(0, .ref m0), (1, .int (nI j)), (2, .int (nI (G j + smG (sBf L G j) q))), (3, .int (nI (q + 1)))]) X [1, 2, 3, 0] rfl ?_
            exact g_eq (ws' := [(m0, cO 6 [.ref a0, .ref a1, .ref a2, .int (nI tn), .ref a4, .int (nI ap), .ref a6, .int (nI rn), .ref a8, .ref a9, .int im, .ref b1, .ref b2, .ref b3, .ref b4, .ref b5, .ref b6]), (a1, cI d 36 L), (b5, cI d 36 (dF G))]) (lv' := [(0, .ref m0), (1, .int (nI j)), (2, .int (nI (G j + smG (sBf L G j) (q + 1)))), (3, .int (nI (q + 1)))]) (rfl) (lv_cons (rfl) (lv_cons (rfl) (lv_cons (vI (congrArg nI (sBf_n (fun z => z.1.1 c35_3)))) (lv_cons (rfl) (rfl))))) (ih_23 (q + 1) (by first | assumption | omega) (by omega))
          · refine g_aload_n X dX6_foundAt_38 rfl 0 rfl ?_
            refine g_get (C := RX6) (T := TX6) (N := 17) (ci := 6) (v := .ref b5) X rfl inT6 15 (by decide) wd_811 rfl dX6_foundAt_39 0 rfl rfl ?_
            refine g_iload_n X dX6_foundAt_42 rfl 3 rfl ?_
            refine g_iaload_N (k := q) X rfl dX6_foundAt_43 2 rfl (by first | assumption | omega) (by omega) ?_
            refine g_bipush (v := (-9)) X dX6_foundAt_44 (by decide) ?_
            refine g_icmp_ne X 52 dX6_foundAt_46 (by decide) (fun c46_4 => ?_) (fun c46_4 => ?_)
            · have hqd : G q < 1000000 := Decidable.not_not.mp (fun z => c46_4 (dI_m9.mpr z))
              have hq8 := hG q hqd
              refine g_aload_n X dX6_foundAt_52 rfl 0 rfl ?_
              refine g_get (C := RX6) (T := TX6) (N := 17) (ci := 6) (v := .ref b5) X rfl inT6 15 (by decide) wd_811 rfl dX6_foundAt_53 0 rfl rfl ?_
              refine g_iload_n X dX6_foundAt_56 rfl 3 rfl ?_
              refine g_iaload_N (k := q) X rfl dX6_foundAt_57 2 rfl (by first | assumption | omega) (by omega) ?_
              refine g_tope (y := nI (G q)) (dI_t hqd) ?_
              refine g_aload_n X dX6_foundAt_58 rfl 0 rfl ?_
              refine g_get (C := RX6) (T := TX6) (N := 17) (ci := 6) (v := .ref b5) X rfl inT6 15 (by decide) wd_811 rfl dX6_foundAt_59 0 rfl rfl ?_
              refine g_iload_n X dX6_foundAt_62 rfl 1 rfl ?_
              refine g_iaload_N (k := j) X rfl dX6_foundAt_63 2 rfl (by first | assumption | omega) (by omega) ?_
              refine g_tope (y := nI (G j)) (dI_t hjd) ?_
              refine g_icmpN_lt (a := (G q)) (b := (G j)) X rfl rfl (by omega) (by omega) 87 dX6_foundAt_64 (by decide) (fun c64_5 => ?_) (fun c64_5 => ?_)
              · refine g_iload_n X dX6_foundAt_87 rfl 2 rfl ?_
                refine g_iconst (v := 2) X dX6_foundAt_88 (by decide) ?_
                refine g_aload_n X dX6_foundAt_89 rfl 0 rfl ?_
                refine g_get (C := RX6) (T := TX6) (N := 17) (ci := 6) (v := .ref b5) X rfl inT6 15 (by decide) wd_811 rfl dX6_foundAt_90 0 rfl rfl ?_
                refine g_iload_n X dX6_foundAt_93 rfl 3 rfl ?_
                refine g_iaload_N (k := q) X rfl dX6_foundAt_94 2 rfl (by first | assumption | omega) (by omega) ?_
                refine g_tope (y := nI (G q)) (dI_t hqd) ?_
                refine g_imul X dX6_foundAt_95 ?_
                refine g_tope (y := nI (2 * (G q))) (nI_mulN _ _) ?_
                refine g_iadd X dX6_foundAt_96 ?_
                refine g_tope (y := nI ((G j + smG (sBf L G j) q) + (2 * (G q)))) (nI_add _ _) ?_
                refine g_istore_n (lv' := [(2, .int (nI ((G j + smG (sBf L G j) q) + (2 * (G q))))), (0, .ref m0), (1, .int (nI j)), (3, .int (nI q))]) X dX6_foundAt_97 rfl (by decide) rfl ?_
                refine g_iinc (v := nI (q + 1)) (lv' := [(3, .int (nI (q + 1))), (2, .int (nI ((G j + smG (sBf L G j) q) + (2 * (G q))))), (0, .ref m0), (1, .int (nI j))]) X dX6_foundAt_98 3 rfl (nI_inc _) (by decide) rfl ?_
                refine g_goto X 23 dX6_foundAt_101 (by decide) ?_
                refine g_lv (lv' := [(0, .ref m0), (1, .int (nI j)), (2, .int (nI ((G j + smG (sBf L G j) q) + (2 * (G q))))), (3, .int (nI (q + 1)))]) X [2, 3, 1, 0] rfl ?_
                exact g_eq (ws' := [(m0, cO 6 [.ref a0, .ref a1, .ref a2, .int (nI tn), .ref a4, .int (nI ap), .ref a6, .int (nI rn), .ref a8, .ref a9, .int im, .ref b1, .ref b2, .ref b3, .ref b4, .ref b5, .ref b6]), (a1, cI d 36 L), (b5, cI d 36 (dF G))]) (lv' := [(0, .ref m0), (1, .int (nI j)), (2, .int (nI (G j + smG (sBf L G j) (q + 1)))), (3, .int (nI (q + 1)))]) (rfl) (lv_cons (rfl) (lv_cons (rfl) (lv_cons (vI (congrArg nI (sBf_y ⟨c35_3, hqd⟩ (Or.inl c64_5)))) (lv_cons (rfl) (rfl))))) (ih_23 (q + 1) (by first | assumption | omega) (by omega))
              · refine g_aload_n X dX6_foundAt_67 rfl 0 rfl ?_
                refine g_get (C := RX6) (T := TX6) (N := 17) (ci := 6) (v := .ref b5) X rfl inT6 15 (by decide) wd_811 rfl dX6_foundAt_68 0 rfl rfl ?_
                refine g_iload_n X dX6_foundAt_71 rfl 3 rfl ?_
                refine g_iaload_N (k := q) X rfl dX6_foundAt_72 2 rfl (by first | assumption | omega) (by omega) ?_
                refine g_tope (y := nI (G q)) (dI_t hqd) ?_
                refine g_aload_n X dX6_foundAt_73 rfl 0 rfl ?_
                refine g_get (C := RX6) (T := TX6) (N := 17) (ci := 6) (v := .ref b5) X rfl inT6 15 (by decide) wd_811 rfl dX6_foundAt_74 0 rfl rfl ?_
                refine g_iload_n X dX6_foundAt_77 rfl 1 rfl ?_
                refine g_iaload_N (k := j) X rfl dX6_foundAt_78 2 rfl (by first | assumption | omega) (by omega) ?_
                refine g_tope (y := nI (G j)) (dI_t hjd) ?_
                refine g_icmpN_ne (a := (G q)) (b := (G j)) X rfl rfl (by omega) (by omega) 98 dX6_foundAt_79 (by decide) (fun c79_6 => ?_) (fun c79_6 => ?_)
                · refine g_iinc (v := nI (q + 1)) (lv' := [(3, .int (nI (q + 1))), (0, .ref m0), (1, .int (nI j)), (2, .int (nI (G j + smG (sBf L G j) q)))]) X dX6_foundAt_98 3 rfl (nI_inc _) (by decide) rfl ?_
                  refine g_goto X 23 dX6_foundAt_101 (by decide) ?_
                  refine g_lv (lv' := [(0, .ref m0), (1, .int (nI j)), (2, .int (nI (G j + smG (sBf L G j) q))), (3, .int (nI (q + 1)))]) X [1, 2, 3, 0] rfl ?_
                  exact g_eq (ws' := [(m0, cO 6 [.ref a0, .ref a1, .ref a2, .int (nI tn), .ref a4, .int (nI ap), .ref a6, .int (nI rn), .ref a8, .ref a9, .int im, .ref b1, .ref b2, .ref b3, .ref b4, .ref b5, .ref b6]), (a1, cI d 36 L), (b5, cI d 36 (dF G))]) (lv' := [(0, .ref m0), (1, .int (nI j)), (2, .int (nI (G j + smG (sBf L G j) (q + 1)))), (3, .int (nI (q + 1)))]) (rfl) (lv_cons (rfl) (lv_cons (rfl) (lv_cons (vI (congrArg nI (sBf_n (fun z => z.2.elim (fun e => absurd e (by omega)) (fun e => absurd e.1 (by omega)))))) (lv_cons (rfl) (rfl))))) (ih_23 (q + 1) (by first | assumption | omega) (by omega))
                · refine g_iload_n X dX6_foundAt_82 rfl 3 rfl ?_
                  refine g_iload_n X dX6_foundAt_83 rfl 1 rfl ?_
                  refine g_icmpN_ge (a := q) (b := j) X rfl rfl (by omega) (by omega) 98 dX6_foundAt_84 (by decide) (fun c84_7 => ?_) (fun c84_7 => ?_)
                  · refine g_iinc (v := nI (q + 1)) (lv' := [(3, .int (nI (q + 1))), (0, .ref m0), (1, .int (nI j)), (2, .int (nI (G j + smG (sBf L G j) q)))]) X dX6_foundAt_98 3 rfl (nI_inc _) (by decide) rfl ?_
                    refine g_goto X 23 dX6_foundAt_101 (by decide) ?_
                    refine g_lv (lv' := [(0, .ref m0), (1, .int (nI j)), (2, .int (nI (G j + smG (sBf L G j) q))), (3, .int (nI (q + 1)))]) X [1, 2, 3, 0] rfl ?_
                    exact g_eq (ws' := [(m0, cO 6 [.ref a0, .ref a1, .ref a2, .int (nI tn), .ref a4, .int (nI ap), .ref a6, .int (nI rn), .ref a8, .ref a9, .int im, .ref b1, .ref b2, .ref b3, .ref b4, .ref b5, .ref b6]), (a1, cI d 36 L), (b5, cI d 36 (dF G))]) (lv' := [(0, .ref m0), (1, .int (nI j)), (2, .int (nI (G j + smG (sBf L G j) (q + 1)))), (3, .int (nI (q + 1)))]) (rfl) (lv_cons (rfl) (lv_cons (rfl) (lv_cons (vI (congrArg nI (sBf_n (fun z => z.2.elim (fun e => absurd e (by omega)) (fun e => absurd e.2 (by omega)))))) (lv_cons (rfl) (rfl))))) (ih_23 (q + 1) (by first | assumption | omega) (by omega))
                  · refine g_iload_n X dX6_foundAt_87 rfl 2 rfl ?_
                    refine g_iconst (v := 2) X dX6_foundAt_88 (by decide) ?_
                    refine g_aload_n X dX6_foundAt_89 rfl 0 rfl ?_
                    refine g_get (C := RX6) (T := TX6) (N := 17) (ci := 6) (v := .ref b5) X rfl inT6 15 (by decide) wd_811 rfl dX6_foundAt_90 0 rfl rfl ?_
                    refine g_iload_n X dX6_foundAt_93 rfl 3 rfl ?_
                    refine g_iaload_N (k := q) X rfl dX6_foundAt_94 2 rfl (by first | assumption | omega) (by omega) ?_
                    refine g_tope (y := nI (G q)) (dI_t hqd) ?_
                    refine g_imul X dX6_foundAt_95 ?_
                    refine g_tope (y := nI (2 * (G q))) (nI_mulN _ _) ?_
                    refine g_iadd X dX6_foundAt_96 ?_
                    refine g_tope (y := nI ((G j + smG (sBf L G j) q) + (2 * (G q)))) (nI_add _ _) ?_
                    refine g_istore_n (lv' := [(2, .int (nI ((G j + smG (sBf L G j) q) + (2 * (G q))))), (0, .ref m0), (1, .int (nI j)), (3, .int (nI q))]) X dX6_foundAt_97 rfl (by decide) rfl ?_
                    refine g_iinc (v := nI (q + 1)) (lv' := [(3, .int (nI (q + 1))), (2, .int (nI ((G j + smG (sBf L G j) q) + (2 * (G q))))), (0, .ref m0), (1, .int (nI j))]) X dX6_foundAt_98 3 rfl (nI_inc _) (by decide) rfl ?_
                    refine g_goto X 23 dX6_foundAt_101 (by decide) ?_
                    refine g_lv (lv' := [(0, .ref m0), (1, .int (nI j)), (2, .int (nI ((G j + smG (sBf L G j) q) + (2 * (G q))))), (3, .int (nI (q + 1)))]) X [2, 3, 1, 0] rfl ?_
                    exact g_eq (ws' := [(m0, cO 6 [.ref a0, .ref a1, .ref a2, .int (nI tn), .ref a4, .int (nI ap), .ref a6, .int (nI rn), .ref a8, .ref a9, .int im, .ref b1, .ref b2, .ref b3, .ref b4, .ref b5, .ref b6]), (a1, cI d 36 L), (b5, cI d 36 (dF G))]) (lv' := [(0, .ref m0), (1, .int (nI j)), (2, .int (nI (G j + smG (sBf L G j) (q + 1)))), (3, .int (nI (q + 1)))]) (rfl) (lv_cons (rfl) (lv_cons (rfl) (lv_cons (vI (congrArg nI (sBf_y ⟨c35_3, hqd⟩ (Or.inr ⟨by omega, by omega⟩)))) (lv_cons (rfl) (rfl))))) (ih_23 (q + 1) (by first | assumption | omega) (by omega))
            · have hq9 : dI (G q) = -9 := by first | exact c46_4 | exact Decidable.not_not.mp c46_4
              refine g_goto X 98 dX6_foundAt_49 (by decide) ?_
              refine g_iinc (v := nI (q + 1)) (lv' := [(3, .int (nI (q + 1))), (0, .ref m0), (1, .int (nI j)), (2, .int (nI (G j + smG (sBf L G j) q)))]) X dX6_foundAt_98 3 rfl (nI_inc _) (by decide) rfl ?_
              refine g_goto X 23 dX6_foundAt_101 (by decide) ?_
              refine g_lv (lv' := [(0, .ref m0), (1, .int (nI j)), (2, .int (nI (G j + smG (sBf L G j) q))), (3, .int (nI (q + 1)))]) X [1, 2, 3, 0] rfl ?_
              exact g_eq (ws' := [(m0, cO 6 [.ref a0, .ref a1, .ref a2, .int (nI tn), .ref a4, .int (nI ap), .ref a6, .int (nI rn), .ref a8, .ref a9, .int im, .ref b1, .ref b2, .ref b3, .ref b4, .ref b5, .ref b6]), (a1, cI d 36 L), (b5, cI d 36 (dF G))]) (lv' := [(0, .ref m0), (1, .int (nI j)), (2, .int (nI (G j + smG (sBf L G j) (q + 1)))), (3, .int (nI (q + 1)))]) (rfl) (lv_cons (rfl) (lv_cons (rfl) (lv_cons (vI (congrArg nI (sBf_n (fun z => (dI_m9.mp hq9) z.1.2)))) (lv_cons (rfl) (rfl))))) (ih_23 (q + 1) (by first | assumption | omega) (by omega))
    refine g_lv (lv' := [(0, .ref m0), (1, .int (nI j)), (2, .int (nI (G j))), (3, .int 0)]) X [2, 3, 1, 0] rfl ?_
    exact g_eq (ws' := [(m0, cO 6 [.ref a0, .ref a1, .ref a2, .int (nI tn), .ref a4, .int (nI ap), .ref a6, .int (nI rn), .ref a8, .ref a9, .int im, .ref b1, .ref b2, .ref b3, .ref b4, .ref b5, .ref b6]), (a1, cI d 36 L), (b5, cI d 36 (dF G))]) (lv' := [(0, .ref m0), (1, .int (nI j)), (2, .int (nI (G j + smG (sBf L G j) 0))), (3, .int (nI 0))]) (rfl) (lv_cons (rfl) (lv_cons (rfl) (lv_cons (vI (by rfl)) (lv_cons (vI (by rfl)) (rfl))))) (at_23 _ 0 (by first | assumption | omega) (Nat.lt_succ_self _))
  · have hj9 : dI (G j) = -9 := by first | exact c8_1 | exact Decidable.not_not.mp c8_1
    refine g_bipush (v := (-9)) X dX6_foundAt_11 (by decide) ?_
    exact g_end X (gE_i dX6_foundAt_13 (rfl) (Nat.le_of_ble_eq_true rfl) (Nat.le_of_ble_eq_true rfl) ⟨congrArg (fun z => some (Value.int z)) ((fdA_n (dI_m9.mp hj9)).symm), rfl⟩)
set_option maxHeartbeats 4000000 in
set_option maxRecDepth 20000 in
theorem ct_X6_found (l : Launch) (d : KD) (m0 a0 a1 a2 a4 a6 a8 a9 b1 b2 b3 b4 b5 b6 : Nat) (K L S Rf H : Nat → Int32) (tn ap rn : Nat) (im : Int32) (x : Int32) (hh : sq (S 0)) (hL : ∀ q, lk9 (L q)) : Ct l d yX6_found cX6_found 2 (some .int) { frames := 3, cells := 0, slots := 0, locals := 69 } [.ref m0, .int x] [(m0, cO 6 [.ref a0, .ref a1, .ref a2, .int (nI tn), .ref a4, .int (nI ap), .ref a6, .int (nI rn), .ref a8, .ref a9, .int im, .ref b1, .ref b2, .ref b3, .ref b4, .ref b5, .ref b6]), (a0, cI d 36 K), (a1, cI d 36 L), (a2, cI d 5 S), (a9, cI d 7 (rf7 Rf)), (b5, cI d 36 H)] 0 0 (fun r wo => ∃ (H' : Nat → Int32), r = some (.int ((sp_found K L S x).1)) ∧ wo = [(m0, cO 6 [.ref a0, .ref a1, .ref a2, .int (nI tn), .ref a4, .int (nI ap), .ref a6, .int (nI rn), .ref a8, .ref a9, .int im, .ref b1, .ref b2, .ref b3, .ref b4, .ref b5, .ref b6]), (a0, cI d 36 K), (a1, cI d 36 L), (a2, cI d 5 S), (a9, cI d 7 (rf7 (bmp Rf (sp_found K L S x).2))), (b5, cI d 36 H')]) := by
  refine ct_of (own := RX6) (ini := false) (by decide +kernel) rfl (fun h => by cases h) (Nat.le_of_ble_eq_true rfl) ?_
  intro g X
  show g 0 0 [(m0, cO 6 [.ref a0, .ref a1, .ref a2, .int (nI tn), .ref a4, .int (nI ap), .ref a6, .int (nI rn), .ref a8, .ref a9, .int im, .ref b1, .ref b2, .ref b3, .ref b4, .ref b5, .ref b6]), (a0, cI d 36 K), (a1, cI d 36 L), (a2, cI d 5 S), (a9, cI d 7 (rf7 Rf)), (b5, cI d 36 H)] [(0, .ref m0), (1, .int x)] 0 []
  refine g_iload_n X dX6_found_0 rfl 1 rfl ?_
  refine g_dS (n := 1) (wr := [(m0, cO 6 [.ref a0, .ref a1, .ref a2, .int (nI tn), .ref a4, .int (nI ap), .ref a6, .int (nI rn), .ref a8, .ref a9, .int im, .ref b1, .ref b2, .ref b3, .ref b4, .ref b5, .ref b6]), (a0, cI d 36 K), (a1, cI d 36 L), (a2, cI d 5 S), (a9, cI d 7 (rf7 Rf)), (b5, cI d 36 H)]) (ws' := [(m0, cO 6 [.ref a0, .ref a1, .ref a2, .int (nI tn), .ref a4, .int (nI ap), .ref a6, .int (nI rn), .ref a8, .ref a9, .int im, .ref b1, .ref b2, .ref b3, .ref b4, .ref b5, .ref b6]), (a0, cI d 36 K), (a1, cI d 36 L), (a2, cI d 5 S), (a9, cI d 7 (rf7 Rf)), (b5, cI d 36 H)]) (st' := [.int (b2i (sq x))]) (As := [.int x]) (st := []) X (ct_X6_isSquare l d x) wd_884 wd_882 wd_883 wd_58 hd_X6_isSquare ⟨(Nat.le_of_ble_eq_true rfl), (Nat.le_of_ble_eq_true rfl)⟩ rfl rfl dX6_found_1 ⟨(Nat.le_of_ble_eq_true rfl), (Nat.le_of_ble_eq_true rfl)⟩ rfl rfl (Nat.le_of_ble_eq_true rfl) [] [0, 1, 2, 3, 4, 5] rfl rfl rfl rfl rfl (by decide) [0, 1, 2, 3, 4, 5] rfl rfl rfl rfl ?_
  refine g_ifB_ne X 13 dX6_found_4 (by decide) (fun c4_1 => ?_) (fun c4_1 => ?_)
  · obtain ⟨j_x, hj_x, rfl⟩ := sq_nat c4_1
    have hcl_j_x : (nI j_x).toNatClampNeg = j_x := nI_clamp (by omega)
    refine g_aload_n X dX6_found_13 rfl 0 rfl ?_
    refine g_get (C := RX6) (T := TX6) (N := 17) (ci := 6) (v := .ref a1) X rfl inT6 1 (by decide) wd_797 rfl dX6_found_14 0 rfl rfl ?_
    refine g_iload_n X dX6_found_17 rfl 1 rfl ?_
    refine g_iaload_N (k := j_x) X rfl dX6_found_18 2 rfl (by first | assumption | omega) (by omega) ?_
    refine g_if_ne X 29 dX6_found_19 (by decide) (fun c19_2 => ?_) (fun c19_2 => ?_)
    · refine g_aload_n X dX6_found_29 rfl 0 rfl ?_
      refine g_dV (ci := 6) (q0 := 0) (n := 0) (wr := [(a1, cI d 36 L), (a9, cI d 7 (rf7 Rf))]) (ws' := [(m0, cO 6 [.ref a0, .ref a1, .ref a2, .int (nI tn), .ref a4, .int (nI ap), .ref a6, .int (nI rn), .ref a8, .ref a9, .int im, .ref b1, .ref b2, .ref b3, .ref b4, .ref b5, .ref b6]), (a0, cI d 36 K), (a1, cI d 36 L), (a2, cI d 5 S), (a9, cI d 7 (rf7 Rf)), (b5, cI d 36 (dF (dsI K S (S 0))))]) (st' := []) (As := []) (st := []) X (ct_X6_fromHome l d m0 a0 a1 a2 a4 a6 a8 a9 b1 b2 b3 b4 b5 b6 K S H tn ap rn im (by first | assumption | omega)) wd_900 wd_897 wd_899 wd_33 wd_58 hd_X6_fromHome rfl ⟨(Nat.le_of_ble_eq_true rfl), (Nat.le_of_ble_eq_true rfl)⟩ rfl rfl dX6_found_30 ⟨(Nat.le_of_ble_eq_true rfl), (Nat.le_of_ble_eq_true rfl)⟩ rfl rfl (Nat.le_of_ble_eq_true rfl) [0, 1, 3, 5] [2, 4] rfl rfl rfl rfl rfl (by decide) rfl [2, 3, 0, 4, 1, 5] rfl rfl rfl rfl ?_
      refine g_aload_n X dX6_found_33 rfl 0 rfl ?_
      refine g_iload_n X dX6_found_34 rfl 1 rfl ?_
      refine g_dV (ci := 6) (q0 := 0) (n := 1) (wr := [(a0, cI d 36 K), (a2, cI d 5 S), (a9, cI d 7 (rf7 Rf))]) (ws' := [(m0, cO 6 [.ref a0, .ref a1, .ref a2, .int (nI tn), .ref a4, .int (nI ap), .ref a6, .int (nI rn), .ref a8, .ref a9, .int im, .ref b1, .ref b2, .ref b3, .ref b4, .ref b5, .ref b6]), (a0, cI d 36 K), (a1, cI d 36 L), (a2, cI d 5 S), (a9, cI d 7 (rf7 Rf)), (b5, cI d 36 (dF (dsI K S (S 0))))]) (st' := [.int (fdA L (dsI K S (S 0)) j_x)]) (As := [.int (nI j_x)]) (st := []) X (ct_X6_foundAt l d m0 a0 a1 a2 a4 a6 a8 a9 b1 b2 b3 b4 b5 b6 L tn ap rn im j_x (dsI K S (S 0)) (by first | assumption | omega) (fun q => dsI_b)) wd_1004 wd_1001 wd_1003 wd_46 wd_58 hd_X6_foundAt rfl ⟨(Nat.le_of_ble_eq_true rfl), (Nat.le_of_ble_eq_true rfl)⟩ rfl rfl dX6_found_35 ⟨(Nat.le_of_ble_eq_true rfl), (Nat.le_of_ble_eq_true rfl)⟩ rfl rfl (Nat.le_of_ble_eq_true rfl) [0, 2, 5] [1, 3, 4] rfl rfl rfl rfl rfl (by decide) rfl [3, 0, 4, 1, 2, 5] rfl rfl rfl rfl ?_
      have e_ : sp_found K L S (nI j_x) = (fdA L (dsI K S (S 0)) j_x, 0) := found_3 hL hj_x c19_2
      exact g_end X (gE_i dX6_found_38 (rfl) (Nat.le_of_ble_eq_true rfl) (Nat.le_of_ble_eq_true rfl) ⟨(dF (dsI K S (S 0))), congrArg (fun z => some (Value.int z)) (by rw [e_]), ws_cons (rfl) (ws_cons (rfl) (ws_cons (rfl) (ws_cons (rfl) (ws_cons (cI_eq (by first | (rw [e_]; done) | (rw [e_]; rfl) | (rw [e_]; simp only [ix, hcl_j_x, ↓reduceIte]; done) | simp [e_, *])) (ws_cons (rfl) (rfl))))))⟩)
    · refine g_aload_n X dX6_found_22 rfl 0 rfl ?_
      refine g_bipush (v := (-3)) X dX6_found_23 (by decide) ?_
      refine g_dV (ci := 6) (q0 := 0) (n := 1) (wr := [(a0, cI d 36 K), (a1, cI d 36 L), (a2, cI d 5 S), (b5, cI d 36 H)]) (ws' := [(m0, cO 6 [.ref a0, .ref a1, .ref a2, .int (nI tn), .ref a4, .int (nI ap), .ref a6, .int (nI rn), .ref a8, .ref a9, .int im, .ref b1, .ref b2, .ref b3, .ref b4, .ref b5, .ref b6]), (a0, cI d 36 K), (a1, cI d 36 L), (a2, cI d 5 S), (a9, cI d 7 (rf7 (bmp Rf 3))), (b5, cI d 36 H)]) (st' := [.int (-3)]) (As := [.int (-3)]) (st := []) X (ct_X6_no_3 l d m0 a0 a1 a2 a4 a6 a8 a9 b1 b2 b3 b4 b5 b6 Rf tn ap rn im) wd_855 wd_852 wd_854 wd_25 wd_58 hd_X6_no rfl ⟨(Nat.le_of_ble_eq_true rfl), (Nat.le_of_ble_eq_true rfl)⟩ rfl rfl dX6_found_25 ⟨(Nat.le_of_ble_eq_true rfl), (Nat.le_of_ble_eq_true rfl)⟩ rfl rfl (Nat.le_of_ble_eq_true rfl) [0, 4] [1, 2, 3, 5] rfl rfl rfl rfl rfl (by decide) rfl [4, 0, 1, 2, 5, 3] rfl rfl rfl rfl ?_
      have e_ : sp_found K L S (nI j_x) = ((-3), 3) := found_2 hj_x c19_2
      exact g_end X (gE_i dX6_found_28 (rfl) (Nat.le_of_ble_eq_true rfl) (Nat.le_of_ble_eq_true rfl) ⟨H, congrArg (fun z => some (Value.int z)) (by rw [e_]), ws_cons (rfl) (ws_cons (rfl) (ws_cons (rfl) (ws_cons (rfl) (ws_cons (cI_eq (by first | (rw [e_]; done) | (rw [e_]; rfl) | (rw [e_]; simp only [ix, hcl_j_x, ↓reduceIte]; done) | simp [e_, *])) (ws_cons (rfl) (rfl))))))⟩)
  · refine g_aload_n X dX6_found_7 rfl 0 rfl ?_
    refine g_iconst (v := (-1)) X dX6_found_8 (by decide) ?_
    refine g_dV (ci := 6) (q0 := 0) (n := 1) (wr := [(a0, cI d 36 K), (a1, cI d 36 L), (a2, cI d 5 S), (b5, cI d 36 H)]) (ws' := [(m0, cO 6 [.ref a0, .ref a1, .ref a2, .int (nI tn), .ref a4, .int (nI ap), .ref a6, .int (nI rn), .ref a8, .ref a9, .int im, .ref b1, .ref b2, .ref b3, .ref b4, .ref b5, .ref b6]), (a0, cI d 36 K), (a1, cI d 36 L), (a2, cI d 5 S), (a9, cI d 7 (rf7 (bmp Rf 1))), (b5, cI d 36 H)]) (st' := [.int (-1)]) (As := [.int (-1)]) (st := []) X (ct_X6_no_1 l d m0 a0 a1 a2 a4 a6 a8 a9 b1 b2 b3 b4 b5 b6 Rf tn ap rn im) wd_855 wd_852 wd_854 wd_25 wd_58 hd_X6_no rfl ⟨(Nat.le_of_ble_eq_true rfl), (Nat.le_of_ble_eq_true rfl)⟩ rfl rfl dX6_found_9 ⟨(Nat.le_of_ble_eq_true rfl), (Nat.le_of_ble_eq_true rfl)⟩ rfl rfl (Nat.le_of_ble_eq_true rfl) [0, 4] [1, 2, 3, 5] rfl rfl rfl rfl rfl (by decide) rfl [4, 0, 1, 2, 5, 3] rfl rfl rfl rfl ?_
    have e_ : sp_found K L S x = ((-1), 1) := found_1 (by assumption)
    exact g_end X (gE_i dX6_found_12 (rfl) (Nat.le_of_ble_eq_true rfl) (Nat.le_of_ble_eq_true rfl) ⟨H, congrArg (fun z => some (Value.int z)) (by rw [e_]), ws_cons (rfl) (ws_cons (rfl) (ws_cons (rfl) (ws_cons (rfl) (ws_cons (cI_eq (by first | (rw [e_]; done) | (rw [e_]; rfl) | (rw [e_]; simp only [ix, ↓reduceIte]; done) | simp [e_, *])) (ws_cons (rfl) (rfl))))))⟩)
set_option maxHeartbeats 4000000 in
set_option maxRecDepth 20000 in
theorem ct_X6_mean (l : Launch) (d : KD) (m0 a0 a1 a2 a4 a6 a8 a9 b1 b2 b3 b4 b5 b6 : Nat) (K L S Rf H : Nat → Int32) (tn ap rn : Nat) (im : Int32) (x : Int32) (hh : sq (S 0)) (hL : ∀ q, lk9 (L q)) : Ct l d yX6_mean cX6_mean 7 (some .long) { frames := 3, cells := 0, slots := 0, locals := 69 } [.ref m0, .int x] [(m0, cO 6 [.ref a0, .ref a1, .ref a2, .int (nI tn), .ref a4, .int (nI ap), .ref a6, .int (nI rn), .ref a8, .ref a9, .int im, .ref b1, .ref b2, .ref b3, .ref b4, .ref b5, .ref b6]), (a0, cI d 36 K), (a1, cI d 36 L), (a2, cI d 5 S), (a9, cI d 7 (rf7 Rf)), (b5, cI d 36 H)] 0 0 (fun r wo => ∃ (H' : Nat → Int32), r = some (.long ((sp_mean (oF (unt L (dsI K S (S 0)))) L x).1)) ∧ wo = [(m0, cO 6 [.ref a0, .ref a1, .ref a2, .int (nI tn), .ref a4, .int (nI ap), .ref a6, .int (nI rn), .ref a8, .ref a9, .int im, .ref b1, .ref b2, .ref b3, .ref b4, .ref b5, .ref b6]), (a0, cI d 36 K), (a1, cI d 36 L), (a2, cI d 5 S), (a9, cI d 7 (rf7 (bmp Rf (sp_mean (oF (unt L (dsI K S (S 0)))) L x).2))), (b5, cI d 36 H')]) := by
  refine ct_of (own := RX6) (ini := false) (by decide +kernel) rfl (fun h => by cases h) (Nat.le_of_ble_eq_true rfl) ?_
  intro g X
  show g 0 0 [(m0, cO 6 [.ref a0, .ref a1, .ref a2, .int (nI tn), .ref a4, .int (nI ap), .ref a6, .int (nI rn), .ref a8, .ref a9, .int im, .ref b1, .ref b2, .ref b3, .ref b4, .ref b5, .ref b6]), (a0, cI d 36 K), (a1, cI d 36 L), (a2, cI d 5 S), (a9, cI d 7 (rf7 Rf)), (b5, cI d 36 H)] [(0, .ref m0), (1, .int x)] 0 []
  refine g_iload_n X dX6_mean_0 rfl 1 rfl ?_
  refine g_iconst (v := 0) X dX6_mean_1 (by decide) ?_
  refine g_iconst (v := 1) X dX6_mean_2 (by decide) ?_
  refine g_dS (n := 3) (wr := [(m0, cO 6 [.ref a0, .ref a1, .ref a2, .int (nI tn), .ref a4, .int (nI ap), .ref a6, .int (nI rn), .ref a8, .ref a9, .int im, .ref b1, .ref b2, .ref b3, .ref b4, .ref b5, .ref b6]), (a0, cI d 36 K), (a1, cI d 36 L), (a2, cI d 5 S), (a9, cI d 7 (rf7 Rf)), (b5, cI d 36 H)]) (ws' := [(m0, cO 6 [.ref a0, .ref a1, .ref a2, .int (nI tn), .ref a4, .int (nI ap), .ref a6, .int (nI rn), .ref a8, .ref a9, .int im, .ref b1, .ref b2, .ref b3, .ref b4, .ref b5, .ref b6]), (a0, cI d 36 K), (a1, cI d 36 L), (a2, cI d 5 S), (a9, cI d 7 (rf7 Rf)), (b5, cI d 36 H)]) (st' := [.int (b2i (x = 0 ∨ x = 1))]) (As := [.int x, .int 0, .int 1]) (st := []) X (ct_X6_within_2 l d x) wd_887 wd_885 wd_886 wd_58 hd_X6_within ⟨(Nat.le_of_ble_eq_true rfl), (Nat.le_of_ble_eq_true rfl)⟩ rfl rfl dX6_mean_3 ⟨(Nat.le_of_ble_eq_true rfl), (Nat.le_of_ble_eq_true rfl)⟩ rfl rfl (Nat.le_of_ble_eq_true rfl) [] [0, 1, 2, 3, 4, 5] rfl rfl rfl rfl rfl (by decide) [0, 1, 2, 3, 4, 5] rfl rfl rfl rfl ?_
  refine g_ifB_ne X 21 dX6_mean_6 (by decide) (fun c6_1 => ?_) (fun c6_1 => ?_)
  · have ho := c6_1
    refine g_aload_n X dX6_mean_21 rfl 0 rfl ?_
    refine g_dV (ci := 6) (q0 := 0) (n := 0) (wr := [(a1, cI d 36 L), (a9, cI d 7 (rf7 Rf))]) (ws' := [(m0, cO 6 [.ref a0, .ref a1, .ref a2, .int (nI tn), .ref a4, .int (nI ap), .ref a6, .int (nI rn), .ref a8, .ref a9, .int im, .ref b1, .ref b2, .ref b3, .ref b4, .ref b5, .ref b6]), (a0, cI d 36 K), (a1, cI d 36 L), (a2, cI d 5 S), (a9, cI d 7 (rf7 Rf)), (b5, cI d 36 (dF (dsI K S (S 0))))]) (st' := []) (As := []) (st := []) X (ct_X6_fromHome l d m0 a0 a1 a2 a4 a6 a8 a9 b1 b2 b3 b4 b5 b6 K S H tn ap rn im (by first | assumption | omega)) wd_900 wd_897 wd_899 wd_33 wd_58 hd_X6_fromHome rfl ⟨(Nat.le_of_ble_eq_true rfl), (Nat.le_of_ble_eq_true rfl)⟩ rfl rfl dX6_mean_22 ⟨(Nat.le_of_ble_eq_true rfl), (Nat.le_of_ble_eq_true rfl)⟩ rfl rfl (Nat.le_of_ble_eq_true rfl) [0, 1, 3, 5] [2, 4] rfl rfl rfl rfl rfl (by decide) rfl [2, 3, 0, 4, 1, 5] rfl rfl rfl rfl ?_
    refine g_iconst (v := 0) X dX6_mean_25 (by decide) ?_
    refine g_istore_n (lv' := [(2, .int 0), (0, .ref m0), (1, .int x)]) X dX6_mean_26 rfl (by decide) rfl ?_
    refine g_iconst (v := 0) X dX6_mean_27 (by decide) ?_
    refine g_istore_n (lv' := [(3, .int 0), (2, .int 0), (0, .ref m0), (1, .int x)]) X dX6_mean_28 rfl (by decide) rfl ?_
    refine g_iconst (v := 0) X dX6_mean_29 (by decide) ?_
    refine g_istore (lv' := [(4, .int 0), (3, .int 0), (2, .int 0), (0, .ref m0), (1, .int x)]) X dX6_mean_30 (by decide) rfl ?_
    have at_32 : ∀ (n_ : Nat) (q : Nat) (hq : q ≤ 36), (36 - q) < n_ → g 0 0 [(m0, cO 6 [.ref a0, .ref a1, .ref a2, .int (nI tn), .ref a4, .int (nI ap), .ref a6, .int (nI rn), .ref a8, .ref a9, .int im, .ref b1, .ref b2, .ref b3, .ref b4, .ref b5, .ref b6]), (a0, cI d 36 K), (a1, cI d 36 L), (a2, cI d 5 S), (a9, cI d 7 (rf7 Rf)), (b5, cI d 36 (dF (dsI K S (S 0))))] [(0, .ref m0), (1, .int x), (2, .int (nI (smG (mnF L (dsI K S (S 0))) q))), (3, .int (nI (smG (mwF L (dsI K S (S 0))) q))), (4, .int (nI q))] 32 [] := by
      intro n_
      induction n_ with
      | zero => intro q hq hn_; exact absurd hn_ (Nat.not_lt_zero _)
      | succ n_ ih_32 =>
        intro q hq hn_32
        refine g_iload X dX6_mean_32 4 rfl ?_
        refine g_bipush (v := 36) X dX6_mean_34 (by decide) ?_
        refine g_icmpN_ge (a := q) (b := 36) X rfl rfl (by omega) (by omega) 97 dX6_mean_36 (by decide) (fun c36_2 => ?_) (fun c36_2 => ?_)
        · obtain rfl : q = 36 := by omega
          have hmb := mn_b (D := (dsI K S (S 0))) hL (fun q => dsI_b) 36
          have hwb := mw_b (D := (dsI K S (S 0))) hL 36
          refine g_iload_n X dX6_mean_97 rfl 3 rfl ?_
          refine g_ifN_ne (a := (smG (mwF L (dsI K S (S 0))) 36)) X rfl (by omega) 104 dX6_mean_98 (by decide) (fun c98_3 => ?_) (fun c98_3 => ?_)
          · have hbn : ¬ smG (mwF L (dsI K S (S 0))) 36 = 0 := by omega
            refine g_iload_n X dX6_mean_104 rfl 2 rfl ?_
            refine g_istore (lv' := [(4, .int (nI (smG (mnF L (dsI K S (S 0))) 36))), (0, .ref m0), (1, .int x), (2, .int (nI (smG (mnF L (dsI K S (S 0))) 36))), (3, .int (nI (smG (mwF L (dsI K S (S 0))) 36)))]) X dX6_mean_105 (by decide) rfl ?_
            refine g_iload_n X dX6_mean_107 rfl 4 rfl ?_
            refine g_istore (lv' := [(5, .int (nI (smG (mwF L (dsI K S (S 0))) 36))), (4, .int (nI (smG (mnF L (dsI K S (S 0))) 36))), (0, .ref m0), (1, .int x), (2, .int (nI (smG (mnF L (dsI K S (S 0))) 36))), (3, .int (nI (smG (mwF L (dsI K S (S 0))) 36)))]) X dX6_mean_108 (by decide) rfl ?_
            have at_110 : ∀ (n_ : Nat) (v : Nat) (u : Nat) (hu : u < 2147483648) (hv : v < 2147483648) (hg : Nat.gcd u v = Nat.gcd (smG (mnF L (dsI K S (S 0))) 36) (smG (mwF L (dsI K S (S 0))) 36)), v < n_ → g 0 0 [(m0, cO 6 [.ref a0, .ref a1, .ref a2, .int (nI tn), .ref a4, .int (nI ap), .ref a6, .int (nI rn), .ref a8, .ref a9, .int im, .ref b1, .ref b2, .ref b3, .ref b4, .ref b5, .ref b6]), (a0, cI d 36 K), (a1, cI d 36 L), (a2, cI d 5 S), (a9, cI d 7 (rf7 Rf)), (b5, cI d 36 (dF (dsI K S (S 0))))] [(0, .ref m0), (1, .int x), (2, .int (nI (smG (mnF L (dsI K S (S 0))) 36))), (3, .int (nI (smG (mwF L (dsI K S (S 0))) 36))), (4, .int (nI u)), (5, .int (nI v))] 110 [] := by
              intro n_
              induction n_ with
              | zero => intro v u hu hv hg hn_; exact absurd hn_ (Nat.not_lt_zero _)
              | succ n_ ih_110 =>
                intro v u hu hv hg hn_110
                refine g_iload X dX6_mean_110 5 rfl ?_
                refine g_ifN_eq (a := v) X rfl (by omega) 133 dX6_mean_112 (by decide) (fun c112_4 => ?_) (fun c112_4 => ?_)
                · obtain rfl : v = 0 := by omega
                  have hub := mean_u hL hbn hg
                  refine g_iload_n X dX6_mean_133 rfl 1 rfl ?_
                  refine g_if_ne X 145 dX6_mean_134 (by decide) (fun c134_5 => ?_) (fun c134_5 => ?_)
                  · refine g_iload_n X dX6_mean_145 rfl 3 rfl ?_
                    refine g_iload X dX6_mean_146 4 rfl ?_
                    refine g_idiv X dX6_mean_148 (nI_ne0 (by omega) (by omega)) ?_
                    refine g_tope (y := nI ((smG (mwF L (dsI K S (S 0))) 36) / u)) (nI_div (by omega) (by omega) (by omega)) ?_
                    refine g_i2l X dX6_mean_149 ?_
                    have e_ : sp_mean (oF (unt L (dsI K S (S 0)))) L x = (Int32.toInt64 (nI ((smG (mwF L (dsI K S (S 0))) 36) / u)), 0) := (mean_3 hL (fun q => dsI_b) ho hbn hg).trans (by rw [if_neg c134_5])
                    exact g_end X (gE_l dX6_mean_150 (Nat.le_of_ble_eq_true rfl) (Nat.le_of_ble_eq_true rfl) ⟨(dF (dsI K S (S 0))), congrArg (fun z => some (Value.long z)) (by rw [e_]), ws_cons (rfl) (ws_cons (rfl) (ws_cons (rfl) (ws_cons (rfl) (ws_cons (cI_eq (by first | (rw [e_]; done) | (rw [e_]; rfl) | (rw [e_]; simp only [ix, ↓reduceIte]; done) | simp [e_, *])) (ws_cons (rfl) (rfl))))))⟩)
                  · refine g_iload_n X dX6_mean_137 rfl 2 rfl ?_
                    refine g_iload X dX6_mean_138 4 rfl ?_
                    refine g_idiv X dX6_mean_140 (nI_ne0 (by omega) (by omega)) ?_
                    refine g_tope (y := nI ((smG (mnF L (dsI K S (S 0))) 36) / u)) (nI_div (by omega) (by omega) (by omega)) ?_
                    refine g_i2l X dX6_mean_141 ?_
                    refine g_goto X 150 dX6_mean_142 (by decide) ?_
                    have e_ : sp_mean (oF (unt L (dsI K S (S 0)))) L x = (Int32.toInt64 (nI ((smG (mnF L (dsI K S (S 0))) 36) / u)), 0) := (mean_3 hL (fun q => dsI_b) ho hbn hg).trans (by rw [if_pos c134_5])
                    exact g_end X (gE_l dX6_mean_150 (Nat.le_of_ble_eq_true rfl) (Nat.le_of_ble_eq_true rfl) ⟨(dF (dsI K S (S 0))), congrArg (fun z => some (Value.long z)) (by rw [e_]), ws_cons (rfl) (ws_cons (rfl) (ws_cons (rfl) (ws_cons (rfl) (ws_cons (cI_eq (by first | (rw [e_]; done) | (rw [e_]; rfl) | (rw [e_]; simp only [ix, ↓reduceIte]; done) | simp [e_, *])) (ws_cons (rfl) (rfl))))))⟩)
                · have hv0 : 0 < v := by omega
                  refine g_iload X dX6_mean_115 4 rfl ?_
                  refine g_iload X dX6_mean_117 5 rfl ?_
                  refine g_irem X dX6_mean_119 (nI_ne0 hv0 hv) ?_
                  refine g_tope (y := nI (u % v)) (nI_rem hu hv0 hv) ?_
                  refine g_istore (lv' := [(6, .int (nI (u % v))), (0, .ref m0), (1, .int x), (2, .int (nI (smG (mnF L (dsI K S (S 0))) 36))), (3, .int (nI (smG (mwF L (dsI K S (S 0))) 36))), (4, .int (nI u)), (5, .int (nI v))]) X dX6_mean_120 (by decide) rfl ?_
                  refine g_iload X dX6_mean_122 6 rfl ?_
                  refine g_istore (lv' := [(4, .int (nI v)), (6, .int (nI (u % v))), (0, .ref m0), (1, .int x), (2, .int (nI (smG (mnF L (dsI K S (S 0))) 36))), (3, .int (nI (smG (mwF L (dsI K S (S 0))) 36))), (5, .int (nI v))]) X dX6_mean_124 (by decide) rfl ?_
                  refine g_iload X dX6_mean_126 1 rfl ?_
                  refine g_istore (lv' := [(5, .int (nI (u % v))), (4, .int (nI v)), (6, .int (nI (u % v))), (0, .ref m0), (1, .int x), (2, .int (nI (smG (mnF L (dsI K S (S 0))) 36))), (3, .int (nI (smG (mwF L (dsI K S (S 0))) 36)))]) X dX6_mean_128 (by decide) rfl ?_
                  refine g_goto X 110 dX6_mean_130 (by decide) ?_
                  refine g_lv (lv' := [(0, .ref m0), (1, .int x), (2, .int (nI (smG (mnF L (dsI K S (S 0))) 36))), (3, .int (nI (smG (mwF L (dsI K S (S 0))) 36))), (4, .int (nI v)), (5, .int (nI (u % v)))]) X [3, 4, 5, 6, 1, 0] rfl ?_
                  exact ih_110 (u % v) v (by first | assumption | omega) (Nat.lt_trans (Nat.mod_lt u (by omega)) hv) ((gcd_st u v).trans hg) (by have := Nat.mod_lt u (show 0 < v by omega); omega)
            refine g_lv (lv' := [(0, .ref m0), (1, .int x), (2, .int (nI (smG (mnF L (dsI K S (S 0))) 36))), (3, .int (nI (smG (mwF L (dsI K S (S 0))) 36))), (4, .int (nI (smG (mnF L (dsI K S (S 0))) 36))), (5, .int (nI (smG (mwF L (dsI K S (S 0))) 36)))]) X [2, 3, 4, 5, 1, 0] rfl ?_
            exact at_110 _ (smG (mwF L (dsI K S (S 0))) 36) (smG (mnF L (dsI K S (S 0))) 36) (by first | assumption | omega) (by first | assumption | omega) (rfl) (Nat.lt_succ_self _)
          · have hb0 : smG (mwF L (dsI K S (S 0))) 36 = 0 := by omega
            refine g_iload_n X dX6_mean_101 rfl 1 rfl ?_
            refine g_i2l X dX6_mean_102 ?_
            have e_ : sp_mean (oF (unt L (dsI K S (S 0)))) L x = (Int32.toInt64 x, 0) := mean_2 hL (fun q => dsI_b) ho hb0
            exact g_end X (gE_l dX6_mean_103 (Nat.le_of_ble_eq_true rfl) (Nat.le_of_ble_eq_true rfl) ⟨(dF (dsI K S (S 0))), congrArg (fun z => some (Value.long z)) (by rw [e_]), ws_cons (rfl) (ws_cons (rfl) (ws_cons (rfl) (ws_cons (rfl) (ws_cons (cI_eq (by first | (rw [e_]; done) | (rw [e_]; rfl) | (rw [e_]; simp only [ix, ↓reduceIte]; done) | simp [e_, *])) (ws_cons (rfl) (rfl))))))⟩)
        · refine g_aload_n X dX6_mean_39 rfl 0 rfl ?_
          refine g_get (C := RX6) (T := TX6) (N := 17) (ci := 6) (v := .ref a1) X rfl inT6 1 (by decide) wd_797 rfl dX6_mean_40 0 rfl rfl ?_
          refine g_iload X dX6_mean_43 4 rfl ?_
          refine g_iaload_N (k := q) X rfl dX6_mean_45 2 rfl (by first | assumption | omega) (by omega) ?_
          refine g_if_eq X 91 dX6_mean_46 (by decide) (fun c46_9 => ?_) (fun c46_9 => ?_)
          · refine g_iinc (v := nI (q + 1)) (lv' := [(4, .int (nI (q + 1))), (0, .ref m0), (1, .int x), (2, .int (nI (smG (mnF L (dsI K S (S 0))) q))), (3, .int (nI (smG (mwF L (dsI K S (S 0))) q)))]) X dX6_mean_91 4 rfl (nI_inc _) (by decide) rfl ?_
            refine g_goto X 32 dX6_mean_94 (by decide) ?_
            refine g_lv (lv' := [(0, .ref m0), (1, .int x), (2, .int (nI (smG (mnF L (dsI K S (S 0))) q))), (3, .int (nI (smG (mwF L (dsI K S (S 0))) q))), (4, .int (nI (q + 1)))]) X [1, 2, 3, 4, 0] rfl ?_
            exact g_eq (ws' := [(m0, cO 6 [.ref a0, .ref a1, .ref a2, .int (nI tn), .ref a4, .int (nI ap), .ref a6, .int (nI rn), .ref a8, .ref a9, .int im, .ref b1, .ref b2, .ref b3, .ref b4, .ref b5, .ref b6]), (a0, cI d 36 K), (a1, cI d 36 L), (a2, cI d 5 S), (a9, cI d 7 (rf7 Rf)), (b5, cI d 36 (dF (dsI K S (S 0))))]) (lv' := [(0, .ref m0), (1, .int x), (2, .int (nI (smG (mnF L (dsI K S (S 0))) (q + 1)))), (3, .int (nI (smG (mwF L (dsI K S (S 0))) (q + 1)))), (4, .int (nI (q + 1)))]) (rfl) (lv_cons (rfl) (lv_cons (rfl) (lv_cons (vI (congrArg nI (mn_n (fun z => z.1 c46_9)))) (lv_cons (vI (congrArg nI (mw_n (fun z => z.1 c46_9)))) (lv_cons (rfl) (rfl)))))) (ih_32 (q + 1) (by first | assumption | omega) (by omega))
          · refine g_aload_n X dX6_mean_49 rfl 0 rfl ?_
            refine g_get (C := RX6) (T := TX6) (N := 17) (ci := 6) (v := .ref b5) X rfl inT6 15 (by decide) wd_811 rfl dX6_mean_50 0 rfl rfl ?_
            refine g_iload X dX6_mean_53 4 rfl ?_
            refine g_iaload_N (k := q) X rfl dX6_mean_55 5 rfl (by first | assumption | omega) (by omega) ?_
            refine g_bipush (v := (-9)) X dX6_mean_56 (by decide) ?_
            refine g_icmp_ne X 64 dX6_mean_58 (by decide) (fun c58_10 => ?_) (fun c58_10 => ?_)
            · have hqd : (dsI K S (S 0)) q < 1000000 := Decidable.not_not.mp (fun z => c58_10 (dI_m9.mpr z))
              refine g_iload_n X dX6_mean_64 rfl 2 rfl ?_
              refine g_aload_n X dX6_mean_65 rfl 0 rfl ?_
              refine g_get (C := RX6) (T := TX6) (N := 17) (ci := 6) (v := .ref a1) X rfl inT6 1 (by decide) wd_797 rfl dX6_mean_66 0 rfl rfl ?_
              refine g_iload X dX6_mean_69 4 rfl ?_
              refine g_iaload_N (k := q) X rfl dX6_mean_71 2 rfl (by first | assumption | omega) (by omega) ?_
              refine g_tope (y := nI ((L q).toNatClampNeg)) ((lk9_n (hL q)).1) ?_
              refine g_aload_n X dX6_mean_72 rfl 0 rfl ?_
              refine g_iload X dX6_mean_73 4 rfl ?_
              refine g_dV (ci := 6) (q0 := 0) (n := 1) (wr := [(a0, cI d 36 K), (a2, cI d 5 S), (a9, cI d 7 (rf7 Rf))]) (ws' := [(m0, cO 6 [.ref a0, .ref a1, .ref a2, .int (nI tn), .ref a4, .int (nI ap), .ref a6, .int (nI rn), .ref a8, .ref a9, .int im, .ref b1, .ref b2, .ref b3, .ref b4, .ref b5, .ref b6]), (a0, cI d 36 K), (a1, cI d 36 L), (a2, cI d 5 S), (a9, cI d 7 (rf7 Rf)), (b5, cI d 36 (dF (dsI K S (S 0))))]) (st' := [.int (fdA L (dsI K S (S 0)) q), .int (nI ((L q).toNatClampNeg)), .int (nI (smG (mnF L (dsI K S (S 0))) q))]) (As := [.int (nI q)]) (st := [.int (nI ((L q).toNatClampNeg)), .int (nI (smG (mnF L (dsI K S (S 0))) q))]) X (ct_X6_foundAt l d m0 a0 a1 a2 a4 a6 a8 a9 b1 b2 b3 b4 b5 b6 L tn ap rn im q (dsI K S (S 0)) (by first | assumption | omega) (fun q => dsI_b)) wd_1004 wd_1001 wd_1003 wd_46 wd_58 hd_X6_foundAt rfl ⟨(Nat.le_of_ble_eq_true rfl), (Nat.le_of_ble_eq_true rfl)⟩ rfl rfl dX6_mean_75 ⟨(Nat.le_of_ble_eq_true rfl), (Nat.le_of_ble_eq_true rfl)⟩ rfl rfl (Nat.le_of_ble_eq_true rfl) [0, 2, 5] [1, 3, 4] rfl rfl rfl rfl rfl (by decide) rfl [3, 0, 4, 1, 2, 5] rfl rfl rfl rfl ?_
              refine g_tope (y := nI (fdN L (dsI K S (S 0)) q)) (fdA_y hqd) ?_
              refine g_imul X dX6_mean_78 ?_
              refine g_tope (y := nI (((L q).toNatClampNeg) * (fdN L (dsI K S (S 0)) q))) (nI_mulN _ _) ?_
              refine g_iadd X dX6_mean_79 ?_
              refine g_tope (y := nI ((smG (mnF L (dsI K S (S 0))) q) + (((L q).toNatClampNeg) * (fdN L (dsI K S (S 0)) q)))) (nI_add _ _) ?_
              refine g_istore_n (lv' := [(2, .int (nI ((smG (mnF L (dsI K S (S 0))) q) + (((L q).toNatClampNeg) * (fdN L (dsI K S (S 0)) q))))), (0, .ref m0), (1, .int x), (3, .int (nI (smG (mwF L (dsI K S (S 0))) q))), (4, .int (nI q))]) X dX6_mean_80 rfl (by decide) rfl ?_
              refine g_iload_n X dX6_mean_81 rfl 3 rfl ?_
              refine g_aload_n X dX6_mean_82 rfl 1 rfl ?_
              refine g_get (C := RX6) (T := TX6) (N := 17) (ci := 6) (v := .ref a1) X rfl inT6 1 (by decide) wd_797 rfl dX6_mean_83 0 rfl rfl ?_
              refine g_iload X dX6_mean_86 4 rfl ?_
              refine g_iaload_N (k := q) X rfl dX6_mean_88 2 rfl (by first | assumption | omega) (by omega) ?_
              refine g_tope (y := nI ((L q).toNatClampNeg)) ((lk9_n (hL q)).1) ?_
              refine g_iadd X dX6_mean_89 ?_
              refine g_tope (y := nI ((smG (mwF L (dsI K S (S 0))) q) + ((L q).toNatClampNeg))) (nI_add _ _) ?_
              refine g_istore_n (lv' := [(3, .int (nI ((smG (mwF L (dsI K S (S 0))) q) + ((L q).toNatClampNeg)))), (2, .int (nI ((smG (mnF L (dsI K S (S 0))) q) + (((L q).toNatClampNeg) * (fdN L (dsI K S (S 0)) q))))), (0, .ref m0), (1, .int x), (4, .int (nI q))]) X dX6_mean_90 rfl (by decide) rfl ?_
              refine g_iinc (v := nI (q + 1)) (lv' := [(4, .int (nI (q + 1))), (3, .int (nI ((smG (mwF L (dsI K S (S 0))) q) + ((L q).toNatClampNeg)))), (2, .int (nI ((smG (mnF L (dsI K S (S 0))) q) + (((L q).toNatClampNeg) * (fdN L (dsI K S (S 0)) q))))), (0, .ref m0), (1, .int x)]) X dX6_mean_91 4 rfl (nI_inc _) (by decide) rfl ?_
              refine g_goto X 32 dX6_mean_94 (by decide) ?_
              refine g_lv (lv' := [(0, .ref m0), (1, .int x), (2, .int (nI ((smG (mnF L (dsI K S (S 0))) q) + (((L q).toNatClampNeg) * (fdN L (dsI K S (S 0)) q))))), (3, .int (nI ((smG (mwF L (dsI K S (S 0))) q) + ((L q).toNatClampNeg)))), (4, .int (nI (q + 1)))]) X [3, 4, 2, 1, 0] rfl ?_
              exact g_eq (ws' := [(m0, cO 6 [.ref a0, .ref a1, .ref a2, .int (nI tn), .ref a4, .int (nI ap), .ref a6, .int (nI rn), .ref a8, .ref a9, .int im, .ref b1, .ref b2, .ref b3, .ref b4, .ref b5, .ref b6]), (a0, cI d 36 K), (a1, cI d 36 L), (a2, cI d 5 S), (a9, cI d 7 (rf7 Rf)), (b5, cI d 36 (dF (dsI K S (S 0))))]) (lv' := [(0, .ref m0), (1, .int x), (2, .int (nI (smG (mnF L (dsI K S (S 0))) (q + 1)))), (3, .int (nI (smG (mwF L (dsI K S (S 0))) (q + 1)))), (4, .int (nI (q + 1)))]) (rfl) (lv_cons (rfl) (lv_cons (rfl) (lv_cons (vI (congrArg nI (mn_y ⟨c46_9, hqd⟩))) (lv_cons (vI (congrArg nI (mw_y ⟨c46_9, hqd⟩))) (lv_cons (rfl) (rfl)))))) (ih_32 (q + 1) (by first | assumption | omega) (by omega))
            · have hq9 : dI ((dsI K S (S 0)) q) = -9 := by first | exact c58_10 | exact Decidable.not_not.mp c58_10
              refine g_goto X 91 dX6_mean_61 (by decide) ?_
              refine g_iinc (v := nI (q + 1)) (lv' := [(4, .int (nI (q + 1))), (0, .ref m0), (1, .int x), (2, .int (nI (smG (mnF L (dsI K S (S 0))) q))), (3, .int (nI (smG (mwF L (dsI K S (S 0))) q)))]) X dX6_mean_91 4 rfl (nI_inc _) (by decide) rfl ?_
              refine g_goto X 32 dX6_mean_94 (by decide) ?_
              refine g_lv (lv' := [(0, .ref m0), (1, .int x), (2, .int (nI (smG (mnF L (dsI K S (S 0))) q))), (3, .int (nI (smG (mwF L (dsI K S (S 0))) q))), (4, .int (nI (q + 1)))]) X [1, 2, 3, 4, 0] rfl ?_
              exact g_eq (ws' := [(m0, cO 6 [.ref a0, .ref a1, .ref a2, .int (nI tn), .ref a4, .int (nI ap), .ref a6, .int (nI rn), .ref a8, .ref a9, .int im, .ref b1, .ref b2, .ref b3, .ref b4, .ref b5, .ref b6]), (a0, cI d 36 K), (a1, cI d 36 L), (a2, cI d 5 S), (a9, cI d 7 (rf7 Rf)), (b5, cI d 36 (dF (dsI K S (S 0))))]) (lv' := [(0, .ref m0), (1, .int x), (2, .int (nI (smG (mnF L (dsI K S (S 0))) (q + 1)))), (3, .int (nI (smG (mwF L (dsI K S (S 0))) (q + 1)))), (4, .int (nI (q + 1)))]) (rfl) (lv_cons (rfl) (lv_cons (rfl) (lv_cons (vI (congrArg nI (mn_n (fun z => (dI_m9.mp hq9) z.2)))) (lv_cons (vI (congrArg nI (mw_n (fun z => (dI_m9.mp hq9) z.2)))) (lv_cons (rfl) (rfl)))))) (ih_32 (q + 1) (by first | assumption | omega) (by omega))
    refine g_lv (lv' := [(0, .ref m0), (1, .int x), (2, .int 0), (3, .int 0), (4, .int 0)]) X [3, 4, 2, 1, 0] rfl ?_
    exact g_eq (ws' := [(m0, cO 6 [.ref a0, .ref a1, .ref a2, .int (nI tn), .ref a4, .int (nI ap), .ref a6, .int (nI rn), .ref a8, .ref a9, .int im, .ref b1, .ref b2, .ref b3, .ref b4, .ref b5, .ref b6]), (a0, cI d 36 K), (a1, cI d 36 L), (a2, cI d 5 S), (a9, cI d 7 (rf7 Rf)), (b5, cI d 36 (dF (dsI K S (S 0))))]) (lv' := [(0, .ref m0), (1, .int x), (2, .int (nI (smG (mnF L (dsI K S (S 0))) 0))), (3, .int (nI (smG (mwF L (dsI K S (S 0))) 0))), (4, .int (nI 0))]) (rfl) (lv_cons (rfl) (lv_cons (rfl) (lv_cons (vI (by rfl)) (lv_cons (vI (by rfl)) (lv_cons (vI (by rfl)) (rfl)))))) (at_32 _ 0 (by first | assumption | omega) (Nat.lt_succ_self _))
  · refine g_ldc2 (v := 4000000000000000000) X wd_1009 dX6_mean_9 ?_
    refine g_aload_n X dX6_mean_12 rfl 0 rfl ?_
    refine g_bipush (v := (-2)) X dX6_mean_13 (by decide) ?_
    refine g_dV (ci := 6) (q0 := 0) (n := 1) (wr := [(a0, cI d 36 K), (a1, cI d 36 L), (a2, cI d 5 S), (b5, cI d 36 H)]) (ws' := [(m0, cO 6 [.ref a0, .ref a1, .ref a2, .int (nI tn), .ref a4, .int (nI ap), .ref a6, .int (nI rn), .ref a8, .ref a9, .int im, .ref b1, .ref b2, .ref b3, .ref b4, .ref b5, .ref b6]), (a0, cI d 36 K), (a1, cI d 36 L), (a2, cI d 5 S), (a9, cI d 7 (rf7 (bmp Rf 2))), (b5, cI d 36 H)]) (st' := [.int (-2), .long 4000000000000000000]) (As := [.int (-2)]) (st := [.long 4000000000000000000]) X (ct_X6_no_2 l d m0 a0 a1 a2 a4 a6 a8 a9 b1 b2 b3 b4 b5 b6 Rf tn ap rn im) wd_855 wd_852 wd_854 wd_25 wd_58 hd_X6_no rfl ⟨(Nat.le_of_ble_eq_true rfl), (Nat.le_of_ble_eq_true rfl)⟩ rfl rfl dX6_mean_15 ⟨(Nat.le_of_ble_eq_true rfl), (Nat.le_of_ble_eq_true rfl)⟩ rfl rfl (Nat.le_of_ble_eq_true rfl) [0, 4] [1, 2, 3, 5] rfl rfl rfl rfl rfl (by decide) rfl [4, 0, 1, 2, 5, 3] rfl rfl rfl rfl ?_
    refine g_i2l X dX6_mean_18 ?_
    refine g_lsub X dX6_mean_19 ?_
    have e_ : sp_mean (oF (unt L (dsI K S (S 0)))) L x = (4000000000000000000 - (Int32.toInt64 (-2)), 2) := mean_1 (by assumption)
    exact g_end X (gE_l dX6_mean_20 (Nat.le_of_ble_eq_true rfl) (Nat.le_of_ble_eq_true rfl) ⟨H, congrArg (fun z => some (Value.long z)) (by rw [e_]), ws_cons (rfl) (ws_cons (rfl) (ws_cons (rfl) (ws_cons (rfl) (ws_cons (cI_eq (by first | (rw [e_]; done) | (rw [e_]; rfl) | (rw [e_]; simp only [ix, ↓reduceIte]; done) | simp [e_, *])) (ws_cons (rfl) (rfl))))))⟩)
