theorem hd_X6_alikeTo : yX6_alikeTo.cls = "HeWreckedHimselfModel" ∧ yX6_alikeTo.cls ≠ "java/lang/invoke/MethodHandle" ∧ yX6_alikeTo.cls ≠ "java/lang/invoke/VarHandle" ∧ (parseMethodDescriptor yX6_alikeTo.desc).map (fun d => d.parameters.length) = some 1 := by decide +kernel
theorem hd_X6_isAlone : yX6_isAlone.cls = "HeWreckedHimselfModel" ∧ yX6_isAlone.cls ≠ "java/lang/invoke/MethodHandle" ∧ yX6_isAlone.cls ≠ "java/lang/invoke/VarHandle" ∧ (parseMethodDescriptor yX6_isAlone.desc).map (fun d => d.parameters.length) = some 2 := by decide +kernel
set_option maxHeartbeats 4000000 in
set_option maxRecDepth 20000 in
theorem ct_X6_look (l : Launch) (d : KD) (m0 a0 a1 a2 a4 a6 a8 a9 b1 b2 b3 b4 b5 b6 : Nat) (K L S H : Nat → Int32) (tn ap rn : Nat) (im : Int32) (hh : sq (S 0)) (hL : ∀ q, lk9 (L q)) : Ct l d yX6_look cX6_look 3 (some .int) { frames := 3, cells := 0, slots := 0, locals := 69 } [.ref m0] [(m0, cO 6 [.ref a0, .ref a1, .ref a2, .int (nI tn), .ref a4, .int (nI ap), .ref a6, .int (nI rn), .ref a8, .ref a9, .int im, .ref b1, .ref b2, .ref b3, .ref b4, .ref b5, .ref b6]), (a0, cI d 36 K), (a1, cI d 36 L), (a2, cI d 5 S), (b5, cI d 36 H)] 0 0 (fun r wo => r = some (.int (sp_look L (dsI K S (S 0)))) ∧ wo = [(m0, cO 6 [.ref a0, .ref a1, .ref a2, .int (nI tn), .ref a4, .int (nI ap), .ref a6, .int (nI rn), .ref a8, .ref a9, .int im, .ref b1, .ref b2, .ref b3, .ref b4, .ref b5, .ref b6]), (a0, cI d 36 K), (a1, cI d 36 L), (a2, cI d 5 S), (b5, cI d 36 (dF (dsI K S (S 0))))]) := by
  refine ct_of (own := RX6) (ini := false) (by decide +kernel) rfl (fun h => by cases h) (Nat.le_of_ble_eq_true rfl) ?_
  intro g X
  show g 0 0 [(m0, cO 6 [.ref a0, .ref a1, .ref a2, .int (nI tn), .ref a4, .int (nI ap), .ref a6, .int (nI rn), .ref a8, .ref a9, .int im, .ref b1, .ref b2, .ref b3, .ref b4, .ref b5, .ref b6]), (a0, cI d 36 K), (a1, cI d 36 L), (a2, cI d 5 S), (b5, cI d 36 H)] [(0, .ref m0)] 0 []
  refine g_aload_n X dX6_look_0 rfl 0 rfl ?_
  refine g_dV (ci := 6) (q0 := 0) (n := 0) (wr := [(a1, cI d 36 L)]) (ws' := [(m0, cO 6 [.ref a0, .ref a1, .ref a2, .int (nI tn), .ref a4, .int (nI ap), .ref a6, .int (nI rn), .ref a8, .ref a9, .int im, .ref b1, .ref b2, .ref b3, .ref b4, .ref b5, .ref b6]), (a0, cI d 36 K), (a1, cI d 36 L), (a2, cI d 5 S), (b5, cI d 36 (dF (dsI K S (S 0))))]) (st' := []) (As := []) (st := []) X (ct_X6_fromHome l d m0 a0 a1 a2 a4 a6 a8 a9 b1 b2 b3 b4 b5 b6 K S H tn ap rn im (by first | assumption | omega)) wd_900 wd_897 wd_899 wd_33 wd_58 hd_X6_fromHome rfl ⟨(Nat.le_of_ble_eq_true rfl), (Nat.le_of_ble_eq_true rfl)⟩ rfl rfl dX6_look_1 ⟨(Nat.le_of_ble_eq_true rfl), (Nat.le_of_ble_eq_true rfl)⟩ rfl rfl (Nat.le_of_ble_eq_true rfl) [0, 1, 3, 4] [2] rfl rfl rfl rfl rfl (by decide) rfl [1, 2, 0, 3, 4] rfl rfl rfl rfl ?_
  refine g_bipush (v := (-9)) X dX6_look_4 (by decide) ?_
  refine g_istore_n (lv' := [(1, .int (-9)), (0, .ref m0)]) X dX6_look_6 rfl (by decide) rfl ?_
  refine g_iconst (v := 0) X dX6_look_7 (by decide) ?_
  refine g_istore_n (lv' := [(2, .int 0), (1, .int (-9)), (0, .ref m0)]) X dX6_look_8 rfl (by decide) rfl ?_
  have at_9 : ∀ (n_ : Nat) (i : Nat) (hi : i ≤ 36), (36 - i) < n_ → g 0 0 [(m0, cO 6 [.ref a0, .ref a1, .ref a2, .int (nI tn), .ref a4, .int (nI ap), .ref a6, .int (nI rn), .ref a8, .ref a9, .int im, .ref b1, .ref b2, .ref b3, .ref b4, .ref b5, .ref b6]), (a0, cI d 36 K), (a1, cI d 36 L), (a2, cI d 5 S), (b5, cI d 36 (dF (dsI K S (S 0))))] [(0, .ref m0), (1, .int (besM (lkF L (dsI K S (S 0)) i).1)), (2, .int (nI i))] 9 [] := by
    intro n_
    induction n_ with
    | zero => intro i hi hn_; exact absurd hn_ (Nat.not_lt_zero _)
    | succ n_ ih_9 =>
      intro i hi hn_9
      have hlk := lkF_in (L := L) (D := (dsI K S (S 0))) i hi
      refine g_iload_n X dX6_look_9 rfl 2 rfl ?_
      refine g_bipush (v := 36) X dX6_look_10 (by decide) ?_
      refine g_icmpN_ge (a := i) (b := 36) X rfl rfl (by omega) (by omega) 85 dX6_look_12 (by decide) (fun c12_1 => ?_) (fun c12_1 => ?_)
      · obtain rfl : i = 36 := by omega
        refine g_iload_n X dX6_look_85 rfl 1 rfl ?_
        exact g_end X (gE_i dX6_look_86 (rfl) (Nat.le_of_ble_eq_true rfl) (Nat.le_of_ble_eq_true rfl) ⟨congrArg (fun z => some (Value.int z)) (by rfl), rfl⟩)
      · refine g_aload_n X dX6_look_15 rfl 0 rfl ?_
        refine g_get (C := RX6) (T := TX6) (N := 17) (ci := 6) (v := .ref a1) X rfl inT6 1 (by decide) wd_797 rfl dX6_look_16 0 rfl rfl ?_
        refine g_iload_n X dX6_look_19 rfl 2 rfl ?_
        refine g_iaload_N (k := i) X rfl dX6_look_20 2 rfl (by first | assumption | omega) (by omega) ?_
        refine g_if_eq X 79 dX6_look_21 (by decide) (fun c21_2 => ?_) (fun c21_2 => ?_)
        · refine g_iinc (v := nI (i + 1)) (lv' := [(2, .int (nI (i + 1))), (0, .ref m0), (1, .int (besM (lkF L (dsI K S (S 0)) i).1))]) X dX6_look_79 2 rfl (nI_inc _) (by decide) rfl ?_
          refine g_goto X 9 dX6_look_82 (by decide) ?_
          refine g_lv (lv' := [(0, .ref m0), (1, .int (besM (lkF L (dsI K S (S 0)) i).1)), (2, .int (nI (i + 1)))]) X [1, 2, 0] rfl ?_
          exact g_eq (ws' := [(m0, cO 6 [.ref a0, .ref a1, .ref a2, .int (nI tn), .ref a4, .int (nI ap), .ref a6, .int (nI rn), .ref a8, .ref a9, .int im, .ref b1, .ref b2, .ref b3, .ref b4, .ref b5, .ref b6]), (a0, cI d 36 K), (a1, cI d 36 L), (a2, cI d 5 S), (b5, cI d 36 (dF (dsI K S (S 0))))]) (lv' := [(0, .ref m0), (1, .int (besM (lkF L (dsI K S (S 0)) (i + 1)).1)), (2, .int (nI (i + 1)))]) (rfl) (lv_cons (rfl) (lv_cons (vI (congrArg besM (lk_s rfl (Or.inl c21_2)).symm)) (lv_cons (rfl) (rfl)))) (ih_9 (i + 1) (by first | assumption | omega) (by omega))
        · refine g_aload_n X dX6_look_24 rfl 0 rfl ?_
          refine g_get (C := RX6) (T := TX6) (N := 17) (ci := 6) (v := .ref b5) X rfl inT6 15 (by decide) wd_811 rfl dX6_look_25 0 rfl rfl ?_
          refine g_iload_n X dX6_look_28 rfl 2 rfl ?_
          refine g_iaload_N (k := i) X rfl dX6_look_29 4 rfl (by first | assumption | omega) (by omega) ?_
          refine g_bipush (v := (-9)) X dX6_look_30 (by decide) ?_
          refine g_icmp_ne X 38 dX6_look_32 (by decide) (fun c32_3 => ?_) (fun c32_3 => ?_)
          · have hid : (dsI K S (S 0)) i < 1000000 := Decidable.not_not.mp (fun z => c32_3 (dI_m9.mpr z))
            refine g_iload_n X dX6_look_38 rfl 1 rfl ?_
            refine g_bipush (v := (-9)) X dX6_look_39 (by decide) ?_
            refine g_icmp_eq X 77 dX6_look_41 (by decide) (fun c41_4 => ?_) (fun c41_4 => ?_)
            · refine g_iload_n X dX6_look_77 rfl 2 rfl ?_
              refine g_istore_n (lv' := [(1, .int (nI i)), (0, .ref m0), (2, .int (nI i))]) X dX6_look_78 rfl (by decide) rfl ?_
              refine g_iinc (v := nI (i + 1)) (lv' := [(2, .int (nI (i + 1))), (1, .int (nI i)), (0, .ref m0)]) X dX6_look_79 2 rfl (nI_inc _) (by decide) rfl ?_
              refine g_goto X 9 dX6_look_82 (by decide) ?_
              refine g_lv (lv' := [(0, .ref m0), (1, .int (nI i)), (2, .int (nI (i + 1)))]) X [2, 1, 0] rfl ?_
              exact g_eq (ws' := [(m0, cO 6 [.ref a0, .ref a1, .ref a2, .int (nI tn), .ref a4, .int (nI ap), .ref a6, .int (nI rn), .ref a8, .ref a9, .int im, .ref b1, .ref b2, .ref b3, .ref b4, .ref b5, .ref b6]), (a0, cI d 36 K), (a1, cI d 36 L), (a2, cI d 5 S), (b5, cI d 36 (dF (dsI K S (S 0))))]) (lv' := [(0, .ref m0), (1, .int (besM (lkF L (dsI K S (S 0)) (i + 1)).1)), (2, .int (nI (i + 1)))]) (rfl) (lv_cons (rfl) (lv_cons (vI ((besM_t (by omega)).symm.trans (congrArg besM (lk_new hL c21_2 hid (hlk.elim id (fun z => absurd (besM_m9.mp c41_4) (by omega)))).symm))) (lv_cons (rfl) (rfl)))) (ih_9 (i + 1) (by first | assumption | omega) (by omega))
            · have hl2 := hlk.elim (fun z => absurd (by rw [z.1]; rfl) c41_4) id
              refine g_eq (lv' := [(0, .ref m0), (1, .int (nI ((lkF L (dsI K S (S 0)) i).1))), (2, .int (nI i))]) rfl (lv_cons (rfl) (lv_cons (vI (besM_t (by omega))) (lv_cons (rfl) (rfl)))) ?_
              refine g_aload_n X dX6_look_44 rfl 0 rfl ?_
              refine g_get (C := RX6) (T := TX6) (N := 17) (ci := 6) (v := .ref a1) X rfl inT6 1 (by decide) wd_797 rfl dX6_look_45 0 rfl rfl ?_
              refine g_iload_n X dX6_look_48 rfl 2 rfl ?_
              refine g_iaload_N (k := i) X rfl dX6_look_49 2 rfl (by first | assumption | omega) (by omega) ?_
              refine g_aload_n X dX6_look_50 rfl 0 rfl ?_
              refine g_get (C := RX6) (T := TX6) (N := 17) (ci := 6) (v := .ref b5) X rfl inT6 15 (by decide) wd_811 rfl dX6_look_51 0 rfl rfl ?_
              refine g_iload_n X dX6_look_54 rfl 1 rfl ?_
              refine g_iaload_N (k := ((lkF L (dsI K S (S 0)) i).1)) X rfl dX6_look_55 4 rfl (by first | assumption | omega) (by omega) ?_
              refine g_iconst (v := 1) X dX6_look_56 (by decide) ?_
              refine g_iadd X dX6_look_57 ?_
              refine g_imul X dX6_look_58 ?_
              refine g_aload_n X dX6_look_59 rfl 0 rfl ?_
              refine g_get (C := RX6) (T := TX6) (N := 17) (ci := 6) (v := .ref a1) X rfl inT6 1 (by decide) wd_797 rfl dX6_look_60 0 rfl rfl ?_
              refine g_iload_n X dX6_look_63 rfl 1 rfl ?_
              refine g_iaload_N (k := ((lkF L (dsI K S (S 0)) i).1)) X rfl dX6_look_64 2 rfl (by first | assumption | omega) (by omega) ?_
              refine g_aload_n X dX6_look_65 rfl 0 rfl ?_
              refine g_get (C := RX6) (T := TX6) (N := 17) (ci := 6) (v := .ref b5) X rfl inT6 15 (by decide) wd_811 rfl dX6_look_66 0 rfl rfl ?_
              refine g_iload_n X dX6_look_69 rfl 2 rfl ?_
              refine g_iaload_N (k := i) X rfl dX6_look_70 4 rfl (by first | assumption | omega) (by omega) ?_
              refine g_tope (y := nI ((dsI K S (S 0)) i)) (dI_t hid) ?_
              refine g_iconst (v := 1) X dX6_look_71 (by decide) ?_
              refine g_iadd X dX6_look_72 ?_
              refine g_tope (y := nI (((dsI K S (S 0)) i) + 1)) (nI_add _ _) ?_
              refine g_imul X dX6_look_73 ?_
              refine g_icmp_le X 79 dX6_look_74 (by decide) (fun c74_5 => ?_) (fun c74_5 => ?_)
              · refine g_iinc (v := nI (i + 1)) (lv' := [(2, .int (nI (i + 1))), (0, .ref m0), (1, .int (nI ((lkF L (dsI K S (S 0)) i).1)))]) X dX6_look_79 2 rfl (nI_inc _) (by decide) rfl ?_
                refine g_goto X 9 dX6_look_82 (by decide) ?_
                refine g_lv (lv' := [(0, .ref m0), (1, .int (nI ((lkF L (dsI K S (S 0)) i).1))), (2, .int (nI (i + 1)))]) X [1, 2, 0] rfl ?_
                exact g_eq (ws' := [(m0, cO 6 [.ref a0, .ref a1, .ref a2, .int (nI tn), .ref a4, .int (nI ap), .ref a6, .int (nI rn), .ref a8, .ref a9, .int im, .ref b1, .ref b2, .ref b3, .ref b4, .ref b5, .ref b6]), (a0, cI d 36 K), (a1, cI d 36 L), (a2, cI d 5 S), (b5, cI d 36 (dF (dsI K S (S 0))))]) (lv' := [(0, .ref m0), (1, .int (besM (lkF L (dsI K S (S 0)) (i + 1)).1)), (2, .int (nI (i + 1)))]) (rfl) (lv_cons (rfl) (lv_cons (vI ((besM_t (by omega)).symm.trans (congrArg besM (lk_n hid rfl hl2.2.1 (Int32.not_lt.mpr c74_5)).symm))) (lv_cons (rfl) (rfl)))) (ih_9 (i + 1) (by first | assumption | omega) (by omega))
              · refine g_iload_n X dX6_look_77 rfl 2 rfl ?_
                refine g_istore_n (lv' := [(1, .int (nI i)), (0, .ref m0), (2, .int (nI i))]) X dX6_look_78 rfl (by decide) rfl ?_
                refine g_iinc (v := nI (i + 1)) (lv' := [(2, .int (nI (i + 1))), (1, .int (nI i)), (0, .ref m0)]) X dX6_look_79 2 rfl (nI_inc _) (by decide) rfl ?_
                refine g_goto X 9 dX6_look_82 (by decide) ?_
                refine g_lv (lv' := [(0, .ref m0), (1, .int (nI i)), (2, .int (nI (i + 1)))]) X [2, 1, 0] rfl ?_
                exact g_eq (ws' := [(m0, cO 6 [.ref a0, .ref a1, .ref a2, .int (nI tn), .ref a4, .int (nI ap), .ref a6, .int (nI rn), .ref a8, .ref a9, .int im, .ref b1, .ref b2, .ref b3, .ref b4, .ref b5, .ref b6]), (a0, cI d 36 K), (a1, cI d 36 L), (a2, cI d 5 S), (b5, cI d 36 (dF (dsI K S (S 0))))]) (lv' := [(0, .ref m0), (1, .int (besM (lkF L (dsI K S (S 0)) (i + 1)).1)), (2, .int (nI (i + 1)))]) (rfl) (lv_cons (rfl) (lv_cons (vI ((besM_t (by omega)).symm.trans (congrArg besM (lk_y c21_2 hid rfl hl2.2.1 (Int32.not_le.mp c74_5)).symm))) (lv_cons (rfl) (rfl)))) (ih_9 (i + 1) (by first | assumption | omega) (by omega))
          · have hi9 : dI ((dsI K S (S 0)) i) = -9 := c32_3
            refine g_goto X 79 dX6_look_35 (by decide) ?_
            refine g_iinc (v := nI (i + 1)) (lv' := [(2, .int (nI (i + 1))), (0, .ref m0), (1, .int (besM (lkF L (dsI K S (S 0)) i).1))]) X dX6_look_79 2 rfl (nI_inc _) (by decide) rfl ?_
            refine g_goto X 9 dX6_look_82 (by decide) ?_
            refine g_lv (lv' := [(0, .ref m0), (1, .int (besM (lkF L (dsI K S (S 0)) i).1)), (2, .int (nI (i + 1)))]) X [1, 2, 0] rfl ?_
            exact g_eq (ws' := [(m0, cO 6 [.ref a0, .ref a1, .ref a2, .int (nI tn), .ref a4, .int (nI ap), .ref a6, .int (nI rn), .ref a8, .ref a9, .int im, .ref b1, .ref b2, .ref b3, .ref b4, .ref b5, .ref b6]), (a0, cI d 36 K), (a1, cI d 36 L), (a2, cI d 5 S), (b5, cI d 36 (dF (dsI K S (S 0))))]) (lv' := [(0, .ref m0), (1, .int (besM (lkF L (dsI K S (S 0)) (i + 1)).1)), (2, .int (nI (i + 1)))]) (rfl) (lv_cons (rfl) (lv_cons (vI (congrArg besM (lk_s rfl (Or.inr (dI_m9.mp hi9))).symm)) (lv_cons (rfl) (rfl)))) (ih_9 (i + 1) (by first | assumption | omega) (by omega))
  refine g_lv (lv' := [(0, .ref m0), (1, .int (-9)), (2, .int 0)]) X [2, 1, 0] rfl ?_
  exact g_eq (ws' := [(m0, cO 6 [.ref a0, .ref a1, .ref a2, .int (nI tn), .ref a4, .int (nI ap), .ref a6, .int (nI rn), .ref a8, .ref a9, .int im, .ref b1, .ref b2, .ref b3, .ref b4, .ref b5, .ref b6]), (a0, cI d 36 K), (a1, cI d 36 L), (a2, cI d 5 S), (b5, cI d 36 (dF (dsI K S (S 0))))]) (lv' := [(0, .ref m0), (1, .int (besM (lkF L (dsI K S (S 0)) 0).1)), (2, .int (nI 0))]) (rfl) (lv_cons (rfl) (lv_cons (vI (by rfl)) (lv_cons (vI (by rfl)) (rfl)))) (at_9 _ 0 (by first | assumption | omega) (Nat.lt_succ_self _))
set_option maxHeartbeats 4000000 in
set_option maxRecDepth 20000 in
theorem ct_X6_tellsMost (l : Launch) (d : KD) (m0 a0 a1 a2 a4 a6 a8 a9 b1 b2 b3 b4 b5 b6 : Nat) (K L S H : Nat → Int32) (tn ap rn : Nat) (im : Int32) (hh : sq (S 0)) : Ct l d yX6_tellsMost cX6_tellsMost 3 (some .int) { frames := 5, cells := 0, slots := 0, locals := 117 } [.ref m0] [(m0, cO 6 [.ref a0, .ref a1, .ref a2, .int (nI tn), .ref a4, .int (nI ap), .ref a6, .int (nI rn), .ref a8, .ref a9, .int im, .ref b1, .ref b2, .ref b3, .ref b4, .ref b5, .ref b6]), (a0, cI d 36 K), (a1, cI d 36 L), (a2, cI d 5 S), (b5, cI d 36 H)] 0 0 (fun r wo => ∃ (H' : Nat → Int32), r = some (.int (sp_tellsMost (sg K (dsI K S (S 0))) L)) ∧ wo = [(m0, cO 6 [.ref a0, .ref a1, .ref a2, .int (nI tn), .ref a4, .int (nI ap), .ref a6, .int (nI rn), .ref a8, .ref a9, .int im, .ref b1, .ref b2, .ref b3, .ref b4, .ref b5, .ref b6]), (a0, cI d 36 K), (a1, cI d 36 L), (a2, cI d 5 S), (b5, cI d 36 H')]) := by
  refine ct_of (own := RX6) (ini := false) (by decide +kernel) rfl (fun h => by cases h) (Nat.le_of_ble_eq_true rfl) ?_
  intro g X
  show g 0 0 [(m0, cO 6 [.ref a0, .ref a1, .ref a2, .int (nI tn), .ref a4, .int (nI ap), .ref a6, .int (nI rn), .ref a8, .ref a9, .int im, .ref b1, .ref b2, .ref b3, .ref b4, .ref b5, .ref b6]), (a0, cI d 36 K), (a1, cI d 36 L), (a2, cI d 5 S), (b5, cI d 36 H)] [(0, .ref m0)] 0 []
  refine g_aload_n X dX6_tellsMost_0 rfl 0 rfl ?_
  refine g_dV (ci := 6) (q0 := 0) (n := 0) (wr := [(a0, cI d 36 K), (a2, cI d 5 S), (b5, cI d 36 H)]) (ws' := [(m0, cO 6 [.ref a0, .ref a1, .ref a2, .int (nI tn), .ref a4, .int (nI ap), .ref a6, .int (nI rn), .ref a8, .ref a9, .int im, .ref b1, .ref b2, .ref b3, .ref b4, .ref b5, .ref b6]), (a0, cI d 36 K), (a1, cI d 36 L), (a2, cI d 5 S), (b5, cI d 36 H)]) (st' := [.int (nI (cnt (fun q => 0 < L q) 36))]) (As := []) (st := []) X (ct_X6_left l d m0 a0 a1 a2 a4 a6 a8 a9 b1 b2 b3 b4 b5 b6 L tn ap rn im) wd_996 wd_993 wd_995 wd_45 wd_58 hd_X6_left rfl ⟨(Nat.le_of_ble_eq_true rfl), (Nat.le_of_ble_eq_true rfl)⟩ rfl rfl dX6_tellsMost_1 ⟨(Nat.le_of_ble_eq_true rfl), (Nat.le_of_ble_eq_true rfl)⟩ rfl rfl (Nat.le_of_ble_eq_true rfl) [0, 2] [1, 3, 4] rfl rfl rfl rfl rfl (by decide) rfl [3, 0, 4, 1, 2] rfl rfl rfl rfl ?_
  have hcn : cnt (fun q => 0 < L q) 36 ≤ 36 := cnt_le _ 36
  refine g_ifN_ne (a := (cnt (fun q => 0 < L q) 36)) X rfl (by omega) 10 dX6_tellsMost_4 (by decide) (fun c4_1 => ?_) (fun c4_1 => ?_)
  · have hl0 : ¬ cnt (fun q => 0 < L q) 36 = 0 := c4_1
    refine g_iconst (v := 0) X dX6_tellsMost_10 (by decide) ?_
    refine g_istore_n (lv' := [(1, .int 0), (0, .ref m0)]) X dX6_tellsMost_11 rfl (by decide) rfl ?_
    refine g_iconst (v := 1) X dX6_tellsMost_12 (by decide) ?_
    refine g_istore_n (lv' := [(2, .int 1), (1, .int 0), (0, .ref m0)]) X dX6_tellsMost_13 rfl (by decide) rfl ?_
    have at_14 : ∀ (n_ : Nat) (k : Nat) (H2 : Nat → Int32) (hk : k ≤ 5), (5 - k) < n_ → g 0 0 [(m0, cO 6 [.ref a0, .ref a1, .ref a2, .int (nI tn), .ref a4, .int (nI ap), .ref a6, .int (nI rn), .ref a8, .ref a9, .int im, .ref b1, .ref b2, .ref b3, .ref b4, .ref b5, .ref b6]), (a0, cI d 36 K), (a1, cI d 36 L), (a2, cI d 5 S), (b5, cI d 36 H2)] [(0, .ref m0), (1, .int (nI ((tmF (sg K (dsI K S (S 0))) L k).1))), (2, .int (nI (k + 1)))] 14 [] := by
      intro n_
      induction n_ with
      | zero => intro k H2 hk hn_; exact absurd hn_ (Nat.not_lt_zero _)
      | succ n_ ih_14 =>
        intro k H2 hk hn_14
        have htm := (tmF_in (T := (sg K (dsI K S (S 0)))) (L := L) k).1
        refine g_iload_n X dX6_tellsMost_14 rfl 2 rfl ?_
        refine g_bipush (v := 6) X dX6_tellsMost_15 (by decide) ?_
        refine g_icmpN_ge (a := (k + 1)) (b := 6) X rfl rfl (by omega) (by omega) 41 dX6_tellsMost_17 (by decide) (fun c17_2 => ?_) (fun c17_2 => ?_)
        · obtain rfl : k = 5 := by omega
          refine g_iload_n X dX6_tellsMost_41 rfl 1 rfl ?_
          exact g_end X (gE_i dX6_tellsMost_42 (rfl) (Nat.le_of_ble_eq_true rfl) (Nat.le_of_ble_eq_true rfl) ⟨H2, congrArg (fun z => some (Value.int z)) ((if_neg hl0).symm), rfl⟩)
        · refine g_aload_n X dX6_tellsMost_20 rfl 0 rfl ?_
          refine g_iload_n X dX6_tellsMost_21 rfl 2 rfl ?_
          refine g_dV (ci := 6) (q0 := 0) (n := 1) (wr := []) (ws' := [(m0, cO 6 [.ref a0, .ref a1, .ref a2, .int (nI tn), .ref a4, .int (nI ap), .ref a6, .int (nI rn), .ref a8, .ref a9, .int im, .ref b1, .ref b2, .ref b3, .ref b4, .ref b5, .ref b6]), (a0, cI d 36 K), (a1, cI d 36 L), (a2, cI d 5 S), (b5, cI d 36 (dF (dsI K S (S 0))))]) (st' := [.int (slF (sg K (dsI K S (S 0))) L (k + 1) 36)]) (As := [.int (nI (k + 1))]) (st := []) X (ct_X6_sumBy l d m0 a0 a1 a2 a4 a6 a8 a9 b1 b2 b3 b4 b5 b6 K L S H2 tn ap rn im (k + 1) (by first | assumption | omega) (by omega)) wd_1025 wd_1022 wd_1024 wd_47 wd_58 hd_X6_sumBy rfl ⟨(Nat.le_of_ble_eq_true rfl), (Nat.le_of_ble_eq_true rfl)⟩ rfl rfl dX6_tellsMost_22 ⟨(Nat.le_of_ble_eq_true rfl), (Nat.le_of_ble_eq_true rfl)⟩ rfl rfl (Nat.le_of_ble_eq_true rfl) [0, 1, 2, 3, 4] [] rfl rfl rfl rfl rfl (by decide) rfl [0, 1, 2, 3, 4] rfl rfl rfl rfl ?_
          refine g_aload_n X dX6_tellsMost_25 rfl 0 rfl ?_
          refine g_iload_n X dX6_tellsMost_26 rfl 1 rfl ?_
          refine g_dV (ci := 6) (q0 := 0) (n := 1) (wr := []) (ws' := [(m0, cO 6 [.ref a0, .ref a1, .ref a2, .int (nI tn), .ref a4, .int (nI ap), .ref a6, .int (nI rn), .ref a8, .ref a9, .int im, .ref b1, .ref b2, .ref b3, .ref b4, .ref b5, .ref b6]), (a0, cI d 36 K), (a1, cI d 36 L), (a2, cI d 5 S), (b5, cI d 36 (dF (dsI K S (S 0))))]) (st' := [.int (slF (sg K (dsI K S (S 0))) L ((tmF (sg K (dsI K S (S 0))) L k).1) 36), .int (slF (sg K (dsI K S (S 0))) L (k + 1) 36)]) (As := [.int (nI ((tmF (sg K (dsI K S (S 0))) L k).1))]) (st := [.int (slF (sg K (dsI K S (S 0))) L (k + 1) 36)]) X (ct_X6_sumBy l d m0 a0 a1 a2 a4 a6 a8 a9 b1 b2 b3 b4 b5 b6 K L S (dF (dsI K S (S 0))) tn ap rn im ((tmF (sg K (dsI K S (S 0))) L k).1) (by first | assumption | omega) (by omega)) wd_1025 wd_1022 wd_1024 wd_47 wd_58 hd_X6_sumBy rfl ⟨(Nat.le_of_ble_eq_true rfl), (Nat.le_of_ble_eq_true rfl)⟩ rfl rfl dX6_tellsMost_27 ⟨(Nat.le_of_ble_eq_true rfl), (Nat.le_of_ble_eq_true rfl)⟩ rfl rfl (Nat.le_of_ble_eq_true rfl) [0, 1, 2, 3, 4] [] rfl rfl rfl rfl rfl (by decide) rfl [0, 1, 2, 3, 4] rfl rfl rfl rfl ?_
          refine g_icmp_ge X 35 dX6_tellsMost_30 (by decide) (fun c30_3 => ?_) (fun c30_3 => ?_)
          · refine g_iinc (v := nI (k + 1 + 1)) (lv' := [(2, .int (nI (k + 1 + 1))), (0, .ref m0), (1, .int (nI ((tmF (sg K (dsI K S (S 0))) L k).1)))]) X dX6_tellsMost_35 2 rfl (nI_inc _) (by decide) rfl ?_
            refine g_goto X 14 dX6_tellsMost_38 (by decide) ?_
            refine g_lv (lv' := [(0, .ref m0), (1, .int (nI ((tmF (sg K (dsI K S (S 0))) L k).1))), (2, .int (nI (k + 1 + 1)))]) X [1, 2, 0] rfl ?_
            exact g_eq (ws' := [(m0, cO 6 [.ref a0, .ref a1, .ref a2, .int (nI tn), .ref a4, .int (nI ap), .ref a6, .int (nI rn), .ref a8, .ref a9, .int im, .ref b1, .ref b2, .ref b3, .ref b4, .ref b5, .ref b6]), (a0, cI d 36 K), (a1, cI d 36 L), (a2, cI d 5 S), (b5, cI d 36 (dF (dsI K S (S 0))))]) (lv' := [(0, .ref m0), (1, .int (nI ((tmF (sg K (dsI K S (S 0))) L (k + 1)).1))), (2, .int (nI ((k + 1) + 1)))]) (rfl) (lv_cons (rfl) (lv_cons (vI (congrArg nI (tmR_n (Int32.not_lt.mpr c30_3)))) (lv_cons (vI (by rfl)) (rfl)))) (ih_14 (k + 1) (dF (dsI K S (S 0))) (by first | assumption | omega) (by omega))
          · refine g_iload_n X dX6_tellsMost_33 rfl 2 rfl ?_
            refine g_istore_n (lv' := [(1, .int (nI (k + 1))), (0, .ref m0), (2, .int (nI (k + 1)))]) X dX6_tellsMost_34 rfl (by decide) rfl ?_
            refine g_iinc (v := nI (k + 1 + 1)) (lv' := [(2, .int (nI (k + 1 + 1))), (1, .int (nI (k + 1))), (0, .ref m0)]) X dX6_tellsMost_35 2 rfl (nI_inc _) (by decide) rfl ?_
            refine g_goto X 14 dX6_tellsMost_38 (by decide) ?_
            refine g_lv (lv' := [(0, .ref m0), (1, .int (nI (k + 1))), (2, .int (nI (k + 1 + 1)))]) X [2, 1, 0] rfl ?_
            exact g_eq (ws' := [(m0, cO 6 [.ref a0, .ref a1, .ref a2, .int (nI tn), .ref a4, .int (nI ap), .ref a6, .int (nI rn), .ref a8, .ref a9, .int im, .ref b1, .ref b2, .ref b3, .ref b4, .ref b5, .ref b6]), (a0, cI d 36 K), (a1, cI d 36 L), (a2, cI d 5 S), (b5, cI d 36 (dF (dsI K S (S 0))))]) (lv' := [(0, .ref m0), (1, .int (nI ((tmF (sg K (dsI K S (S 0))) L (k + 1)).1))), (2, .int (nI ((k + 1) + 1)))]) (rfl) (lv_cons (rfl) (lv_cons (vI (congrArg nI (tmR_y (Int32.not_le.mp c30_3)))) (lv_cons (vI (by rfl)) (rfl)))) (ih_14 (k + 1) (dF (dsI K S (S 0))) (by first | assumption | omega) (by omega))
    refine g_lv (lv' := [(0, .ref m0), (1, .int 0), (2, .int 1)]) X [2, 1, 0] rfl ?_
    exact g_eq (ws' := [(m0, cO 6 [.ref a0, .ref a1, .ref a2, .int (nI tn), .ref a4, .int (nI ap), .ref a6, .int (nI rn), .ref a8, .ref a9, .int im, .ref b1, .ref b2, .ref b3, .ref b4, .ref b5, .ref b6]), (a0, cI d 36 K), (a1, cI d 36 L), (a2, cI d 5 S), (b5, cI d 36 H)]) (lv' := [(0, .ref m0), (1, .int (nI ((tmF (sg K (dsI K S (S 0))) L 0).1))), (2, .int (nI (0 + 1)))]) (rfl) (lv_cons (rfl) (lv_cons (vI (by rfl)) (lv_cons (vI (by rfl)) (rfl)))) (at_14 _ 0 H (by first | assumption | omega) (Nat.lt_succ_self _))
  · have hl0 : cnt (fun q => 0 < L q) 36 = 0 := c4_1
    refine g_bipush (v := (-9)) X dX6_tellsMost_7 (by decide) ?_
    exact g_end X (gE_i dX6_tellsMost_9 (rfl) (Nat.le_of_ble_eq_true rfl) (Nat.le_of_ble_eq_true rfl) ⟨H, congrArg (fun z => some (Value.int z)) ((if_pos hl0).symm), rfl⟩)
set_option maxHeartbeats 4000000 in
set_option maxRecDepth 20000 in
theorem ct_X6_isAlone (l : Launch) (d : KD) (m0 a0 a1 a2 a4 a6 a8 a9 b1 b2 b3 b4 b5 b6 : Nat) (K L : Nat → Int32) (tn ap rn : Nat) (im : Int32) (j b : Nat) (G : Nat → Nat) (hj : j < 36) (hb : b < 64) : Ct l d yX6_isAlone cX6_isAlone 6 (some .boolean) { frames := 4, cells := 0, slots := 0, locals := 91 } [.ref m0, .int (nI j), .int (nI b)] [(m0, cO 6 [.ref a0, .ref a1, .ref a2, .int (nI tn), .ref a4, .int (nI ap), .ref a6, .int (nI rn), .ref a8, .ref a9, .int im, .ref b1, .ref b2, .ref b3, .ref b4, .ref b5, .ref b6]), (a0, cI d 36 K), (a1, cI d 36 L), (b5, cI d 36 (dF G))] 0 0 (fun r wo => r = some (.int (b2i (alone (sg K G) L b j))) ∧ wo = [(m0, cO 6 [.ref a0, .ref a1, .ref a2, .int (nI tn), .ref a4, .int (nI ap), .ref a6, .int (nI rn), .ref a8, .ref a9, .int im, .ref b1, .ref b2, .ref b3, .ref b4, .ref b5, .ref b6]), (a0, cI d 36 K), (a1, cI d 36 L), (b5, cI d 36 (dF G))]) := by
  refine ct_of (own := RX6) (ini := false) (by decide +kernel) rfl (fun h => by cases h) (Nat.le_of_ble_eq_true rfl) ?_
  intro g X
  show g 0 0 [(m0, cO 6 [.ref a0, .ref a1, .ref a2, .int (nI tn), .ref a4, .int (nI ap), .ref a6, .int (nI rn), .ref a8, .ref a9, .int im, .ref b1, .ref b2, .ref b3, .ref b4, .ref b5, .ref b6]), (a0, cI d 36 K), (a1, cI d 36 L), (b5, cI d 36 (dF G))] [(0, .ref m0), (1, .int (nI j)), (2, .int (nI b))] 0 []
  refine g_iconst (v := 0) X dX6_isAlone_0 (by decide) ?_
  refine g_istore_n (lv' := [(3, .int 0), (0, .ref m0), (1, .int (nI j)), (2, .int (nI b))]) X dX6_isAlone_1 rfl (by decide) rfl ?_
  have at_2 : ∀ (n_ : Nat) (k : Nat) (hk : k ≤ 6) (hn : suk (sg K G) b j j k), (6 - k) < n_ → g 0 0 [(m0, cO 6 [.ref a0, .ref a1, .ref a2, .int (nI tn), .ref a4, .int (nI ap), .ref a6, .int (nI rn), .ref a8, .ref a9, .int im, .ref b1, .ref b2, .ref b3, .ref b4, .ref b5, .ref b6]), (a0, cI d 36 K), (a1, cI d 36 L), (b5, cI d 36 (dF G))] [(0, .ref m0), (1, .int (nI j)), (2, .int (nI b)), (3, .int (nI k))] 2 [] := by
    intro n_
    induction n_ with
    | zero => intro k hk hn hn_; exact absurd hn_ (Nat.not_lt_zero _)
    | succ n_ ih_2 =>
      intro k hk hn hn_2
      refine g_iload_n X dX6_isAlone_2 rfl 3 rfl ?_
      refine g_bipush (v := 6) X dX6_isAlone_3 (by decide) ?_
      refine g_icmpN_ge (a := k) (b := 6) X rfl rfl (by omega) (by omega) 36 dX6_isAlone_5 (by decide) (fun c5_1 => ?_) (fun c5_1 => ?_)
      · obtain rfl : k = 6 := by omega
        refine g_iconst (v := 0) X dX6_isAlone_36 (by decide) ?_
        refine g_istore_n (lv' := [(3, .int 0), (0, .ref m0), (1, .int (nI j)), (2, .int (nI b))]) X dX6_isAlone_37 rfl (by decide) rfl ?_
        have at_38 : ∀ (n_ : Nat) (q : Nat) (hq : q ≤ 36) (ho : ∀ o, o < q → ¬ o = j → 0 < L o → ¬ suit (sg K G) b j o), (36 - q) < n_ → g 0 0 [(m0, cO 6 [.ref a0, .ref a1, .ref a2, .int (nI tn), .ref a4, .int (nI ap), .ref a6, .int (nI rn), .ref a8, .ref a9, .int im, .ref b1, .ref b2, .ref b3, .ref b4, .ref b5, .ref b6]), (a0, cI d 36 K), (a1, cI d 36 L), (b5, cI d 36 (dF G))] [(0, .ref m0), (1, .int (nI j)), (2, .int (nI b)), (3, .int (nI q))] 38 [] := by
          intro n_
          induction n_ with
          | zero => intro q hq ho hn_; exact absurd hn_ (Nat.not_lt_zero _)
          | succ n_ ih_38 =>
            intro q hq ho hn_38
            refine g_iload_n X dX6_isAlone_38 rfl 3 rfl ?_
            refine g_bipush (v := 36) X dX6_isAlone_39 (by decide) ?_
            refine g_icmpN_ge (a := q) (b := 36) X rfl rfl (by omega) (by omega) 124 dX6_isAlone_41 (by decide) (fun c41_2 => ?_) (fun c41_2 => ?_)
            · refine g_iconst (v := 1) X dX6_isAlone_124 (by decide) ?_
              exact g_end X (gE_i dX6_isAlone_125 (rfl) (Nat.le_of_ble_eq_true rfl) (Nat.le_of_ble_eq_true rfl) ⟨congrArg (fun z => some (Value.int z)) ((b2i_t ⟨hn, fun o h => ho o (by omega)⟩).symm), rfl⟩)
            · have at_68 : ∀ (n_ : Nat) (i : Nat) (hi6 : i ≤ 6), (6 - i) < n_ → g 0 0 [(m0, cO 6 [.ref a0, .ref a1, .ref a2, .int (nI tn), .ref a4, .int (nI ap), .ref a6, .int (nI rn), .ref a8, .ref a9, .int im, .ref b1, .ref b2, .ref b3, .ref b4, .ref b5, .ref b6]), (a0, cI d 36 K), (a1, cI d 36 L), (b5, cI d 36 (dF G))] [(0, .ref m0), (1, .int (nI j)), (2, .int (nI b)), (3, .int (nI q)), (4, .int (b2i ((0 < L q ∧ ¬ q = j) ∧ suk (sg K G) b j q i))), (5, .int (nI i))] 68 [] := by
                intro n_
                induction n_ with
                | zero => intro i hi6 hn_; exact absurd hn_ (Nat.not_lt_zero _)
                | succ n_ ih_68 =>
                  intro i hi6 hn_68
                  refine g_iload X dX6_isAlone_68 5 rfl ?_
                  refine g_bipush (v := 6) X dX6_isAlone_70 (by decide) ?_
                  refine g_icmpN_ge (a := i) (b := 6) X rfl rfl (by omega) (by omega) 111 dX6_isAlone_72 (by decide) (fun c72_3 => ?_) (fun c72_3 => ?_)
                  · obtain rfl : i = 6 := by omega
                    refine g_iload X dX6_isAlone_111 4 rfl ?_
                    refine g_ifB_eq X 118 dX6_isAlone_113 (by decide) (fun c113_4 => ?_) (fun c113_4 => ?_)
                    · refine g_iinc (v := nI (q + 1)) (lv' := [(3, .int (nI (q + 1))), (0, .ref m0), (1, .int (nI j)), (2, .int (nI b)), (4, .int (b2i ((0 < L q ∧ ¬ q = j) ∧ suk (sg K G) b j q 6))), (5, .int (nI 6))]) X dX6_isAlone_118 3 rfl (nI_inc _) (by decide) rfl ?_
                      refine g_goto X 38 dX6_isAlone_121 (by decide) ?_
                      refine g_lv (lv' := [(0, .ref m0), (1, .int (nI j)), (2, .int (nI b)), (3, .int (nI (q + 1)))]) X [1, 2, 3, 0] rfl ?_
                      exact ih_38 (q + 1) (by first | assumption | omega) (fun o ho2 => by rcases Nat.lt_succ_iff_lt_or_eq.mp ho2 with e | e; exact ho o e; subst e; exact fun y1 y2 z => c113_4 ⟨⟨y2, y1⟩, z⟩) (by omega)
                    · have hq4 := c113_4
                      refine g_iconst (v := 0) X dX6_isAlone_116 (by decide) ?_
                      exact g_end X (gE_i dX6_isAlone_117 (rfl) (Nat.le_of_ble_eq_true rfl) (Nat.le_of_ble_eq_true rfl) ⟨congrArg (fun z => some (Value.int z)) ((b2i_f (fun z => z.2 q (by omega) hq4.1.2 hq4.1.1 hq4.2)).symm), rfl⟩)
                  · refine g_iload_n X dX6_isAlone_75 rfl 2 rfl ?_
                    refine g_iload X dX6_isAlone_76 5 rfl ?_
                    refine g_ishr X dX6_isAlone_78 ?_
                    refine g_iconst (v := 1) X dX6_isAlone_79 (by decide) ?_
                    refine g_iand X dX6_isAlone_80 ?_
                    refine g_tope (y := bitI (nI b) (nI i)) (rfl) ?_
                    refine g_iconst (v := 1) X dX6_isAlone_81 (by decide) ?_
                    refine g_icmp_ne X 105 dX6_isAlone_82 (by decide) (fun c82_5 => ?_) (fun c82_5 => ?_)
                    · refine g_iinc (v := nI (i + 1)) (lv' := [(5, .int (nI (i + 1))), (0, .ref m0), (1, .int (nI j)), (2, .int (nI b)), (3, .int (nI q)), (4, .int (b2i ((0 < L q ∧ ¬ q = j) ∧ suk (sg K G) b j q i)))]) X dX6_isAlone_105 5 rfl (nI_inc _) (by decide) rfl ?_
                      refine g_goto X 68 dX6_isAlone_108 (by decide) ?_
                      refine g_lv (lv' := [(0, .ref m0), (1, .int (nI j)), (2, .int (nI b)), (3, .int (nI q)), (4, .int (b2i ((0 < L q ∧ ¬ q = j) ∧ suk (sg K G) b j q i))), (5, .int (nI (i + 1)))]) X [1, 2, 3, 4, 5, 0] rfl ?_
                      exact g_eq (ws' := [(m0, cO 6 [.ref a0, .ref a1, .ref a2, .int (nI tn), .ref a4, .int (nI ap), .ref a6, .int (nI rn), .ref a8, .ref a9, .int im, .ref b1, .ref b2, .ref b3, .ref b4, .ref b5, .ref b6]), (a0, cI d 36 K), (a1, cI d 36 L), (b5, cI d 36 (dF G))]) (lv' := [(0, .ref m0), (1, .int (nI j)), (2, .int (nI b)), (3, .int (nI q)), (4, .int (b2i ((0 < L q ∧ ¬ q = j) ∧ suk (sg K G) b j q (i + 1)))), (5, .int (nI (i + 1)))]) (rfl) (lv_cons (rfl) (lv_cons (rfl) (lv_cons (rfl) (lv_cons (rfl) (lv_cons (vI (b2i_c ⟨fun z => ⟨z.1, suk_s z.2 (fun y => absurd (bit_n hb (by omega) c82_5) y)⟩, fun z => ⟨z.1, fun m hm => z.2 m (by omega)⟩⟩)) (lv_cons (rfl) (rfl))))))) (ih_68 (i + 1) (by first | assumption | omega) (by omega))
                    · refine g_aload_n X dX6_isAlone_85 rfl 0 rfl ?_
                      refine g_iload X dX6_isAlone_86 5 rfl ?_
                      refine g_aload_n X dX6_isAlone_88 rfl 0 rfl ?_
                      refine g_iload X dX6_isAlone_89 5 rfl ?_
                      refine g_iload_n X dX6_isAlone_91 rfl 1 rfl ?_
                      refine g_dV (ci := 6) (q0 := 0) (n := 2) (wr := [(a1, cI d 36 L)]) (ws' := [(m0, cO 6 [.ref a0, .ref a1, .ref a2, .int (nI tn), .ref a4, .int (nI ap), .ref a6, .int (nI rn), .ref a8, .ref a9, .int im, .ref b1, .ref b2, .ref b3, .ref b4, .ref b5, .ref b6]), (a0, cI d 36 K), (a1, cI d 36 L), (b5, cI d 36 (dF G))]) (st' := [.int (sg K G i j), .int (nI i), .ref m0]) (As := [.int (nI i), .int (nI j)]) (st := [.int (nI i), .ref m0]) X (ct_X6_knownOf l d m0 a0 a1 a2 a4 a6 a8 a9 b1 b2 b3 b4 b5 b6 K tn ap rn im i j G (by omega) (by first | assumption | omega)) wd_919 wd_916 wd_918 wd_37 wd_58 hd_X6_knownOf rfl ⟨(Nat.le_of_ble_eq_true rfl), (Nat.le_of_ble_eq_true rfl)⟩ rfl rfl dX6_isAlone_92 ⟨(Nat.le_of_ble_eq_true rfl), (Nat.le_of_ble_eq_true rfl)⟩ rfl rfl (Nat.le_of_ble_eq_true rfl) [0, 1, 3] [2] rfl rfl rfl rfl rfl (by decide) rfl [1, 2, 0, 3] rfl rfl rfl rfl ?_
                      refine g_iload_n X dX6_isAlone_95 rfl 3 rfl ?_
                      refine g_dV (ci := 6) (q0 := 0) (n := 3) (wr := [(a1, cI d 36 L)]) (ws' := [(m0, cO 6 [.ref a0, .ref a1, .ref a2, .int (nI tn), .ref a4, .int (nI ap), .ref a6, .int (nI rn), .ref a8, .ref a9, .int im, .ref b1, .ref b2, .ref b3, .ref b4, .ref b5, .ref b6]), (a0, cI d 36 K), (a1, cI d 36 L), (b5, cI d 36 (dF G))]) (st' := [.int (b2i (tru (sg K G) i (sg K G i j) q))]) (As := [.int (nI i), .int (sg K G i j), .int (nI q)]) (st := []) X (ct_X6_isTrue l d m0 a0 a1 a2 a4 a6 a8 a9 b1 b2 b3 b4 b5 b6 K tn ap rn im i q G (sg K G i j) (by omega) (by first | assumption | omega)) wd_915 wd_912 wd_914 wd_36 wd_58 hd_X6_isTrue rfl ⟨(Nat.le_of_ble_eq_true rfl), (Nat.le_of_ble_eq_true rfl)⟩ rfl rfl dX6_isAlone_96 ⟨(Nat.le_of_ble_eq_true rfl), (Nat.le_of_ble_eq_true rfl)⟩ rfl rfl (Nat.le_of_ble_eq_true rfl) [0, 1, 3] [2] rfl rfl rfl rfl rfl (by decide) rfl [1, 2, 0, 3] rfl rfl rfl rfl ?_
                      refine g_ifB_ne X 105 dX6_isAlone_99 (by decide) (fun c99_6 => ?_) (fun c99_6 => ?_)
                      · refine g_iinc (v := nI (i + 1)) (lv' := [(5, .int (nI (i + 1))), (0, .ref m0), (1, .int (nI j)), (2, .int (nI b)), (3, .int (nI q)), (4, .int (b2i ((0 < L q ∧ ¬ q = j) ∧ suk (sg K G) b j q i)))]) X dX6_isAlone_105 5 rfl (nI_inc _) (by decide) rfl ?_
                        refine g_goto X 68 dX6_isAlone_108 (by decide) ?_
                        refine g_lv (lv' := [(0, .ref m0), (1, .int (nI j)), (2, .int (nI b)), (3, .int (nI q)), (4, .int (b2i ((0 < L q ∧ ¬ q = j) ∧ suk (sg K G) b j q i))), (5, .int (nI (i + 1)))]) X [1, 2, 3, 4, 5, 0] rfl ?_
                        exact g_eq (ws' := [(m0, cO 6 [.ref a0, .ref a1, .ref a2, .int (nI tn), .ref a4, .int (nI ap), .ref a6, .int (nI rn), .ref a8, .ref a9, .int im, .ref b1, .ref b2, .ref b3, .ref b4, .ref b5, .ref b6]), (a0, cI d 36 K), (a1, cI d 36 L), (b5, cI d 36 (dF G))]) (lv' := [(0, .ref m0), (1, .int (nI j)), (2, .int (nI b)), (3, .int (nI q)), (4, .int (b2i ((0 < L q ∧ ¬ q = j) ∧ suk (sg K G) b j q (i + 1)))), (5, .int (nI (i + 1)))]) (rfl) (lv_cons (rfl) (lv_cons (rfl) (lv_cons (rfl) (lv_cons (rfl) (lv_cons (vI (b2i_c ⟨fun z => ⟨z.1, suk_s z.2 (fun _ => c99_6)⟩, fun z => ⟨z.1, fun m hm => z.2 m (by omega)⟩⟩)) (lv_cons (rfl) (rfl))))))) (ih_68 (i + 1) (by first | assumption | omega) (by omega))
                      · refine g_iconst (v := 0) X dX6_isAlone_102 (by decide) ?_
                        refine g_istore (lv' := [(4, .int 0), (0, .ref m0), (1, .int (nI j)), (2, .int (nI b)), (3, .int (nI q)), (5, .int (nI i))]) X dX6_isAlone_103 (by decide) rfl ?_
                        refine g_iinc (v := nI (i + 1)) (lv' := [(5, .int (nI (i + 1))), (4, .int 0), (0, .ref m0), (1, .int (nI j)), (2, .int (nI b)), (3, .int (nI q))]) X dX6_isAlone_105 5 rfl (nI_inc _) (by decide) rfl ?_
                        refine g_goto X 68 dX6_isAlone_108 (by decide) ?_
                        refine g_lv (lv' := [(0, .ref m0), (1, .int (nI j)), (2, .int (nI b)), (3, .int (nI q)), (4, .int 0), (5, .int (nI (i + 1)))]) X [2, 3, 4, 5, 1, 0] rfl ?_
                        exact g_eq (ws' := [(m0, cO 6 [.ref a0, .ref a1, .ref a2, .int (nI tn), .ref a4, .int (nI ap), .ref a6, .int (nI rn), .ref a8, .ref a9, .int im, .ref b1, .ref b2, .ref b3, .ref b4, .ref b5, .ref b6]), (a0, cI d 36 K), (a1, cI d 36 L), (b5, cI d 36 (dF G))]) (lv' := [(0, .ref m0), (1, .int (nI j)), (2, .int (nI b)), (3, .int (nI q)), (4, .int (b2i ((0 < L q ∧ ¬ q = j) ∧ suk (sg K G) b j q (i + 1)))), (5, .int (nI (i + 1)))]) (rfl) (lv_cons (rfl) (lv_cons (rfl) (lv_cons (rfl) (lv_cons (rfl) (lv_cons (vI ((b2i_f (fun z => c99_6 (z.2 i (by omega) (bit_y c82_5)))).symm)) (lv_cons (rfl) (rfl))))))) (ih_68 (i + 1) (by first | assumption | omega) (by omega))
              refine g_aload_n X dX6_isAlone_44 rfl 0 rfl ?_
              refine g_get (C := RX6) (T := TX6) (N := 17) (ci := 6) (v := .ref a1) X rfl inT6 1 (by decide) wd_797 rfl dX6_isAlone_45 0 rfl rfl ?_
              refine g_iload_n X dX6_isAlone_48 rfl 3 rfl ?_
              refine g_iaload_N (k := q) X rfl dX6_isAlone_49 2 rfl (by first | assumption | omega) (by omega) ?_
              refine g_if_le X 62 dX6_isAlone_50 (by decide) (fun c50_7 => ?_) (fun c50_7 => ?_)
              · refine g_iconst (v := 0) X dX6_isAlone_62 (by decide) ?_
                refine g_istore (lv' := [(4, .int 0), (0, .ref m0), (1, .int (nI j)), (2, .int (nI b)), (3, .int (nI q))]) X dX6_isAlone_63 (by decide) rfl ?_
                refine g_iconst (v := 0) X dX6_isAlone_65 (by decide) ?_
                refine g_istore (lv' := [(5, .int 0), (4, .int 0), (0, .ref m0), (1, .int (nI j)), (2, .int (nI b)), (3, .int (nI q))]) X dX6_isAlone_66 (by decide) rfl ?_
                refine g_lv (lv' := [(0, .ref m0), (1, .int (nI j)), (2, .int (nI b)), (3, .int (nI q)), (4, .int 0), (5, .int 0)]) X [2, 3, 4, 5, 1, 0] rfl ?_
                exact g_eq (ws' := [(m0, cO 6 [.ref a0, .ref a1, .ref a2, .int (nI tn), .ref a4, .int (nI ap), .ref a6, .int (nI rn), .ref a8, .ref a9, .int im, .ref b1, .ref b2, .ref b3, .ref b4, .ref b5, .ref b6]), (a0, cI d 36 K), (a1, cI d 36 L), (b5, cI d 36 (dF G))]) (lv' := [(0, .ref m0), (1, .int (nI j)), (2, .int (nI b)), (3, .int (nI q)), (4, .int (b2i ((0 < L q ∧ ¬ q = j) ∧ suk (sg K G) b j q 0))), (5, .int (nI 0))]) (rfl) (lv_cons (rfl) (lv_cons (rfl) (lv_cons (rfl) (lv_cons (rfl) (lv_cons (vI ((b2i_f (fun z => absurd z.1.1 (Int32.not_lt.mpr c50_7))).symm)) (lv_cons (vI (by rfl)) (rfl))))))) (at_68 _ 0 (by first | assumption | omega) (Nat.lt_succ_self _))
              · refine g_iload_n X dX6_isAlone_53 rfl 3 rfl ?_
                refine g_iload_n X dX6_isAlone_54 rfl 1 rfl ?_
                refine g_icmpN_eq (a := q) (b := j) X rfl rfl (by omega) (by omega) 62 dX6_isAlone_55 (by decide) (fun c55_8 => ?_) (fun c55_8 => ?_)
                · refine g_iconst (v := 0) X dX6_isAlone_62 (by decide) ?_
                  refine g_istore (lv' := [(4, .int 0), (0, .ref m0), (1, .int (nI j)), (2, .int (nI b)), (3, .int (nI q))]) X dX6_isAlone_63 (by decide) rfl ?_
                  refine g_iconst (v := 0) X dX6_isAlone_65 (by decide) ?_
                  refine g_istore (lv' := [(5, .int 0), (4, .int 0), (0, .ref m0), (1, .int (nI j)), (2, .int (nI b)), (3, .int (nI q))]) X dX6_isAlone_66 (by decide) rfl ?_
                  refine g_lv (lv' := [(0, .ref m0), (1, .int (nI j)), (2, .int (nI b)), (3, .int (nI q)), (4, .int 0), (5, .int 0)]) X [2, 3, 4, 5, 1, 0] rfl ?_
                  exact g_eq (ws' := [(m0, cO 6 [.ref a0, .ref a1, .ref a2, .int (nI tn), .ref a4, .int (nI ap), .ref a6, .int (nI rn), .ref a8, .ref a9, .int im, .ref b1, .ref b2, .ref b3, .ref b4, .ref b5, .ref b6]), (a0, cI d 36 K), (a1, cI d 36 L), (b5, cI d 36 (dF G))]) (lv' := [(0, .ref m0), (1, .int (nI j)), (2, .int (nI b)), (3, .int (nI q)), (4, .int (b2i ((0 < L q ∧ ¬ q = j) ∧ suk (sg K G) b j q 0))), (5, .int (nI 0))]) (rfl) (lv_cons (rfl) (lv_cons (rfl) (lv_cons (rfl) (lv_cons (rfl) (lv_cons (vI ((b2i_f (fun z => z.1.2 c55_8)).symm)) (lv_cons (vI (by rfl)) (rfl))))))) (at_68 _ 0 (by first | assumption | omega) (Nat.lt_succ_self _))
                · refine g_iconst (v := 1) X dX6_isAlone_58 (by decide) ?_
                  refine g_goto X 63 dX6_isAlone_59 (by decide) ?_
                  refine g_istore (lv' := [(4, .int 1), (0, .ref m0), (1, .int (nI j)), (2, .int (nI b)), (3, .int (nI q))]) X dX6_isAlone_63 (by decide) rfl ?_
                  refine g_iconst (v := 0) X dX6_isAlone_65 (by decide) ?_
                  refine g_istore (lv' := [(5, .int 0), (4, .int 1), (0, .ref m0), (1, .int (nI j)), (2, .int (nI b)), (3, .int (nI q))]) X dX6_isAlone_66 (by decide) rfl ?_
                  refine g_lv (lv' := [(0, .ref m0), (1, .int (nI j)), (2, .int (nI b)), (3, .int (nI q)), (4, .int 1), (5, .int 0)]) X [2, 3, 4, 5, 1, 0] rfl ?_
                  exact g_eq (ws' := [(m0, cO 6 [.ref a0, .ref a1, .ref a2, .int (nI tn), .ref a4, .int (nI ap), .ref a6, .int (nI rn), .ref a8, .ref a9, .int im, .ref b1, .ref b2, .ref b3, .ref b4, .ref b5, .ref b6]), (a0, cI d 36 K), (a1, cI d 36 L), (b5, cI d 36 (dF G))]) (lv' := [(0, .ref m0), (1, .int (nI j)), (2, .int (nI b)), (3, .int (nI q)), (4, .int (b2i ((0 < L q ∧ ¬ q = j) ∧ suk (sg K G) b j q 0))), (5, .int (nI 0))]) (rfl) (lv_cons (rfl) (lv_cons (rfl) (lv_cons (rfl) (lv_cons (rfl) (lv_cons (vI ((b2i_t ⟨⟨Int32.not_le.mp c50_7, c55_8⟩, suk_0⟩).symm)) (lv_cons (vI (by rfl)) (rfl))))))) (at_68 _ 0 (by first | assumption | omega) (Nat.lt_succ_self _))
        refine g_lv (lv' := [(0, .ref m0), (1, .int (nI j)), (2, .int (nI b)), (3, .int 0)]) X [1, 2, 3, 0] rfl ?_
        exact g_eq (ws' := [(m0, cO 6 [.ref a0, .ref a1, .ref a2, .int (nI tn), .ref a4, .int (nI ap), .ref a6, .int (nI rn), .ref a8, .ref a9, .int im, .ref b1, .ref b2, .ref b3, .ref b4, .ref b5, .ref b6]), (a0, cI d 36 K), (a1, cI d 36 L), (b5, cI d 36 (dF G))]) (lv' := [(0, .ref m0), (1, .int (nI j)), (2, .int (nI b)), (3, .int (nI 0))]) (rfl) (lv_cons (rfl) (lv_cons (rfl) (lv_cons (rfl) (lv_cons (vI (by rfl)) (rfl))))) (at_38 _ 0 (by first | assumption | omega) (fun o h => absurd h (Nat.not_lt_zero o)) (Nat.lt_succ_self _))
      · refine g_iload_n X dX6_isAlone_8 rfl 2 rfl ?_
        refine g_iload_n X dX6_isAlone_9 rfl 3 rfl ?_
        refine g_ishr X dX6_isAlone_10 ?_
        refine g_iconst (v := 1) X dX6_isAlone_11 (by decide) ?_
        refine g_iand X dX6_isAlone_12 ?_
        refine g_tope (y := bitI (nI b) (nI k)) (rfl) ?_
        refine g_iconst (v := 1) X dX6_isAlone_13 (by decide) ?_
        refine g_icmp_ne X 30 dX6_isAlone_14 (by decide) (fun c14_9 => ?_) (fun c14_9 => ?_)
        · refine g_iinc (v := nI (k + 1)) (lv' := [(3, .int (nI (k + 1))), (0, .ref m0), (1, .int (nI j)), (2, .int (nI b))]) X dX6_isAlone_30 3 rfl (nI_inc _) (by decide) rfl ?_
          refine g_goto X 2 dX6_isAlone_33 (by decide) ?_
          refine g_lv (lv' := [(0, .ref m0), (1, .int (nI j)), (2, .int (nI b)), (3, .int (nI (k + 1)))]) X [1, 2, 3, 0] rfl ?_
          exact ih_2 (k + 1) (by first | assumption | omega) (suk_s hn (fun z => absurd (bit_n hb (by omega) c14_9) z)) (by omega)
        · have hbt := c14_9
          refine g_aload_n X dX6_isAlone_17 rfl 0 rfl ?_
          refine g_iload_n X dX6_isAlone_18 rfl 3 rfl ?_
          refine g_iload_n X dX6_isAlone_19 rfl 1 rfl ?_
          refine g_dV (ci := 6) (q0 := 0) (n := 2) (wr := [(a1, cI d 36 L)]) (ws' := [(m0, cO 6 [.ref a0, .ref a1, .ref a2, .int (nI tn), .ref a4, .int (nI ap), .ref a6, .int (nI rn), .ref a8, .ref a9, .int im, .ref b1, .ref b2, .ref b3, .ref b4, .ref b5, .ref b6]), (a0, cI d 36 K), (a1, cI d 36 L), (b5, cI d 36 (dF G))]) (st' := [.int (sg K G k j)]) (As := [.int (nI k), .int (nI j)]) (st := []) X (ct_X6_knownOf l d m0 a0 a1 a2 a4 a6 a8 a9 b1 b2 b3 b4 b5 b6 K tn ap rn im k j G (by omega) (by first | assumption | omega)) wd_919 wd_916 wd_918 wd_37 wd_58 hd_X6_knownOf rfl ⟨(Nat.le_of_ble_eq_true rfl), (Nat.le_of_ble_eq_true rfl)⟩ rfl rfl dX6_isAlone_20 ⟨(Nat.le_of_ble_eq_true rfl), (Nat.le_of_ble_eq_true rfl)⟩ rfl rfl (Nat.le_of_ble_eq_true rfl) [0, 1, 3] [2] rfl rfl rfl rfl rfl (by decide) rfl [1, 2, 0, 3] rfl rfl rfl rfl ?_
          refine g_bipush (v := (-9)) X dX6_isAlone_23 (by decide) ?_
          refine g_icmp_ne X 30 dX6_isAlone_25 (by decide) (fun c25_10 => ?_) (fun c25_10 => ?_)
          · refine g_iinc (v := nI (k + 1)) (lv' := [(3, .int (nI (k + 1))), (0, .ref m0), (1, .int (nI j)), (2, .int (nI b))]) X dX6_isAlone_30 3 rfl (nI_inc _) (by decide) rfl ?_
            refine g_goto X 2 dX6_isAlone_33 (by decide) ?_
            refine g_lv (lv' := [(0, .ref m0), (1, .int (nI j)), (2, .int (nI b)), (3, .int (nI (k + 1)))]) X [1, 2, 3, 0] rfl ?_
            exact ih_2 (k + 1) (by first | assumption | omega) (suk_s hn (fun _ => tru_self.mpr c25_10)) (by omega)
          · have hk9 := c25_10
            refine g_iconst (v := 0) X dX6_isAlone_28 (by decide) ?_
            exact g_end X (gE_i dX6_isAlone_29 (rfl) (Nat.le_of_ble_eq_true rfl) (Nat.le_of_ble_eq_true rfl) ⟨congrArg (fun z => some (Value.int z)) ((b2i_f (fun z => absurd hk9 (tru_self.mp (z.1 k (by omega) (bit_y hbt))))).symm), rfl⟩)
  refine g_lv (lv' := [(0, .ref m0), (1, .int (nI j)), (2, .int (nI b)), (3, .int 0)]) X [1, 2, 3, 0] rfl ?_
  exact g_eq (ws' := [(m0, cO 6 [.ref a0, .ref a1, .ref a2, .int (nI tn), .ref a4, .int (nI ap), .ref a6, .int (nI rn), .ref a8, .ref a9, .int im, .ref b1, .ref b2, .ref b3, .ref b4, .ref b5, .ref b6]), (a0, cI d 36 K), (a1, cI d 36 L), (b5, cI d 36 (dF G))]) (lv' := [(0, .ref m0), (1, .int (nI j)), (2, .int (nI b)), (3, .int (nI 0))]) (rfl) (lv_cons (rfl) (lv_cons (rfl) (lv_cons (rfl) (lv_cons (vI (by rfl)) (rfl))))) (at_2 _ 0 (by first | assumption | omega) (suk_0) (Nat.lt_succ_self _))
set_option maxHeartbeats 4000000 in
set_option maxRecDepth 20000 in
theorem ct_X6_needed (l : Launch) (d : KD) (m0 a0 a1 a2 a4 a6 a8 a9 b1 b2 b3 b4 b5 b6 : Nat) (K L S Rf H : Nat → Int32) (tn ap rn : Nat) (im : Int32) (x : Int32) (hh : sq (S 0)) (hL : ∀ q, lk9 (L q)) : Ct l d yX6_needed cX6_needed 4 (some .int) { frames := 5, cells := 0, slots := 0, locals := 116 } [.ref m0, .int x] [(m0, cO 6 [.ref a0, .ref a1, .ref a2, .int (nI tn), .ref a4, .int (nI ap), .ref a6, .int (nI rn), .ref a8, .ref a9, .int im, .ref b1, .ref b2, .ref b3, .ref b4, .ref b5, .ref b6]), (a0, cI d 36 K), (a1, cI d 36 L), (a2, cI d 5 S), (a9, cI d 7 (rf7 Rf)), (b5, cI d 36 H)] 0 0 (fun r wo => ∃ (H' : Nat → Int32), r = some (.int ((sp_needed (sg K (dsI K S (S 0))) L x).1)) ∧ wo = [(m0, cO 6 [.ref a0, .ref a1, .ref a2, .int (nI tn), .ref a4, .int (nI ap), .ref a6, .int (nI rn), .ref a8, .ref a9, .int im, .ref b1, .ref b2, .ref b3, .ref b4, .ref b5, .ref b6]), (a0, cI d 36 K), (a1, cI d 36 L), (a2, cI d 5 S), (a9, cI d 7 (rf7 (bmp Rf (sp_needed (sg K (dsI K S (S 0))) L x).2))), (b5, cI d 36 H')]) := by
  refine ct_of (own := RX6) (ini := false) (by decide +kernel) rfl (fun h => by cases h) (Nat.le_of_ble_eq_true rfl) ?_
  intro g X
  show g 0 0 [(m0, cO 6 [.ref a0, .ref a1, .ref a2, .int (nI tn), .ref a4, .int (nI ap), .ref a6, .int (nI rn), .ref a8, .ref a9, .int im, .ref b1, .ref b2, .ref b3, .ref b4, .ref b5, .ref b6]), (a0, cI d 36 K), (a1, cI d 36 L), (a2, cI d 5 S), (a9, cI d 7 (rf7 Rf)), (b5, cI d 36 H)] [(0, .ref m0), (1, .int x)] 0 []
  refine g_iload_n X dX6_needed_0 rfl 1 rfl ?_
  refine g_dS (n := 1) (wr := [(m0, cO 6 [.ref a0, .ref a1, .ref a2, .int (nI tn), .ref a4, .int (nI ap), .ref a6, .int (nI rn), .ref a8, .ref a9, .int im, .ref b1, .ref b2, .ref b3, .ref b4, .ref b5, .ref b6]), (a0, cI d 36 K), (a1, cI d 36 L), (a2, cI d 5 S), (a9, cI d 7 (rf7 Rf)), (b5, cI d 36 H)]) (ws' := [(m0, cO 6 [.ref a0, .ref a1, .ref a2, .int (nI tn), .ref a4, .int (nI ap), .ref a6, .int (nI rn), .ref a8, .ref a9, .int im, .ref b1, .ref b2, .ref b3, .ref b4, .ref b5, .ref b6]), (a0, cI d 36 K), (a1, cI d 36 L), (a2, cI d 5 S), (a9, cI d 7 (rf7 Rf)), (b5, cI d 36 H)]) (st' := [.int (b2i (sq x))]) (As := [.int x]) (st := []) X (ct_X6_isSquare l d x) wd_884 wd_882 wd_883 wd_58 hd_X6_isSquare ⟨(Nat.le_of_ble_eq_true rfl), (Nat.le_of_ble_eq_true rfl)⟩ rfl rfl dX6_needed_1 ⟨(Nat.le_of_ble_eq_true rfl), (Nat.le_of_ble_eq_true rfl)⟩ rfl rfl (Nat.le_of_ble_eq_true rfl) [] [0, 1, 2, 3, 4, 5] rfl rfl rfl rfl rfl (by decide) [0, 1, 2, 3, 4, 5] rfl rfl rfl rfl ?_
  refine g_ifB_ne X 13 dX6_needed_4 (by decide) (fun c4_1 => ?_) (fun c4_1 => ?_)
  · obtain ⟨j_x, hj_x, rfl⟩ := sq_nat c4_1
    have hcl_j_x : (nI j_x).toNatClampNeg = j_x := nI_clamp (by omega)
    refine g_aload_n X dX6_needed_13 rfl 0 rfl ?_
    refine g_get (C := RX6) (T := TX6) (N := 17) (ci := 6) (v := .ref a1) X rfl inT6 1 (by decide) wd_797 rfl dX6_needed_14 0 rfl rfl ?_
    refine g_iload_n X dX6_needed_17 rfl 1 rfl ?_
    refine g_iaload_N (k := j_x) X rfl dX6_needed_18 2 rfl (by first | assumption | omega) (by omega) ?_
    refine g_if_ne X 29 dX6_needed_19 (by decide) (fun c19_2 => ?_) (fun c19_2 => ?_)
    · have hl19 := c19_2
      refine g_aload_n X dX6_needed_29 rfl 0 rfl ?_
      refine g_dV (ci := 6) (q0 := 0) (n := 0) (wr := [(a1, cI d 36 L), (a9, cI d 7 (rf7 Rf))]) (ws' := [(m0, cO 6 [.ref a0, .ref a1, .ref a2, .int (nI tn), .ref a4, .int (nI ap), .ref a6, .int (nI rn), .ref a8, .ref a9, .int im, .ref b1, .ref b2, .ref b3, .ref b4, .ref b5, .ref b6]), (a0, cI d 36 K), (a1, cI d 36 L), (a2, cI d 5 S), (a9, cI d 7 (rf7 Rf)), (b5, cI d 36 (dF (dsI K S (S 0))))]) (st' := []) (As := []) (st := []) X (ct_X6_fromHome l d m0 a0 a1 a2 a4 a6 a8 a9 b1 b2 b3 b4 b5 b6 K S H tn ap rn im (by first | assumption | omega)) wd_900 wd_897 wd_899 wd_33 wd_58 hd_X6_fromHome rfl ⟨(Nat.le_of_ble_eq_true rfl), (Nat.le_of_ble_eq_true rfl)⟩ rfl rfl dX6_needed_30 ⟨(Nat.le_of_ble_eq_true rfl), (Nat.le_of_ble_eq_true rfl)⟩ rfl rfl (Nat.le_of_ble_eq_true rfl) [0, 1, 3, 5] [2, 4] rfl rfl rfl rfl rfl (by decide) rfl [2, 3, 0, 4, 1, 5] rfl rfl rfl rfl ?_
      refine g_bipush (v := (-9)) X dX6_needed_33 (by decide) ?_
      refine g_istore_n (lv' := [(2, .int (-9)), (0, .ref m0), (1, .int (nI j_x))]) X dX6_needed_35 rfl (by decide) rfl ?_
      refine g_iconst (v := 0) X dX6_needed_36 (by decide) ?_
      refine g_istore_n (lv' := [(3, .int 0), (2, .int (-9)), (0, .ref m0), (1, .int (nI j_x))]) X dX6_needed_37 rfl (by decide) rfl ?_
      have at_38 : ∀ (n_ : Nat) (b : Nat) (hb : b ≤ 64), (64 - b) < n_ → g 0 0 [(m0, cO 6 [.ref a0, .ref a1, .ref a2, .int (nI tn), .ref a4, .int (nI ap), .ref a6, .int (nI rn), .ref a8, .ref a9, .int im, .ref b1, .ref b2, .ref b3, .ref b4, .ref b5, .ref b6]), (a0, cI d 36 K), (a1, cI d 36 L), (a2, cI d 5 S), (a9, cI d 7 (rf7 Rf)), (b5, cI d 36 (dF (dsI K S (S 0))))] [(0, .ref m0), (1, .int (nI j_x)), (2, .int ((ftF (sg K (dsI K S (S 0))) L j_x b).1)), (3, .int (nI b))] 38 [] := by
        intro n_
        induction n_ with
        | zero => intro b hb hn_; exact absurd hn_ (Nat.not_lt_zero _)
        | succ n_ ih_38 =>
          intro b hb hn_38
          have hft := ftF_in (T := (sg K (dsI K S (S 0)))) (L := L) (j := j_x) b hb
          have hft9 : (ftF (sg K (dsI K S (S 0))) L j_x b).1 = -9 → (ftF (sg K (dsI K S (S 0))) L j_x b).1 = -9 ∧ (ftF (sg K (dsI K S (S 0))) L j_x b).2 = 7 := fun z => hft.elim id (fun ⟨f, h1, h2, _⟩ => absurd (h2.symm.trans z) (nI_ne_m9 (by omega)))
          refine g_iload_n X dX6_needed_38 rfl 3 rfl ?_
          refine g_bipush (v := 64) X dX6_needed_39 (by decide) ?_
          refine g_icmpN_ge (a := b) (b := 64) X rfl rfl (by omega) (by omega) 78 dX6_needed_41 (by decide) (fun c41_3 => ?_) (fun c41_3 => ?_)
          · obtain rfl : b = 64 := by omega
            refine g_iload_n X dX6_needed_78 rfl 2 rfl ?_
            have e_ : sp_needed (sg K (dsI K S (S 0))) L (nI j_x) = ((ftF (sg K (dsI K S (S 0))) L j_x 64).1, 0) := needed_3 hj_x hl19
            exact g_end X (gE_i dX6_needed_79 (rfl) (Nat.le_of_ble_eq_true rfl) (Nat.le_of_ble_eq_true rfl) ⟨(dF (dsI K S (S 0))), congrArg (fun z => some (Value.int z)) (by rw [e_]), ws_cons (rfl) (ws_cons (rfl) (ws_cons (rfl) (ws_cons (rfl) (ws_cons (cI_eq (by first | (rw [e_]; done) | (rw [e_]; rfl) | (rw [e_]; simp only [ix, hcl_j_x, ↓reduceIte]; done) | simp [e_, *])) (ws_cons (rfl) (rfl))))))⟩)
          · refine g_iload_n X dX6_needed_44 rfl 2 rfl ?_
            refine g_bipush (v := (-9)) X dX6_needed_45 (by decide) ?_
            refine g_icmp_eq X 61 dX6_needed_47 (by decide) (fun c47_5 => ?_) (fun c47_5 => ?_)
            · refine g_aload_n X dX6_needed_61 rfl 0 rfl ?_
              refine g_iload_n X dX6_needed_62 rfl 1 rfl ?_
              refine g_iload_n X dX6_needed_63 rfl 3 rfl ?_
              refine g_dV (ci := 6) (q0 := 0) (n := 2) (wr := [(a2, cI d 5 S), (a9, cI d 7 (rf7 Rf))]) (ws' := [(m0, cO 6 [.ref a0, .ref a1, .ref a2, .int (nI tn), .ref a4, .int (nI ap), .ref a6, .int (nI rn), .ref a8, .ref a9, .int im, .ref b1, .ref b2, .ref b3, .ref b4, .ref b5, .ref b6]), (a0, cI d 36 K), (a1, cI d 36 L), (a2, cI d 5 S), (a9, cI d 7 (rf7 Rf)), (b5, cI d 36 (dF (dsI K S (S 0))))]) (st' := [.int (b2i (alone (sg K (dsI K S (S 0))) L b j_x))]) (As := [.int (nI j_x), .int (nI b)]) (st := []) X (ct_X6_isAlone l d m0 a0 a1 a2 a4 a6 a8 a9 b1 b2 b3 b4 b5 b6 K L tn ap rn im j_x b (dsI K S (S 0)) (hj_x) (by omega)) wd_1046 wd_1043 wd_1045 wd_48 wd_58 hd_X6_isAlone rfl ⟨(Nat.le_of_ble_eq_true rfl), (Nat.le_of_ble_eq_true rfl)⟩ rfl rfl dX6_needed_64 ⟨(Nat.le_of_ble_eq_true rfl), (Nat.le_of_ble_eq_true rfl)⟩ rfl rfl (Nat.le_of_ble_eq_true rfl) [0, 1, 2, 5] [3, 4] rfl rfl rfl rfl rfl (by decide) rfl [2, 3, 4, 0, 1, 5] rfl rfl rfl rfl ?_
              refine g_ifB_eq X 72 dX6_needed_67 (by decide) (fun c67_6 => ?_) (fun c67_6 => ?_)
              · refine g_iinc (v := nI (b + 1)) (lv' := [(3, .int (nI (b + 1))), (0, .ref m0), (1, .int (nI j_x)), (2, .int ((ftF (sg K (dsI K S (S 0))) L j_x b).1))]) X dX6_needed_72 3 rfl (nI_inc _) (by decide) rfl ?_
                refine g_goto X 38 dX6_needed_75 (by decide) ?_
                refine g_lv (lv' := [(0, .ref m0), (1, .int (nI j_x)), (2, .int ((ftF (sg K (dsI K S (S 0))) L j_x b).1)), (3, .int (nI (b + 1)))]) X [1, 2, 3, 0] rfl ?_
                exact g_eq (ws' := [(m0, cO 6 [.ref a0, .ref a1, .ref a2, .int (nI tn), .ref a4, .int (nI ap), .ref a6, .int (nI rn), .ref a8, .ref a9, .int im, .ref b1, .ref b2, .ref b3, .ref b4, .ref b5, .ref b6]), (a0, cI d 36 K), (a1, cI d 36 L), (a2, cI d 5 S), (a9, cI d 7 (rf7 Rf)), (b5, cI d 36 (dF (dsI K S (S 0))))]) (lv' := [(0, .ref m0), (1, .int (nI j_x)), (2, .int ((ftF (sg K (dsI K S (S 0))) L j_x (b + 1)).1)), (3, .int (nI (b + 1)))]) (rfl) (lv_cons (rfl) (lv_cons (rfl) (lv_cons (vI ((congrArg Prod.fst (ftF_n (fun z => c67_6 z.2))).symm)) (lv_cons (rfl) (rfl))))) (ih_38 (b + 1) (by first | assumption | omega) (by omega))
              · refine g_iload_n X dX6_needed_70 rfl 3 rfl ?_
                refine g_istore_n (lv' := [(2, .int (nI b)), (0, .ref m0), (1, .int (nI j_x)), (3, .int (nI b))]) X dX6_needed_71 rfl (by decide) rfl ?_
                refine g_iinc (v := nI (b + 1)) (lv' := [(3, .int (nI (b + 1))), (2, .int (nI b)), (0, .ref m0), (1, .int (nI j_x))]) X dX6_needed_72 3 rfl (nI_inc _) (by decide) rfl ?_
                refine g_goto X 38 dX6_needed_75 (by decide) ?_
                refine g_lv (lv' := [(0, .ref m0), (1, .int (nI j_x)), (2, .int (nI b)), (3, .int (nI (b + 1)))]) X [2, 3, 1, 0] rfl ?_
                exact g_eq (ws' := [(m0, cO 6 [.ref a0, .ref a1, .ref a2, .int (nI tn), .ref a4, .int (nI ap), .ref a6, .int (nI rn), .ref a8, .ref a9, .int im, .ref b1, .ref b2, .ref b3, .ref b4, .ref b5, .ref b6]), (a0, cI d 36 K), (a1, cI d 36 L), (a2, cI d 5 S), (a9, cI d 7 (rf7 Rf)), (b5, cI d 36 (dF (dsI K S (S 0))))]) (lv' := [(0, .ref m0), (1, .int (nI j_x)), (2, .int ((ftF (sg K (dsI K S (S 0))) L j_x (b + 1)).1)), (3, .int (nI (b + 1)))]) (rfl) (lv_cons (rfl) (lv_cons (rfl) (lv_cons (vI ((congrArg Prod.fst (ftF_y (by rw [(hft9 c47_5).2]; exact bc_7 b (by omega)) c67_6)).symm)) (lv_cons (rfl) (rfl))))) (ih_38 (b + 1) (by first | assumption | omega) (by omega))
            · obtain ⟨f, hf0, hf1, hf2⟩ := hft.elim (fun z => absurd z.1 c47_5) id
              refine g_eq (lv' := [(0, .ref m0), (1, .int (nI j_x)), (2, .int (nI f)), (3, .int (nI b))]) rfl (lv_cons (rfl) (lv_cons (rfl) (lv_cons (vI (hf1)) (lv_cons (rfl) (rfl))))) ?_
              refine g_iload_n X dX6_needed_50 rfl 3 rfl ?_
              refine g_dS (n := 1) (wr := [(m0, cO 6 [.ref a0, .ref a1, .ref a2, .int (nI tn), .ref a4, .int (nI ap), .ref a6, .int (nI rn), .ref a8, .ref a9, .int im, .ref b1, .ref b2, .ref b3, .ref b4, .ref b5, .ref b6]), (a0, cI d 36 K), (a1, cI d 36 L), (a2, cI d 5 S), (a9, cI d 7 (rf7 Rf)), (b5, cI d 36 (dF (dsI K S (S 0))))]) (ws' := [(m0, cO 6 [.ref a0, .ref a1, .ref a2, .int (nI tn), .ref a4, .int (nI ap), .ref a6, .int (nI rn), .ref a8, .ref a9, .int im, .ref b1, .ref b2, .ref b3, .ref b4, .ref b5, .ref b6]), (a0, cI d 36 K), (a1, cI d 36 L), (a2, cI d 5 S), (a9, cI d 7 (rf7 Rf)), (b5, cI d 36 (dF (dsI K S (S 0))))]) (st' := [.int (bcI (nI b))]) (As := [.int (nI b)]) (st := []) X (ct_J6_bitCount_0f7a4 l d (nI b)) wd_688 wd_1042 wd_687 wd_66 hd_J6_bitCount_0f7a4 ⟨(Nat.le_of_ble_eq_true rfl), (Nat.le_of_ble_eq_true rfl)⟩ rfl rfl dX6_needed_51 ⟨(Nat.le_of_ble_eq_true rfl), (Nat.le_of_ble_eq_true rfl)⟩ rfl rfl (Nat.le_of_ble_eq_true rfl) [] [0, 1, 2, 3, 4, 5] rfl rfl rfl rfl rfl (by decide) [0, 1, 2, 3, 4, 5] rfl rfl rfl rfl ?_
              refine g_iload_n X dX6_needed_54 rfl 2 rfl ?_
              refine g_dS (n := 1) (wr := [(m0, cO 6 [.ref a0, .ref a1, .ref a2, .int (nI tn), .ref a4, .int (nI ap), .ref a6, .int (nI rn), .ref a8, .ref a9, .int im, .ref b1, .ref b2, .ref b3, .ref b4, .ref b5, .ref b6]), (a0, cI d 36 K), (a1, cI d 36 L), (a2, cI d 5 S), (a9, cI d 7 (rf7 Rf)), (b5, cI d 36 (dF (dsI K S (S 0))))]) (ws' := [(m0, cO 6 [.ref a0, .ref a1, .ref a2, .int (nI tn), .ref a4, .int (nI ap), .ref a6, .int (nI rn), .ref a8, .ref a9, .int im, .ref b1, .ref b2, .ref b3, .ref b4, .ref b5, .ref b6]), (a0, cI d 36 K), (a1, cI d 36 L), (a2, cI d 5 S), (a9, cI d 7 (rf7 Rf)), (b5, cI d 36 (dF (dsI K S (S 0))))]) (st' := [.int (bcI (nI f)), .int (bcI (nI b))]) (As := [.int (nI f)]) (st := [.int (bcI (nI b))]) X (ct_J6_bitCount_0f7a4 l d (nI f)) wd_688 wd_1042 wd_687 wd_66 hd_J6_bitCount_0f7a4 ⟨(Nat.le_of_ble_eq_true rfl), (Nat.le_of_ble_eq_true rfl)⟩ rfl rfl dX6_needed_55 ⟨(Nat.le_of_ble_eq_true rfl), (Nat.le_of_ble_eq_true rfl)⟩ rfl rfl (Nat.le_of_ble_eq_true rfl) [] [0, 1, 2, 3, 4, 5] rfl rfl rfl rfl rfl (by decide) [0, 1, 2, 3, 4, 5] rfl rfl rfl rfl ?_
              refine g_icmp_ge X 72 dX6_needed_58 (by decide) (fun c58_7 => ?_) (fun c58_7 => ?_)
              · refine g_iinc (v := nI (b + 1)) (lv' := [(3, .int (nI (b + 1))), (0, .ref m0), (1, .int (nI j_x)), (2, .int (nI f))]) X dX6_needed_72 3 rfl (nI_inc _) (by decide) rfl ?_
                refine g_goto X 38 dX6_needed_75 (by decide) ?_
                refine g_lv (lv' := [(0, .ref m0), (1, .int (nI j_x)), (2, .int (nI f)), (3, .int (nI (b + 1)))]) X [1, 2, 3, 0] rfl ?_
                exact g_eq (ws' := [(m0, cO 6 [.ref a0, .ref a1, .ref a2, .int (nI tn), .ref a4, .int (nI ap), .ref a6, .int (nI rn), .ref a8, .ref a9, .int im, .ref b1, .ref b2, .ref b3, .ref b4, .ref b5, .ref b6]), (a0, cI d 36 K), (a1, cI d 36 L), (a2, cI d 5 S), (a9, cI d 7 (rf7 Rf)), (b5, cI d 36 (dF (dsI K S (S 0))))]) (lv' := [(0, .ref m0), (1, .int (nI j_x)), (2, .int ((ftF (sg K (dsI K S (S 0))) L j_x (b + 1)).1)), (3, .int (nI (b + 1)))]) (rfl) (lv_cons (rfl) (lv_cons (rfl) (lv_cons (vI (hf1.symm.trans (congrArg Prod.fst (ftF_n (fun z => Int32.not_lt.mpr c58_7 (by have h9 := z.1; rw [hf2] at h9; exact h9)))).symm)) (lv_cons (rfl) (rfl))))) (ih_38 (b + 1) (by first | assumption | omega) (by omega))
              · refine g_aload_n X dX6_needed_61 rfl 0 rfl ?_
                refine g_iload_n X dX6_needed_62 rfl 1 rfl ?_
                refine g_iload_n X dX6_needed_63 rfl 3 rfl ?_
                refine g_dV (ci := 6) (q0 := 0) (n := 2) (wr := [(a2, cI d 5 S), (a9, cI d 7 (rf7 Rf))]) (ws' := [(m0, cO 6 [.ref a0, .ref a1, .ref a2, .int (nI tn), .ref a4, .int (nI ap), .ref a6, .int (nI rn), .ref a8, .ref a9, .int im, .ref b1, .ref b2, .ref b3, .ref b4, .ref b5, .ref b6]), (a0, cI d 36 K), (a1, cI d 36 L), (a2, cI d 5 S), (a9, cI d 7 (rf7 Rf)), (b5, cI d 36 (dF (dsI K S (S 0))))]) (st' := [.int (b2i (alone (sg K (dsI K S (S 0))) L b j_x))]) (As := [.int (nI j_x), .int (nI b)]) (st := []) X (ct_X6_isAlone l d m0 a0 a1 a2 a4 a6 a8 a9 b1 b2 b3 b4 b5 b6 K L tn ap rn im j_x b (dsI K S (S 0)) (hj_x) (by omega)) wd_1046 wd_1043 wd_1045 wd_48 wd_58 hd_X6_isAlone rfl ⟨(Nat.le_of_ble_eq_true rfl), (Nat.le_of_ble_eq_true rfl)⟩ rfl rfl dX6_needed_64 ⟨(Nat.le_of_ble_eq_true rfl), (Nat.le_of_ble_eq_true rfl)⟩ rfl rfl (Nat.le_of_ble_eq_true rfl) [0, 1, 2, 5] [3, 4] rfl rfl rfl rfl rfl (by decide) rfl [2, 3, 4, 0, 1, 5] rfl rfl rfl rfl ?_
                refine g_ifB_eq X 72 dX6_needed_67 (by decide) (fun c67_8 => ?_) (fun c67_8 => ?_)
                · refine g_iinc (v := nI (b + 1)) (lv' := [(3, .int (nI (b + 1))), (0, .ref m0), (1, .int (nI j_x)), (2, .int (nI f))]) X dX6_needed_72 3 rfl (nI_inc _) (by decide) rfl ?_
                  refine g_goto X 38 dX6_needed_75 (by decide) ?_
                  refine g_lv (lv' := [(0, .ref m0), (1, .int (nI j_x)), (2, .int (nI f)), (3, .int (nI (b + 1)))]) X [1, 2, 3, 0] rfl ?_
                  exact g_eq (ws' := [(m0, cO 6 [.ref a0, .ref a1, .ref a2, .int (nI tn), .ref a4, .int (nI ap), .ref a6, .int (nI rn), .ref a8, .ref a9, .int im, .ref b1, .ref b2, .ref b3, .ref b4, .ref b5, .ref b6]), (a0, cI d 36 K), (a1, cI d 36 L), (a2, cI d 5 S), (a9, cI d 7 (rf7 Rf)), (b5, cI d 36 (dF (dsI K S (S 0))))]) (lv' := [(0, .ref m0), (1, .int (nI j_x)), (2, .int ((ftF (sg K (dsI K S (S 0))) L j_x (b + 1)).1)), (3, .int (nI (b + 1)))]) (rfl) (lv_cons (rfl) (lv_cons (rfl) (lv_cons (vI (hf1.symm.trans (congrArg Prod.fst (ftF_n (fun z => c67_8 z.2))).symm)) (lv_cons (rfl) (rfl))))) (ih_38 (b + 1) (by first | assumption | omega) (by omega))
                · refine g_iload_n X dX6_needed_70 rfl 3 rfl ?_
                  refine g_istore_n (lv' := [(2, .int (nI b)), (0, .ref m0), (1, .int (nI j_x)), (3, .int (nI b))]) X dX6_needed_71 rfl (by decide) rfl ?_
                  refine g_iinc (v := nI (b + 1)) (lv' := [(3, .int (nI (b + 1))), (2, .int (nI b)), (0, .ref m0), (1, .int (nI j_x))]) X dX6_needed_72 3 rfl (nI_inc _) (by decide) rfl ?_
                  refine g_goto X 38 dX6_needed_75 (by decide) ?_
                  refine g_lv (lv' := [(0, .ref m0), (1, .int (nI j_x)), (2, .int (nI b)), (3, .int (nI (b + 1)))]) X [2, 3, 1, 0] rfl ?_
                  exact g_eq (ws' := [(m0, cO 6 [.ref a0, .ref a1, .ref a2, .int (nI tn), .ref a4, .int (nI ap), .ref a6, .int (nI rn), .ref a8, .ref a9, .int im, .ref b1, .ref b2, .ref b3, .ref b4, .ref b5, .ref b6]), (a0, cI d 36 K), (a1, cI d 36 L), (a2, cI d 5 S), (a9, cI d 7 (rf7 Rf)), (b5, cI d 36 (dF (dsI K S (S 0))))]) (lv' := [(0, .ref m0), (1, .int (nI j_x)), (2, .int ((ftF (sg K (dsI K S (S 0))) L j_x (b + 1)).1)), (3, .int (nI (b + 1)))]) (rfl) (lv_cons (rfl) (lv_cons (rfl) (lv_cons (vI ((congrArg Prod.fst (ftF_y (by rw [hf2]; exact Int32.not_le.mp c58_7) c67_8)).symm)) (lv_cons (rfl) (rfl))))) (ih_38 (b + 1) (by first | assumption | omega) (by omega))
      refine g_lv (lv' := [(0, .ref m0), (1, .int (nI j_x)), (2, .int (-9)), (3, .int 0)]) X [2, 3, 1, 0] rfl ?_
      exact g_eq (ws' := [(m0, cO 6 [.ref a0, .ref a1, .ref a2, .int (nI tn), .ref a4, .int (nI ap), .ref a6, .int (nI rn), .ref a8, .ref a9, .int im, .ref b1, .ref b2, .ref b3, .ref b4, .ref b5, .ref b6]), (a0, cI d 36 K), (a1, cI d 36 L), (a2, cI d 5 S), (a9, cI d 7 (rf7 Rf)), (b5, cI d 36 (dF (dsI K S (S 0))))]) (lv' := [(0, .ref m0), (1, .int (nI j_x)), (2, .int ((ftF (sg K (dsI K S (S 0))) L j_x 0).1)), (3, .int (nI 0))]) (rfl) (lv_cons (rfl) (lv_cons (rfl) (lv_cons (vI (by rfl)) (lv_cons (vI (by rfl)) (rfl))))) (at_38 _ 0 (by first | assumption | omega) (Nat.lt_succ_self _))
    · refine g_aload_n X dX6_needed_22 rfl 0 rfl ?_
      refine g_bipush (v := (-3)) X dX6_needed_23 (by decide) ?_
      refine g_dV (ci := 6) (q0 := 0) (n := 1) (wr := [(a0, cI d 36 K), (a1, cI d 36 L), (a2, cI d 5 S), (b5, cI d 36 H)]) (ws' := [(m0, cO 6 [.ref a0, .ref a1, .ref a2, .int (nI tn), .ref a4, .int (nI ap), .ref a6, .int (nI rn), .ref a8, .ref a9, .int im, .ref b1, .ref b2, .ref b3, .ref b4, .ref b5, .ref b6]), (a0, cI d 36 K), (a1, cI d 36 L), (a2, cI d 5 S), (a9, cI d 7 (rf7 (bmp Rf 3))), (b5, cI d 36 H)]) (st' := [.int (-3)]) (As := [.int (-3)]) (st := []) X (ct_X6_no_3 l d m0 a0 a1 a2 a4 a6 a8 a9 b1 b2 b3 b4 b5 b6 Rf tn ap rn im) wd_855 wd_852 wd_854 wd_25 wd_58 hd_X6_no rfl ⟨(Nat.le_of_ble_eq_true rfl), (Nat.le_of_ble_eq_true rfl)⟩ rfl rfl dX6_needed_25 ⟨(Nat.le_of_ble_eq_true rfl), (Nat.le_of_ble_eq_true rfl)⟩ rfl rfl (Nat.le_of_ble_eq_true rfl) [0, 4] [1, 2, 3, 5] rfl rfl rfl rfl rfl (by decide) rfl [4, 0, 1, 2, 5, 3] rfl rfl rfl rfl ?_
      have e_ : sp_needed (sg K (dsI K S (S 0))) L (nI j_x) = ((-3), 3) := needed_2 hj_x c19_2
      exact g_end X (gE_i dX6_needed_28 (rfl) (Nat.le_of_ble_eq_true rfl) (Nat.le_of_ble_eq_true rfl) ⟨H, congrArg (fun z => some (Value.int z)) (by rw [e_]), ws_cons (rfl) (ws_cons (rfl) (ws_cons (rfl) (ws_cons (rfl) (ws_cons (cI_eq (by first | (rw [e_]; done) | (rw [e_]; rfl) | (rw [e_]; simp only [ix, hcl_j_x, ↓reduceIte]; done) | simp [e_, *])) (ws_cons (rfl) (rfl))))))⟩)
  · refine g_aload_n X dX6_needed_7 rfl 0 rfl ?_
    refine g_iconst (v := (-1)) X dX6_needed_8 (by decide) ?_
    refine g_dV (ci := 6) (q0 := 0) (n := 1) (wr := [(a0, cI d 36 K), (a1, cI d 36 L), (a2, cI d 5 S), (b5, cI d 36 H)]) (ws' := [(m0, cO 6 [.ref a0, .ref a1, .ref a2, .int (nI tn), .ref a4, .int (nI ap), .ref a6, .int (nI rn), .ref a8, .ref a9, .int im, .ref b1, .ref b2, .ref b3, .ref b4, .ref b5, .ref b6]), (a0, cI d 36 K), (a1, cI d 36 L), (a2, cI d 5 S), (a9, cI d 7 (rf7 (bmp Rf 1))), (b5, cI d 36 H)]) (st' := [.int (-1)]) (As := [.int (-1)]) (st := []) X (ct_X6_no_1 l d m0 a0 a1 a2 a4 a6 a8 a9 b1 b2 b3 b4 b5 b6 Rf tn ap rn im) wd_855 wd_852 wd_854 wd_25 wd_58 hd_X6_no rfl ⟨(Nat.le_of_ble_eq_true rfl), (Nat.le_of_ble_eq_true rfl)⟩ rfl rfl dX6_needed_9 ⟨(Nat.le_of_ble_eq_true rfl), (Nat.le_of_ble_eq_true rfl)⟩ rfl rfl (Nat.le_of_ble_eq_true rfl) [0, 4] [1, 2, 3, 5] rfl rfl rfl rfl rfl (by decide) rfl [4, 0, 1, 2, 5, 3] rfl rfl rfl rfl ?_
    have e_ : sp_needed (sg K (dsI K S (S 0))) L x = ((-1), 1) := needed_1 (by assumption)
    exact g_end X (gE_i dX6_needed_12 (rfl) (Nat.le_of_ble_eq_true rfl) (Nat.le_of_ble_eq_true rfl) ⟨H, congrArg (fun z => some (Value.int z)) (by rw [e_]), ws_cons (rfl) (ws_cons (rfl) (ws_cons (rfl) (ws_cons (rfl) (ws_cons (cI_eq (by first | (rw [e_]; done) | (rw [e_]; rfl) | (rw [e_]; simp only [ix, ↓reduceIte]; done) | simp [e_, *])) (ws_cons (rfl) (rfl))))))⟩)
set_option maxHeartbeats 4000000 in
set_option maxRecDepth 20000 in
theorem ct_X6_alikeTo (l : Launch) (d : KD) (m0 a0 a1 a2 a4 a6 a8 a9 b1 b2 b3 b4 b5 b6 : Nat) (K L : Nat → Int32) (tn ap rn : Nat) (im : Int32) (j : Nat) (G : Nat → Nat) (hj : j < 36) (hL : ∀ q, lk9 (L q)) : Ct l d yX6_alikeTo cX6_alikeTo 4 (some .int) { frames := 2, cells := 0, slots := 0, locals := 45 } [.ref m0, .int (nI j)] [(m0, cO 6 [.ref a0, .ref a1, .ref a2, .int (nI tn), .ref a4, .int (nI ap), .ref a6, .int (nI rn), .ref a8, .ref a9, .int im, .ref b1, .ref b2, .ref b3, .ref b4, .ref b5, .ref b6]), (a0, cI d 36 K), (a1, cI d 36 L), (b5, cI d 36 (dF G))] 0 0 (fun r wo => r = some (.int (nI (alk (sg K G) L j))) ∧ wo = [(m0, cO 6 [.ref a0, .ref a1, .ref a2, .int (nI tn), .ref a4, .int (nI ap), .ref a6, .int (nI rn), .ref a8, .ref a9, .int im, .ref b1, .ref b2, .ref b3, .ref b4, .ref b5, .ref b6]), (a0, cI d 36 K), (a1, cI d 36 L), (b5, cI d 36 (dF G))]) := by
  refine ct_of (own := RX6) (ini := false) (by decide +kernel) rfl (fun h => by cases h) (Nat.le_of_ble_eq_true rfl) ?_
  intro g X
  show g 0 0 [(m0, cO 6 [.ref a0, .ref a1, .ref a2, .int (nI tn), .ref a4, .int (nI ap), .ref a6, .int (nI rn), .ref a8, .ref a9, .int im, .ref b1, .ref b2, .ref b3, .ref b4, .ref b5, .ref b6]), (a0, cI d 36 K), (a1, cI d 36 L), (b5, cI d 36 (dF G))] [(0, .ref m0), (1, .int (nI j))] 0 []
  refine g_iconst (v := 0) X dX6_alikeTo_0 (by decide) ?_
  refine g_istore_n (lv' := [(2, .int 0), (0, .ref m0), (1, .int (nI j))]) X dX6_alikeTo_1 rfl (by decide) rfl ?_
  refine g_iconst (v := 0) X dX6_alikeTo_2 (by decide) ?_
  refine g_istore_n (lv' := [(3, .int 0), (2, .int 0), (0, .ref m0), (1, .int (nI j))]) X dX6_alikeTo_3 rfl (by decide) rfl ?_
  have at_4 : ∀ (n_ : Nat) (q : Nat) (hq : q ≤ 36), (36 - q) < n_ → g 0 0 [(m0, cO 6 [.ref a0, .ref a1, .ref a2, .int (nI tn), .ref a4, .int (nI ap), .ref a6, .int (nI rn), .ref a8, .ref a9, .int im, .ref b1, .ref b2, .ref b3, .ref b4, .ref b5, .ref b6]), (a0, cI d 36 K), (a1, cI d 36 L), (b5, cI d 36 (dF G))] [(0, .ref m0), (1, .int (nI j)), (2, .int (nI (cnt (fun o => ¬ o = j ∧ ¬ L o = 0 ∧ (sg K G) 0 j = (sg K G) 0 o ∧ (sg K G) 4 j = (sg K G) 4 o) q))), (3, .int (nI q))] 4 [] := by
    intro n_
    induction n_ with
    | zero => intro q hq hn_; exact absurd hn_ (Nat.not_lt_zero _)
    | succ n_ ih_4 =>
      intro q hq hn_4
      refine g_iload_n X dX6_alikeTo_4 rfl 3 rfl ?_
      refine g_bipush (v := 36) X dX6_alikeTo_5 (by decide) ?_
      refine g_icmpN_ge (a := q) (b := 36) X rfl rfl (by omega) (by omega) 61 dX6_alikeTo_7 (by decide) (fun c7_1 => ?_) (fun c7_1 => ?_)
      · refine g_iload_n X dX6_alikeTo_61 rfl 2 rfl ?_
        exact g_end X (gE_i dX6_alikeTo_62 (rfl) (Nat.le_of_ble_eq_true rfl) (Nat.le_of_ble_eq_true rfl) ⟨congrArg (fun z => some (Value.int z)) (by rw [show q = 36 by omega]; rfl), rfl⟩)
      · refine g_iload_n X dX6_alikeTo_10 rfl 3 rfl ?_
        refine g_iload_n X dX6_alikeTo_11 rfl 1 rfl ?_
        refine g_icmpN_eq (a := q) (b := j) X rfl rfl (by omega) (by omega) 55 dX6_alikeTo_12 (by decide) (fun c12_2 => ?_) (fun c12_2 => ?_)
        · refine g_iinc (v := nI (q + 1)) (lv' := [(3, .int (nI (q + 1))), (0, .ref m0), (1, .int (nI j)), (2, .int (nI (cnt (fun o => ¬ o = j ∧ ¬ L o = 0 ∧ (sg K G) 0 j = (sg K G) 0 o ∧ (sg K G) 4 j = (sg K G) 4 o) q)))]) X dX6_alikeTo_55 3 rfl (nI_inc _) (by decide) rfl ?_
          refine g_goto X 4 dX6_alikeTo_58 (by decide) ?_
          refine g_lv (lv' := [(0, .ref m0), (1, .int (nI j)), (2, .int (nI (cnt (fun o => ¬ o = j ∧ ¬ L o = 0 ∧ (sg K G) 0 j = (sg K G) 0 o ∧ (sg K G) 4 j = (sg K G) 4 o) q))), (3, .int (nI (q + 1)))]) X [1, 2, 3, 0] rfl ?_
          exact g_eq (ws' := [(m0, cO 6 [.ref a0, .ref a1, .ref a2, .int (nI tn), .ref a4, .int (nI ap), .ref a6, .int (nI rn), .ref a8, .ref a9, .int im, .ref b1, .ref b2, .ref b3, .ref b4, .ref b5, .ref b6]), (a0, cI d 36 K), (a1, cI d 36 L), (b5, cI d 36 (dF G))]) (lv' := [(0, .ref m0), (1, .int (nI j)), (2, .int (nI (cnt (fun o => ¬ o = j ∧ ¬ L o = 0 ∧ (sg K G) 0 j = (sg K G) 0 o ∧ (sg K G) 4 j = (sg K G) 4 o) (q + 1)))), (3, .int (nI (q + 1)))]) (rfl) (lv_cons (rfl) (lv_cons (rfl) (lv_cons (vI (cnt_F (p := (fun o => ¬ o = j ∧ ¬ L o = 0 ∧ (sg K G) 0 j = (sg K G) 0 o ∧ (sg K G) 4 j = (sg K G) 4 o)) (fun z => z.1 c12_2))) (lv_cons (rfl) (rfl))))) (ih_4 (q + 1) (by first | assumption | omega) (by omega))
        · refine g_aload_n X dX6_alikeTo_15 rfl 0 rfl ?_
          refine g_get (C := RX6) (T := TX6) (N := 17) (ci := 6) (v := .ref a1) X rfl inT6 1 (by decide) wd_797 rfl dX6_alikeTo_16 0 rfl rfl ?_
          refine g_iload_n X dX6_alikeTo_19 rfl 3 rfl ?_
          refine g_iaload_N (k := q) X rfl dX6_alikeTo_20 2 rfl (by first | assumption | omega) (by omega) ?_
          refine g_if_le X 55 dX6_alikeTo_21 (by decide) (fun c21_3 => ?_) (fun c21_3 => ?_)
          · refine g_iinc (v := nI (q + 1)) (lv' := [(3, .int (nI (q + 1))), (0, .ref m0), (1, .int (nI j)), (2, .int (nI (cnt (fun o => ¬ o = j ∧ ¬ L o = 0 ∧ (sg K G) 0 j = (sg K G) 0 o ∧ (sg K G) 4 j = (sg K G) 4 o) q)))]) X dX6_alikeTo_55 3 rfl (nI_inc _) (by decide) rfl ?_
            refine g_goto X 4 dX6_alikeTo_58 (by decide) ?_
            refine g_lv (lv' := [(0, .ref m0), (1, .int (nI j)), (2, .int (nI (cnt (fun o => ¬ o = j ∧ ¬ L o = 0 ∧ (sg K G) 0 j = (sg K G) 0 o ∧ (sg K G) 4 j = (sg K G) 4 o) q))), (3, .int (nI (q + 1)))]) X [1, 2, 3, 0] rfl ?_
            exact g_eq (ws' := [(m0, cO 6 [.ref a0, .ref a1, .ref a2, .int (nI tn), .ref a4, .int (nI ap), .ref a6, .int (nI rn), .ref a8, .ref a9, .int im, .ref b1, .ref b2, .ref b3, .ref b4, .ref b5, .ref b6]), (a0, cI d 36 K), (a1, cI d 36 L), (b5, cI d 36 (dF G))]) (lv' := [(0, .ref m0), (1, .int (nI j)), (2, .int (nI (cnt (fun o => ¬ o = j ∧ ¬ L o = 0 ∧ (sg K G) 0 j = (sg K G) 0 o ∧ (sg K G) 4 j = (sg K G) 4 o) (q + 1)))), (3, .int (nI (q + 1)))]) (rfl) (lv_cons (rfl) (lv_cons (rfl) (lv_cons (vI (cnt_F (p := (fun o => ¬ o = j ∧ ¬ L o = 0 ∧ (sg K G) 0 j = (sg K G) 0 o ∧ (sg K G) 4 j = (sg K G) 4 o)) (fun z => z.2.1 (lk9_0 (hL q) (Int32.not_lt.mpr c21_3))))) (lv_cons (rfl) (rfl))))) (ih_4 (q + 1) (by first | assumption | omega) (by omega))
          · refine g_aload_n X dX6_alikeTo_24 rfl 0 rfl ?_
            refine g_get (C := RX6) (T := TX6) (N := 17) (ci := 6) (v := .ref b5) X rfl inT6 15 (by decide) wd_811 rfl dX6_alikeTo_25 0 rfl rfl ?_
            refine g_iload_n X dX6_alikeTo_28 rfl 3 rfl ?_
            refine g_iaload_N (k := q) X rfl dX6_alikeTo_29 3 rfl (by first | assumption | omega) (by omega) ?_
            refine g_aload_n X dX6_alikeTo_30 rfl 0 rfl ?_
            refine g_get (C := RX6) (T := TX6) (N := 17) (ci := 6) (v := .ref b5) X rfl inT6 15 (by decide) wd_811 rfl dX6_alikeTo_31 0 rfl rfl ?_
            refine g_iload_n X dX6_alikeTo_34 rfl 1 rfl ?_
            refine g_iaload_N (k := j) X rfl dX6_alikeTo_35 3 rfl (by first | assumption | omega) (by omega) ?_
            refine g_icmp_ne X 55 dX6_alikeTo_36 (by decide) (fun c36_4 => ?_) (fun c36_4 => ?_)
            · refine g_iinc (v := nI (q + 1)) (lv' := [(3, .int (nI (q + 1))), (0, .ref m0), (1, .int (nI j)), (2, .int (nI (cnt (fun o => ¬ o = j ∧ ¬ L o = 0 ∧ (sg K G) 0 j = (sg K G) 0 o ∧ (sg K G) 4 j = (sg K G) 4 o) q)))]) X dX6_alikeTo_55 3 rfl (nI_inc _) (by decide) rfl ?_
              refine g_goto X 4 dX6_alikeTo_58 (by decide) ?_
              refine g_lv (lv' := [(0, .ref m0), (1, .int (nI j)), (2, .int (nI (cnt (fun o => ¬ o = j ∧ ¬ L o = 0 ∧ (sg K G) 0 j = (sg K G) 0 o ∧ (sg K G) 4 j = (sg K G) 4 o) q))), (3, .int (nI (q + 1)))]) X [1, 2, 3, 0] rfl ?_
              exact g_eq (ws' := [(m0, cO 6 [.ref a0, .ref a1, .ref a2, .int (nI tn), .ref a4, .int (nI ap), .ref a6, .int (nI rn), .ref a8, .ref a9, .int im, .ref b1, .ref b2, .ref b3, .ref b4, .ref b5, .ref b6]), (a0, cI d 36 K), (a1, cI d 36 L), (b5, cI d 36 (dF G))]) (lv' := [(0, .ref m0), (1, .int (nI j)), (2, .int (nI (cnt (fun o => ¬ o = j ∧ ¬ L o = 0 ∧ (sg K G) 0 j = (sg K G) 0 o ∧ (sg K G) 4 j = (sg K G) 4 o) (q + 1)))), (3, .int (nI (q + 1)))]) (rfl) (lv_cons (rfl) (lv_cons (rfl) (lv_cons (vI (cnt_F (p := (fun o => ¬ o = j ∧ ¬ L o = 0 ∧ (sg K G) 0 j = (sg K G) 0 o ∧ (sg K G) 4 j = (sg K G) 4 o)) (fun z => c36_4 z.2.2.1.symm))) (lv_cons (rfl) (rfl))))) (ih_4 (q + 1) (by first | assumption | omega) (by omega))
            · refine g_aload_n X dX6_alikeTo_39 rfl 0 rfl ?_
              refine g_iload_n X dX6_alikeTo_40 rfl 3 rfl ?_
              refine g_dV (ci := 6) (q0 := 0) (n := 1) (wr := [(a1, cI d 36 L), (b5, cI d 36 (dF G))]) (ws' := [(m0, cO 6 [.ref a0, .ref a1, .ref a2, .int (nI tn), .ref a4, .int (nI ap), .ref a6, .int (nI rn), .ref a8, .ref a9, .int im, .ref b1, .ref b2, .ref b3, .ref b4, .ref b5, .ref b6]), (a0, cI d 36 K), (a1, cI d 36 L), (b5, cI d 36 (dF G))]) (st' := [.int (nI (cnt (fun w => nb q w < 36 ∧ (K (nb q w) = 1 ∨ K (nb q w) = 2)) 4))]) (As := [.int (nI q)]) (st := []) X (ct_X6_sandAt l d m0 a0 a1 a2 a4 a6 a8 a9 b1 b2 b3 b4 b5 b6 K tn ap rn im q (by first | assumption | omega)) wd_923 wd_920 wd_922 wd_38 wd_58 hd_X6_sandAt rfl ⟨(Nat.le_of_ble_eq_true rfl), (Nat.le_of_ble_eq_true rfl)⟩ rfl rfl dX6_alikeTo_41 ⟨(Nat.le_of_ble_eq_true rfl), (Nat.le_of_ble_eq_true rfl)⟩ rfl rfl (Nat.le_of_ble_eq_true rfl) [0, 1] [2, 3] rfl rfl rfl rfl rfl (by decide) rfl [2, 3, 0, 1] rfl rfl rfl rfl ?_
              refine g_aload_n X dX6_alikeTo_44 rfl 0 rfl ?_
              refine g_iload_n X dX6_alikeTo_45 rfl 1 rfl ?_
              refine g_dV (ci := 6) (q0 := 0) (n := 1) (wr := [(a1, cI d 36 L), (b5, cI d 36 (dF G))]) (ws' := [(m0, cO 6 [.ref a0, .ref a1, .ref a2, .int (nI tn), .ref a4, .int (nI ap), .ref a6, .int (nI rn), .ref a8, .ref a9, .int im, .ref b1, .ref b2, .ref b3, .ref b4, .ref b5, .ref b6]), (a0, cI d 36 K), (a1, cI d 36 L), (b5, cI d 36 (dF G))]) (st' := [.int (nI (cnt (fun w => nb j w < 36 ∧ (K (nb j w) = 1 ∨ K (nb j w) = 2)) 4)), .int (nI (cnt (fun w => nb q w < 36 ∧ (K (nb q w) = 1 ∨ K (nb q w) = 2)) 4))]) (As := [.int (nI j)]) (st := [.int (nI (cnt (fun w => nb q w < 36 ∧ (K (nb q w) = 1 ∨ K (nb q w) = 2)) 4))]) X (ct_X6_sandAt l d m0 a0 a1 a2 a4 a6 a8 a9 b1 b2 b3 b4 b5 b6 K tn ap rn im j (by first | assumption | omega)) wd_923 wd_920 wd_922 wd_38 wd_58 hd_X6_sandAt rfl ⟨(Nat.le_of_ble_eq_true rfl), (Nat.le_of_ble_eq_true rfl)⟩ rfl rfl dX6_alikeTo_46 ⟨(Nat.le_of_ble_eq_true rfl), (Nat.le_of_ble_eq_true rfl)⟩ rfl rfl (Nat.le_of_ble_eq_true rfl) [0, 1] [2, 3] rfl rfl rfl rfl rfl (by decide) rfl [2, 3, 0, 1] rfl rfl rfl rfl ?_
              have hb1 : cnt (fun w => nb q w < 36 ∧ (K (nb q w) = 1 ∨ K (nb q w) = 2)) 4 ≤ 4 := cnt_le _ 4
              have hb2 : cnt (fun w => nb j w < 36 ∧ (K (nb j w) = 1 ∨ K (nb j w) = 2)) 4 ≤ 4 := cnt_le _ 4
              refine g_icmpN_ne (a := (cnt (fun w => nb q w < 36 ∧ (K (nb q w) = 1 ∨ K (nb q w) = 2)) 4)) (b := (cnt (fun w => nb j w < 36 ∧ (K (nb j w) = 1 ∨ K (nb j w) = 2)) 4)) X rfl rfl (by omega) (by omega) 55 dX6_alikeTo_49 (by decide) (fun c49_5 => ?_) (fun c49_5 => ?_)
              · have hs49 : ¬ (sg K G) 4 j = (sg K G) 4 q := fun z => c49_5 ((nI_eq (by omega) (by omega)).mp z).symm
                refine g_iinc (v := nI (q + 1)) (lv' := [(3, .int (nI (q + 1))), (0, .ref m0), (1, .int (nI j)), (2, .int (nI (cnt (fun o => ¬ o = j ∧ ¬ L o = 0 ∧ (sg K G) 0 j = (sg K G) 0 o ∧ (sg K G) 4 j = (sg K G) 4 o) q)))]) X dX6_alikeTo_55 3 rfl (nI_inc _) (by decide) rfl ?_
                refine g_goto X 4 dX6_alikeTo_58 (by decide) ?_
                refine g_lv (lv' := [(0, .ref m0), (1, .int (nI j)), (2, .int (nI (cnt (fun o => ¬ o = j ∧ ¬ L o = 0 ∧ (sg K G) 0 j = (sg K G) 0 o ∧ (sg K G) 4 j = (sg K G) 4 o) q))), (3, .int (nI (q + 1)))]) X [1, 2, 3, 0] rfl ?_
                exact g_eq (ws' := [(m0, cO 6 [.ref a0, .ref a1, .ref a2, .int (nI tn), .ref a4, .int (nI ap), .ref a6, .int (nI rn), .ref a8, .ref a9, .int im, .ref b1, .ref b2, .ref b3, .ref b4, .ref b5, .ref b6]), (a0, cI d 36 K), (a1, cI d 36 L), (b5, cI d 36 (dF G))]) (lv' := [(0, .ref m0), (1, .int (nI j)), (2, .int (nI (cnt (fun o => ¬ o = j ∧ ¬ L o = 0 ∧ (sg K G) 0 j = (sg K G) 0 o ∧ (sg K G) 4 j = (sg K G) 4 o) (q + 1)))), (3, .int (nI (q + 1)))]) (rfl) (lv_cons (rfl) (lv_cons (rfl) (lv_cons (vI (cnt_F (p := (fun o => ¬ o = j ∧ ¬ L o = 0 ∧ (sg K G) 0 j = (sg K G) 0 o ∧ (sg K G) 4 j = (sg K G) 4 o)) (fun z => hs49 z.2.2.2))) (lv_cons (rfl) (rfl))))) (ih_4 (q + 1) (by first | assumption | omega) (by omega))
              · have hs49 : (sg K G) 4 j = (sg K G) 4 q := (congrArg nI c49_5).symm
                refine g_iinc (v := nI (cnt (fun o => ¬ o = j ∧ ¬ L o = 0 ∧ (sg K G) 0 j = (sg K G) 0 o ∧ (sg K G) 4 j = (sg K G) 4 o) q + 1)) (lv' := [(2, .int (nI (cnt (fun o => ¬ o = j ∧ ¬ L o = 0 ∧ (sg K G) 0 j = (sg K G) 0 o ∧ (sg K G) 4 j = (sg K G) 4 o) q + 1))), (0, .ref m0), (1, .int (nI j)), (3, .int (nI q))]) X dX6_alikeTo_52 2 rfl (nI_inc _) (by decide) rfl ?_
                refine g_iinc (v := nI (q + 1)) (lv' := [(3, .int (nI (q + 1))), (2, .int (nI (cnt (fun o => ¬ o = j ∧ ¬ L o = 0 ∧ (sg K G) 0 j = (sg K G) 0 o ∧ (sg K G) 4 j = (sg K G) 4 o) q + 1))), (0, .ref m0), (1, .int (nI j))]) X dX6_alikeTo_55 3 rfl (nI_inc _) (by decide) rfl ?_
                refine g_goto X 4 dX6_alikeTo_58 (by decide) ?_
                refine g_lv (lv' := [(0, .ref m0), (1, .int (nI j)), (2, .int (nI (cnt (fun o => ¬ o = j ∧ ¬ L o = 0 ∧ (sg K G) 0 j = (sg K G) 0 o ∧ (sg K G) 4 j = (sg K G) 4 o) q + 1))), (3, .int (nI (q + 1)))]) X [2, 3, 1, 0] rfl ?_
                exact g_eq (ws' := [(m0, cO 6 [.ref a0, .ref a1, .ref a2, .int (nI tn), .ref a4, .int (nI ap), .ref a6, .int (nI rn), .ref a8, .ref a9, .int im, .ref b1, .ref b2, .ref b3, .ref b4, .ref b5, .ref b6]), (a0, cI d 36 K), (a1, cI d 36 L), (b5, cI d 36 (dF G))]) (lv' := [(0, .ref m0), (1, .int (nI j)), (2, .int (nI (cnt (fun o => ¬ o = j ∧ ¬ L o = 0 ∧ (sg K G) 0 j = (sg K G) 0 o ∧ (sg K G) 4 j = (sg K G) 4 o) (q + 1)))), (3, .int (nI (q + 1)))]) (rfl) (lv_cons (rfl) (lv_cons (rfl) (lv_cons (vI (cnt_T (p := (fun o => ¬ o = j ∧ ¬ L o = 0 ∧ (sg K G) 0 j = (sg K G) 0 o ∧ (sg K G) 4 j = (sg K G) 4 o)) ⟨c12_2, (lk9_p (hL q)).mp (Int32.not_le.mp c21_3), c36_4.symm, hs49⟩)) (lv_cons (rfl) (rfl))))) (ih_4 (q + 1) (by first | assumption | omega) (by omega))
  refine g_lv (lv' := [(0, .ref m0), (1, .int (nI j)), (2, .int 0), (3, .int 0)]) X [2, 3, 1, 0] rfl ?_
  exact g_eq (ws' := [(m0, cO 6 [.ref a0, .ref a1, .ref a2, .int (nI tn), .ref a4, .int (nI ap), .ref a6, .int (nI rn), .ref a8, .ref a9, .int im, .ref b1, .ref b2, .ref b3, .ref b4, .ref b5, .ref b6]), (a0, cI d 36 K), (a1, cI d 36 L), (b5, cI d 36 (dF G))]) (lv' := [(0, .ref m0), (1, .int (nI j)), (2, .int (nI (cnt (fun o => ¬ o = j ∧ ¬ L o = 0 ∧ (sg K G) 0 j = (sg K G) 0 o ∧ (sg K G) 4 j = (sg K G) 4 o) 0))), (3, .int (nI 0))]) (rfl) (lv_cons (rfl) (lv_cons (rfl) (lv_cons (vI (by rfl)) (lv_cons (vI (by rfl)) (rfl))))) (at_4 _ 0 (by first | assumption | omega) (Nat.lt_succ_self _))
set_option maxHeartbeats 4000000 in
set_option maxRecDepth 20000 in
theorem ct_X6_hide (l : Launch) (d : KD) (m0 a0 a1 a2 a4 a6 a8 a9 b1 b2 b3 b4 b5 b6 : Nat) (K L S Rf H : Nat → Int32) (tn ap rn : Nat) (im : Int32) (x : Int32) (hh : sq (S 0)) (hL : ∀ q, lk9 (L q)) : Ct l d yX6_hide cX6_hide 4 (some .int) { frames := 3, cells := 0, slots := 0, locals := 69 } [.ref m0, .int x] [(m0, cO 6 [.ref a0, .ref a1, .ref a2, .int (nI tn), .ref a4, .int (nI ap), .ref a6, .int (nI rn), .ref a8, .ref a9, .int im, .ref b1, .ref b2, .ref b3, .ref b4, .ref b5, .ref b6]), (a0, cI d 36 K), (a1, cI d 36 L), (a2, cI d 5 S), (a9, cI d 7 (rf7 Rf)), (b5, cI d 36 H)] 0 0 (fun r wo => ∃ (H' : Nat → Int32), r = some (.int ((sp_hide (sg K (dsI K S (S 0))) L x).1)) ∧ wo = [(m0, cO 6 [.ref a0, .ref a1, .ref a2, .int (nI tn), .ref a4, .int (nI ap), .ref a6, .int (nI rn), .ref a8, .ref a9, .int im, .ref b1, .ref b2, .ref b3, .ref b4, .ref b5, .ref b6]), (a0, cI d 36 K), (a1, cI d 36 L), (a2, cI d 5 S), (a9, cI d 7 (rf7 (bmp Rf (sp_hide (sg K (dsI K S (S 0))) L x).2))), (b5, cI d 36 H')]) := by
  refine ct_of (own := RX6) (ini := false) (by decide +kernel) rfl (fun h => by cases h) (Nat.le_of_ble_eq_true rfl) ?_
  intro g X
  show g 0 0 [(m0, cO 6 [.ref a0, .ref a1, .ref a2, .int (nI tn), .ref a4, .int (nI ap), .ref a6, .int (nI rn), .ref a8, .ref a9, .int im, .ref b1, .ref b2, .ref b3, .ref b4, .ref b5, .ref b6]), (a0, cI d 36 K), (a1, cI d 36 L), (a2, cI d 5 S), (a9, cI d 7 (rf7 Rf)), (b5, cI d 36 H)] [(0, .ref m0), (1, .int x)] 0 []
  refine g_iload_n X dX6_hide_0 rfl 1 rfl ?_
  refine g_iconst (v := 0) X dX6_hide_1 (by decide) ?_
  refine g_iconst (v := 1) X dX6_hide_2 (by decide) ?_
  refine g_dS (n := 3) (wr := [(m0, cO 6 [.ref a0, .ref a1, .ref a2, .int (nI tn), .ref a4, .int (nI ap), .ref a6, .int (nI rn), .ref a8, .ref a9, .int im, .ref b1, .ref b2, .ref b3, .ref b4, .ref b5, .ref b6]), (a0, cI d 36 K), (a1, cI d 36 L), (a2, cI d 5 S), (a9, cI d 7 (rf7 Rf)), (b5, cI d 36 H)]) (ws' := [(m0, cO 6 [.ref a0, .ref a1, .ref a2, .int (nI tn), .ref a4, .int (nI ap), .ref a6, .int (nI rn), .ref a8, .ref a9, .int im, .ref b1, .ref b2, .ref b3, .ref b4, .ref b5, .ref b6]), (a0, cI d 36 K), (a1, cI d 36 L), (a2, cI d 5 S), (a9, cI d 7 (rf7 Rf)), (b5, cI d 36 H)]) (st' := [.int (b2i (x = 0 ∨ x = 1))]) (As := [.int x, .int 0, .int 1]) (st := []) X (ct_X6_within_2 l d x) wd_887 wd_885 wd_886 wd_58 hd_X6_within ⟨(Nat.le_of_ble_eq_true rfl), (Nat.le_of_ble_eq_true rfl)⟩ rfl rfl dX6_hide_3 ⟨(Nat.le_of_ble_eq_true rfl), (Nat.le_of_ble_eq_true rfl)⟩ rfl rfl (Nat.le_of_ble_eq_true rfl) [] [0, 1, 2, 3, 4, 5] rfl rfl rfl rfl rfl (by decide) [0, 1, 2, 3, 4, 5] rfl rfl rfl rfl ?_
  refine g_ifB_ne X 16 dX6_hide_6 (by decide) (fun c6_1 => ?_) (fun c6_1 => ?_)
  · have ho := c6_1
    refine g_aload_n X dX6_hide_16 rfl 0 rfl ?_
    refine g_dV (ci := 6) (q0 := 0) (n := 0) (wr := [(a1, cI d 36 L), (a9, cI d 7 (rf7 Rf))]) (ws' := [(m0, cO 6 [.ref a0, .ref a1, .ref a2, .int (nI tn), .ref a4, .int (nI ap), .ref a6, .int (nI rn), .ref a8, .ref a9, .int im, .ref b1, .ref b2, .ref b3, .ref b4, .ref b5, .ref b6]), (a0, cI d 36 K), (a1, cI d 36 L), (a2, cI d 5 S), (a9, cI d 7 (rf7 Rf)), (b5, cI d 36 (dF (dsI K S (S 0))))]) (st' := []) (As := []) (st := []) X (ct_X6_fromHome l d m0 a0 a1 a2 a4 a6 a8 a9 b1 b2 b3 b4 b5 b6 K S H tn ap rn im (by first | assumption | omega)) wd_900 wd_897 wd_899 wd_33 wd_58 hd_X6_fromHome rfl ⟨(Nat.le_of_ble_eq_true rfl), (Nat.le_of_ble_eq_true rfl)⟩ rfl rfl dX6_hide_17 ⟨(Nat.le_of_ble_eq_true rfl), (Nat.le_of_ble_eq_true rfl)⟩ rfl rfl (Nat.le_of_ble_eq_true rfl) [0, 1, 3, 5] [2, 4] rfl rfl rfl rfl rfl (by decide) rfl [2, 3, 0, 4, 1, 5] rfl rfl rfl rfl ?_
    refine g_bipush (v := (-9)) X dX6_hide_20 (by decide) ?_
    refine g_istore_n (lv' := [(2, .int (-9)), (0, .ref m0), (1, .int x)]) X dX6_hide_22 rfl (by decide) rfl ?_
    refine g_iconst (v := 0) X dX6_hide_23 (by decide) ?_
    refine g_istore_n (lv' := [(3, .int 0), (2, .int (-9)), (0, .ref m0), (1, .int x)]) X dX6_hide_24 rfl (by decide) rfl ?_
    have at_25 : ∀ (n_ : Nat) (i : Nat) (hi : i ≤ 36), (36 - i) < n_ → g 0 0 [(m0, cO 6 [.ref a0, .ref a1, .ref a2, .int (nI tn), .ref a4, .int (nI ap), .ref a6, .int (nI rn), .ref a8, .ref a9, .int im, .ref b1, .ref b2, .ref b3, .ref b4, .ref b5, .ref b6]), (a0, cI d 36 K), (a1, cI d 36 L), (a2, cI d 5 S), (a9, cI d 7 (rf7 Rf)), (b5, cI d 36 (dF (dsI K S (S 0))))] [(0, .ref m0), (1, .int x), (2, .int ((bhF (sg K (dsI K S (S 0))) L i).1)), (3, .int (nI i))] 25 [] := by
      intro n_
      induction n_ with
      | zero => intro i hi hn_; exact absurd hn_ (Nat.not_lt_zero _)
      | succ n_ ih_25 =>
        intro i hi hn_25
        have hbh := bhF_i2 (T := (sg K (dsI K S (S 0)))) (L := L) i hi
        have hbh9 : (bhF (sg K (dsI K S (S 0))) L i).1 = -9 → (bhF (sg K (dsI K S (S 0))) L i).2 = -1 := fun z => hbh.elim (fun y => y.2) (fun ⟨f, h1, h2, _⟩ => absurd (h2.symm.trans z) (nI_ne_m9 (by omega)))
        refine g_iload_n X dX6_hide_25 rfl 3 rfl ?_
        refine g_bipush (v := 36) X dX6_hide_26 (by decide) ?_
        refine g_icmpN_ge (a := i) (b := 36) X rfl rfl (by omega) (by omega) 67 dX6_hide_28 (by decide) (fun c28_2 => ?_) (fun c28_2 => ?_)
        · obtain rfl : i = 36 := by omega
          refine g_iload_n X dX6_hide_67 rfl 2 rfl ?_
          refine g_bipush (v := (-9)) X dX6_hide_68 (by decide) ?_
          refine g_icmp_eq X 77 dX6_hide_70 (by decide) (fun c70_3 => ?_) (fun c70_3 => ?_)
          · have hf70 := c70_3
            refine g_iload_n X dX6_hide_77 rfl 2 rfl ?_
            refine g_goto X 86 dX6_hide_78 (by decide) ?_
            have e_ : sp_hide (sg K (dsI K S (S 0))) L x = ((bhF (sg K (dsI K S (S 0))) L 36).1, 0) := hide_2 ho (Or.inl hf70)
            exact g_end X (gE_i dX6_hide_86 (rfl) (Nat.le_of_ble_eq_true rfl) (Nat.le_of_ble_eq_true rfl) ⟨(dF (dsI K S (S 0))), congrArg (fun z => some (Value.int z)) (by rw [e_]), ws_cons (rfl) (ws_cons (rfl) (ws_cons (rfl) (ws_cons (rfl) (ws_cons (cI_eq (by first | (rw [e_]; done) | (rw [e_]; rfl) | (rw [e_]; simp only [ix, ↓reduceIte]; done) | simp [e_, *])) (ws_cons (rfl) (rfl))))))⟩)
          · have hf70 := c70_3
            refine g_iload_n X dX6_hide_73 rfl 1 rfl ?_
            refine g_if_ne X 81 dX6_hide_74 (by decide) (fun c74_5 => ?_) (fun c74_5 => ?_)
            · obtain ⟨f, hf0, hf1, hf2⟩ := hbh.elim (fun z => absurd z.1 hf70) id
              refine g_eq (lv' := [(0, .ref m0), (1, .int x), (2, .int (nI f)), (3, .int (nI 36))]) rfl (lv_cons (rfl) (lv_cons (rfl) (lv_cons (vI (hf1)) (lv_cons (rfl) (rfl))))) ?_
              refine g_aload_n X dX6_hide_81 rfl 0 rfl ?_
              refine g_iload_n X dX6_hide_82 rfl 2 rfl ?_
              refine g_dV (ci := 6) (q0 := 0) (n := 1) (wr := [(a2, cI d 5 S), (a9, cI d 7 (rf7 Rf))]) (ws' := [(m0, cO 6 [.ref a0, .ref a1, .ref a2, .int (nI tn), .ref a4, .int (nI ap), .ref a6, .int (nI rn), .ref a8, .ref a9, .int im, .ref b1, .ref b2, .ref b3, .ref b4, .ref b5, .ref b6]), (a0, cI d 36 K), (a1, cI d 36 L), (a2, cI d 5 S), (a9, cI d 7 (rf7 Rf)), (b5, cI d 36 (dF (dsI K S (S 0))))]) (st' := [.int (nI (alk (sg K (dsI K S (S 0))) L f))]) (As := [.int (nI f)]) (st := []) X (ct_X6_alikeTo l d m0 a0 a1 a2 a4 a6 a8 a9 b1 b2 b3 b4 b5 b6 K L tn ap rn im f (dsI K S (S 0)) (by omega) (by first | assumption | omega)) wd_1058 wd_1055 wd_1057 wd_49 wd_58 hd_X6_alikeTo rfl ⟨(Nat.le_of_ble_eq_true rfl), (Nat.le_of_ble_eq_true rfl)⟩ rfl rfl dX6_hide_83 ⟨(Nat.le_of_ble_eq_true rfl), (Nat.le_of_ble_eq_true rfl)⟩ rfl rfl (Nat.le_of_ble_eq_true rfl) [0, 1, 2, 5] [3, 4] rfl rfl rfl rfl rfl (by decide) rfl [2, 3, 4, 0, 1, 5] rfl rfl rfl rfl ?_
              have e_ : sp_hide (sg K (dsI K S (S 0))) L x = (nI (alk (sg K (dsI K S (S 0))) L f), 0) := hide_3 ho hf0 hf1 c74_5
              exact g_end X (gE_i dX6_hide_86 (rfl) (Nat.le_of_ble_eq_true rfl) (Nat.le_of_ble_eq_true rfl) ⟨(dF (dsI K S (S 0))), congrArg (fun z => some (Value.int z)) (by rw [e_]), ws_cons (rfl) (ws_cons (rfl) (ws_cons (rfl) (ws_cons (rfl) (ws_cons (cI_eq (by first | (rw [e_]; done) | (rw [e_]; rfl) | (rw [e_]; simp only [ix, ↓reduceIte]; done) | simp [e_, *])) (ws_cons (rfl) (rfl))))))⟩)
            · refine g_iload_n X dX6_hide_77 rfl 2 rfl ?_
              refine g_goto X 86 dX6_hide_78 (by decide) ?_
              have e_ : sp_hide (sg K (dsI K S (S 0))) L x = ((bhF (sg K (dsI K S (S 0))) L 36).1, 0) := hide_2 ho (Or.inr c74_5)
              exact g_end X (gE_i dX6_hide_86 (rfl) (Nat.le_of_ble_eq_true rfl) (Nat.le_of_ble_eq_true rfl) ⟨(dF (dsI K S (S 0))), congrArg (fun z => some (Value.int z)) (by rw [e_]), ws_cons (rfl) (ws_cons (rfl) (ws_cons (rfl) (ws_cons (rfl) (ws_cons (cI_eq (by first | (rw [e_]; done) | (rw [e_]; rfl) | (rw [e_]; simp only [ix, ↓reduceIte]; done) | simp [e_, *])) (ws_cons (rfl) (rfl))))))⟩)
        · refine g_aload_n X dX6_hide_31 rfl 0 rfl ?_
          refine g_get (C := RX6) (T := TX6) (N := 17) (ci := 6) (v := .ref a1) X rfl inT6 1 (by decide) wd_797 rfl dX6_hide_32 0 rfl rfl ?_
          refine g_iload_n X dX6_hide_35 rfl 3 rfl ?_
          refine g_iaload_N (k := i) X rfl dX6_hide_36 2 rfl (by first | assumption | omega) (by omega) ?_
          refine g_if_le X 61 dX6_hide_37 (by decide) (fun c37_8 => ?_) (fun c37_8 => ?_)
          · refine g_iinc (v := nI (i + 1)) (lv' := [(3, .int (nI (i + 1))), (0, .ref m0), (1, .int x), (2, .int ((bhF (sg K (dsI K S (S 0))) L i).1))]) X dX6_hide_61 3 rfl (nI_inc _) (by decide) rfl ?_
            refine g_goto X 25 dX6_hide_64 (by decide) ?_
            refine g_lv (lv' := [(0, .ref m0), (1, .int x), (2, .int ((bhF (sg K (dsI K S (S 0))) L i).1)), (3, .int (nI (i + 1)))]) X [1, 2, 3, 0] rfl ?_
            exact g_eq (ws' := [(m0, cO 6 [.ref a0, .ref a1, .ref a2, .int (nI tn), .ref a4, .int (nI ap), .ref a6, .int (nI rn), .ref a8, .ref a9, .int im, .ref b1, .ref b2, .ref b3, .ref b4, .ref b5, .ref b6]), (a0, cI d 36 K), (a1, cI d 36 L), (a2, cI d 5 S), (a9, cI d 7 (rf7 Rf)), (b5, cI d 36 (dF (dsI K S (S 0))))]) (lv' := [(0, .ref m0), (1, .int x), (2, .int ((bhF (sg K (dsI K S (S 0))) L (i + 1)).1)), (3, .int (nI (i + 1)))]) (rfl) (lv_cons (rfl) (lv_cons (rfl) (lv_cons (vI ((bh_s (lk9_0 (hL i) (Int32.not_lt.mpr c37_8))).symm)) (lv_cons (rfl) (rfl))))) (ih_25 (i + 1) (by first | assumption | omega) (by omega))
          · refine g_iload_n X dX6_hide_40 rfl 2 rfl ?_
            refine g_bipush (v := (-9)) X dX6_hide_41 (by decide) ?_
            refine g_icmp_eq X 59 dX6_hide_43 (by decide) (fun c43_9 => ?_) (fun c43_9 => ?_)
            · refine g_iload_n X dX6_hide_59 rfl 3 rfl ?_
              refine g_istore_n (lv' := [(2, .int (nI i)), (0, .ref m0), (1, .int x), (3, .int (nI i))]) X dX6_hide_60 rfl (by decide) rfl ?_
              refine g_iinc (v := nI (i + 1)) (lv' := [(3, .int (nI (i + 1))), (2, .int (nI i)), (0, .ref m0), (1, .int x)]) X dX6_hide_61 3 rfl (nI_inc _) (by decide) rfl ?_
              refine g_goto X 25 dX6_hide_64 (by decide) ?_
              refine g_lv (lv' := [(0, .ref m0), (1, .int x), (2, .int (nI i)), (3, .int (nI (i + 1)))]) X [2, 3, 1, 0] rfl ?_
              exact g_eq (ws' := [(m0, cO 6 [.ref a0, .ref a1, .ref a2, .int (nI tn), .ref a4, .int (nI ap), .ref a6, .int (nI rn), .ref a8, .ref a9, .int im, .ref b1, .ref b2, .ref b3, .ref b4, .ref b5, .ref b6]), (a0, cI d 36 K), (a1, cI d 36 L), (a2, cI d 5 S), (a9, cI d 7 (rf7 Rf)), (b5, cI d 36 (dF (dsI K S (S 0))))]) (lv' := [(0, .ref m0), (1, .int x), (2, .int ((bhF (sg K (dsI K S (S 0))) L (i + 1)).1)), (3, .int (nI (i + 1)))]) (rfl) (lv_cons (rfl) (lv_cons (rfl) (lv_cons (vI ((bh_new ((lk9_p (hL i)).mp (Int32.not_le.mp c37_8)) (hbh9 c43_9)).symm)) (lv_cons (rfl) (rfl))))) (ih_25 (i + 1) (by first | assumption | omega) (by omega))
            · obtain ⟨f, hf0, hf1, hf2⟩ := hbh.elim (fun z => absurd z.1 c43_9) id
              refine g_eq (lv' := [(0, .ref m0), (1, .int x), (2, .int (nI f)), (3, .int (nI i))]) rfl (lv_cons (rfl) (lv_cons (rfl) (lv_cons (vI (hf1)) (lv_cons (rfl) (rfl))))) ?_
              have hk1 := alk_le (T := (sg K (dsI K S (S 0)))) (L := L) f
              have hk2 := alk_le (T := (sg K (dsI K S (S 0)))) (L := L) i
              refine g_aload_n X dX6_hide_46 rfl 0 rfl ?_
              refine g_iload_n X dX6_hide_47 rfl 3 rfl ?_
              refine g_dV (ci := 6) (q0 := 0) (n := 1) (wr := [(a2, cI d 5 S), (a9, cI d 7 (rf7 Rf))]) (ws' := [(m0, cO 6 [.ref a0, .ref a1, .ref a2, .int (nI tn), .ref a4, .int (nI ap), .ref a6, .int (nI rn), .ref a8, .ref a9, .int im, .ref b1, .ref b2, .ref b3, .ref b4, .ref b5, .ref b6]), (a0, cI d 36 K), (a1, cI d 36 L), (a2, cI d 5 S), (a9, cI d 7 (rf7 Rf)), (b5, cI d 36 (dF (dsI K S (S 0))))]) (st' := [.int (nI (alk (sg K (dsI K S (S 0))) L i))]) (As := [.int (nI i)]) (st := []) X (ct_X6_alikeTo l d m0 a0 a1 a2 a4 a6 a8 a9 b1 b2 b3 b4 b5 b6 K L tn ap rn im i (dsI K S (S 0)) (by omega) (by first | assumption | omega)) wd_1058 wd_1055 wd_1057 wd_49 wd_58 hd_X6_alikeTo rfl ⟨(Nat.le_of_ble_eq_true rfl), (Nat.le_of_ble_eq_true rfl)⟩ rfl rfl dX6_hide_48 ⟨(Nat.le_of_ble_eq_true rfl), (Nat.le_of_ble_eq_true rfl)⟩ rfl rfl (Nat.le_of_ble_eq_true rfl) [0, 1, 2, 5] [3, 4] rfl rfl rfl rfl rfl (by decide) rfl [2, 3, 4, 0, 1, 5] rfl rfl rfl rfl ?_
              refine g_aload_n X dX6_hide_51 rfl 0 rfl ?_
              refine g_iload_n X dX6_hide_52 rfl 2 rfl ?_
              refine g_dV (ci := 6) (q0 := 0) (n := 1) (wr := [(a2, cI d 5 S), (a9, cI d 7 (rf7 Rf))]) (ws' := [(m0, cO 6 [.ref a0, .ref a1, .ref a2, .int (nI tn), .ref a4, .int (nI ap), .ref a6, .int (nI rn), .ref a8, .ref a9, .int im, .ref b1, .ref b2, .ref b3, .ref b4, .ref b5, .ref b6]), (a0, cI d 36 K), (a1, cI d 36 L), (a2, cI d 5 S), (a9, cI d 7 (rf7 Rf)), (b5, cI d 36 (dF (dsI K S (S 0))))]) (st' := [.int (nI (alk (sg K (dsI K S (S 0))) L f)), .int (nI (alk (sg K (dsI K S (S 0))) L i))]) (As := [.int (nI f)]) (st := [.int (nI (alk (sg K (dsI K S (S 0))) L i))]) X (ct_X6_alikeTo l d m0 a0 a1 a2 a4 a6 a8 a9 b1 b2 b3 b4 b5 b6 K L tn ap rn im f (dsI K S (S 0)) (by omega) (by first | assumption | omega)) wd_1058 wd_1055 wd_1057 wd_49 wd_58 hd_X6_alikeTo rfl ⟨(Nat.le_of_ble_eq_true rfl), (Nat.le_of_ble_eq_true rfl)⟩ rfl rfl dX6_hide_53 ⟨(Nat.le_of_ble_eq_true rfl), (Nat.le_of_ble_eq_true rfl)⟩ rfl rfl (Nat.le_of_ble_eq_true rfl) [0, 1, 2, 5] [3, 4] rfl rfl rfl rfl rfl (by decide) rfl [2, 3, 4, 0, 1, 5] rfl rfl rfl rfl ?_
              refine g_icmpN_le (a := (alk (sg K (dsI K S (S 0))) L i)) (b := (alk (sg K (dsI K S (S 0))) L f)) X rfl rfl (by omega) (by omega) 61 dX6_hide_56 (by decide) (fun c56_10 => ?_) (fun c56_10 => ?_)
              · refine g_iinc (v := nI (i + 1)) (lv' := [(3, .int (nI (i + 1))), (0, .ref m0), (1, .int x), (2, .int (nI f))]) X dX6_hide_61 3 rfl (nI_inc _) (by decide) rfl ?_
                refine g_goto X 25 dX6_hide_64 (by decide) ?_
                refine g_lv (lv' := [(0, .ref m0), (1, .int x), (2, .int (nI f)), (3, .int (nI (i + 1)))]) X [1, 2, 3, 0] rfl ?_
                exact g_eq (ws' := [(m0, cO 6 [.ref a0, .ref a1, .ref a2, .int (nI tn), .ref a4, .int (nI ap), .ref a6, .int (nI rn), .ref a8, .ref a9, .int im, .ref b1, .ref b2, .ref b3, .ref b4, .ref b5, .ref b6]), (a0, cI d 36 K), (a1, cI d 36 L), (a2, cI d 5 S), (a9, cI d 7 (rf7 Rf)), (b5, cI d 36 (dF (dsI K S (S 0))))]) (lv' := [(0, .ref m0), (1, .int x), (2, .int ((bhF (sg K (dsI K S (S 0))) L (i + 1)).1)), (3, .int (nI (i + 1)))]) (rfl) (lv_cons (rfl) (lv_cons (rfl) (lv_cons (vI ((bh_n hf1 hf2 (by omega)).symm)) (lv_cons (rfl) (rfl))))) (ih_25 (i + 1) (by first | assumption | omega) (by omega))
              · refine g_iload_n X dX6_hide_59 rfl 3 rfl ?_
                refine g_istore_n (lv' := [(2, .int (nI i)), (0, .ref m0), (1, .int x), (3, .int (nI i))]) X dX6_hide_60 rfl (by decide) rfl ?_
                refine g_iinc (v := nI (i + 1)) (lv' := [(3, .int (nI (i + 1))), (2, .int (nI i)), (0, .ref m0), (1, .int x)]) X dX6_hide_61 3 rfl (nI_inc _) (by decide) rfl ?_
                refine g_goto X 25 dX6_hide_64 (by decide) ?_
                refine g_lv (lv' := [(0, .ref m0), (1, .int x), (2, .int (nI i)), (3, .int (nI (i + 1)))]) X [2, 3, 1, 0] rfl ?_
                exact g_eq (ws' := [(m0, cO 6 [.ref a0, .ref a1, .ref a2, .int (nI tn), .ref a4, .int (nI ap), .ref a6, .int (nI rn), .ref a8, .ref a9, .int im, .ref b1, .ref b2, .ref b3, .ref b4, .ref b5, .ref b6]), (a0, cI d 36 K), (a1, cI d 36 L), (a2, cI d 5 S), (a9, cI d 7 (rf7 Rf)), (b5, cI d 36 (dF (dsI K S (S 0))))]) (lv' := [(0, .ref m0), (1, .int x), (2, .int ((bhF (sg K (dsI K S (S 0))) L (i + 1)).1)), (3, .int (nI (i + 1)))]) (rfl) (lv_cons (rfl) (lv_cons (rfl) (lv_cons (vI ((bh_y ((lk9_p (hL i)).mp (Int32.not_le.mp c37_8)) hf2 (by omega)).symm)) (lv_cons (rfl) (rfl))))) (ih_25 (i + 1) (by first | assumption | omega) (by omega))
    refine g_lv (lv' := [(0, .ref m0), (1, .int x), (2, .int (-9)), (3, .int 0)]) X [2, 3, 1, 0] rfl ?_
    exact g_eq (ws' := [(m0, cO 6 [.ref a0, .ref a1, .ref a2, .int (nI tn), .ref a4, .int (nI ap), .ref a6, .int (nI rn), .ref a8, .ref a9, .int im, .ref b1, .ref b2, .ref b3, .ref b4, .ref b5, .ref b6]), (a0, cI d 36 K), (a1, cI d 36 L), (a2, cI d 5 S), (a9, cI d 7 (rf7 Rf)), (b5, cI d 36 (dF (dsI K S (S 0))))]) (lv' := [(0, .ref m0), (1, .int x), (2, .int ((bhF (sg K (dsI K S (S 0))) L 0).1)), (3, .int (nI 0))]) (rfl) (lv_cons (rfl) (lv_cons (rfl) (lv_cons (vI (by rfl)) (lv_cons (vI (by rfl)) (rfl))))) (at_25 _ 0 (by first | assumption | omega) (Nat.lt_succ_self _))
  · refine g_aload_n X dX6_hide_9 rfl 0 rfl ?_
    refine g_bipush (v := (-2)) X dX6_hide_10 (by decide) ?_
    refine g_dV (ci := 6) (q0 := 0) (n := 1) (wr := [(a0, cI d 36 K), (a1, cI d 36 L), (a2, cI d 5 S), (b5, cI d 36 H)]) (ws' := [(m0, cO 6 [.ref a0, .ref a1, .ref a2, .int (nI tn), .ref a4, .int (nI ap), .ref a6, .int (nI rn), .ref a8, .ref a9, .int im, .ref b1, .ref b2, .ref b3, .ref b4, .ref b5, .ref b6]), (a0, cI d 36 K), (a1, cI d 36 L), (a2, cI d 5 S), (a9, cI d 7 (rf7 (bmp Rf 2))), (b5, cI d 36 H)]) (st' := [.int (-2)]) (As := [.int (-2)]) (st := []) X (ct_X6_no_2 l d m0 a0 a1 a2 a4 a6 a8 a9 b1 b2 b3 b4 b5 b6 Rf tn ap rn im) wd_855 wd_852 wd_854 wd_25 wd_58 hd_X6_no rfl ⟨(Nat.le_of_ble_eq_true rfl), (Nat.le_of_ble_eq_true rfl)⟩ rfl rfl dX6_hide_12 ⟨(Nat.le_of_ble_eq_true rfl), (Nat.le_of_ble_eq_true rfl)⟩ rfl rfl (Nat.le_of_ble_eq_true rfl) [0, 4] [1, 2, 3, 5] rfl rfl rfl rfl rfl (by decide) rfl [4, 0, 1, 2, 5, 3] rfl rfl rfl rfl ?_
    have e_ : sp_hide (sg K (dsI K S (S 0))) L x = ((-2), 2) := hide_1 (by assumption)
    exact g_end X (gE_i dX6_hide_15 (rfl) (Nat.le_of_ble_eq_true rfl) (Nat.le_of_ble_eq_true rfl) ⟨H, congrArg (fun z => some (Value.int z)) (by rw [e_]), ws_cons (rfl) (ws_cons (rfl) (ws_cons (rfl) (ws_cons (rfl) (ws_cons (cI_eq (by first | (rw [e_]; done) | (rw [e_]; rfl) | (rw [e_]; simp only [ix, ↓reduceIte]; done) | simp [e_, *])) (ws_cons (rfl) (rfl))))))⟩)
set_option maxHeartbeats 4000000 in
set_option maxRecDepth 20000 in
theorem ct_X6_close (l : Launch) (d : KD) (m0 a0 a1 a2 a4 a6 a8 a9 b1 b2 b3 b4 b5 b6 : Nat) (K S Rf F : Nat → Int32) (tn ap rn : Nat) (im : Int32) (x : Int32) (h2 : S 2 ≤ 9) : Ct l d yX6_close cX6_close 7 (some .int) { frames := 2, cells := 0, slots := 0, locals := 49 } [.ref m0, .int x] [(m0, cO 6 [.ref a0, .ref a1, .ref a2, .int (nI tn), .ref a4, .int (nI ap), .ref a6, .int (nI rn), .ref a8, .ref a9, .int im, .ref b1, .ref b2, .ref b3, .ref b4, .ref b5, .ref b6]), (a0, cI d 36 K), (a2, cI d 5 S), (a9, cI d 7 (rf7 Rf)), (b4, cI d 36 F)] 0 0 (fun r wo => ∃ (F' : Nat → Int32), r = some (.int ((sp_close K S x).1)) ∧ wo = [(m0, cO 6 [.ref a0, .ref a1, .ref a2, .int (nI tn), .ref a4, .int (nI ap), .ref a6, .int (nI rn), .ref a8, .ref a9, .int im, .ref b1, .ref b2, .ref b3, .ref b4, .ref b5, .ref b6]), (a0, cI d 36 K), (a2, cI d 5 S), (a9, cI d 7 (rf7 (bmp Rf (sp_close K S x).2))), (b4, cI d 36 F')]) := by
  refine ct_of (own := RX6) (ini := false) (by decide +kernel) rfl (fun h => by cases h) (Nat.le_of_ble_eq_true rfl) ?_
  intro g X
  show g 0 0 [(m0, cO 6 [.ref a0, .ref a1, .ref a2, .int (nI tn), .ref a4, .int (nI ap), .ref a6, .int (nI rn), .ref a8, .ref a9, .int im, .ref b1, .ref b2, .ref b3, .ref b4, .ref b5, .ref b6]), (a0, cI d 36 K), (a2, cI d 5 S), (a9, cI d 7 (rf7 Rf)), (b4, cI d 36 F)] [(0, .ref m0), (1, .int x)] 0 []
  refine g_iload_n X dX6_close_0 rfl 1 rfl ?_
  refine g_iconst (v := 0) X dX6_close_1 (by decide) ?_
  refine g_iconst (v := 1) X dX6_close_2 (by decide) ?_
  refine g_dS (n := 3) (wr := [(m0, cO 6 [.ref a0, .ref a1, .ref a2, .int (nI tn), .ref a4, .int (nI ap), .ref a6, .int (nI rn), .ref a8, .ref a9, .int im, .ref b1, .ref b2, .ref b3, .ref b4, .ref b5, .ref b6]), (a0, cI d 36 K), (a2, cI d 5 S), (a9, cI d 7 (rf7 Rf)), (b4, cI d 36 F)]) (ws' := [(m0, cO 6 [.ref a0, .ref a1, .ref a2, .int (nI tn), .ref a4, .int (nI ap), .ref a6, .int (nI rn), .ref a8, .ref a9, .int im, .ref b1, .ref b2, .ref b3, .ref b4, .ref b5, .ref b6]), (a0, cI d 36 K), (a2, cI d 5 S), (a9, cI d 7 (rf7 Rf)), (b4, cI d 36 F)]) (st' := [.int (b2i (x = 0 ∨ x = 1))]) (As := [.int x, .int 0, .int 1]) (st := []) X (ct_X6_within_2 l d x) wd_887 wd_885 wd_886 wd_58 hd_X6_within ⟨(Nat.le_of_ble_eq_true rfl), (Nat.le_of_ble_eq_true rfl)⟩ rfl rfl dX6_close_3 ⟨(Nat.le_of_ble_eq_true rfl), (Nat.le_of_ble_eq_true rfl)⟩ rfl rfl (Nat.le_of_ble_eq_true rfl) [] [0, 1, 2, 3, 4] rfl rfl rfl rfl rfl (by decide) [0, 1, 2, 3, 4] rfl rfl rfl rfl ?_
  refine g_ifB_ne X 16 dX6_close_6 (by decide) (fun c6_1 => ?_) (fun c6_1 => ?_)
  · have ho := c6_1
    refine g_bipush (v := (-9)) X dX6_close_16 (by decide) ?_
    refine g_istore_n (lv' := [(2, .int (-9)), (0, .ref m0), (1, .int x)]) X dX6_close_18 rfl (by decide) rfl ?_
    refine g_iconst (v := 0) X dX6_close_19 (by decide) ?_
    refine g_istore_n (lv' := [(3, .int 0), (2, .int (-9)), (0, .ref m0), (1, .int x)]) X dX6_close_20 rfl (by decide) rfl ?_
    refine g_iconst (v := 0) X dX6_close_21 (by decide) ?_
    refine g_istore (lv' := [(4, .int 0), (3, .int 0), (2, .int (-9)), (0, .ref m0), (1, .int x)]) X dX6_close_22 (by decide) rfl ?_
    have at_24 : ∀ (n_ : Nat) (q : Nat) (F2 : Nat → Int32) (hq : q ≤ 36), (36 - q) < n_ → g 0 0 [(m0, cO 6 [.ref a0, .ref a1, .ref a2, .int (nI tn), .ref a4, .int (nI ap), .ref a6, .int (nI rn), .ref a8, .ref a9, .int im, .ref b1, .ref b2, .ref b3, .ref b4, .ref b5, .ref b6]), (a0, cI d 36 K), (a2, cI d 5 S), (a9, cI d 7 (rf7 Rf)), (b4, cI d 36 F2)] [(0, .ref m0), (1, .int x), (2, .int (besM (clF K S q).1)), (3, .int (nI ((clF K S q).2))), (4, .int (nI q))] 24 [] := by
      intro n_
      induction n_ with
      | zero => intro q F2 hq hn_; exact absurd hn_ (Nat.not_lt_zero _)
      | succ n_ ih_24 =>
        intro q F2 hq hn_24
        have hcl := clF_le K S q
        refine g_iload X dX6_close_24 4 rfl ?_
        refine g_bipush (v := 36) X dX6_close_26 (by decide) ?_
        refine g_icmpN_ge (a := q) (b := 36) X rfl rfl (by omega) (by omega) 104 dX6_close_28 (by decide) (fun c28_2 => ?_) (fun c28_2 => ?_)
        · obtain rfl : q = 36 := by omega
          refine g_iload_n X dX6_close_104 rfl 1 rfl ?_
          refine g_if_ne X 112 dX6_close_105 (by decide) (fun c105_3 => ?_) (fun c105_3 => ?_)
          · refine g_iload_n X dX6_close_112 rfl 3 rfl ?_
            have e_ : sp_close K S x = (nI ((clF K S 36).2), 0) := close_3 ho c105_3
            exact g_end X (gE_i dX6_close_113 (rfl) (Nat.le_of_ble_eq_true rfl) (Nat.le_of_ble_eq_true rfl) ⟨F2, congrArg (fun z => some (Value.int z)) (by rw [e_]), ws_cons (rfl) (ws_cons (rfl) (ws_cons (rfl) (ws_cons (cI_eq (by first | (rw [e_]; done) | (rw [e_]; rfl) | (rw [e_]; simp only [ix, ↓reduceIte]; done) | simp [e_, *])) (ws_cons (rfl) (rfl)))))⟩)
          · refine g_iload_n X dX6_close_108 rfl 2 rfl ?_
            refine g_goto X 113 dX6_close_109 (by decide) ?_
            have e_ : sp_close K S x = (besM (clF K S 36).1, 0) := close_2 ho c105_3
            exact g_end X (gE_i dX6_close_113 (rfl) (Nat.le_of_ble_eq_true rfl) (Nat.le_of_ble_eq_true rfl) ⟨F2, congrArg (fun z => some (Value.int z)) (by rw [e_]), ws_cons (rfl) (ws_cons (rfl) (ws_cons (rfl) (ws_cons (cI_eq (by first | (rw [e_]; done) | (rw [e_]; rfl) | (rw [e_]; simp only [ix, ↓reduceIte]; done) | simp [e_, *])) (ws_cons (rfl) (rfl)))))⟩)
        · refine g_aload_n X dX6_close_31 rfl 0 rfl ?_
          refine g_iload X dX6_close_32 4 rfl ?_
          refine g_aload_n X dX6_close_34 rfl 0 rfl ?_
          refine g_get (C := RX6) (T := TX6) (N := 17) (ci := 6) (v := .ref b4) X rfl inT6 14 (by decide) wd_810 rfl dX6_close_35 0 rfl rfl ?_
          refine g_dV (ci := 6) (q0 := 0) (n := 2) (wr := [(a9, cI d 7 (rf7 Rf))]) (ws' := [(m0, cO 6 [.ref a0, .ref a1, .ref a2, .int (nI tn), .ref a4, .int (nI ap), .ref a6, .int (nI rn), .ref a8, .ref a9, .int im, .ref b1, .ref b2, .ref b3, .ref b4, .ref b5, .ref b6]), (a0, cI d 36 K), (a2, cI d 5 S), (a9, cI d 7 (rf7 Rf)), (b4, cI d 36 (dF (dsI K S (nI q))))]) (st' := []) (As := [.int (nI q), .ref b4]) (st := []) X (ct_X6_sails l d m0 a0 a1 a2 a4 a6 a8 a9 b1 b2 b3 b4 b5 b6 K S F2 b4 q tn ap rn im (by first | assumption | omega)) wd_904 wd_901 wd_903 wd_34 wd_58 hd_X6_sails rfl ⟨(Nat.le_of_ble_eq_true rfl), (Nat.le_of_ble_eq_true rfl)⟩ rfl rfl dX6_close_38 ⟨(Nat.le_of_ble_eq_true rfl), (Nat.le_of_ble_eq_true rfl)⟩ rfl rfl (Nat.le_of_ble_eq_true rfl) [0, 1, 2, 4] [3] rfl rfl rfl rfl rfl (by decide) rfl [1, 2, 3, 0, 4] rfl rfl rfl rfl ?_
          refine g_iconst (v := 0) X dX6_close_41 (by decide) ?_
          refine g_istore (lv' := [(5, .int 0), (0, .ref m0), (1, .int x), (2, .int (besM (clF K S q).1)), (3, .int (nI ((clF K S q).2))), (4, .int (nI q))]) X dX6_close_42 (by decide) rfl ?_
          refine g_iconst (v := 0) X dX6_close_44 (by decide) ?_
          refine g_istore (lv' := [(6, .int 0), (5, .int 0), (0, .ref m0), (1, .int x), (2, .int (besM (clF K S q).1)), (3, .int (nI ((clF K S q).2))), (4, .int (nI q))]) X dX6_close_45 (by decide) rfl ?_
          have at_47 : ∀ (n_ : Nat) (i : Nat) (hi : i ≤ 36), (36 - i) < n_ → g 0 0 [(m0, cO 6 [.ref a0, .ref a1, .ref a2, .int (nI tn), .ref a4, .int (nI ap), .ref a6, .int (nI rn), .ref a8, .ref a9, .int im, .ref b1, .ref b2, .ref b3, .ref b4, .ref b5, .ref b6]), (a0, cI d 36 K), (a2, cI d 5 S), (a9, cI d 7 (rf7 Rf)), (b4, cI d 36 (dF (dsI K S (nI q))))] [(0, .ref m0), (1, .int x), (2, .int (besM (clF K S q).1)), (3, .int (nI ((clF K S q).2))), (4, .int (nI q)), (5, .int (nI (cnt (fun t => nI (dsI K S (nI q) t) ≤ S 2) i))), (6, .int (nI i))] 47 [] := by
            intro n_
            induction n_ with
            | zero => intro i hi hn_; exact absurd hn_ (Nat.not_lt_zero _)
            | succ n_ ih_47 =>
              intro i hi hn_47
              refine g_iload X dX6_close_47 6 rfl ?_
              refine g_bipush (v := 36) X dX6_close_49 (by decide) ?_
              refine g_icmpN_ge (a := i) (b := 36) X rfl rfl (by omega) (by omega) 83 dX6_close_51 (by decide) (fun c51_6 => ?_) (fun c51_6 => ?_)
              · obtain rfl : i = 36 := by omega
                have hwl : cnt (fun t => nI (dsI K S (nI q) t) ≤ S 2) 36 ≤ 36 := cnt_le _ 36
                refine g_iload X dX6_close_83 5 rfl ?_
                refine g_iload_n X dX6_close_85 rfl 3 rfl ?_
                refine g_icmpN_gt (a := (cnt (fun t => nI (dsI K S (nI q) t) ≤ S 2) 36)) (b := ((clF K S q).2)) X rfl rfl (by omega) (by omega) 92 dX6_close_86 (by decide) (fun c86_7 => ?_) (fun c86_7 => ?_)
                · refine g_iload X dX6_close_92 5 rfl ?_
                  refine g_istore_n (lv' := [(3, .int (nI (cnt (fun t => nI (dsI K S (nI q) t) ≤ S 2) 36))), (0, .ref m0), (1, .int x), (2, .int (besM (clF K S q).1)), (4, .int (nI q)), (5, .int (nI (cnt (fun t => nI (dsI K S (nI q) t) ≤ S 2) 36))), (6, .int (nI 36))]) X dX6_close_94 rfl (by decide) rfl ?_
                  refine g_iload X dX6_close_95 4 rfl ?_
                  refine g_istore_n (lv' := [(2, .int (nI q)), (3, .int (nI (cnt (fun t => nI (dsI K S (nI q) t) ≤ S 2) 36))), (0, .ref m0), (1, .int x), (4, .int (nI q)), (5, .int (nI (cnt (fun t => nI (dsI K S (nI q) t) ≤ S 2) 36))), (6, .int (nI 36))]) X dX6_close_97 rfl (by decide) rfl ?_
                  refine g_iinc (v := nI (q + 1)) (lv' := [(4, .int (nI (q + 1))), (2, .int (nI q)), (3, .int (nI (cnt (fun t => nI (dsI K S (nI q) t) ≤ S 2) 36))), (0, .ref m0), (1, .int x), (5, .int (nI (cnt (fun t => nI (dsI K S (nI q) t) ≤ S 2) 36))), (6, .int (nI 36))]) X dX6_close_98 4 rfl (nI_inc _) (by decide) rfl ?_
                  refine g_goto X 24 dX6_close_101 (by decide) ?_
                  refine g_lv (lv' := [(0, .ref m0), (1, .int x), (2, .int (nI q)), (3, .int (nI (cnt (fun t => nI (dsI K S (nI q) t) ≤ S 2) 36))), (4, .int (nI (q + 1)))]) X [3, 4, 1, 2, 0] rfl ?_
                  exact g_eq (ws' := [(m0, cO 6 [.ref a0, .ref a1, .ref a2, .int (nI tn), .ref a4, .int (nI ap), .ref a6, .int (nI rn), .ref a8, .ref a9, .int im, .ref b1, .ref b2, .ref b3, .ref b4, .ref b5, .ref b6]), (a0, cI d 36 K), (a2, cI d 5 S), (a9, cI d 7 (rf7 Rf)), (b4, cI d 36 (dF (dsI K S (nI q))))]) (lv' := [(0, .ref m0), (1, .int x), (2, .int (besM (clF K S (q + 1)).1)), (3, .int (nI ((clF K S (q + 1)).2))), (4, .int (nI (q + 1)))]) (rfl) (lv_cons (rfl) (lv_cons (rfl) (lv_cons (vI ((besM_t (by omega)).symm.trans (congrArg besM (congrArg Prod.fst (clR_y (by omega) h2 (by show _ < cnt _ 36; omega))).symm))) (lv_cons (vI (congrArg nI (congrArg Prod.snd (clR_y (by omega) h2 (by show _ < cnt _ 36; omega))).symm)) (lv_cons (rfl) (rfl)))))) (ih_24 (q + 1) (dF (dsI K S (nI q))) (by first | assumption | omega) (by omega))
                · refine g_goto X 98 dX6_close_89 (by decide) ?_
                  refine g_iinc (v := nI (q + 1)) (lv' := [(4, .int (nI (q + 1))), (0, .ref m0), (1, .int x), (2, .int (besM (clF K S q).1)), (3, .int (nI ((clF K S q).2))), (5, .int (nI (cnt (fun t => nI (dsI K S (nI q) t) ≤ S 2) 36))), (6, .int (nI 36))]) X dX6_close_98 4 rfl (nI_inc _) (by decide) rfl ?_
                  refine g_goto X 24 dX6_close_101 (by decide) ?_
                  refine g_lv (lv' := [(0, .ref m0), (1, .int x), (2, .int (besM (clF K S q).1)), (3, .int (nI ((clF K S q).2))), (4, .int (nI (q + 1)))]) X [1, 2, 3, 4, 0] rfl ?_
                  exact g_eq (ws' := [(m0, cO 6 [.ref a0, .ref a1, .ref a2, .int (nI tn), .ref a4, .int (nI ap), .ref a6, .int (nI rn), .ref a8, .ref a9, .int im, .ref b1, .ref b2, .ref b3, .ref b4, .ref b5, .ref b6]), (a0, cI d 36 K), (a2, cI d 5 S), (a9, cI d 7 (rf7 Rf)), (b4, cI d 36 (dF (dsI K S (nI q))))]) (lv' := [(0, .ref m0), (1, .int x), (2, .int (besM (clF K S (q + 1)).1)), (3, .int (nI ((clF K S (q + 1)).2))), (4, .int (nI (q + 1)))]) (rfl) (lv_cons (rfl) (lv_cons (rfl) (lv_cons (vI (congrArg besM (congrArg Prod.fst (clR_n (by show ¬ _ < cnt _ 36; omega))).symm)) (lv_cons (vI (congrArg nI (congrArg Prod.snd (clR_n (by show ¬ _ < cnt _ 36; omega))).symm)) (lv_cons (rfl) (rfl)))))) (ih_24 (q + 1) (dF (dsI K S (nI q))) (by first | assumption | omega) (by omega))
              · refine g_aload_n X dX6_close_54 rfl 0 rfl ?_
                refine g_get (C := RX6) (T := TX6) (N := 17) (ci := 6) (v := .ref b4) X rfl inT6 14 (by decide) wd_810 rfl dX6_close_55 0 rfl rfl ?_
                refine g_iload X dX6_close_58 6 rfl ?_
                refine g_iaload_N (k := i) X rfl dX6_close_60 4 rfl (by first | assumption | omega) (by omega) ?_
                refine g_iconst (v := 0) X dX6_close_61 (by decide) ?_
                refine g_aload_n X dX6_close_62 rfl 0 rfl ?_
                refine g_get (C := RX6) (T := TX6) (N := 17) (ci := 6) (v := .ref a2) X rfl inT6 2 (by decide) wd_798 rfl dX6_close_63 0 rfl rfl ?_
                refine g_iconst (v := 2) X dX6_close_66 (by decide) ?_
                refine g_iaload_N (k := 2) X rfl dX6_close_67 2 rfl (by first | assumption | omega) (by omega) ?_
                refine g_dS (n := 3) (wr := [(m0, cO 6 [.ref a0, .ref a1, .ref a2, .int (nI tn), .ref a4, .int (nI ap), .ref a6, .int (nI rn), .ref a8, .ref a9, .int im, .ref b1, .ref b2, .ref b3, .ref b4, .ref b5, .ref b6]), (a0, cI d 36 K), (a2, cI d 5 S), (a9, cI d 7 (rf7 Rf)), (b4, cI d 36 (dF (dsI K S (nI q))))]) (ws' := [(m0, cO 6 [.ref a0, .ref a1, .ref a2, .int (nI tn), .ref a4, .int (nI ap), .ref a6, .int (nI rn), .ref a8, .ref a9, .int im, .ref b1, .ref b2, .ref b3, .ref b4, .ref b5, .ref b6]), (a0, cI d 36 K), (a2, cI d 5 S), (a9, cI d 7 (rf7 Rf)), (b4, cI d 36 (dF (dsI K S (nI q))))]) (st' := [.int (b2i (wit (dI ((dsI K S (nI q)) i)) 0 (S 2)))]) (As := [.int (dI ((dsI K S (nI q)) i)), .int 0, .int (S 2)]) (st := []) X (ct_X6_within l d (dI ((dsI K S (nI q)) i)) 0 (S 2)) wd_887 wd_885 wd_886 wd_58 hd_X6_within ⟨(Nat.le_of_ble_eq_true rfl), (Nat.le_of_ble_eq_true rfl)⟩ rfl rfl dX6_close_68 ⟨(Nat.le_of_ble_eq_true rfl), (Nat.le_of_ble_eq_true rfl)⟩ rfl rfl (Nat.le_of_ble_eq_true rfl) [] [0, 1, 2, 3, 4] rfl rfl rfl rfl rfl (by decide) [0, 1, 2, 3, 4] rfl rfl rfl rfl ?_
                refine g_ifB_eq X 77 dX6_close_71 (by decide) (fun c71_8 => ?_) (fun c71_8 => ?_)
                · refine g_iinc (v := nI (i + 1)) (lv' := [(6, .int (nI (i + 1))), (0, .ref m0), (1, .int x), (2, .int (besM (clF K S q).1)), (3, .int (nI ((clF K S q).2))), (4, .int (nI q)), (5, .int (nI (cnt (fun t => nI (dsI K S (nI q) t) ≤ S 2) i)))]) X dX6_close_77 6 rfl (nI_inc _) (by decide) rfl ?_
                  refine g_goto X 47 dX6_close_80 (by decide) ?_
                  refine g_lv (lv' := [(0, .ref m0), (1, .int x), (2, .int (besM (clF K S q).1)), (3, .int (nI ((clF K S q).2))), (4, .int (nI q)), (5, .int (nI (cnt (fun t => nI (dsI K S (nI q) t) ≤ S 2) i))), (6, .int (nI (i + 1)))]) X [1, 2, 3, 4, 5, 6, 0] rfl ?_
                  exact g_eq (ws' := [(m0, cO 6 [.ref a0, .ref a1, .ref a2, .int (nI tn), .ref a4, .int (nI ap), .ref a6, .int (nI rn), .ref a8, .ref a9, .int im, .ref b1, .ref b2, .ref b3, .ref b4, .ref b5, .ref b6]), (a0, cI d 36 K), (a2, cI d 5 S), (a9, cI d 7 (rf7 Rf)), (b4, cI d 36 (dF (dsI K S (nI q))))]) (lv' := [(0, .ref m0), (1, .int x), (2, .int (besM (clF K S q).1)), (3, .int (nI ((clF K S q).2))), (4, .int (nI q)), (5, .int (nI (cnt (fun t => nI (dsI K S (nI q) t) ≤ S 2) (i + 1)))), (6, .int (nI (i + 1)))]) (rfl) (lv_cons (rfl) (lv_cons (rfl) (lv_cons (rfl) (lv_cons (rfl) (lv_cons (rfl) (lv_cons (vI (cnt_F (p := fun t => nI (dsI K S (nI q) t) ≤ S 2) (fun z => c71_8 ((wi_t h2).mpr z)))) (lv_cons (rfl) (rfl)))))))) (ih_47 (i + 1) (by first | assumption | omega) (by omega))
                · refine g_iinc (v := nI (cnt (fun t => nI (dsI K S (nI q) t) ≤ S 2) i + 1)) (lv' := [(5, .int (nI (cnt (fun t => nI (dsI K S (nI q) t) ≤ S 2) i + 1))), (0, .ref m0), (1, .int x), (2, .int (besM (clF K S q).1)), (3, .int (nI ((clF K S q).2))), (4, .int (nI q)), (6, .int (nI i))]) X dX6_close_74 5 rfl (nI_inc _) (by decide) rfl ?_
                  refine g_iinc (v := nI (i + 1)) (lv' := [(6, .int (nI (i + 1))), (5, .int (nI (cnt (fun t => nI (dsI K S (nI q) t) ≤ S 2) i + 1))), (0, .ref m0), (1, .int x), (2, .int (besM (clF K S q).1)), (3, .int (nI ((clF K S q).2))), (4, .int (nI q))]) X dX6_close_77 6 rfl (nI_inc _) (by decide) rfl ?_
                  refine g_goto X 47 dX6_close_80 (by decide) ?_
                  refine g_lv (lv' := [(0, .ref m0), (1, .int x), (2, .int (besM (clF K S q).1)), (3, .int (nI ((clF K S q).2))), (4, .int (nI q)), (5, .int (nI (cnt (fun t => nI (dsI K S (nI q) t) ≤ S 2) i + 1))), (6, .int (nI (i + 1)))]) X [2, 3, 4, 5, 6, 1, 0] rfl ?_
                  exact g_eq (ws' := [(m0, cO 6 [.ref a0, .ref a1, .ref a2, .int (nI tn), .ref a4, .int (nI ap), .ref a6, .int (nI rn), .ref a8, .ref a9, .int im, .ref b1, .ref b2, .ref b3, .ref b4, .ref b5, .ref b6]), (a0, cI d 36 K), (a2, cI d 5 S), (a9, cI d 7 (rf7 Rf)), (b4, cI d 36 (dF (dsI K S (nI q))))]) (lv' := [(0, .ref m0), (1, .int x), (2, .int (besM (clF K S q).1)), (3, .int (nI ((clF K S q).2))), (4, .int (nI q)), (5, .int (nI (cnt (fun t => nI (dsI K S (nI q) t) ≤ S 2) (i + 1)))), (6, .int (nI (i + 1)))]) (rfl) (lv_cons (rfl) (lv_cons (rfl) (lv_cons (rfl) (lv_cons (rfl) (lv_cons (rfl) (lv_cons (vI (cnt_T (p := fun t => nI (dsI K S (nI q) t) ≤ S 2) ((wi_t h2).mp c71_8))) (lv_cons (rfl) (rfl)))))))) (ih_47 (i + 1) (by first | assumption | omega) (by omega))
          refine g_lv (lv' := [(0, .ref m0), (1, .int x), (2, .int (besM (clF K S q).1)), (3, .int (nI ((clF K S q).2))), (4, .int (nI q)), (5, .int 0), (6, .int 0)]) X [2, 3, 4, 5, 6, 1, 0] rfl ?_
          exact g_eq (ws' := [(m0, cO 6 [.ref a0, .ref a1, .ref a2, .int (nI tn), .ref a4, .int (nI ap), .ref a6, .int (nI rn), .ref a8, .ref a9, .int im, .ref b1, .ref b2, .ref b3, .ref b4, .ref b5, .ref b6]), (a0, cI d 36 K), (a2, cI d 5 S), (a9, cI d 7 (rf7 Rf)), (b4, cI d 36 (dF (dsI K S (nI q))))]) (lv' := [(0, .ref m0), (1, .int x), (2, .int (besM (clF K S q).1)), (3, .int (nI ((clF K S q).2))), (4, .int (nI q)), (5, .int (nI (cnt (fun t => nI (dsI K S (nI q) t) ≤ S 2) 0))), (6, .int (nI 0))]) (rfl) (lv_cons (rfl) (lv_cons (rfl) (lv_cons (rfl) (lv_cons (rfl) (lv_cons (rfl) (lv_cons (vI (by rfl)) (lv_cons (vI (by rfl)) (rfl)))))))) (at_47 _ 0 (by first | assumption | omega) (Nat.lt_succ_self _))
    refine g_lv (lv' := [(0, .ref m0), (1, .int x), (2, .int (-9)), (3, .int 0), (4, .int 0)]) X [3, 4, 2, 1, 0] rfl ?_
    exact g_eq (ws' := [(m0, cO 6 [.ref a0, .ref a1, .ref a2, .int (nI tn), .ref a4, .int (nI ap), .ref a6, .int (nI rn), .ref a8, .ref a9, .int im, .ref b1, .ref b2, .ref b3, .ref b4, .ref b5, .ref b6]), (a0, cI d 36 K), (a2, cI d 5 S), (a9, cI d 7 (rf7 Rf)), (b4, cI d 36 F)]) (lv' := [(0, .ref m0), (1, .int x), (2, .int (besM (clF K S 0).1)), (3, .int (nI ((clF K S 0).2))), (4, .int (nI 0))]) (rfl) (lv_cons (rfl) (lv_cons (rfl) (lv_cons (vI (by rfl)) (lv_cons (vI (by rfl)) (lv_cons (vI (by rfl)) (rfl)))))) (at_24 _ 0 F (by first | assumption | omega) (Nat.lt_succ_self _))
  · refine g_aload_n X dX6_close_9 rfl 0 rfl ?_
    refine g_bipush (v := (-2)) X dX6_close_10 (by decide) ?_
    refine g_dV (ci := 6) (q0 := 0) (n := 1) (wr := [(a0, cI d 36 K), (a2, cI d 5 S), (b4, cI d 36 F)]) (ws' := [(m0, cO 6 [.ref a0, .ref a1, .ref a2, .int (nI tn), .ref a4, .int (nI ap), .ref a6, .int (nI rn), .ref a8, .ref a9, .int im, .ref b1, .ref b2, .ref b3, .ref b4, .ref b5, .ref b6]), (a0, cI d 36 K), (a2, cI d 5 S), (a9, cI d 7 (rf7 (bmp Rf 2))), (b4, cI d 36 F)]) (st' := [.int (-2)]) (As := [.int (-2)]) (st := []) X (ct_X6_no_2 l d m0 a0 a1 a2 a4 a6 a8 a9 b1 b2 b3 b4 b5 b6 Rf tn ap rn im) wd_855 wd_852 wd_854 wd_25 wd_58 hd_X6_no rfl ⟨(Nat.le_of_ble_eq_true rfl), (Nat.le_of_ble_eq_true rfl)⟩ rfl rfl dX6_close_12 ⟨(Nat.le_of_ble_eq_true rfl), (Nat.le_of_ble_eq_true rfl)⟩ rfl rfl (Nat.le_of_ble_eq_true rfl) [0, 3] [1, 2, 4] rfl rfl rfl rfl rfl (by decide) rfl [3, 0, 1, 4, 2] rfl rfl rfl rfl ?_
    have e_ : sp_close K S x = ((-2), 2) := close_1 (by assumption)
    exact g_end X (gE_i dX6_close_15 (rfl) (Nat.le_of_ble_eq_true rfl) (Nat.le_of_ble_eq_true rfl) ⟨F, congrArg (fun z => some (Value.int z)) (by rw [e_]), ws_cons (rfl) (ws_cons (rfl) (ws_cons (rfl) (ws_cons (cI_eq (by first | (rw [e_]; done) | (rw [e_]; rfl) | (rw [e_]; simp only [ix, ↓reduceIte]; done) | simp [e_, *])) (ws_cons (rfl) (rfl)))))⟩)
