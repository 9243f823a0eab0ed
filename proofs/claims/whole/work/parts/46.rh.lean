
set_option maxHeartbeats 4000000 in
set_option maxRecDepth 20000 in
theorem ct_X6_lie (l : Launch) (d : KD) (m0 a0 a1 a2 a4 a6 a8 a9 b1 b2 b3 b4 b5 b6 : Nat) (K L S Rf H : Nat → Int32) (tn ap rn : Nat) (im : Int32) (x y : Int32) (hh : sq (S 0)) : Ct l d yX6_lie cX6_lie 8 (some .int) { frames := 4, cells := 0, slots := 0, locals := 91 } [.ref m0, .int x, .int y] [(m0, cO 6 [.ref a0, .ref a1, .ref a2, .int (nI tn), .ref a4, .int (nI ap), .ref a6, .int (nI rn), .ref a8, .ref a9, .int im, .ref b1, .ref b2, .ref b3, .ref b4, .ref b5, .ref b6]), (a0, cI d 36 K), (a1, cI d 36 L), (a2, cI d 5 S), (a9, cI d 7 (rf7 Rf)), (b5, cI d 36 H)] 0 0 (fun r wo => ∃ (H' : Nat → Int32), r = some (.int ((sp_lie (sg K (dsI K S (S 0))) L x y).1)) ∧ wo = [(m0, cO 6 [.ref a0, .ref a1, .ref a2, .int (nI tn), .ref a4, .int (nI ap), .ref a6, .int (nI rn), .ref a8, .ref a9, .int im, .ref b1, .ref b2, .ref b3, .ref b4, .ref b5, .ref b6]), (a0, cI d 36 K), (a1, cI d 36 L), (a2, cI d 5 S), (a9, cI d 7 (rf7 (bmp Rf (sp_lie (sg K (dsI K S (S 0))) L x y).2))), (b5, cI d 36 H')]) := by
  refine ct_of (own := RX6) (ini := false) (by decide +kernel) rfl (fun h => by cases h) (Nat.le_of_ble_eq_true rfl) ?_
  intro g X
  show g 0 0 [(m0, cO 6 [.ref a0, .ref a1, .ref a2, .int (nI tn), .ref a4, .int (nI ap), .ref a6, .int (nI rn), .ref a8, .ref a9, .int im, .ref b1, .ref b2, .ref b3, .ref b4, .ref b5, .ref b6]), (a0, cI d 36 K), (a1, cI d 36 L), (a2, cI d 5 S), (a9, cI d 7 (rf7 Rf)), (b5, cI d 36 H)] [(0, .ref m0), (1, .int x), (2, .int y)] 0 []
  refine g_iload_n X dX6_lie_0 rfl 1 rfl ?_
  refine g_dS (n := 1) (wr := [(m0, cO 6 [.ref a0, .ref a1, .ref a2, .int (nI tn), .ref a4, .int (nI ap), .ref a6, .int (nI rn), .ref a8, .ref a9, .int im, .ref b1, .ref b2, .ref b3, .ref b4, .ref b5, .ref b6]), (a0, cI d 36 K), (a1, cI d 36 L), (a2, cI d 5 S), (a9, cI d 7 (rf7 Rf)), (b5, cI d 36 H)]) (ws' := [(m0, cO 6 [.ref a0, .ref a1, .ref a2, .int (nI tn), .ref a4, .int (nI ap), .ref a6, .int (nI rn), .ref a8, .ref a9, .int im, .ref b1, .ref b2, .ref b3, .ref b4, .ref b5, .ref b6]), (a0, cI d 36 K), (a1, cI d 36 L), (a2, cI d 5 S), (a9, cI d 7 (rf7 Rf)), (b5, cI d 36 H)]) (st' := [.int (b2i (kd x))]) (As := [.int x]) (st := []) X (ct_X6_isKind l d x) wd_947 wd_945 wd_946 wd_58 hd_X6_isKind ⟨(Nat.le_of_ble_eq_true rfl), (Nat.le_of_ble_eq_true rfl)⟩ rfl rfl dX6_lie_1 ⟨(Nat.le_of_ble_eq_true rfl), (Nat.le_of_ble_eq_true rfl)⟩ rfl rfl (Nat.le_of_ble_eq_true rfl) [] [0, 1, 2, 3, 4, 5] rfl rfl rfl rfl rfl (by decide) [0, 1, 2, 3, 4, 5] rfl rfl rfl rfl ?_
  refine g_ifB_ne X 14 dX6_lie_4 (by decide) (fun c4_1 => ?_) (fun c4_1 => ?_)
  · obtain ⟨j_x, hj_x, rfl⟩ := kd_nat c4_1
    have hcl_j_x : (nI j_x).toNatClampNeg = j_x := nI_clamp (by omega)
    refine g_iload_n X dX6_lie_14 rfl 2 rfl ?_
    refine g_dS (n := 1) (wr := [(m0, cO 6 [.ref a0, .ref a1, .ref a2, .int (nI tn), .ref a4, .int (nI ap), .ref a6, .int (nI rn), .ref a8, .ref a9, .int im, .ref b1, .ref b2, .ref b3, .ref b4, .ref b5, .ref b6]), (a0, cI d 36 K), (a1, cI d 36 L), (a2, cI d 5 S), (a9, cI d 7 (rf7 Rf)), (b5, cI d 36 H)]) (ws' := [(m0, cO 6 [.ref a0, .ref a1, .ref a2, .int (nI tn), .ref a4, .int (nI ap), .ref a6, .int (nI rn), .ref a8, .ref a9, .int im, .ref b1, .ref b2, .ref b3, .ref b4, .ref b5, .ref b6]), (a0, cI d 36 K), (a1, cI d 36 L), (a2, cI d 5 S), (a9, cI d 7 (rf7 Rf)), (b5, cI d 36 H)]) (st' := [.int (b2i (sq y))]) (As := [.int y]) (st := []) X (ct_X6_isSquare l d y) wd_884 wd_882 wd_883 wd_58 hd_X6_isSquare ⟨(Nat.le_of_ble_eq_true rfl), (Nat.le_of_ble_eq_true rfl)⟩ rfl rfl dX6_lie_15 ⟨(Nat.le_of_ble_eq_true rfl), (Nat.le_of_ble_eq_true rfl)⟩ rfl rfl (Nat.le_of_ble_eq_true rfl) [] [0, 1, 2, 3, 4, 5] rfl rfl rfl rfl rfl (by decide) [0, 1, 2, 3, 4, 5] rfl rfl rfl rfl ?_
    refine g_ifB_ne X 27 dX6_lie_18 (by decide) (fun c18_2 => ?_) (fun c18_2 => ?_)
    · obtain ⟨j_y, hj_y, rfl⟩ := sq_nat c18_2
      have hcl_j_y : (nI j_y).toNatClampNeg = j_y := nI_clamp (by omega)
      refine g_aload_n X dX6_lie_27 rfl 0 rfl ?_
      refine g_dV (ci := 6) (q0 := 0) (n := 0) (wr := [(a1, cI d 36 L), (a9, cI d 7 (rf7 Rf))]) (ws' := [(m0, cO 6 [.ref a0, .ref a1, .ref a2, .int (nI tn), .ref a4, .int (nI ap), .ref a6, .int (nI rn), .ref a8, .ref a9, .int im, .ref b1, .ref b2, .ref b3, .ref b4, .ref b5, .ref b6]), (a0, cI d 36 K), (a1, cI d 36 L), (a2, cI d 5 S), (a9, cI d 7 (rf7 Rf)), (b5, cI d 36 (dF (dsI K S (S 0))))]) (st' := []) (As := []) (st := []) X (ct_X6_fromHome l d m0 a0 a1 a2 a4 a6 a8 a9 b1 b2 b3 b4 b5 b6 K S H tn ap rn im (by first | assumption | omega)) wd_900 wd_897 wd_899 wd_33 wd_58 hd_X6_fromHome rfl ⟨(Nat.le_of_ble_eq_true rfl), (Nat.le_of_ble_eq_true rfl)⟩ rfl rfl dX6_lie_28 ⟨(Nat.le_of_ble_eq_true rfl), (Nat.le_of_ble_eq_true rfl)⟩ rfl rfl (Nat.le_of_ble_eq_true rfl) [0, 1, 3, 5] [2, 4] rfl rfl rfl rfl rfl (by decide) rfl [2, 3, 0, 4, 1, 5] rfl rfl rfl rfl ?_
      refine g_bipush (v := (-9)) X dX6_lie_31 (by decide) ?_
      refine g_istore_n (lv' := [(3, .int (-9)), (0, .ref m0), (1, .int (nI j_x)), (2, .int (nI j_y))]) X dX6_lie_33 rfl (by decide) rfl ?_
      refine g_iconst (v := 0) X dX6_lie_34 (by decide) ?_
      refine g_istore (lv' := [(4, .int 0), (3, .int (-9)), (0, .ref m0), (1, .int (nI j_x)), (2, .int (nI j_y))]) X dX6_lie_35 (by decide) rfl ?_
      refine g_iconst (v := 0) X dX6_lie_37 (by decide) ?_
      refine g_istore (lv' := [(5, .int 0), (4, .int 0), (3, .int (-9)), (0, .ref m0), (1, .int (nI j_x)), (2, .int (nI j_y))]) X dX6_lie_38 (by decide) rfl ?_
      have at_40 : ∀ (n_ : Nat) (n : Nat) (hn : n ≤ 41), (41 - n) < n_ → g 0 0 [(m0, cO 6 [.ref a0, .ref a1, .ref a2, .int (nI tn), .ref a4, .int (nI ap), .ref a6, .int (nI rn), .ref a8, .ref a9, .int im, .ref b1, .ref b2, .ref b3, .ref b4, .ref b5, .ref b6]), (a0, cI d 36 K), (a1, cI d 36 L), (a2, cI d 5 S), (a9, cI d 7 (rf7 Rf)), (b5, cI d 36 (dF (dsI K S (S 0))))] [(0, .ref m0), (1, .int (nI j_x)), (2, .int (nI j_y)), (3, .int ((blF (sg K (dsI K S (S 0))) L j_x j_y n).1)), (4, .int ((blF (sg K (dsI K S (S 0))) L j_x j_y n).2)), (5, .int (nI n))] 40 [] := by
        intro n_
        induction n_ with
        | zero => intro n hn hn_; exact absurd hn_ (Nat.not_lt_zero _)
        | succ n_ ih_40 =>
          intro n hn hn_40
          refine g_iload X dX6_lie_40 5 rfl ?_
          refine g_bipush (v := 41) X dX6_lie_42 (by decide) ?_
          refine g_icmpN_ge (a := n) (b := 41) X rfl rfl (by omega) (by omega) 127 dX6_lie_44 (by decide) (fun c44_3 => ?_) (fun c44_3 => ?_)
          · obtain rfl : n = 41 := by omega
            refine g_iload_n X dX6_lie_127 rfl 3 rfl ?_
            have e_ : sp_lie (sg K (dsI K S (S 0))) L (nI j_x) (nI j_y) = ((blF (sg K (dsI K S (S 0))) L j_x j_y 41).1, 0) := lie_3 hj_x hj_y
            exact g_end X (gE_i dX6_lie_128 (rfl) (Nat.le_of_ble_eq_true rfl) (Nat.le_of_ble_eq_true rfl) ⟨(dF (dsI K S (S 0))), congrArg (fun z => some (Value.int z)) (by rw [e_]), ws_cons (rfl) (ws_cons (rfl) (ws_cons (rfl) (ws_cons (rfl) (ws_cons (cI_eq (by first | (rw [e_]; done) | (rw [e_]; rfl) | (rw [e_]; simp only [ix, hcl_j_x, hcl_j_y, ↓reduceIte]; done) | simp [e_, *])) (ws_cons (rfl) (rfl))))))⟩)
          · refine g_aload_n X dX6_lie_47 rfl 0 rfl ?_
            refine g_iload_n X dX6_lie_48 rfl 1 rfl ?_
            refine g_iload X dX6_lie_49 5 rfl ?_
            refine g_iload_n X dX6_lie_51 rfl 2 rfl ?_
            refine g_dV (ci := 6) (q0 := 0) (n := 3) (wr := [(a1, cI d 36 L), (a2, cI d 5 S), (a9, cI d 7 (rf7 Rf))]) (ws' := [(m0, cO 6 [.ref a0, .ref a1, .ref a2, .int (nI tn), .ref a4, .int (nI ap), .ref a6, .int (nI rn), .ref a8, .ref a9, .int im, .ref b1, .ref b2, .ref b3, .ref b4, .ref b5, .ref b6]), (a0, cI d 36 K), (a1, cI d 36 L), (a2, cI d 5 S), (a9, cI d 7 (rf7 Rf)), (b5, cI d 36 (dF (dsI K S (S 0))))]) (st' := [.int (b2i (tru (sg K (dsI K S (S 0))) j_x (nI n) j_y))]) (As := [.int (nI j_x), .int (nI n), .int (nI j_y)]) (st := []) X (ct_X6_isTrue l d m0 a0 a1 a2 a4 a6 a8 a9 b1 b2 b3 b4 b5 b6 K tn ap rn im j_x j_y (dsI K S (S 0)) (nI n) (by first | assumption | omega) (by first | assumption | omega)) wd_915 wd_912 wd_914 wd_36 wd_58 hd_X6_isTrue rfl ⟨(Nat.le_of_ble_eq_true rfl), (Nat.le_of_ble_eq_true rfl)⟩ rfl rfl dX6_lie_52 ⟨(Nat.le_of_ble_eq_true rfl), (Nat.le_of_ble_eq_true rfl)⟩ rfl rfl (Nat.le_of_ble_eq_true rfl) [0, 1, 5] [2, 3, 4] rfl rfl rfl rfl rfl (by decide) rfl [3, 4, 0, 1, 2, 5] rfl rfl rfl rfl ?_
            refine g_ifB_eq X 61 dX6_lie_55 (by decide) (fun c55_5 => ?_) (fun c55_5 => ?_)
            · have hnt := c55_5
              refine g_iconst (v := 0) X dX6_lie_61 (by decide) ?_
              refine g_istore (lv' := [(6, .int 0), (0, .ref m0), (1, .int (nI j_x)), (2, .int (nI j_y)), (3, .int ((blF (sg K (dsI K S (S 0))) L j_x j_y n).1)), (4, .int ((blF (sg K (dsI K S (S 0))) L j_x j_y n).2)), (5, .int (nI n))]) X dX6_lie_62 (by decide) rfl ?_
              refine g_iconst (v := 0) X dX6_lie_64 (by decide) ?_
              refine g_istore (lv' := [(7, .int 0), (6, .int 0), (0, .ref m0), (1, .int (nI j_x)), (2, .int (nI j_y)), (3, .int ((blF (sg K (dsI K S (S 0))) L j_x j_y n).1)), (4, .int ((blF (sg K (dsI K S (S 0))) L j_x j_y n).2)), (5, .int (nI n))]) X dX6_lie_65 (by decide) rfl ?_
              have at_67 : ∀ (n_ : Nat) (i : Nat) (hi : i ≤ 36), (36 - i) < n_ → g 0 0 [(m0, cO 6 [.ref a0, .ref a1, .ref a2, .int (nI tn), .ref a4, .int (nI ap), .ref a6, .int (nI rn), .ref a8, .ref a9, .int im, .ref b1, .ref b2, .ref b3, .ref b4, .ref b5, .ref b6]), (a0, cI d 36 K), (a1, cI d 36 L), (a2, cI d 5 S), (a9, cI d 7 (rf7 Rf)), (b5, cI d 36 (dF (dsI K S (S 0))))] [(0, .ref m0), (1, .int (nI j_x)), (2, .int (nI j_y)), (3, .int ((blF (sg K (dsI K S (S 0))) L j_x j_y n).1)), (4, .int ((blF (sg K (dsI K S (S 0))) L j_x j_y n).2)), (5, .int (nI n)), (6, .int (wbF (sg K (dsI K S (S 0))) L j_x (nI n) i)), (7, .int (nI i))] 67 [] := by
                intro n_
                induction n_ with
                | zero => intro i hi hn_; exact absurd hn_ (Nat.not_lt_zero _)
                | succ n_ ih_67 =>
                  intro i hi hn_67
                  refine g_iload X dX6_lie_67 7 rfl ?_
                  refine g_bipush (v := 36) X dX6_lie_69 (by decide) ?_
                  refine g_icmpN_ge (a := i) (b := 36) X rfl rfl (by omega) (by omega) 104 dX6_lie_71 (by decide) (fun c71_6 => ?_) (fun c71_6 => ?_)
                  · obtain rfl : i = 36 := by omega
                    refine g_iload X dX6_lie_104 6 rfl ?_
                    refine g_iload X dX6_lie_106 4 rfl ?_
                    refine g_icmp_gt X 114 dX6_lie_108 (by decide) (fun c108_7 => ?_) (fun c108_7 => ?_)
                    · refine g_iload X dX6_lie_114 6 rfl ?_
                      refine g_istore (lv' := [(4, .int (wbF (sg K (dsI K S (S 0))) L j_x (nI n) 36)), (0, .ref m0), (1, .int (nI j_x)), (2, .int (nI j_y)), (3, .int ((blF (sg K (dsI K S (S 0))) L j_x j_y n).1)), (5, .int (nI n)), (6, .int (wbF (sg K (dsI K S (S 0))) L j_x (nI n) 36)), (7, .int (nI 36))]) X dX6_lie_116 (by decide) rfl ?_
                      refine g_iload X dX6_lie_118 5 rfl ?_
                      refine g_istore_n (lv' := [(3, .int (nI n)), (4, .int (wbF (sg K (dsI K S (S 0))) L j_x (nI n) 36)), (0, .ref m0), (1, .int (nI j_x)), (2, .int (nI j_y)), (5, .int (nI n)), (6, .int (wbF (sg K (dsI K S (S 0))) L j_x (nI n) 36)), (7, .int (nI 36))]) X dX6_lie_120 rfl (by decide) rfl ?_
                      refine g_iinc (v := nI (n + 1)) (lv' := [(5, .int (nI (n + 1))), (3, .int (nI n)), (4, .int (wbF (sg K (dsI K S (S 0))) L j_x (nI n) 36)), (0, .ref m0), (1, .int (nI j_x)), (2, .int (nI j_y)), (6, .int (wbF (sg K (dsI K S (S 0))) L j_x (nI n) 36)), (7, .int (nI 36))]) X dX6_lie_121 5 rfl (nI_inc _) (by decide) rfl ?_
                      refine g_goto X 40 dX6_lie_124 (by decide) ?_
                      refine g_lv (lv' := [(0, .ref m0), (1, .int (nI j_x)), (2, .int (nI j_y)), (3, .int (nI n)), (4, .int (wbF (sg K (dsI K S (S 0))) L j_x (nI n) 36)), (5, .int (nI (n + 1)))]) X [3, 4, 5, 1, 2, 0] rfl ?_
                      exact g_eq (ws' := [(m0, cO 6 [.ref a0, .ref a1, .ref a2, .int (nI tn), .ref a4, .int (nI ap), .ref a6, .int (nI rn), .ref a8, .ref a9, .int im, .ref b1, .ref b2, .ref b3, .ref b4, .ref b5, .ref b6]), (a0, cI d 36 K), (a1, cI d 36 L), (a2, cI d 5 S), (a9, cI d 7 (rf7 Rf)), (b5, cI d 36 (dF (dsI K S (S 0))))]) (lv' := [(0, .ref m0), (1, .int (nI j_x)), (2, .int (nI j_y)), (3, .int ((blF (sg K (dsI K S (S 0))) L j_x j_y (n + 1)).1)), (4, .int ((blF (sg K (dsI K S (S 0))) L j_x j_y (n + 1)).2)), (5, .int (nI (n + 1)))]) (rfl) (lv_cons (rfl) (lv_cons (rfl) (lv_cons (rfl) (lv_cons (vI (congrArg Prod.fst (blF_y hnt (c108_7)).symm)) (lv_cons (vI (congrArg Prod.snd (blF_y hnt (c108_7)).symm)) (lv_cons (rfl) (rfl))))))) (ih_40 (n + 1) (by first | assumption | omega) (by omega))
                    · refine g_goto X 121 dX6_lie_111 (by decide) ?_
                      refine g_iinc (v := nI (n + 1)) (lv' := [(5, .int (nI (n + 1))), (0, .ref m0), (1, .int (nI j_x)), (2, .int (nI j_y)), (3, .int ((blF (sg K (dsI K S (S 0))) L j_x j_y n).1)), (4, .int ((blF (sg K (dsI K S (S 0))) L j_x j_y n).2)), (6, .int (wbF (sg K (dsI K S (S 0))) L j_x (nI n) 36)), (7, .int (nI 36))]) X dX6_lie_121 5 rfl (nI_inc _) (by decide) rfl ?_
                      refine g_goto X 40 dX6_lie_124 (by decide) ?_
                      refine g_lv (lv' := [(0, .ref m0), (1, .int (nI j_x)), (2, .int (nI j_y)), (3, .int ((blF (sg K (dsI K S (S 0))) L j_x j_y n).1)), (4, .int ((blF (sg K (dsI K S (S 0))) L j_x j_y n).2)), (5, .int (nI (n + 1)))]) X [1, 2, 3, 4, 5, 0] rfl ?_
                      exact g_eq (ws' := [(m0, cO 6 [.ref a0, .ref a1, .ref a2, .int (nI tn), .ref a4, .int (nI ap), .ref a6, .int (nI rn), .ref a8, .ref a9, .int im, .ref b1, .ref b2, .ref b3, .ref b4, .ref b5, .ref b6]), (a0, cI d 36 K), (a1, cI d 36 L), (a2, cI d 5 S), (a9, cI d 7 (rf7 Rf)), (b5, cI d 36 (dF (dsI K S (S 0))))]) (lv' := [(0, .ref m0), (1, .int (nI j_x)), (2, .int (nI j_y)), (3, .int ((blF (sg K (dsI K S (S 0))) L j_x j_y (n + 1)).1)), (4, .int ((blF (sg K (dsI K S (S 0))) L j_x j_y (n + 1)).2)), (5, .int (nI (n + 1)))]) (rfl) (lv_cons (rfl) (lv_cons (rfl) (lv_cons (rfl) (lv_cons (vI (congrArg Prod.fst (blF_n (Or.inr c108_7)).symm)) (lv_cons (vI (congrArg Prod.snd (blF_n (Or.inr c108_7)).symm)) (lv_cons (rfl) (rfl))))))) (ih_40 (n + 1) (by first | assumption | omega) (by omega))
                  · refine g_aload_n X dX6_lie_74 rfl 0 rfl ?_
                    refine g_iload_n X dX6_lie_75 rfl 1 rfl ?_
                    refine g_iload X dX6_lie_76 5 rfl ?_
                    refine g_iload X dX6_lie_78 7 rfl ?_
                    refine g_dV (ci := 6) (q0 := 0) (n := 3) (wr := [(a1, cI d 36 L), (a2, cI d 5 S), (a9, cI d 7 (rf7 Rf))]) (ws' := [(m0, cO 6 [.ref a0, .ref a1, .ref a2, .int (nI tn), .ref a4, .int (nI ap), .ref a6, .int (nI rn), .ref a8, .ref a9, .int im, .ref b1, .ref b2, .ref b3, .ref b4, .ref b5, .ref b6]), (a0, cI d 36 K), (a1, cI d 36 L), (a2, cI d 5 S), (a9, cI d 7 (rf7 Rf)), (b5, cI d 36 (dF (dsI K S (S 0))))]) (st' := [.int (b2i (tru (sg K (dsI K S (S 0))) j_x (nI n) i))]) (As := [.int (nI j_x), .int (nI n), .int (nI i)]) (st := []) X (ct_X6_isTrue l d m0 a0 a1 a2 a4 a6 a8 a9 b1 b2 b3 b4 b5 b6 K tn ap rn im j_x i (dsI K S (S 0)) (nI n) (by first | assumption | omega) (by first | assumption | omega)) wd_915 wd_912 wd_914 wd_36 wd_58 hd_X6_isTrue rfl ⟨(Nat.le_of_ble_eq_true rfl), (Nat.le_of_ble_eq_true rfl)⟩ rfl rfl dX6_lie_80 ⟨(Nat.le_of_ble_eq_true rfl), (Nat.le_of_ble_eq_true rfl)⟩ rfl rfl (Nat.le_of_ble_eq_true rfl) [0, 1, 5] [2, 3, 4] rfl rfl rfl rfl rfl (by decide) rfl [3, 4, 0, 1, 2, 5] rfl rfl rfl rfl ?_
                    refine g_ifB_eq X 98 dX6_lie_83 (by decide) (fun c83_8 => ?_) (fun c83_8 => ?_)
                    · refine g_iinc (v := nI (i + 1)) (lv' := [(7, .int (nI (i + 1))), (0, .ref m0), (1, .int (nI j_x)), (2, .int (nI j_y)), (3, .int ((blF (sg K (dsI K S (S 0))) L j_x j_y n).1)), (4, .int ((blF (sg K (dsI K S (S 0))) L j_x j_y n).2)), (5, .int (nI n)), (6, .int (wbF (sg K (dsI K S (S 0))) L j_x (nI n) i))]) X dX6_lie_98 7 rfl (nI_inc _) (by decide) rfl ?_
                      refine g_goto X 67 dX6_lie_101 (by decide) ?_
                      refine g_lv (lv' := [(0, .ref m0), (1, .int (nI j_x)), (2, .int (nI j_y)), (3, .int ((blF (sg K (dsI K S (S 0))) L j_x j_y n).1)), (4, .int ((blF (sg K (dsI K S (S 0))) L j_x j_y n).2)), (5, .int (nI n)), (6, .int (wbF (sg K (dsI K S (S 0))) L j_x (nI n) i)), (7, .int (nI (i + 1)))]) X [1, 2, 3, 4, 5, 6, 7, 0] rfl ?_
                      exact g_eq (ws' := [(m0, cO 6 [.ref a0, .ref a1, .ref a2, .int (nI tn), .ref a4, .int (nI ap), .ref a6, .int (nI rn), .ref a8, .ref a9, .int im, .ref b1, .ref b2, .ref b3, .ref b4, .ref b5, .ref b6]), (a0, cI d 36 K), (a1, cI d 36 L), (a2, cI d 5 S), (a9, cI d 7 (rf7 Rf)), (b5, cI d 36 (dF (dsI K S (S 0))))]) (lv' := [(0, .ref m0), (1, .int (nI j_x)), (2, .int (nI j_y)), (3, .int ((blF (sg K (dsI K S (S 0))) L j_x j_y n).1)), (4, .int ((blF (sg K (dsI K S (S 0))) L j_x j_y n).2)), (5, .int (nI n)), (6, .int (wbF (sg K (dsI K S (S 0))) L j_x (nI n) (i + 1))), (7, .int (nI (i + 1)))]) (rfl) (lv_cons (rfl) (lv_cons (rfl) (lv_cons (rfl) (lv_cons (rfl) (lv_cons (rfl) (lv_cons (rfl) (lv_cons (vI (wbF_n c83_8)) (lv_cons (rfl) (rfl))))))))) (ih_67 (i + 1) (by first | assumption | omega) (by omega))
                    · refine g_iload X dX6_lie_86 6 rfl ?_
                      refine g_aload_n X dX6_lie_88 rfl 0 rfl ?_
                      refine g_get (C := RX6) (T := TX6) (N := 17) (ci := 6) (v := .ref a1) X rfl inT6 1 (by decide) wd_797 rfl dX6_lie_89 0 rfl rfl ?_
                      refine g_iload X dX6_lie_92 7 rfl ?_
                      refine g_iaload_N (k := i) X rfl dX6_lie_94 2 rfl (by first | assumption | omega) (by omega) ?_
                      refine g_iadd X dX6_lie_95 ?_
                      refine g_istore (lv' := [(6, .int ((wbF (sg K (dsI K S (S 0))) L j_x (nI n) i) + (L i))), (0, .ref m0), (1, .int (nI j_x)), (2, .int (nI j_y)), (3, .int ((blF (sg K (dsI K S (S 0))) L j_x j_y n).1)), (4, .int ((blF (sg K (dsI K S (S 0))) L j_x j_y n).2)), (5, .int (nI n)), (7, .int (nI i))]) X dX6_lie_96 (by decide) rfl ?_
                      refine g_iinc (v := nI (i + 1)) (lv' := [(7, .int (nI (i + 1))), (6, .int ((wbF (sg K (dsI K S (S 0))) L j_x (nI n) i) + (L i))), (0, .ref m0), (1, .int (nI j_x)), (2, .int (nI j_y)), (3, .int ((blF (sg K (dsI K S (S 0))) L j_x j_y n).1)), (4, .int ((blF (sg K (dsI K S (S 0))) L j_x j_y n).2)), (5, .int (nI n))]) X dX6_lie_98 7 rfl (nI_inc _) (by decide) rfl ?_
                      refine g_goto X 67 dX6_lie_101 (by decide) ?_
                      refine g_lv (lv' := [(0, .ref m0), (1, .int (nI j_x)), (2, .int (nI j_y)), (3, .int ((blF (sg K (dsI K S (S 0))) L j_x j_y n).1)), (4, .int ((blF (sg K (dsI K S (S 0))) L j_x j_y n).2)), (5, .int (nI n)), (6, .int ((wbF (sg K (dsI K S (S 0))) L j_x (nI n) i) + (L i))), (7, .int (nI (i + 1)))]) X [2, 3, 4, 5, 6, 7, 1, 0] rfl ?_
                      exact g_eq (ws' := [(m0, cO 6 [.ref a0, .ref a1, .ref a2, .int (nI tn), .ref a4, .int (nI ap), .ref a6, .int (nI rn), .ref a8, .ref a9, .int im, .ref b1, .ref b2, .ref b3, .ref b4, .ref b5, .ref b6]), (a0, cI d 36 K), (a1, cI d 36 L), (a2, cI d 5 S), (a9, cI d 7 (rf7 Rf)), (b5, cI d 36 (dF (dsI K S (S 0))))]) (lv' := [(0, .ref m0), (1, .int (nI j_x)), (2, .int (nI j_y)), (3, .int ((blF (sg K (dsI K S (S 0))) L j_x j_y n).1)), (4, .int ((blF (sg K (dsI K S (S 0))) L j_x j_y n).2)), (5, .int (nI n)), (6, .int (wbF (sg K (dsI K S (S 0))) L j_x (nI n) (i + 1))), (7, .int (nI (i + 1)))]) (rfl) (lv_cons (rfl) (lv_cons (rfl) (lv_cons (rfl) (lv_cons (rfl) (lv_cons (rfl) (lv_cons (rfl) (lv_cons (vI (wbF_y c83_8)) (lv_cons (rfl) (rfl))))))))) (ih_67 (i + 1) (by first | assumption | omega) (by omega))
              refine g_lv (lv' := [(0, .ref m0), (1, .int (nI j_x)), (2, .int (nI j_y)), (3, .int ((blF (sg K (dsI K S (S 0))) L j_x j_y n).1)), (4, .int ((blF (sg K (dsI K S (S 0))) L j_x j_y n).2)), (5, .int (nI n)), (6, .int 0), (7, .int 0)]) X [2, 3, 4, 5, 6, 7, 1, 0] rfl ?_
              exact g_eq (ws' := [(m0, cO 6 [.ref a0, .ref a1, .ref a2, .int (nI tn), .ref a4, .int (nI ap), .ref a6, .int (nI rn), .ref a8, .ref a9, .int im, .ref b1, .ref b2, .ref b3, .ref b4, .ref b5, .ref b6]), (a0, cI d 36 K), (a1, cI d 36 L), (a2, cI d 5 S), (a9, cI d 7 (rf7 Rf)), (b5, cI d 36 (dF (dsI K S (S 0))))]) (lv' := [(0, .ref m0), (1, .int (nI j_x)), (2, .int (nI j_y)), (3, .int ((blF (sg K (dsI K S (S 0))) L j_x j_y n).1)), (4, .int ((blF (sg K (dsI K S (S 0))) L j_x j_y n).2)), (5, .int (nI n)), (6, .int (wbF (sg K (dsI K S (S 0))) L j_x (nI n) 0)), (7, .int (nI 0))]) (rfl) (lv_cons (rfl) (lv_cons (rfl) (lv_cons (rfl) (lv_cons (rfl) (lv_cons (rfl) (lv_cons (rfl) (lv_cons (vI (by rfl)) (lv_cons (vI (by rfl)) (rfl))))))))) (at_67 _ 0 (by first | assumption | omega) (Nat.lt_succ_self _))
            · refine g_goto X 121 dX6_lie_58 (by decide) ?_
              refine g_iinc (v := nI (n + 1)) (lv' := [(5, .int (nI (n + 1))), (0, .ref m0), (1, .int (nI j_x)), (2, .int (nI j_y)), (3, .int ((blF (sg K (dsI K S (S 0))) L j_x j_y n).1)), (4, .int ((blF (sg K (dsI K S (S 0))) L j_x j_y n).2))]) X dX6_lie_121 5 rfl (nI_inc _) (by decide) rfl ?_
              refine g_goto X 40 dX6_lie_124 (by decide) ?_
              refine g_lv (lv' := [(0, .ref m0), (1, .int (nI j_x)), (2, .int (nI j_y)), (3, .int ((blF (sg K (dsI K S (S 0))) L j_x j_y n).1)), (4, .int ((blF (sg K (dsI K S (S 0))) L j_x j_y n).2)), (5, .int (nI (n + 1)))]) X [1, 2, 3, 4, 5, 0] rfl ?_
              exact g_eq (ws' := [(m0, cO 6 [.ref a0, .ref a1, .ref a2, .int (nI tn), .ref a4, .int (nI ap), .ref a6, .int (nI rn), .ref a8, .ref a9, .int im, .ref b1, .ref b2, .ref b3, .ref b4, .ref b5, .ref b6]), (a0, cI d 36 K), (a1, cI d 36 L), (a2, cI d 5 S), (a9, cI d 7 (rf7 Rf)), (b5, cI d 36 (dF (dsI K S (S 0))))]) (lv' := [(0, .ref m0), (1, .int (nI j_x)), (2, .int (nI j_y)), (3, .int ((blF (sg K (dsI K S (S 0))) L j_x j_y (n + 1)).1)), (4, .int ((blF (sg K (dsI K S (S 0))) L j_x j_y (n + 1)).2)), (5, .int (nI (n + 1)))]) (rfl) (lv_cons (rfl) (lv_cons (rfl) (lv_cons (rfl) (lv_cons (vI (congrArg Prod.fst (blF_n (Or.inl c55_5)).symm)) (lv_cons (vI (congrArg Prod.snd (blF_n (Or.inl c55_5)).symm)) (lv_cons (rfl) (rfl))))))) (ih_40 (n + 1) (by first | assumption | omega) (by omega))
      refine g_lv (lv' := [(0, .ref m0), (1, .int (nI j_x)), (2, .int (nI j_y)), (3, .int (-9)), (4, .int 0), (5, .int 0)]) X [3, 4, 5, 2, 1, 0] rfl ?_
      exact g_eq (ws' := [(m0, cO 6 [.ref a0, .ref a1, .ref a2, .int (nI tn), .ref a4, .int (nI ap), .ref a6, .int (nI rn), .ref a8, .ref a9, .int im, .ref b1, .ref b2, .ref b3, .ref b4, .ref b5, .ref b6]), (a0, cI d 36 K), (a1, cI d 36 L), (a2, cI d 5 S), (a9, cI d 7 (rf7 Rf)), (b5, cI d 36 (dF (dsI K S (S 0))))]) (lv' := [(0, .ref m0), (1, .int (nI j_x)), (2, .int (nI j_y)), (3, .int ((blF (sg K (dsI K S (S 0))) L j_x j_y 0).1)), (4, .int ((blF (sg K (dsI K S (S 0))) L j_x j_y 0).2)), (5, .int (nI 0))]) (rfl) (lv_cons (rfl) (lv_cons (rfl) (lv_cons (rfl) (lv_cons (vI (by rfl)) (lv_cons (vI (by rfl)) (lv_cons (vI (by rfl)) (rfl))))))) (at_40 _ 0 (by first | assumption | omega) (Nat.lt_succ_self _))
    · refine g_aload_n X dX6_lie_21 rfl 0 rfl ?_
      refine g_iconst (v := (-1)) X dX6_lie_22 (by decide) ?_
      refine g_dV (ci := 6) (q0 := 0) (n := 1) (wr := [(a0, cI d 36 K), (a1, cI d 36 L), (a2, cI d 5 S), (b5, cI d 36 H)]) (ws' := [(m0, cO 6 [.ref a0, .ref a1, .ref a2, .int (nI tn), .ref a4, .int (nI ap), .ref a6, .int (nI rn), .ref a8, .ref a9, .int im, .ref b1, .ref b2, .ref b3, .ref b4, .ref b5, .ref b6]), (a0, cI d 36 K), (a1, cI d 36 L), (a2, cI d 5 S), (a9, cI d 7 (rf7 (bmp Rf 1))), (b5, cI d 36 H)]) (st' := [.int (-1)]) (As := [.int (-1)]) (st := []) X (ct_X6_no_1 l d m0 a0 a1 a2 a4 a6 a8 a9 b1 b2 b3 b4 b5 b6 Rf tn ap rn im) wd_855 wd_852 wd_854 wd_25 wd_58 hd_X6_no rfl ⟨(Nat.le_of_ble_eq_true rfl), (Nat.le_of_ble_eq_true rfl)⟩ rfl rfl dX6_lie_23 ⟨(Nat.le_of_ble_eq_true rfl), (Nat.le_of_ble_eq_true rfl)⟩ rfl rfl (Nat.le_of_ble_eq_true rfl) [0, 4] [1, 2, 3, 5] rfl rfl rfl rfl rfl (by decide) rfl [4, 0, 1, 2, 5, 3] rfl rfl rfl rfl ?_
      have e_ : sp_lie (sg K (dsI K S (S 0))) L (nI j_x) y = ((-1), 1) := lie_2 hj_x (by assumption)
      exact g_end X (gE_i dX6_lie_26 (rfl) (Nat.le_of_ble_eq_true rfl) (Nat.le_of_ble_eq_true rfl) ⟨H, congrArg (fun z => some (Value.int z)) (by rw [e_]), ws_cons (rfl) (ws_cons (rfl) (ws_cons (rfl) (ws_cons (rfl) (ws_cons (cI_eq (by first | (rw [e_]; done) | (rw [e_]; rfl) | (rw [e_]; simp only [ix, hcl_j_x, ↓reduceIte]; done) | simp [e_, *])) (ws_cons (rfl) (rfl))))))⟩)
  · refine g_aload_n X dX6_lie_7 rfl 0 rfl ?_
    refine g_bipush (v := (-2)) X dX6_lie_8 (by decide) ?_
    refine g_dV (ci := 6) (q0 := 0) (n := 1) (wr := [(a0, cI d 36 K), (a1, cI d 36 L), (a2, cI d 5 S), (b5, cI d 36 H)]) (ws' := [(m0, cO 6 [.ref a0, .ref a1, .ref a2, .int (nI tn), .ref a4, .int (nI ap), .ref a6, .int (nI rn), .ref a8, .ref a9, .int im, .ref b1, .ref b2, .ref b3, .ref b4, .ref b5, .ref b6]), (a0, cI d 36 K), (a1, cI d 36 L), (a2, cI d 5 S), (a9, cI d 7 (rf7 (bmp Rf 2))), (b5, cI d 36 H)]) (st' := [.int (-2)]) (As := [.int (-2)]) (st := []) X (ct_X6_no_2 l d m0 a0 a1 a2 a4 a6 a8 a9 b1 b2 b3 b4 b5 b6 Rf tn ap rn im) wd_855 wd_852 wd_854 wd_25 wd_58 hd_X6_no rfl ⟨(Nat.le_of_ble_eq_true rfl), (Nat.le_of_ble_eq_true rfl)⟩ rfl rfl dX6_lie_10 ⟨(Nat.le_of_ble_eq_true rfl), (Nat.le_of_ble_eq_true rfl)⟩ rfl rfl (Nat.le_of_ble_eq_true rfl) [0, 4] [1, 2, 3, 5] rfl rfl rfl rfl rfl (by decide) rfl [4, 0, 1, 2, 5, 3] rfl rfl rfl rfl ?_
    have e_ : sp_lie (sg K (dsI K S (S 0))) L x y = ((-2), 2) := lie_1 (by assumption)
    exact g_end X (gE_i dX6_lie_13 (rfl) (Nat.le_of_ble_eq_true rfl) (Nat.le_of_ble_eq_true rfl) ⟨H, congrArg (fun z => some (Value.int z)) (by rw [e_]), ws_cons (rfl) (ws_cons (rfl) (ws_cons (rfl) (ws_cons (rfl) (ws_cons (cI_eq (by first | (rw [e_]; done) | (rw [e_]; rfl) | (rw [e_]; simp only [ix, ↓reduceIte]; done) | simp [e_, *])) (ws_cons (rfl) (rfl))))))⟩)
set_option maxHeartbeats 4000000 in
set_option maxRecDepth 20000 in
theorem ct_X6_pay (l : Launch) (d : KD) (m0 a0 a1 a2 a4 a6 a8 a9 b1 b2 b3 b4 b5 b6 : Nat) (K L S Rf H : Nat → Int32) (tn ap rn : Nat) (im : Int32) (x : Int32) (hh : sq (S 0)) : Ct l d yX6_pay cX6_pay 4 (some .int) { frames := 4, cells := 0, slots := 0, locals := 91 } [.ref m0, .int x] [(m0, cO 6 [.ref a0, .ref a1, .ref a2, .int (nI tn), .ref a4, .int (nI ap), .ref a6, .int (nI rn), .ref a8, .ref a9, .int im, .ref b1, .ref b2, .ref b3, .ref b4, .ref b5, .ref b6]), (a0, cI d 36 K), (a1, cI d 36 L), (a2, cI d 5 S), (a9, cI d 7 (rf7 Rf)), (b5, cI d 36 H)] 0 0 (fun r wo => ∃ (H' : Nat → Int32), r = some (.int ((sp_pay K L S x).1)) ∧ wo = [(m0, cO 6 [.ref a0, .ref a1, .ref a2, .int (nI tn), .ref a4, .int (nI ap), .ref a6, .int (nI rn), .ref a8, .ref a9, .int im, .ref b1, .ref b2, .ref b3, .ref b4, .ref b5, .ref b6]), (a0, cI d 36 K), (a1, cI d 36 L), (a2, cI d 5 S), (a9, cI d 7 (rf7 (bmp Rf (sp_pay K L S x).2))), (b5, cI d 36 H')]) := by
  refine ct_of (own := RX6) (ini := false) (by decide +kernel) rfl (fun h => by cases h) (Nat.le_of_ble_eq_true rfl) ?_
  intro g X
  show g 0 0 [(m0, cO 6 [.ref a0, .ref a1, .ref a2, .int (nI tn), .ref a4, .int (nI ap), .ref a6, .int (nI rn), .ref a8, .ref a9, .int im, .ref b1, .ref b2, .ref b3, .ref b4, .ref b5, .ref b6]), (a0, cI d 36 K), (a1, cI d 36 L), (a2, cI d 5 S), (a9, cI d 7 (rf7 Rf)), (b5, cI d 36 H)] [(0, .ref m0), (1, .int x)] 0 []
  refine g_iload_n X dX6_pay_0 rfl 1 rfl ?_
  refine g_iconst (v := 0) X dX6_pay_1 (by decide) ?_
  refine g_iconst (v := 1) X dX6_pay_2 (by decide) ?_
  refine g_dS (n := 3) (wr := [(m0, cO 6 [.ref a0, .ref a1, .ref a2, .int (nI tn), .ref a4, .int (nI ap), .ref a6, .int (nI rn), .ref a8, .ref a9, .int im, .ref b1, .ref b2, .ref b3, .ref b4, .ref b5, .ref b6]), (a0, cI d 36 K), (a1, cI d 36 L), (a2, cI d 5 S), (a9, cI d 7 (rf7 Rf)), (b5, cI d 36 H)]) (ws' := [(m0, cO 6 [.ref a0, .ref a1, .ref a2, .int (nI tn), .ref a4, .int (nI ap), .ref a6, .int (nI rn), .ref a8, .ref a9, .int im, .ref b1, .ref b2, .ref b3, .ref b4, .ref b5, .ref b6]), (a0, cI d 36 K), (a1, cI d 36 L), (a2, cI d 5 S), (a9, cI d 7 (rf7 Rf)), (b5, cI d 36 H)]) (st' := [.int (b2i (x = 0 ∨ x = 1))]) (As := [.int x, .int 0, .int 1]) (st := []) X (ct_X6_within_2 l d x) wd_887 wd_885 wd_886 wd_58 hd_X6_within ⟨(Nat.le_of_ble_eq_true rfl), (Nat.le_of_ble_eq_true rfl)⟩ rfl rfl dX6_pay_3 ⟨(Nat.le_of_ble_eq_true rfl), (Nat.le_of_ble_eq_true rfl)⟩ rfl rfl (Nat.le_of_ble_eq_true rfl) [] [0, 1, 2, 3, 4, 5] rfl rfl rfl rfl rfl (by decide) [0, 1, 2, 3, 4, 5] rfl rfl rfl rfl ?_
  refine g_ifB_ne X 16 dX6_pay_6 (by decide) (fun c6_1 => ?_) (fun c6_1 => ?_)
  · have ho := c6_1
    refine g_aload_n X dX6_pay_16 rfl 0 rfl ?_
    refine g_dV (ci := 6) (q0 := 0) (n := 0) (wr := [(a1, cI d 36 L), (a9, cI d 7 (rf7 Rf))]) (ws' := [(m0, cO 6 [.ref a0, .ref a1, .ref a2, .int (nI tn), .ref a4, .int (nI ap), .ref a6, .int (nI rn), .ref a8, .ref a9, .int im, .ref b1, .ref b2, .ref b3, .ref b4, .ref b5, .ref b6]), (a0, cI d 36 K), (a1, cI d 36 L), (a2, cI d 5 S), (a9, cI d 7 (rf7 Rf)), (b5, cI d 36 (dF (dsI K S (S 0))))]) (st' := [.int (besM (wrs K S))]) (As := []) (st := []) X (ct_X6_wreckAt l d m0 a0 a1 a2 a4 a6 a8 a9 b1 b2 b3 b4 b5 b6 K S H tn ap rn im (by first | assumption | omega)) wd_983 wd_980 wd_982 wd_43 wd_58 hd_X6_wreckAt rfl ⟨(Nat.le_of_ble_eq_true rfl), (Nat.le_of_ble_eq_true rfl)⟩ rfl rfl dX6_pay_17 ⟨(Nat.le_of_ble_eq_true rfl), (Nat.le_of_ble_eq_true rfl)⟩ rfl rfl (Nat.le_of_ble_eq_true rfl) [0, 1, 3, 5] [2, 4] rfl rfl rfl rfl rfl (by decide) rfl [2, 3, 0, 4, 1, 5] rfl rfl rfl rfl ?_
    refine g_istore_n (lv' := [(2, .int (besM (wrs K S))), (0, .ref m0), (1, .int x)]) X dX6_pay_20 rfl (by decide) rfl ?_
    refine g_iload_n X dX6_pay_21 rfl 0 rfl ?_
    refine g_bipush (v := (-9)) X dX6_pay_22 (by decide) ?_
    refine g_icmp_ne X 30 dX6_pay_24 (by decide) (fun c24_2 => ?_) (fun c24_2 => ?_)
    · have hw6 : wrs K S < 36 := Decidable.not_not.mp (fun z => c24_2 (besM_m9.mpr z))
      refine g_eq (lv' := [(2, .int (nI (wrs K S))), (0, .ref m0), (1, .int x)]) rfl (lv_cons (vI (besM_t hw6)) (lv_cons (rfl) (lv_cons (rfl) (rfl)))) ?_
      refine g_iconst (v := 0) X dX6_pay_30 (by decide) ?_
      refine g_aload_n X dX6_pay_31 rfl 1 rfl ?_
      refine g_get (C := RX6) (T := TX6) (N := 17) (ci := 6) (v := .ref a2) X rfl inT6 2 (by decide) wd_798 rfl dX6_pay_32 0 rfl rfl ?_
      refine g_iconst (v := 3) X dX6_pay_35 (by decide) ?_
      refine g_iaload_N (k := 3) X rfl dX6_pay_36 3 rfl (by first | assumption | omega) (by omega) ?_
      refine g_bipush (v := 10) X dX6_pay_37 (by decide) ?_
      refine g_aload_n X dX6_pay_39 rfl 1 rfl ?_
      refine g_get (C := RX6) (T := TX6) (N := 17) (ci := 6) (v := .ref a2) X rfl inT6 2 (by decide) wd_798 rfl dX6_pay_40 0 rfl rfl ?_
      refine g_iconst (v := 2) X dX6_pay_43 (by decide) ?_
      refine g_iaload_N (k := 2) X rfl dX6_pay_44 3 rfl (by first | assumption | omega) (by omega) ?_
      refine g_imul X dX6_pay_45 ?_
      refine g_iadd X dX6_pay_46 ?_
      refine g_aload_n X dX6_pay_47 rfl 1 rfl ?_
      refine g_get (C := RX6) (T := TX6) (N := 17) (ci := 6) (v := .ref b5) X rfl inT6 15 (by decide) wd_811 rfl dX6_pay_48 0 rfl rfl ?_
      refine g_iload_n X dX6_pay_51 rfl 0 rfl ?_
      refine g_iaload_N (k := (wrs K S)) X rfl dX6_pay_52 5 rfl (by first | assumption | omega) (by omega) ?_
      refine g_isub X dX6_pay_53 ?_
      refine g_mmax X wd_992 wd_291 wd_63 wd_292 (Nat.le_of_ble_eq_true rfl) (Nat.le_of_ble_eq_true rfl) (Nat.le_of_ble_eq_true rfl) (Nat.le_of_ble_eq_true rfl) dX6_pay_54 ?_
      refine g_istore_n (lv' := [(3, .int (mx 0 (((S 3) + (10 * (S 2))) - (dI ((dsI K S (S 0)) (wrs K S)))))), (2, .int (nI (wrs K S))), (0, .ref m0), (1, .int x)]) X dX6_pay_57 rfl (by decide) rfl ?_
      refine g_iload_n X dX6_pay_58 rfl 3 rfl ?_
      refine g_if_ne X 66 dX6_pay_59 (by decide) (fun c59_3 => ?_) (fun c59_3 => ?_)
      · refine g_aload_n X dX6_pay_66 rfl 2 rfl ?_
        refine g_get (C := RX6) (T := TX6) (N := 17) (ci := 6) (v := .ref a2) X rfl inT6 2 (by decide) wd_798 rfl dX6_pay_67 0 rfl rfl ?_
        refine g_iconst (v := 4) X dX6_pay_70 (by decide) ?_
        refine g_iaload_N (k := 4) X rfl dX6_pay_71 3 rfl (by first | assumption | omega) (by omega) ?_
        refine g_aload_n X dX6_pay_72 rfl 2 rfl ?_
        refine g_dV (ci := 6) (q0 := 0) (n := 0) (wr := [(a0, cI d 36 K), (a2, cI d 5 S), (a9, cI d 7 (rf7 Rf)), (b5, cI d 36 (dF (dsI K S (S 0))))]) (ws' := [(m0, cO 6 [.ref a0, .ref a1, .ref a2, .int (nI tn), .ref a4, .int (nI ap), .ref a6, .int (nI rn), .ref a8, .ref a9, .int im, .ref b1, .ref b2, .ref b3, .ref b4, .ref b5, .ref b6]), (a0, cI d 36 K), (a1, cI d 36 L), (a2, cI d 5 S), (a9, cI d 7 (rf7 Rf)), (b5, cI d 36 (dF (dsI K S (S 0))))]) (st' := [.int (nI (cnt (fun q => 0 < L q) 36)), .int (S 4)]) (As := []) (st := [.int (S 4)]) X (ct_X6_left l d m0 a0 a1 a2 a4 a6 a8 a9 b1 b2 b3 b4 b5 b6 L tn ap rn im) wd_996 wd_993 wd_995 wd_45 wd_58 hd_X6_left rfl ⟨(Nat.le_of_ble_eq_true rfl), (Nat.le_of_ble_eq_true rfl)⟩ rfl rfl dX6_pay_73 ⟨(Nat.le_of_ble_eq_true rfl), (Nat.le_of_ble_eq_true rfl)⟩ rfl rfl (Nat.le_of_ble_eq_true rfl) [0, 2] [1, 3, 4, 5] rfl rfl rfl rfl rfl (by decide) rfl [4, 0, 5, 1, 2, 3] rfl rfl rfl rfl ?_
        refine g_imul X dX6_pay_76 ?_
        refine g_iload_n X dX6_pay_77 rfl 0 rfl ?_
        refine g_icmp_le X 85 dX6_pay_78 (by decide) (fun c78_4 => ?_) (fun c78_4 => ?_)
        · refine g_iconst (v := 0) X dX6_pay_85 (by decide) ?_
          have e_ : sp_pay K L S x = (0, 0) := pay_5 ho hw6 c59_3 (Int32.not_lt.mpr c78_4)
          exact g_end X (gE_i dX6_pay_86 (rfl) (Nat.le_of_ble_eq_true rfl) (Nat.le_of_ble_eq_true rfl) ⟨(dF (dsI K S (S 0))), congrArg (fun z => some (Value.int z)) (by rw [e_]), ws_cons (rfl) (ws_cons (rfl) (ws_cons (rfl) (ws_cons (rfl) (ws_cons (cI_eq (by first | (rw [e_]; done) | (rw [e_]; rfl) | (rw [e_]; simp only [ix, ↓reduceIte]; done) | simp [e_, *])) (ws_cons (rfl) (rfl))))))⟩)
        · refine g_iconst (v := 1) X dX6_pay_81 (by decide) ?_
          refine g_goto X 86 dX6_pay_82 (by decide) ?_
          have e_ : sp_pay K L S x = (1, 0) := pay_4 ho hw6 c59_3 (Int32.not_le.mp c78_4)
          exact g_end X (gE_i dX6_pay_86 (rfl) (Nat.le_of_ble_eq_true rfl) (Nat.le_of_ble_eq_true rfl) ⟨(dF (dsI K S (S 0))), congrArg (fun z => some (Value.int z)) (by rw [e_]), ws_cons (rfl) (ws_cons (rfl) (ws_cons (rfl) (ws_cons (rfl) (ws_cons (cI_eq (by first | (rw [e_]; done) | (rw [e_]; rfl) | (rw [e_]; simp only [ix, ↓reduceIte]; done) | simp [e_, *])) (ws_cons (rfl) (rfl))))))⟩)
      · refine g_iload_n X dX6_pay_62 rfl 0 rfl ?_
        refine g_goto X 86 dX6_pay_63 (by decide) ?_
        have e_ : sp_pay K L S x = (mx 0 (((S 3) + (10 * (S 2))) - (dI ((dsI K S (S 0)) (wrs K S)))), 0) := pay_3 ho hw6 c59_3
        exact g_end X (gE_i dX6_pay_86 (rfl) (Nat.le_of_ble_eq_true rfl) (Nat.le_of_ble_eq_true rfl) ⟨(dF (dsI K S (S 0))), congrArg (fun z => some (Value.int z)) (by rw [e_]), ws_cons (rfl) (ws_cons (rfl) (ws_cons (rfl) (ws_cons (rfl) (ws_cons (cI_eq (by first | (rw [e_]; done) | (rw [e_]; rfl) | (rw [e_]; simp only [ix, ↓reduceIte]; done) | simp [e_, *])) (ws_cons (rfl) (rfl))))))⟩)
    · have hw9 : ¬ wrs K S < 36 := besM_m9.mp c24_2
      refine g_bipush (v := (-9)) X dX6_pay_27 (by decide) ?_
      have e_ : sp_pay K L S x = ((-9), 0) := pay_2 ho hw9
      exact g_end X (gE_i dX6_pay_29 (rfl) (Nat.le_of_ble_eq_true rfl) (Nat.le_of_ble_eq_true rfl) ⟨(dF (dsI K S (S 0))), congrArg (fun z => some (Value.int z)) (by rw [e_]), ws_cons (rfl) (ws_cons (rfl) (ws_cons (rfl) (ws_cons (rfl) (ws_cons (cI_eq (by first | (rw [e_]; done) | (rw [e_]; rfl) | (rw [e_]; simp only [ix, ↓reduceIte]; done) | simp [e_, *])) (ws_cons (rfl) (rfl))))))⟩)
  · refine g_aload_n X dX6_pay_9 rfl 0 rfl ?_
    refine g_bipush (v := (-2)) X dX6_pay_10 (by decide) ?_
    refine g_dV (ci := 6) (q0 := 0) (n := 1) (wr := [(a0, cI d 36 K), (a1, cI d 36 L), (a2, cI d 5 S), (b5, cI d 36 H)]) (ws' := [(m0, cO 6 [.ref a0, .ref a1, .ref a2, .int (nI tn), .ref a4, .int (nI ap), .ref a6, .int (nI rn), .ref a8, .ref a9, .int im, .ref b1, .ref b2, .ref b3, .ref b4, .ref b5, .ref b6]), (a0, cI d 36 K), (a1, cI d 36 L), (a2, cI d 5 S), (a9, cI d 7 (rf7 (bmp Rf 2))), (b5, cI d 36 H)]) (st' := [.int (-2)]) (As := [.int (-2)]) (st := []) X (ct_X6_no_2 l d m0 a0 a1 a2 a4 a6 a8 a9 b1 b2 b3 b4 b5 b6 Rf tn ap rn im) wd_855 wd_852 wd_854 wd_25 wd_58 hd_X6_no rfl ⟨(Nat.le_of_ble_eq_true rfl), (Nat.le_of_ble_eq_true rfl)⟩ rfl rfl dX6_pay_12 ⟨(Nat.le_of_ble_eq_true rfl), (Nat.le_of_ble_eq_true rfl)⟩ rfl rfl (Nat.le_of_ble_eq_true rfl) [0, 4] [1, 2, 3, 5] rfl rfl rfl rfl rfl (by decide) rfl [4, 0, 1, 2, 5, 3] rfl rfl rfl rfl ?_
    have e_ : sp_pay K L S x = ((-2), 2) := pay_1 (by assumption)
    exact g_end X (gE_i dX6_pay_15 (rfl) (Nat.le_of_ble_eq_true rfl) (Nat.le_of_ble_eq_true rfl) ⟨H, congrArg (fun z => some (Value.int z)) (by rw [e_]), ws_cons (rfl) (ws_cons (rfl) (ws_cons (rfl) (ws_cons (rfl) (ws_cons (cI_eq (by first | (rw [e_]; done) | (rw [e_]; rfl) | (rw [e_]; simp only [ix, ↓reduceIte]; done) | simp [e_, *])) (ws_cons (rfl) (rfl))))))⟩)
set_option maxHeartbeats 4000000 in
set_option maxRecDepth 20000 in
theorem ct_X6_set (l : Launch) (d : KD) (m0 a0 a1 a2 a4 a6 a8 a9 b1 b2 b3 b4 b5 b6 : Nat) (K S Rf : Nat → Int32) (tn ap rn : Nat) (im : Int32) (x y : Int32) (hh : cbe K S (S 0)) : Ct l d yX6_set cX6_set 4 (some .int) { frames := 2, cells := 0, slots := 0, locals := 42 } [.ref m0, .int x, .int y] [(m0, cO 6 [.ref a0, .ref a1, .ref a2, .int (nI tn), .ref a4, .int (nI ap), .ref a6, .int (nI rn), .ref a8, .ref a9, .int im, .ref b1, .ref b2, .ref b3, .ref b4, .ref b5, .ref b6]), (a0, cI d 36 K), (a2, cI d 5 S), (a9, cI d 7 (rf7 Rf))] 0 0 (fun r wo => r = some (.int ((sp_set K S x y).1)) ∧ wo = [(m0, cO 6 [.ref a0, .ref a1, .ref a2, .int (nI tn), .ref a4, .int (nI ap), .ref a6, .int (nI rn), .ref a8, .ref a9, .int im, .ref b1, .ref b2, .ref b3, .ref b4, .ref b5, .ref b6]), (a0, cI d 36 K), (a2, cI d 5 (if (sp_set K S x y).2 = 0 then upd S (ix x) y else S)), (a9, cI d 7 (rf7 (bmp Rf (sp_set K S x y).2)))]) := by
  refine ct_of (own := RX6) (ini := false) (by decide +kernel) rfl (fun h => by cases h) (Nat.le_of_ble_eq_true rfl) ?_
  intro g X
  show g 0 0 [(m0, cO 6 [.ref a0, .ref a1, .ref a2, .int (nI tn), .ref a4, .int (nI ap), .ref a6, .int (nI rn), .ref a8, .ref a9, .int im, .ref b1, .ref b2, .ref b3, .ref b4, .ref b5, .ref b6]), (a0, cI d 36 K), (a2, cI d 5 S), (a9, cI d 7 (rf7 Rf))] [(0, .ref m0), (1, .int x), (2, .int y)] 0 []
  obtain ⟨jh, hjh, e0⟩ := sq_nat hh.1
  refine g_iload_n X dX6_set_0 rfl 1 rfl ?_
  refine g_iconst (v := 0) X dX6_set_1 (by decide) ?_
  refine g_iconst (v := 4) X dX6_set_2 (by decide) ?_
  refine g_dS (n := 3) (wr := [(m0, cO 6 [.ref a0, .ref a1, .ref a2, .int (nI tn), .ref a4, .int (nI ap), .ref a6, .int (nI rn), .ref a8, .ref a9, .int im, .ref b1, .ref b2, .ref b3, .ref b4, .ref b5, .ref b6]), (a0, cI d 36 K), (a2, cI d 5 S), (a9, cI d 7 (rf7 Rf))]) (ws' := [(m0, cO 6 [.ref a0, .ref a1, .ref a2, .int (nI tn), .ref a4, .int (nI ap), .ref a6, .int (nI rn), .ref a8, .ref a9, .int im, .ref b1, .ref b2, .ref b3, .ref b4, .ref b5, .ref b6]), (a0, cI d 36 K), (a2, cI d 5 S), (a9, cI d 7 (rf7 Rf))]) (st' := [.int (b2i (wit x 0 4))]) (As := [.int x, .int 0, .int 4]) (st := []) X (ct_X6_within l d x 0 4) wd_887 wd_885 wd_886 wd_58 hd_X6_within ⟨(Nat.le_of_ble_eq_true rfl), (Nat.le_of_ble_eq_true rfl)⟩ rfl rfl dX6_set_3 ⟨(Nat.le_of_ble_eq_true rfl), (Nat.le_of_ble_eq_true rfl)⟩ rfl rfl (Nat.le_of_ble_eq_true rfl) [] [0, 1, 2, 3] rfl rfl rfl rfl rfl (by decide) [0, 1, 2, 3] rfl rfl rfl rfl ?_
  refine g_ifB_ne X 16 dX6_set_6 (by decide) (fun c6_1 => ?_) (fun c6_1 => ?_)
  · have hw5 := wit_5 c6_1
    obtain ⟨j_x, hj_x, rfl⟩ := hw5
    have hcl_j_x : (nI j_x).toNatClampNeg = j_x := nI_clamp (by omega)
    refine g_iload_n X dX6_set_16 rfl 1 rfl ?_
    refine g_ifN_ne (a := j_x) X rfl (by omega) 33 dX6_set_17 (by decide) (fun c17_2 => ?_) (fun c17_2 => ?_)
    · have h0 : ¬ j_x = 0 := by omega
      refine g_iload_n X dX6_set_33 rfl 1 rfl ?_
      refine g_ifN_le (a := j_x) X rfl (by omega) 58 dX6_set_34 (by decide) (fun c34_3 => absurd c34_3 (by omega)) (fun c34_3 => ?_)
      refine g_iload_n X dX6_set_37 rfl 2 rfl ?_
      refine g_iload_n X dX6_set_38 rfl 1 rfl ?_
      refine g_iconst (v := 3) X dX6_set_39 (by decide) ?_
      refine g_icmpN_ge (a := j_x) (b := 3) X rfl rfl (by omega) (by omega) 47 dX6_set_40 (by decide) (fun c40_4 => ?_) (fun c40_4 => ?_)
      · refine g_iconst (v := 0) X dX6_set_47 (by decide) ?_
        refine g_icmp_ge X 58 dX6_set_48 (by decide) (fun c48_5 => ?_) (fun c48_5 => ?_)
        · refine g_iload_n X dX6_set_58 rfl 1 rfl ?_
          refine g_ifN_le (a := j_x) X rfl (by omega) 85 dX6_set_59 (by decide) (fun c59_6 => absurd c59_6 (by omega)) (fun c59_6 => ?_)
          refine g_iload_n X dX6_set_62 rfl 2 rfl ?_
          refine g_iload_n X dX6_set_63 rfl 1 rfl ?_
          refine g_iconst (v := 3) X dX6_set_64 (by decide) ?_
          refine g_icmpN_ge (a := j_x) (b := 3) X rfl rfl (by omega) (by omega) 73 dX6_set_65 (by decide) (fun c65_7 => ?_) (fun c65_7 => absurd c65_7 (by omega))
          refine g_bipush (v := 99) X dX6_set_73 (by decide) ?_
          refine g_icmp_le X 85 dX6_set_75 (by decide) (fun c75_8 => ?_) (fun c75_8 => ?_)
          · have hrg : rgS j_x y := rgS_2 hj_x h0 (by omega) (Int32.not_lt.mpr c48_5) (Int32.not_lt.mpr c75_8)
            have htop : upd S j_x y 0 = nI jh := (upd_ne (fun e => h0 e.symm)).trans e0
            have hsq := hjh
            refine g_aload_n X dX6_set_85 rfl 0 rfl ?_
            refine g_get (C := RX6) (T := TX6) (N := 17) (ci := 6) (v := .ref a2) X rfl inT6 2 (by decide) wd_798 rfl dX6_set_86 0 rfl rfl ?_
            refine g_iload_n X dX6_set_89 rfl 1 rfl ?_
            refine g_iaload_N (k := j_x) X rfl dX6_set_90 2 rfl (by first | assumption | omega) (by omega) ?_
            refine g_istore_n (lv' := [(3, .int (S j_x)), (0, .ref m0), (1, .int (nI j_x)), (2, .int y)]) X dX6_set_91 rfl (by decide) rfl ?_
            refine g_aload_n X dX6_set_92 rfl 1 rfl ?_
            refine g_get (C := RX6) (T := TX6) (N := 17) (ci := 6) (v := .ref a2) X rfl inT6 2 (by decide) wd_798 rfl dX6_set_93 0 rfl rfl ?_
            refine g_iload_n X dX6_set_96 rfl 2 rfl ?_
            refine g_iload_n X dX6_set_97 rfl 3 rfl ?_
            refine g_iastore_N (k := j_x) (ws' := [(m0, cO 6 [.ref a0, .ref a1, .ref a2, .int (nI tn), .ref a4, .int (nI ap), .ref a6, .int (nI rn), .ref a8, .ref a9, .int im, .ref b1, .ref b2, .ref b3, .ref b4, .ref b5, .ref b6]), (a0, cI d 36 K), (a2, cI d 5 (upd S j_x y)), (a9, cI d 7 (rf7 Rf))]) X rfl dX6_set_98 2 rfl (by first | assumption | omega) (by omega) rfl ?_
            refine g_aload_n X dX6_set_99 rfl 1 rfl ?_
            refine g_aload_n X dX6_set_100 rfl 1 rfl ?_
            refine g_get (C := RX6) (T := TX6) (N := 17) (ci := 6) (v := .ref a2) X rfl inT6 2 (by decide) wd_798 rfl dX6_set_101 0 rfl rfl ?_
            refine g_iconst (v := 0) X dX6_set_104 (by decide) ?_
            refine g_iaload_N (k := 0) X rfl dX6_set_105 2 rfl (by first | assumption | omega) (by omega) ?_
            refine g_tope (y := nI jh) (htop) ?_
            refine g_dV (ci := 6) (q0 := 0) (n := 1) (wr := [(a9, cI d 7 (rf7 Rf))]) (ws' := [(m0, cO 6 [.ref a0, .ref a1, .ref a2, .int (nI tn), .ref a4, .int (nI ap), .ref a6, .int (nI rn), .ref a8, .ref a9, .int im, .ref b1, .ref b2, .ref b3, .ref b4, .ref b5, .ref b6]), (a0, cI d 36 K), (a2, cI d 5 (upd S j_x y)), (a9, cI d 7 (rf7 Rf))]) (st' := [.int (b2i (csl (K jh) ((upd S j_x y) 1)))]) (As := [.int (nI jh)]) (st := []) X (ct_X6_canBe l d m0 a0 a1 a2 a4 a6 a8 a9 b1 b2 b3 b4 b5 b6 K (upd S j_x y) tn ap rn im jh (hsq)) wd_891 wd_888 wd_890 wd_31 wd_58 hd_X6_canBe rfl ⟨(Nat.le_of_ble_eq_true rfl), (Nat.le_of_ble_eq_true rfl)⟩ rfl rfl dX6_set_106 ⟨(Nat.le_of_ble_eq_true rfl), (Nat.le_of_ble_eq_true rfl)⟩ rfl rfl (Nat.le_of_ble_eq_true rfl) [0, 1, 2] [3] rfl rfl rfl rfl rfl (by decide) rfl [1, 2, 3, 0] rfl rfl rfl rfl ?_
            refine g_ifB_eq X 114 dX6_set_109 (by decide) (fun c109_9 => ?_) (fun c109_9 => ?_)
            · refine g_aload_n X dX6_set_114 rfl 1 rfl ?_
              refine g_get (C := RX6) (T := TX6) (N := 17) (ci := 6) (v := .ref a2) X rfl inT6 2 (by decide) wd_798 rfl dX6_set_115 0 rfl rfl ?_
              refine g_iload_n X dX6_set_118 rfl 2 rfl ?_
              refine g_iload_n X dX6_set_119 rfl 0 rfl ?_
              refine g_iastore_N (k := j_x) (ws' := [(m0, cO 6 [.ref a0, .ref a1, .ref a2, .int (nI tn), .ref a4, .int (nI ap), .ref a6, .int (nI rn), .ref a8, .ref a9, .int im, .ref b1, .ref b2, .ref b3, .ref b4, .ref b5, .ref b6]), (a0, cI d 36 K), (a2, cI d 5 (upd (upd S j_x y) j_x (S j_x))), (a9, cI d 7 (rf7 Rf))]) X rfl dX6_set_120 2 rfl (by first | assumption | omega) (by omega) rfl ?_
              refine g_eq (ws' := [(m0, cO 6 [.ref a0, .ref a1, .ref a2, .int (nI tn), .ref a4, .int (nI ap), .ref a6, .int (nI rn), .ref a8, .ref a9, .int im, .ref b1, .ref b2, .ref b3, .ref b4, .ref b5, .ref b6]), (a0, cI d 36 K), (a2, cI d 5 S), (a9, cI d 7 (rf7 Rf))]) (ws_cons (rfl) (ws_cons (rfl) (ws_cons (cI_eq (upd_back)) (ws_cons (rfl) (rfl))))) rfl ?_
              refine g_aload_n X dX6_set_121 rfl 1 rfl ?_
              refine g_bipush (v := (-3)) X dX6_set_122 (by decide) ?_
              refine g_dV (ci := 6) (q0 := 0) (n := 1) (wr := [(a0, cI d 36 K), (a2, cI d 5 S)]) (ws' := [(m0, cO 6 [.ref a0, .ref a1, .ref a2, .int (nI tn), .ref a4, .int (nI ap), .ref a6, .int (nI rn), .ref a8, .ref a9, .int im, .ref b1, .ref b2, .ref b3, .ref b4, .ref b5, .ref b6]), (a0, cI d 36 K), (a2, cI d 5 S), (a9, cI d 7 (rf7 (bmp Rf 3)))]) (st' := [.int (-3)]) (As := [.int (-3)]) (st := []) X (ct_X6_no_3 l d m0 a0 a1 a2 a4 a6 a8 a9 b1 b2 b3 b4 b5 b6 Rf tn ap rn im) wd_855 wd_852 wd_854 wd_25 wd_58 hd_X6_no rfl ⟨(Nat.le_of_ble_eq_true rfl), (Nat.le_of_ble_eq_true rfl)⟩ rfl rfl dX6_set_124 ⟨(Nat.le_of_ble_eq_true rfl), (Nat.le_of_ble_eq_true rfl)⟩ rfl rfl (Nat.le_of_ble_eq_true rfl) [0, 3] [1, 2] rfl rfl rfl rfl rfl (by decide) rfl [2, 0, 1, 3] rfl rfl rfl rfl ?_
              have e_ : sp_set K S (nI j_x) y = ((-3), 3) := set_3 hj_x hrg hsq htop c109_9
              exact g_end X (gE_i dX6_set_127 (rfl) (Nat.le_of_ble_eq_true rfl) (Nat.le_of_ble_eq_true rfl) ⟨congrArg (fun z => some (Value.int z)) (by rw [e_]), ws_cons (rfl) (ws_cons (rfl) (ws_cons (cI_eq (by first | (rw [e_]; done) | (rw [e_]; rfl) | (rw [e_]; simp only [ix, hcl_j_x, ↓reduceIte]; done) | simp [e_, *])) (ws_cons (cI_eq (by first | (rw [e_]; done) | (rw [e_]; rfl) | (rw [e_]; simp only [ix, hcl_j_x, ↓reduceIte]; done) | simp [e_, *])) (rfl))))⟩)
            · refine g_iload_n X dX6_set_112 rfl 0 rfl ?_
              have e_ : sp_set K S (nI j_x) y = (S j_x, 0) := set_0 hj_x hrg hsq htop c109_9
              exact g_end X (gE_i dX6_set_113 (rfl) (Nat.le_of_ble_eq_true rfl) (Nat.le_of_ble_eq_true rfl) ⟨congrArg (fun z => some (Value.int z)) (by rw [e_]), ws_cons (rfl) (ws_cons (rfl) (ws_cons (cI_eq (by first | (rw [e_]; done) | (rw [e_]; rfl) | (rw [e_]; simp only [ix, hcl_j_x, ↓reduceIte]; done) | simp [e_, *])) (ws_cons (cI_eq (by first | (rw [e_]; done) | (rw [e_]; rfl) | (rw [e_]; simp only [ix, hcl_j_x, ↓reduceIte]; done) | simp [e_, *])) (rfl))))⟩)
          · refine g_aload_n X dX6_set_78 rfl 0 rfl ?_
            refine g_bipush (v := (-6)) X dX6_set_79 (by decide) ?_
            refine g_dV (ci := 6) (q0 := 0) (n := 1) (wr := [(a0, cI d 36 K), (a2, cI d 5 S)]) (ws' := [(m0, cO 6 [.ref a0, .ref a1, .ref a2, .int (nI tn), .ref a4, .int (nI ap), .ref a6, .int (nI rn), .ref a8, .ref a9, .int im, .ref b1, .ref b2, .ref b3, .ref b4, .ref b5, .ref b6]), (a0, cI d 36 K), (a2, cI d 5 S), (a9, cI d 7 (rf7 (bmp Rf 6)))]) (st' := [.int (-6)]) (As := [.int (-6)]) (st := []) X (ct_X6_no_6 l d m0 a0 a1 a2 a4 a6 a8 a9 b1 b2 b3 b4 b5 b6 Rf tn ap rn im) wd_855 wd_852 wd_854 wd_25 wd_58 hd_X6_no rfl ⟨(Nat.le_of_ble_eq_true rfl), (Nat.le_of_ble_eq_true rfl)⟩ rfl rfl dX6_set_81 ⟨(Nat.le_of_ble_eq_true rfl), (Nat.le_of_ble_eq_true rfl)⟩ rfl rfl (Nat.le_of_ble_eq_true rfl) [0, 3] [1, 2] rfl rfl rfl rfl rfl (by decide) rfl [2, 0, 1, 3] rfl rfl rfl rfl ?_
            have e_ : sp_set K S (nI j_x) y = ((-6), 6) := set_62 hj_x h0 (by omega) (Int32.not_lt.mpr c48_5) (Int32.not_le.mp c75_8)
            exact g_end X (gE_i dX6_set_84 (rfl) (Nat.le_of_ble_eq_true rfl) (Nat.le_of_ble_eq_true rfl) ⟨congrArg (fun z => some (Value.int z)) (by rw [e_]), ws_cons (rfl) (ws_cons (rfl) (ws_cons (cI_eq (by first | (rw [e_]; done) | (rw [e_]; rfl) | (rw [e_]; simp only [ix, hcl_j_x, ↓reduceIte]; done) | simp [e_, *])) (ws_cons (cI_eq (by first | (rw [e_]; done) | (rw [e_]; rfl) | (rw [e_]; simp only [ix, hcl_j_x, ↓reduceIte]; done) | simp [e_, *])) (rfl))))⟩)
        · refine g_aload_n X dX6_set_51 rfl 0 rfl ?_
          refine g_bipush (v := (-4)) X dX6_set_52 (by decide) ?_
          refine g_dV (ci := 6) (q0 := 0) (n := 1) (wr := [(a0, cI d 36 K), (a2, cI d 5 S)]) (ws' := [(m0, cO 6 [.ref a0, .ref a1, .ref a2, .int (nI tn), .ref a4, .int (nI ap), .ref a6, .int (nI rn), .ref a8, .ref a9, .int im, .ref b1, .ref b2, .ref b3, .ref b4, .ref b5, .ref b6]), (a0, cI d 36 K), (a2, cI d 5 S), (a9, cI d 7 (rf7 (bmp Rf 4)))]) (st' := [.int (-4)]) (As := [.int (-4)]) (st := []) X (ct_X6_no_4 l d m0 a0 a1 a2 a4 a6 a8 a9 b1 b2 b3 b4 b5 b6 Rf tn ap rn im) wd_855 wd_852 wd_854 wd_25 wd_58 hd_X6_no rfl ⟨(Nat.le_of_ble_eq_true rfl), (Nat.le_of_ble_eq_true rfl)⟩ rfl rfl dX6_set_54 ⟨(Nat.le_of_ble_eq_true rfl), (Nat.le_of_ble_eq_true rfl)⟩ rfl rfl (Nat.le_of_ble_eq_true rfl) [0, 3] [1, 2] rfl rfl rfl rfl rfl (by decide) rfl [2, 0, 1, 3] rfl rfl rfl rfl ?_
          have e_ : sp_set K S (nI j_x) y = ((-4), 4) := set_42 hj_x h0 (by omega) (Int32.not_le.mp c48_5)
          exact g_end X (gE_i dX6_set_57 (rfl) (Nat.le_of_ble_eq_true rfl) (Nat.le_of_ble_eq_true rfl) ⟨congrArg (fun z => some (Value.int z)) (by rw [e_]), ws_cons (rfl) (ws_cons (rfl) (ws_cons (cI_eq (by first | (rw [e_]; done) | (rw [e_]; rfl) | (rw [e_]; simp only [ix, hcl_j_x, ↓reduceIte]; done) | simp [e_, *])) (ws_cons (cI_eq (by first | (rw [e_]; done) | (rw [e_]; rfl) | (rw [e_]; simp only [ix, hcl_j_x, ↓reduceIte]; done) | simp [e_, *])) (rfl))))⟩)
      · refine g_iconst (v := 1) X dX6_set_43 (by decide) ?_
        refine g_goto X 48 dX6_set_44 (by decide) ?_
        refine g_icmp_ge X 58 dX6_set_48 (by decide) (fun c48_14 => ?_) (fun c48_14 => ?_)
        · refine g_iload_n X dX6_set_58 rfl 1 rfl ?_
          refine g_ifN_le (a := j_x) X rfl (by omega) 85 dX6_set_59 (by decide) (fun c59_15 => absurd c59_15 (by omega)) (fun c59_15 => ?_)
          refine g_iload_n X dX6_set_62 rfl 2 rfl ?_
          refine g_iload_n X dX6_set_63 rfl 1 rfl ?_
          refine g_iconst (v := 3) X dX6_set_64 (by decide) ?_
          refine g_icmpN_ge (a := j_x) (b := 3) X rfl rfl (by omega) (by omega) 73 dX6_set_65 (by decide) (fun c65_16 => absurd c65_16 (by omega)) (fun c65_16 => ?_)
          refine g_bipush (v := 9) X dX6_set_68 (by decide) ?_
          refine g_goto X 75 dX6_set_70 (by decide) ?_
          refine g_icmp_le X 85 dX6_set_75 (by decide) (fun c75_17 => ?_) (fun c75_17 => ?_)
          · have hrg : rgS j_x y := rgS_1 hj_x h0 (by omega) (Int32.not_lt.mpr c48_14) (Int32.not_lt.mpr c75_17)
            have htop : upd S j_x y 0 = nI jh := (upd_ne (fun e => h0 e.symm)).trans e0
            have hsq := hjh
            refine g_aload_n X dX6_set_85 rfl 0 rfl ?_
            refine g_get (C := RX6) (T := TX6) (N := 17) (ci := 6) (v := .ref a2) X rfl inT6 2 (by decide) wd_798 rfl dX6_set_86 0 rfl rfl ?_
            refine g_iload_n X dX6_set_89 rfl 1 rfl ?_
            refine g_iaload_N (k := j_x) X rfl dX6_set_90 2 rfl (by first | assumption | omega) (by omega) ?_
            refine g_istore_n (lv' := [(3, .int (S j_x)), (0, .ref m0), (1, .int (nI j_x)), (2, .int y)]) X dX6_set_91 rfl (by decide) rfl ?_
            refine g_aload_n X dX6_set_92 rfl 1 rfl ?_
            refine g_get (C := RX6) (T := TX6) (N := 17) (ci := 6) (v := .ref a2) X rfl inT6 2 (by decide) wd_798 rfl dX6_set_93 0 rfl rfl ?_
            refine g_iload_n X dX6_set_96 rfl 2 rfl ?_
            refine g_iload_n X dX6_set_97 rfl 3 rfl ?_
            refine g_iastore_N (k := j_x) (ws' := [(m0, cO 6 [.ref a0, .ref a1, .ref a2, .int (nI tn), .ref a4, .int (nI ap), .ref a6, .int (nI rn), .ref a8, .ref a9, .int im, .ref b1, .ref b2, .ref b3, .ref b4, .ref b5, .ref b6]), (a0, cI d 36 K), (a2, cI d 5 (upd S j_x y)), (a9, cI d 7 (rf7 Rf))]) X rfl dX6_set_98 2 rfl (by first | assumption | omega) (by omega) rfl ?_
            refine g_aload_n X dX6_set_99 rfl 1 rfl ?_
            refine g_aload_n X dX6_set_100 rfl 1 rfl ?_
            refine g_get (C := RX6) (T := TX6) (N := 17) (ci := 6) (v := .ref a2) X rfl inT6 2 (by decide) wd_798 rfl dX6_set_101 0 rfl rfl ?_
            refine g_iconst (v := 0) X dX6_set_104 (by decide) ?_
            refine g_iaload_N (k := 0) X rfl dX6_set_105 2 rfl (by first | assumption | omega) (by omega) ?_
            refine g_tope (y := nI jh) (htop) ?_
            refine g_dV (ci := 6) (q0 := 0) (n := 1) (wr := [(a9, cI d 7 (rf7 Rf))]) (ws' := [(m0, cO 6 [.ref a0, .ref a1, .ref a2, .int (nI tn), .ref a4, .int (nI ap), .ref a6, .int (nI rn), .ref a8, .ref a9, .int im, .ref b1, .ref b2, .ref b3, .ref b4, .ref b5, .ref b6]), (a0, cI d 36 K), (a2, cI d 5 (upd S j_x y)), (a9, cI d 7 (rf7 Rf))]) (st' := [.int (b2i (csl (K jh) ((upd S j_x y) 1)))]) (As := [.int (nI jh)]) (st := []) X (ct_X6_canBe l d m0 a0 a1 a2 a4 a6 a8 a9 b1 b2 b3 b4 b5 b6 K (upd S j_x y) tn ap rn im jh (hsq)) wd_891 wd_888 wd_890 wd_31 wd_58 hd_X6_canBe rfl ⟨(Nat.le_of_ble_eq_true rfl), (Nat.le_of_ble_eq_true rfl)⟩ rfl rfl dX6_set_106 ⟨(Nat.le_of_ble_eq_true rfl), (Nat.le_of_ble_eq_true rfl)⟩ rfl rfl (Nat.le_of_ble_eq_true rfl) [0, 1, 2] [3] rfl rfl rfl rfl rfl (by decide) rfl [1, 2, 3, 0] rfl rfl rfl rfl ?_
            refine g_ifB_eq X 114 dX6_set_109 (by decide) (fun c109_18 => ?_) (fun c109_18 => ?_)
            · refine g_aload_n X dX6_set_114 rfl 1 rfl ?_
              refine g_get (C := RX6) (T := TX6) (N := 17) (ci := 6) (v := .ref a2) X rfl inT6 2 (by decide) wd_798 rfl dX6_set_115 0 rfl rfl ?_
              refine g_iload_n X dX6_set_118 rfl 2 rfl ?_
              refine g_iload_n X dX6_set_119 rfl 0 rfl ?_
              refine g_iastore_N (k := j_x) (ws' := [(m0, cO 6 [.ref a0, .ref a1, .ref a2, .int (nI tn), .ref a4, .int (nI ap), .ref a6, .int (nI rn), .ref a8, .ref a9, .int im, .ref b1, .ref b2, .ref b3, .ref b4, .ref b5, .ref b6]), (a0, cI d 36 K), (a2, cI d 5 (upd (upd S j_x y) j_x (S j_x))), (a9, cI d 7 (rf7 Rf))]) X rfl dX6_set_120 2 rfl (by first | assumption | omega) (by omega) rfl ?_
              refine g_eq (ws' := [(m0, cO 6 [.ref a0, .ref a1, .ref a2, .int (nI tn), .ref a4, .int (nI ap), .ref a6, .int (nI rn), .ref a8, .ref a9, .int im, .ref b1, .ref b2, .ref b3, .ref b4, .ref b5, .ref b6]), (a0, cI d 36 K), (a2, cI d 5 S), (a9, cI d 7 (rf7 Rf))]) (ws_cons (rfl) (ws_cons (rfl) (ws_cons (cI_eq (upd_back)) (ws_cons (rfl) (rfl))))) rfl ?_
              refine g_aload_n X dX6_set_121 rfl 1 rfl ?_
              refine g_bipush (v := (-3)) X dX6_set_122 (by decide) ?_
              refine g_dV (ci := 6) (q0 := 0) (n := 1) (wr := [(a0, cI d 36 K), (a2, cI d 5 S)]) (ws' := [(m0, cO 6 [.ref a0, .ref a1, .ref a2, .int (nI tn), .ref a4, .int (nI ap), .ref a6, .int (nI rn), .ref a8, .ref a9, .int im, .ref b1, .ref b2, .ref b3, .ref b4, .ref b5, .ref b6]), (a0, cI d 36 K), (a2, cI d 5 S), (a9, cI d 7 (rf7 (bmp Rf 3)))]) (st' := [.int (-3)]) (As := [.int (-3)]) (st := []) X (ct_X6_no_3 l d m0 a0 a1 a2 a4 a6 a8 a9 b1 b2 b3 b4 b5 b6 Rf tn ap rn im) wd_855 wd_852 wd_854 wd_25 wd_58 hd_X6_no rfl ⟨(Nat.le_of_ble_eq_true rfl), (Nat.le_of_ble_eq_true rfl)⟩ rfl rfl dX6_set_124 ⟨(Nat.le_of_ble_eq_true rfl), (Nat.le_of_ble_eq_true rfl)⟩ rfl rfl (Nat.le_of_ble_eq_true rfl) [0, 3] [1, 2] rfl rfl rfl rfl rfl (by decide) rfl [2, 0, 1, 3] rfl rfl rfl rfl ?_
              have e_ : sp_set K S (nI j_x) y = ((-3), 3) := set_3 hj_x hrg hsq htop c109_18
              exact g_end X (gE_i dX6_set_127 (rfl) (Nat.le_of_ble_eq_true rfl) (Nat.le_of_ble_eq_true rfl) ⟨congrArg (fun z => some (Value.int z)) (by rw [e_]), ws_cons (rfl) (ws_cons (rfl) (ws_cons (cI_eq (by first | (rw [e_]; done) | (rw [e_]; rfl) | (rw [e_]; simp only [ix, hcl_j_x, ↓reduceIte]; done) | simp [e_, *])) (ws_cons (cI_eq (by first | (rw [e_]; done) | (rw [e_]; rfl) | (rw [e_]; simp only [ix, hcl_j_x, ↓reduceIte]; done) | simp [e_, *])) (rfl))))⟩)
            · refine g_iload_n X dX6_set_112 rfl 0 rfl ?_
              have e_ : sp_set K S (nI j_x) y = (S j_x, 0) := set_0 hj_x hrg hsq htop c109_18
              exact g_end X (gE_i dX6_set_113 (rfl) (Nat.le_of_ble_eq_true rfl) (Nat.le_of_ble_eq_true rfl) ⟨congrArg (fun z => some (Value.int z)) (by rw [e_]), ws_cons (rfl) (ws_cons (rfl) (ws_cons (cI_eq (by first | (rw [e_]; done) | (rw [e_]; rfl) | (rw [e_]; simp only [ix, hcl_j_x, ↓reduceIte]; done) | simp [e_, *])) (ws_cons (cI_eq (by first | (rw [e_]; done) | (rw [e_]; rfl) | (rw [e_]; simp only [ix, hcl_j_x, ↓reduceIte]; done) | simp [e_, *])) (rfl))))⟩)
          · refine g_aload_n X dX6_set_78 rfl 0 rfl ?_
            refine g_bipush (v := (-6)) X dX6_set_79 (by decide) ?_
            refine g_dV (ci := 6) (q0 := 0) (n := 1) (wr := [(a0, cI d 36 K), (a2, cI d 5 S)]) (ws' := [(m0, cO 6 [.ref a0, .ref a1, .ref a2, .int (nI tn), .ref a4, .int (nI ap), .ref a6, .int (nI rn), .ref a8, .ref a9, .int im, .ref b1, .ref b2, .ref b3, .ref b4, .ref b5, .ref b6]), (a0, cI d 36 K), (a2, cI d 5 S), (a9, cI d 7 (rf7 (bmp Rf 6)))]) (st' := [.int (-6)]) (As := [.int (-6)]) (st := []) X (ct_X6_no_6 l d m0 a0 a1 a2 a4 a6 a8 a9 b1 b2 b3 b4 b5 b6 Rf tn ap rn im) wd_855 wd_852 wd_854 wd_25 wd_58 hd_X6_no rfl ⟨(Nat.le_of_ble_eq_true rfl), (Nat.le_of_ble_eq_true rfl)⟩ rfl rfl dX6_set_81 ⟨(Nat.le_of_ble_eq_true rfl), (Nat.le_of_ble_eq_true rfl)⟩ rfl rfl (Nat.le_of_ble_eq_true rfl) [0, 3] [1, 2] rfl rfl rfl rfl rfl (by decide) rfl [2, 0, 1, 3] rfl rfl rfl rfl ?_
            have e_ : sp_set K S (nI j_x) y = ((-6), 6) := set_61 hj_x h0 (by omega) (Int32.not_lt.mpr c48_14) (Int32.not_le.mp c75_17)
            exact g_end X (gE_i dX6_set_84 (rfl) (Nat.le_of_ble_eq_true rfl) (Nat.le_of_ble_eq_true rfl) ⟨congrArg (fun z => some (Value.int z)) (by rw [e_]), ws_cons (rfl) (ws_cons (rfl) (ws_cons (cI_eq (by first | (rw [e_]; done) | (rw [e_]; rfl) | (rw [e_]; simp only [ix, hcl_j_x, ↓reduceIte]; done) | simp [e_, *])) (ws_cons (cI_eq (by first | (rw [e_]; done) | (rw [e_]; rfl) | (rw [e_]; simp only [ix, hcl_j_x, ↓reduceIte]; done) | simp [e_, *])) (rfl))))⟩)
        · refine g_aload_n X dX6_set_51 rfl 0 rfl ?_
          refine g_bipush (v := (-4)) X dX6_set_52 (by decide) ?_
          refine g_dV (ci := 6) (q0 := 0) (n := 1) (wr := [(a0, cI d 36 K), (a2, cI d 5 S)]) (ws' := [(m0, cO 6 [.ref a0, .ref a1, .ref a2, .int (nI tn), .ref a4, .int (nI ap), .ref a6, .int (nI rn), .ref a8, .ref a9, .int im, .ref b1, .ref b2, .ref b3, .ref b4, .ref b5, .ref b6]), (a0, cI d 36 K), (a2, cI d 5 S), (a9, cI d 7 (rf7 (bmp Rf 4)))]) (st' := [.int (-4)]) (As := [.int (-4)]) (st := []) X (ct_X6_no_4 l d m0 a0 a1 a2 a4 a6 a8 a9 b1 b2 b3 b4 b5 b6 Rf tn ap rn im) wd_855 wd_852 wd_854 wd_25 wd_58 hd_X6_no rfl ⟨(Nat.le_of_ble_eq_true rfl), (Nat.le_of_ble_eq_true rfl)⟩ rfl rfl dX6_set_54 ⟨(Nat.le_of_ble_eq_true rfl), (Nat.le_of_ble_eq_true rfl)⟩ rfl rfl (Nat.le_of_ble_eq_true rfl) [0, 3] [1, 2] rfl rfl rfl rfl rfl (by decide) rfl [2, 0, 1, 3] rfl rfl rfl rfl ?_
          have e_ : sp_set K S (nI j_x) y = ((-4), 4) := set_41 hj_x h0 (by omega) (Int32.not_le.mp c48_14)
          exact g_end X (gE_i dX6_set_57 (rfl) (Nat.le_of_ble_eq_true rfl) (Nat.le_of_ble_eq_true rfl) ⟨congrArg (fun z => some (Value.int z)) (by rw [e_]), ws_cons (rfl) (ws_cons (rfl) (ws_cons (cI_eq (by first | (rw [e_]; done) | (rw [e_]; rfl) | (rw [e_]; simp only [ix, hcl_j_x, ↓reduceIte]; done) | simp [e_, *])) (ws_cons (cI_eq (by first | (rw [e_]; done) | (rw [e_]; rfl) | (rw [e_]; simp only [ix, hcl_j_x, ↓reduceIte]; done) | simp [e_, *])) (rfl))))⟩)
    · obtain rfl : j_x = 0 := by omega
      refine g_iload_n X dX6_set_20 rfl 2 rfl ?_
      refine g_dS (n := 1) (wr := [(m0, cO 6 [.ref a0, .ref a1, .ref a2, .int (nI tn), .ref a4, .int (nI ap), .ref a6, .int (nI rn), .ref a8, .ref a9, .int im, .ref b1, .ref b2, .ref b3, .ref b4, .ref b5, .ref b6]), (a0, cI d 36 K), (a2, cI d 5 S), (a9, cI d 7 (rf7 Rf))]) (ws' := [(m0, cO 6 [.ref a0, .ref a1, .ref a2, .int (nI tn), .ref a4, .int (nI ap), .ref a6, .int (nI rn), .ref a8, .ref a9, .int im, .ref b1, .ref b2, .ref b3, .ref b4, .ref b5, .ref b6]), (a0, cI d 36 K), (a2, cI d 5 S), (a9, cI d 7 (rf7 Rf))]) (st' := [.int (b2i (sq y))]) (As := [.int y]) (st := []) X (ct_X6_isSquare l d y) wd_884 wd_882 wd_883 wd_58 hd_X6_isSquare ⟨(Nat.le_of_ble_eq_true rfl), (Nat.le_of_ble_eq_true rfl)⟩ rfl rfl dX6_set_21 ⟨(Nat.le_of_ble_eq_true rfl), (Nat.le_of_ble_eq_true rfl)⟩ rfl rfl (Nat.le_of_ble_eq_true rfl) [] [0, 1, 2, 3] rfl rfl rfl rfl rfl (by decide) [0, 1, 2, 3] rfl rfl rfl rfl ?_
      refine g_ifB_ne X 33 dX6_set_24 (by decide) (fun c24_23 => ?_) (fun c24_23 => ?_)
      · obtain ⟨j_y, hj_y, rfl⟩ := sq_nat c24_23
        have hcl_j_y : (nI j_y).toNatClampNeg = j_y := nI_clamp (by omega)
        refine g_iload_n X dX6_set_33 rfl 1 rfl ?_
        refine g_ifN_le (a := 0) X rfl (by omega) 58 dX6_set_34 (by decide) (fun c34_24 => ?_) (fun c34_24 => absurd (by omega) c34_24)
        refine g_iload_n X dX6_set_58 rfl 1 rfl ?_
        refine g_ifN_le (a := 0) X rfl (by omega) 85 dX6_set_59 (by decide) (fun c59_25 => ?_) (fun c59_25 => absurd (by omega) c59_25)
        have hrg : rgS 0 (nI j_y) := rgS_0 (nI_sq hj_y)
        have htop : upd S 0 (nI j_y) 0 = nI j_y := upd_at
        have hsq := hj_y
        refine g_aload_n X dX6_set_85 rfl 0 rfl ?_
        refine g_get (C := RX6) (T := TX6) (N := 17) (ci := 6) (v := .ref a2) X rfl inT6 2 (by decide) wd_798 rfl dX6_set_86 0 rfl rfl ?_
        refine g_iload_n X dX6_set_89 rfl 1 rfl ?_
        refine g_iaload_N (k := 0) X rfl dX6_set_90 2 rfl (by first | assumption | omega) (by omega) ?_
        refine g_istore_n (lv' := [(3, .int (S 0)), (0, .ref m0), (1, .int (nI 0)), (2, .int (nI j_y))]) X dX6_set_91 rfl (by decide) rfl ?_
        refine g_aload_n X dX6_set_92 rfl 1 rfl ?_
        refine g_get (C := RX6) (T := TX6) (N := 17) (ci := 6) (v := .ref a2) X rfl inT6 2 (by decide) wd_798 rfl dX6_set_93 0 rfl rfl ?_
        refine g_iload_n X dX6_set_96 rfl 2 rfl ?_
        refine g_iload_n X dX6_set_97 rfl 3 rfl ?_
        refine g_iastore_N (k := 0) (ws' := [(m0, cO 6 [.ref a0, .ref a1, .ref a2, .int (nI tn), .ref a4, .int (nI ap), .ref a6, .int (nI rn), .ref a8, .ref a9, .int im, .ref b1, .ref b2, .ref b3, .ref b4, .ref b5, .ref b6]), (a0, cI d 36 K), (a2, cI d 5 (upd S 0 (nI j_y))), (a9, cI d 7 (rf7 Rf))]) X rfl dX6_set_98 2 rfl (by first | assumption | omega) (by omega) rfl ?_
        refine g_aload_n X dX6_set_99 rfl 1 rfl ?_
        refine g_aload_n X dX6_set_100 rfl 1 rfl ?_
        refine g_get (C := RX6) (T := TX6) (N := 17) (ci := 6) (v := .ref a2) X rfl inT6 2 (by decide) wd_798 rfl dX6_set_101 0 rfl rfl ?_
        refine g_iconst (v := 0) X dX6_set_104 (by decide) ?_
        refine g_iaload_N (k := 0) X rfl dX6_set_105 2 rfl (by first | assumption | omega) (by omega) ?_
        refine g_tope (y := nI j_y) (htop) ?_
        refine g_dV (ci := 6) (q0 := 0) (n := 1) (wr := [(a9, cI d 7 (rf7 Rf))]) (ws' := [(m0, cO 6 [.ref a0, .ref a1, .ref a2, .int (nI tn), .ref a4, .int (nI ap), .ref a6, .int (nI rn), .ref a8, .ref a9, .int im, .ref b1, .ref b2, .ref b3, .ref b4, .ref b5, .ref b6]), (a0, cI d 36 K), (a2, cI d 5 (upd S 0 (nI j_y))), (a9, cI d 7 (rf7 Rf))]) (st' := [.int (b2i (csl (K j_y) ((upd S 0 (nI j_y)) 1)))]) (As := [.int (nI j_y)]) (st := []) X (ct_X6_canBe l d m0 a0 a1 a2 a4 a6 a8 a9 b1 b2 b3 b4 b5 b6 K (upd S 0 (nI j_y)) tn ap rn im j_y (hsq)) wd_891 wd_888 wd_890 wd_31 wd_58 hd_X6_canBe rfl ⟨(Nat.le_of_ble_eq_true rfl), (Nat.le_of_ble_eq_true rfl)⟩ rfl rfl dX6_set_106 ⟨(Nat.le_of_ble_eq_true rfl), (Nat.le_of_ble_eq_true rfl)⟩ rfl rfl (Nat.le_of_ble_eq_true rfl) [0, 1, 2] [3] rfl rfl rfl rfl rfl (by decide) rfl [1, 2, 3, 0] rfl rfl rfl rfl ?_
        refine g_ifB_eq X 114 dX6_set_109 (by decide) (fun c109_26 => ?_) (fun c109_26 => ?_)
        · refine g_aload_n X dX6_set_114 rfl 1 rfl ?_
          refine g_get (C := RX6) (T := TX6) (N := 17) (ci := 6) (v := .ref a2) X rfl inT6 2 (by decide) wd_798 rfl dX6_set_115 0 rfl rfl ?_
          refine g_iload_n X dX6_set_118 rfl 2 rfl ?_
          refine g_iload_n X dX6_set_119 rfl 0 rfl ?_
          refine g_iastore_N (k := 0) (ws' := [(m0, cO 6 [.ref a0, .ref a1, .ref a2, .int (nI tn), .ref a4, .int (nI ap), .ref a6, .int (nI rn), .ref a8, .ref a9, .int im, .ref b1, .ref b2, .ref b3, .ref b4, .ref b5, .ref b6]), (a0, cI d 36 K), (a2, cI d 5 (upd (upd S 0 (nI j_y)) 0 (S 0))), (a9, cI d 7 (rf7 Rf))]) X rfl dX6_set_120 2 rfl (by first | assumption | omega) (by omega) rfl ?_
          refine g_eq (ws' := [(m0, cO 6 [.ref a0, .ref a1, .ref a2, .int (nI tn), .ref a4, .int (nI ap), .ref a6, .int (nI rn), .ref a8, .ref a9, .int im, .ref b1, .ref b2, .ref b3, .ref b4, .ref b5, .ref b6]), (a0, cI d 36 K), (a2, cI d 5 S), (a9, cI d 7 (rf7 Rf))]) (ws_cons (rfl) (ws_cons (rfl) (ws_cons (cI_eq (upd_back)) (ws_cons (rfl) (rfl))))) rfl ?_
          refine g_aload_n X dX6_set_121 rfl 1 rfl ?_
          refine g_bipush (v := (-3)) X dX6_set_122 (by decide) ?_
          refine g_dV (ci := 6) (q0 := 0) (n := 1) (wr := [(a0, cI d 36 K), (a2, cI d 5 S)]) (ws' := [(m0, cO 6 [.ref a0, .ref a1, .ref a2, .int (nI tn), .ref a4, .int (nI ap), .ref a6, .int (nI rn), .ref a8, .ref a9, .int im, .ref b1, .ref b2, .ref b3, .ref b4, .ref b5, .ref b6]), (a0, cI d 36 K), (a2, cI d 5 S), (a9, cI d 7 (rf7 (bmp Rf 3)))]) (st' := [.int (-3)]) (As := [.int (-3)]) (st := []) X (ct_X6_no_3 l d m0 a0 a1 a2 a4 a6 a8 a9 b1 b2 b3 b4 b5 b6 Rf tn ap rn im) wd_855 wd_852 wd_854 wd_25 wd_58 hd_X6_no rfl ⟨(Nat.le_of_ble_eq_true rfl), (Nat.le_of_ble_eq_true rfl)⟩ rfl rfl dX6_set_124 ⟨(Nat.le_of_ble_eq_true rfl), (Nat.le_of_ble_eq_true rfl)⟩ rfl rfl (Nat.le_of_ble_eq_true rfl) [0, 3] [1, 2] rfl rfl rfl rfl rfl (by decide) rfl [2, 0, 1, 3] rfl rfl rfl rfl ?_
          have e_ : sp_set K S (nI 0) (nI j_y) = ((-3), 3) := set_3 hj_x hrg hsq htop c109_26
          exact g_end X (gE_i dX6_set_127 (rfl) (Nat.le_of_ble_eq_true rfl) (Nat.le_of_ble_eq_true rfl) ⟨congrArg (fun z => some (Value.int z)) (by rw [e_]), ws_cons (rfl) (ws_cons (rfl) (ws_cons (cI_eq (by first | (rw [e_]; done) | (rw [e_]; rfl) | (rw [e_]; simp only [ix, hcl_j_y, ↓reduceIte]; done) | simp [e_, *])) (ws_cons (cI_eq (by first | (rw [e_]; done) | (rw [e_]; rfl) | (rw [e_]; simp only [ix, hcl_j_y, ↓reduceIte]; done) | simp [e_, *])) (rfl))))⟩)
        · refine g_iload_n X dX6_set_112 rfl 0 rfl ?_
          have e_ : sp_set K S (nI 0) (nI j_y) = (S 0, 0) := set_0 hj_x hrg hsq htop c109_26
          exact g_end X (gE_i dX6_set_113 (rfl) (Nat.le_of_ble_eq_true rfl) (Nat.le_of_ble_eq_true rfl) ⟨congrArg (fun z => some (Value.int z)) (by rw [e_]), ws_cons (rfl) (ws_cons (rfl) (ws_cons (cI_eq (by first | (rw [e_]; done) | (rw [e_]; rfl) | (rw [e_]; simp only [ix, hcl_j_y, ↓reduceIte]; done) | simp [e_, *])) (ws_cons (cI_eq (by first | (rw [e_]; done) | (rw [e_]; rfl) | (rw [e_]; simp only [ix, hcl_j_y, ↓reduceIte]; done) | simp [e_, *])) (rfl))))⟩)
      · refine g_aload_n X dX6_set_27 rfl 0 rfl ?_
        refine g_iconst (v := (-1)) X dX6_set_28 (by decide) ?_
        refine g_dV (ci := 6) (q0 := 0) (n := 1) (wr := [(a0, cI d 36 K), (a2, cI d 5 S)]) (ws' := [(m0, cO 6 [.ref a0, .ref a1, .ref a2, .int (nI tn), .ref a4, .int (nI ap), .ref a6, .int (nI rn), .ref a8, .ref a9, .int im, .ref b1, .ref b2, .ref b3, .ref b4, .ref b5, .ref b6]), (a0, cI d 36 K), (a2, cI d 5 S), (a9, cI d 7 (rf7 (bmp Rf 1)))]) (st' := [.int (-1)]) (As := [.int (-1)]) (st := []) X (ct_X6_no_1 l d m0 a0 a1 a2 a4 a6 a8 a9 b1 b2 b3 b4 b5 b6 Rf tn ap rn im) wd_855 wd_852 wd_854 wd_25 wd_58 hd_X6_no rfl ⟨(Nat.le_of_ble_eq_true rfl), (Nat.le_of_ble_eq_true rfl)⟩ rfl rfl dX6_set_29 ⟨(Nat.le_of_ble_eq_true rfl), (Nat.le_of_ble_eq_true rfl)⟩ rfl rfl (Nat.le_of_ble_eq_true rfl) [0, 3] [1, 2] rfl rfl rfl rfl rfl (by decide) rfl [2, 0, 1, 3] rfl rfl rfl rfl ?_
        have e_ : sp_set K S (nI 0) y = ((-1), 1) := set_2 (by assumption)
        exact g_end X (gE_i dX6_set_32 (rfl) (Nat.le_of_ble_eq_true rfl) (Nat.le_of_ble_eq_true rfl) ⟨congrArg (fun z => some (Value.int z)) (by rw [e_]), ws_cons (rfl) (ws_cons (rfl) (ws_cons (cI_eq (by first | (rw [e_]; done) | (rw [e_]; rfl) | (rw [e_]; simp only [ix, ↓reduceIte]; done) | simp [e_, *])) (ws_cons (cI_eq (by first | (rw [e_]; done) | (rw [e_]; rfl) | (rw [e_]; simp only [ix, ↓reduceIte]; done) | simp [e_, *])) (rfl))))⟩)
  · refine g_aload_n X dX6_set_9 rfl 0 rfl ?_
    refine g_bipush (v := (-2)) X dX6_set_10 (by decide) ?_
    refine g_dV (ci := 6) (q0 := 0) (n := 1) (wr := [(a0, cI d 36 K), (a2, cI d 5 S)]) (ws' := [(m0, cO 6 [.ref a0, .ref a1, .ref a2, .int (nI tn), .ref a4, .int (nI ap), .ref a6, .int (nI rn), .ref a8, .ref a9, .int im, .ref b1, .ref b2, .ref b3, .ref b4, .ref b5, .ref b6]), (a0, cI d 36 K), (a2, cI d 5 S), (a9, cI d 7 (rf7 (bmp Rf 2)))]) (st' := [.int (-2)]) (As := [.int (-2)]) (st := []) X (ct_X6_no_2 l d m0 a0 a1 a2 a4 a6 a8 a9 b1 b2 b3 b4 b5 b6 Rf tn ap rn im) wd_855 wd_852 wd_854 wd_25 wd_58 hd_X6_no rfl ⟨(Nat.le_of_ble_eq_true rfl), (Nat.le_of_ble_eq_true rfl)⟩ rfl rfl dX6_set_12 ⟨(Nat.le_of_ble_eq_true rfl), (Nat.le_of_ble_eq_true rfl)⟩ rfl rfl (Nat.le_of_ble_eq_true rfl) [0, 3] [1, 2] rfl rfl rfl rfl rfl (by decide) rfl [2, 0, 1, 3] rfl rfl rfl rfl ?_
    have e_ : sp_set K S x y = ((-2), 2) := set_1 (by assumption)
    exact g_end X (gE_i dX6_set_15 (rfl) (Nat.le_of_ble_eq_true rfl) (Nat.le_of_ble_eq_true rfl) ⟨congrArg (fun z => some (Value.int z)) (by rw [e_]), ws_cons (rfl) (ws_cons (rfl) (ws_cons (cI_eq (by first | (rw [e_]; done) | (rw [e_]; rfl) | (rw [e_]; simp only [ix, ↓reduceIte]; done) | simp [e_, *])) (ws_cons (cI_eq (by first | (rw [e_]; done) | (rw [e_]; rfl) | (rw [e_]; simp only [ix, ↓reduceIte]; done) | simp [e_, *])) (rfl))))⟩)
