theorem hd_X6_keep : yX6_keep.cls = "HeWreckedHimselfModel" ∧ yX6_keep.cls ≠ "java/lang/invoke/MethodHandle" ∧ yX6_keep.cls ≠ "java/lang/invoke/VarHandle" ∧ (parseMethodDescriptor yX6_keep.desc).map (fun d => d.parameters.length) = some 1 := by decide +kernel
theorem hd_X6_left : yX6_left.cls = "HeWreckedHimselfModel" ∧ yX6_left.cls ≠ "java/lang/invoke/MethodHandle" ∧ yX6_left.cls ≠ "java/lang/invoke/VarHandle" ∧ (parseMethodDescriptor yX6_left.desc).map (fun d => d.parameters.length) = some 0 := by decide +kernel
set_option maxHeartbeats 4000000 in
set_option maxRecDepth 20000 in
theorem ct_X6_turnTo (l : Launch) (d : KD) (m0 a0 a1 a2 a4 a6 a8 a9 b1 b2 b3 b4 b5 b6 : Nat) (K S Rf : Nat → Int32) (tn ap rn : Nat) (im : Int32) (x y : Int32) (hh : cbe K S (S 0)) : Ct l d yX6_turnTo cX6_turnTo 4 (some .int) { frames := 2, cells := 0, slots := 0, locals := 42 } [.ref m0, .int x, .int y] [(m0, cO 6 [.ref a0, .ref a1, .ref a2, .int (nI tn), .ref a4, .int (nI ap), .ref a6, .int (nI rn), .ref a8, .ref a9, .int im, .ref b1, .ref b2, .ref b3, .ref b4, .ref b5, .ref b6]), (a0, cI d 36 K), (a2, cI d 5 S), (a9, cI d 7 (rf7 Rf))] 0 0 (fun r wo => r = some (.int ((sp_turnTo K S x y).1)) ∧ wo = [(m0, cO 6 [.ref a0, .ref a1, .ref a2, .int (nI tn), .ref a4, .int (nI ap), .ref a6, .int (nI rn), .ref a8, .ref a9, .int im, .ref b1, .ref b2, .ref b3, .ref b4, .ref b5, .ref b6]), (a0, cI d 36 (if (sp_turnTo K S x y).2 = 0 then upd K (ix x) y else K)), (a2, cI d 5 S), (a9, cI d 7 (rf7 (bmp Rf (sp_turnTo K S x y).2)))]) := by
  refine ct_of (own := RX6) (ini := false) (by decide +kernel) rfl (fun h => by cases h) (Nat.le_of_ble_eq_true rfl) ?_
  intro g X
  show g 0 0 [(m0, cO 6 [.ref a0, .ref a1, .ref a2, .int (nI tn), .ref a4, .int (nI ap), .ref a6, .int (nI rn), .ref a8, .ref a9, .int im, .ref b1, .ref b2, .ref b3, .ref b4, .ref b5, .ref b6]), (a0, cI d 36 K), (a2, cI d 5 S), (a9, cI d 7 (rf7 Rf))] [(0, .ref m0), (1, .int x), (2, .int y)] 0 []
  obtain ⟨jh, hjh, e0⟩ := sq_nat hh.1
  have hcj : csl (K jh) (S 1) := (cbe_N hjh).mp (e0 ▸ hh)
  refine g_iload_n X dX6_turnTo_0 rfl 1 rfl ?_
  refine g_dS (n := 1) (wr := [(m0, cO 6 [.ref a0, .ref a1, .ref a2, .int (nI tn), .ref a4, .int (nI ap), .ref a6, .int (nI rn), .ref a8, .ref a9, .int im, .ref b1, .ref b2, .ref b3, .ref b4, .ref b5, .ref b6]), (a0, cI d 36 K), (a2, cI d 5 S), (a9, cI d 7 (rf7 Rf))]) (ws' := [(m0, cO 6 [.ref a0, .ref a1, .ref a2, .int (nI tn), .ref a4, .int (nI ap), .ref a6, .int (nI rn), .ref a8, .ref a9, .int im, .ref b1, .ref b2, .ref b3, .ref b4, .ref b5, .ref b6]), (a0, cI d 36 K), (a2, cI d 5 S), (a9, cI d 7 (rf7 Rf))]) (st' := [.int (b2i (sq x))]) (As := [.int x]) (st := []) X (ct_X6_isSquare l d x) wd_884 wd_882 wd_883 wd_58 hd_X6_isSquare ⟨(Nat.le_of_ble_eq_true rfl), (Nat.le_of_ble_eq_true rfl)⟩ rfl rfl dX6_turnTo_1 ⟨(Nat.le_of_ble_eq_true rfl), (Nat.le_of_ble_eq_true rfl)⟩ rfl rfl (Nat.le_of_ble_eq_true rfl) [] [0, 1, 2, 3] rfl rfl rfl rfl rfl (by decide) [0, 1, 2, 3] rfl rfl rfl rfl ?_
  refine g_ifB_ne X 13 dX6_turnTo_4 (by decide) (fun c4_1 => ?_) (fun c4_1 => ?_)
  · obtain ⟨j_x, hj_x, rfl⟩ := sq_nat c4_1
    have hcl_j_x : (nI j_x).toNatClampNeg = j_x := nI_clamp (by omega)
    refine g_iload_n X dX6_turnTo_13 rfl 2 rfl ?_
    refine g_dS (n := 1) (wr := [(m0, cO 6 [.ref a0, .ref a1, .ref a2, .int (nI tn), .ref a4, .int (nI ap), .ref a6, .int (nI rn), .ref a8, .ref a9, .int im, .ref b1, .ref b2, .ref b3, .ref b4, .ref b5, .ref b6]), (a0, cI d 36 K), (a2, cI d 5 S), (a9, cI d 7 (rf7 Rf))]) (ws' := [(m0, cO 6 [.ref a0, .ref a1, .ref a2, .int (nI tn), .ref a4, .int (nI ap), .ref a6, .int (nI rn), .ref a8, .ref a9, .int im, .ref b1, .ref b2, .ref b3, .ref b4, .ref b5, .ref b6]), (a0, cI d 36 K), (a2, cI d 5 S), (a9, cI d 7 (rf7 Rf))]) (st' := [.int (b2i (kd y))]) (As := [.int y]) (st := []) X (ct_X6_isKind l d y) wd_947 wd_945 wd_946 wd_58 hd_X6_isKind ⟨(Nat.le_of_ble_eq_true rfl), (Nat.le_of_ble_eq_true rfl)⟩ rfl rfl dX6_turnTo_14 ⟨(Nat.le_of_ble_eq_true rfl), (Nat.le_of_ble_eq_true rfl)⟩ rfl rfl (Nat.le_of_ble_eq_true rfl) [] [0, 1, 2, 3] rfl rfl rfl rfl rfl (by decide) [0, 1, 2, 3] rfl rfl rfl rfl ?_
    refine g_ifB_ne X 27 dX6_turnTo_17 (by decide) (fun c17_2 => ?_) (fun c17_2 => ?_)
    · obtain ⟨j_y, hj_y, rfl⟩ := kd_nat c17_2
      have hcl_j_y : (nI j_y).toNatClampNeg = j_y := nI_clamp (by omega)
      refine g_aload_n X dX6_turnTo_27 rfl 0 rfl ?_
      refine g_get (C := RX6) (T := TX6) (N := 17) (ci := 6) (v := .ref a0) X rfl inT6 0 (by decide) wd_796 rfl dX6_turnTo_28 0 rfl rfl ?_
      refine g_iload_n X dX6_turnTo_31 rfl 1 rfl ?_
      refine g_iaload_N (k := j_x) X rfl dX6_turnTo_32 1 rfl (by first | assumption | omega) (by omega) ?_
      refine g_istore_n (lv' := [(3, .int (K j_x)), (0, .ref m0), (1, .int (nI j_x)), (2, .int (nI j_y))]) X dX6_turnTo_33 rfl (by decide) rfl ?_
      refine g_aload_n X dX6_turnTo_34 rfl 1 rfl ?_
      refine g_get (C := RX6) (T := TX6) (N := 17) (ci := 6) (v := .ref a0) X rfl inT6 0 (by decide) wd_796 rfl dX6_turnTo_35 0 rfl rfl ?_
      refine g_iload_n X dX6_turnTo_38 rfl 2 rfl ?_
      refine g_iload_n X dX6_turnTo_39 rfl 3 rfl ?_
      refine g_iastore_N (k := j_x) (ws' := [(m0, cO 6 [.ref a0, .ref a1, .ref a2, .int (nI tn), .ref a4, .int (nI ap), .ref a6, .int (nI rn), .ref a8, .ref a9, .int im, .ref b1, .ref b2, .ref b3, .ref b4, .ref b5, .ref b6]), (a0, cI d 36 (upd K j_x (nI j_y))), (a2, cI d 5 S), (a9, cI d 7 (rf7 Rf))]) X rfl dX6_turnTo_40 1 rfl (by first | assumption | omega) (by omega) rfl ?_
      refine g_aload_n X dX6_turnTo_41 rfl 1 rfl ?_
      refine g_aload_n X dX6_turnTo_42 rfl 1 rfl ?_
      refine g_get (C := RX6) (T := TX6) (N := 17) (ci := 6) (v := .ref a2) X rfl inT6 2 (by decide) wd_798 rfl dX6_turnTo_43 0 rfl rfl ?_
      refine g_iconst (v := 0) X dX6_turnTo_46 (by decide) ?_
      refine g_iaload_N (k := 0) X rfl dX6_turnTo_47 2 rfl (by first | assumption | omega) (by omega) ?_
      refine g_tope (y := nI jh) (e0) ?_
      refine g_dV (ci := 6) (q0 := 0) (n := 1) (wr := [(a9, cI d 7 (rf7 Rf))]) (ws' := [(m0, cO 6 [.ref a0, .ref a1, .ref a2, .int (nI tn), .ref a4, .int (nI ap), .ref a6, .int (nI rn), .ref a8, .ref a9, .int im, .ref b1, .ref b2, .ref b3, .ref b4, .ref b5, .ref b6]), (a0, cI d 36 (upd K j_x (nI j_y))), (a2, cI d 5 S), (a9, cI d 7 (rf7 Rf))]) (st' := [.int (b2i (csl ((upd K j_x (nI j_y)) jh) (S 1)))]) (As := [.int (nI jh)]) (st := []) X (ct_X6_canBe l d m0 a0 a1 a2 a4 a6 a8 a9 b1 b2 b3 b4 b5 b6 (upd K j_x (nI j_y)) S tn ap rn im jh (by first | assumption | omega)) wd_891 wd_888 wd_890 wd_31 wd_58 hd_X6_canBe rfl ⟨(Nat.le_of_ble_eq_true rfl), (Nat.le_of_ble_eq_true rfl)⟩ rfl rfl dX6_turnTo_48 ⟨(Nat.le_of_ble_eq_true rfl), (Nat.le_of_ble_eq_true rfl)⟩ rfl rfl (Nat.le_of_ble_eq_true rfl) [0, 1, 2] [3] rfl rfl rfl rfl rfl (by decide) rfl [1, 2, 3, 0] rfl rfl rfl rfl ?_
      refine g_ifB_eq X 56 dX6_turnTo_51 (by decide) (fun c51_3 => ?_) (fun c51_3 => ?_)
      · refine g_aload_n X dX6_turnTo_56 rfl 1 rfl ?_
        refine g_get (C := RX6) (T := TX6) (N := 17) (ci := 6) (v := .ref a0) X rfl inT6 0 (by decide) wd_796 rfl dX6_turnTo_57 0 rfl rfl ?_
        refine g_iload_n X dX6_turnTo_60 rfl 2 rfl ?_
        refine g_iload_n X dX6_turnTo_61 rfl 0 rfl ?_
        refine g_iastore_N (k := j_x) (ws' := [(m0, cO 6 [.ref a0, .ref a1, .ref a2, .int (nI tn), .ref a4, .int (nI ap), .ref a6, .int (nI rn), .ref a8, .ref a9, .int im, .ref b1, .ref b2, .ref b3, .ref b4, .ref b5, .ref b6]), (a0, cI d 36 (upd (upd K j_x (nI j_y)) j_x (K j_x))), (a2, cI d 5 S), (a9, cI d 7 (rf7 Rf))]) X rfl dX6_turnTo_62 1 rfl (by first | assumption | omega) (by omega) rfl ?_
        refine g_eq (ws' := [(m0, cO 6 [.ref a0, .ref a1, .ref a2, .int (nI tn), .ref a4, .int (nI ap), .ref a6, .int (nI rn), .ref a8, .ref a9, .int im, .ref b1, .ref b2, .ref b3, .ref b4, .ref b5, .ref b6]), (a0, cI d 36 K), (a2, cI d 5 S), (a9, cI d 7 (rf7 Rf))]) (ws_cons (rfl) (ws_cons (cI_eq (upd_back)) (ws_cons (rfl) (ws_cons (rfl) (rfl))))) rfl ?_
        refine g_aload_n X dX6_turnTo_63 rfl 1 rfl ?_
        refine g_bipush (v := (-3)) X dX6_turnTo_64 (by decide) ?_
        refine g_dV (ci := 6) (q0 := 0) (n := 1) (wr := [(a0, cI d 36 K), (a2, cI d 5 S)]) (ws' := [(m0, cO 6 [.ref a0, .ref a1, .ref a2, .int (nI tn), .ref a4, .int (nI ap), .ref a6, .int (nI rn), .ref a8, .ref a9, .int im, .ref b1, .ref b2, .ref b3, .ref b4, .ref b5, .ref b6]), (a0, cI d 36 K), (a2, cI d 5 S), (a9, cI d 7 (rf7 (bmp Rf 3)))]) (st' := [.int (-3)]) (As := [.int (-3)]) (st := []) X (ct_X6_no_3 l d m0 a0 a1 a2 a4 a6 a8 a9 b1 b2 b3 b4 b5 b6 Rf tn ap rn im) wd_855 wd_852 wd_854 wd_25 wd_58 hd_X6_no rfl ⟨(Nat.le_of_ble_eq_true rfl), (Nat.le_of_ble_eq_true rfl)⟩ rfl rfl dX6_turnTo_66 ⟨(Nat.le_of_ble_eq_true rfl), (Nat.le_of_ble_eq_true rfl)⟩ rfl rfl (Nat.le_of_ble_eq_true rfl) [0, 3] [1, 2] rfl rfl rfl rfl rfl (by decide) rfl [2, 0, 1, 3] rfl rfl rfl rfl ?_
        have e_ : sp_turnTo K S (nI j_x) (nI j_y) = ((-3), 3) := by first | exact tT_y hj_x e0 (nI_kd hj_y) (by assumption) hjh | exact tT_n hj_x e0 (nI_kd hj_y) hcj (by assumption) | (unfold sp_turnTo; grind)
        exact g_end X (gE_i dX6_turnTo_69 (rfl) (Nat.le_of_ble_eq_true rfl) (Nat.le_of_ble_eq_true rfl) ⟨congrArg (fun z => some (Value.int z)) (by rw [e_]), ws_cons (rfl) (ws_cons (cI_eq (by first | (rw [e_]; done) | (rw [e_]; rfl) | (rw [e_]; simp only [ix, hcl_j_x, hcl_j_y, ↓reduceIte]; done) | simp [e_, *])) (ws_cons (rfl) (ws_cons (cI_eq (by first | (rw [e_]; done) | (rw [e_]; rfl) | (rw [e_]; simp only [ix, hcl_j_x, hcl_j_y, ↓reduceIte]; done) | simp [e_, *])) (rfl))))⟩)
      · refine g_iload_n X dX6_turnTo_54 rfl 0 rfl ?_
        have e_ : sp_turnTo K S (nI j_x) (nI j_y) = (K j_x, 0) := by first | exact tT_y hj_x e0 (nI_kd hj_y) (by assumption) hjh | exact tT_n hj_x e0 (nI_kd hj_y) hcj (by assumption) | (unfold sp_turnTo; grind)
        exact g_end X (gE_i dX6_turnTo_55 (rfl) (Nat.le_of_ble_eq_true rfl) (Nat.le_of_ble_eq_true rfl) ⟨congrArg (fun z => some (Value.int z)) (by rw [e_]), ws_cons (rfl) (ws_cons (cI_eq (by first | (rw [e_]; done) | (rw [e_]; rfl) | (rw [e_]; simp only [ix, hcl_j_x, hcl_j_y, ↓reduceIte]; done) | simp [e_, *])) (ws_cons (rfl) (ws_cons (cI_eq (by first | (rw [e_]; done) | (rw [e_]; rfl) | (rw [e_]; simp only [ix, hcl_j_x, hcl_j_y, ↓reduceIte]; done) | simp [e_, *])) (rfl))))⟩)
    · refine g_aload_n X dX6_turnTo_20 rfl 0 rfl ?_
      refine g_bipush (v := (-2)) X dX6_turnTo_21 (by decide) ?_
      refine g_dV (ci := 6) (q0 := 0) (n := 1) (wr := [(a0, cI d 36 K), (a2, cI d 5 S)]) (ws' := [(m0, cO 6 [.ref a0, .ref a1, .ref a2, .int (nI tn), .ref a4, .int (nI ap), .ref a6, .int (nI rn), .ref a8, .ref a9, .int im, .ref b1, .ref b2, .ref b3, .ref b4, .ref b5, .ref b6]), (a0, cI d 36 K), (a2, cI d 5 S), (a9, cI d 7 (rf7 (bmp Rf 2)))]) (st' := [.int (-2)]) (As := [.int (-2)]) (st := []) X (ct_X6_no_2 l d m0 a0 a1 a2 a4 a6 a8 a9 b1 b2 b3 b4 b5 b6 Rf tn ap rn im) wd_855 wd_852 wd_854 wd_25 wd_58 hd_X6_no rfl ⟨(Nat.le_of_ble_eq_true rfl), (Nat.le_of_ble_eq_true rfl)⟩ rfl rfl dX6_turnTo_23 ⟨(Nat.le_of_ble_eq_true rfl), (Nat.le_of_ble_eq_true rfl)⟩ rfl rfl (Nat.le_of_ble_eq_true rfl) [0, 3] [1, 2] rfl rfl rfl rfl rfl (by decide) rfl [2, 0, 1, 3] rfl rfl rfl rfl ?_
      have e_ : sp_turnTo K S (nI j_x) y = ((-2), 2) := by first | exact tT_y hj_x e0 (nI_kd hj_y) (by assumption) hjh | exact tT_n hj_x e0 (nI_kd hj_y) hcj (by assumption) | (unfold sp_turnTo; grind)
      exact g_end X (gE_i dX6_turnTo_26 (rfl) (Nat.le_of_ble_eq_true rfl) (Nat.le_of_ble_eq_true rfl) ⟨congrArg (fun z => some (Value.int z)) (by rw [e_]), ws_cons (rfl) (ws_cons (cI_eq (by first | (rw [e_]; done) | (rw [e_]; rfl) | (rw [e_]; simp only [ix, hcl_j_x, ↓reduceIte]; done) | simp [e_, *])) (ws_cons (rfl) (ws_cons (cI_eq (by first | (rw [e_]; done) | (rw [e_]; rfl) | (rw [e_]; simp only [ix, hcl_j_x, ↓reduceIte]; done) | simp [e_, *])) (rfl))))⟩)
  · refine g_aload_n X dX6_turnTo_7 rfl 0 rfl ?_
    refine g_iconst (v := (-1)) X dX6_turnTo_8 (by decide) ?_
    refine g_dV (ci := 6) (q0 := 0) (n := 1) (wr := [(a0, cI d 36 K), (a2, cI d 5 S)]) (ws' := [(m0, cO 6 [.ref a0, .ref a1, .ref a2, .int (nI tn), .ref a4, .int (nI ap), .ref a6, .int (nI rn), .ref a8, .ref a9, .int im, .ref b1, .ref b2, .ref b3, .ref b4, .ref b5, .ref b6]), (a0, cI d 36 K), (a2, cI d 5 S), (a9, cI d 7 (rf7 (bmp Rf 1)))]) (st' := [.int (-1)]) (As := [.int (-1)]) (st := []) X (ct_X6_no_1 l d m0 a0 a1 a2 a4 a6 a8 a9 b1 b2 b3 b4 b5 b6 Rf tn ap rn im) wd_855 wd_852 wd_854 wd_25 wd_58 hd_X6_no rfl ⟨(Nat.le_of_ble_eq_true rfl), (Nat.le_of_ble_eq_true rfl)⟩ rfl rfl dX6_turnTo_9 ⟨(Nat.le_of_ble_eq_true rfl), (Nat.le_of_ble_eq_true rfl)⟩ rfl rfl (Nat.le_of_ble_eq_true rfl) [0, 3] [1, 2] rfl rfl rfl rfl rfl (by decide) rfl [2, 0, 1, 3] rfl rfl rfl rfl ?_
    have e_ : sp_turnTo K S x y = ((-1), 1) := by first | exact tT_y hj_x e0 (nI_kd hj_y) (by assumption) hjh | exact tT_n hj_x e0 (nI_kd hj_y) hcj (by assumption) | (unfold sp_turnTo; grind)
    exact g_end X (gE_i dX6_turnTo_12 (rfl) (Nat.le_of_ble_eq_true rfl) (Nat.le_of_ble_eq_true rfl) ⟨congrArg (fun z => some (Value.int z)) (by rw [e_]), ws_cons (rfl) (ws_cons (cI_eq (by first | (rw [e_]; done) | (rw [e_]; rfl) | (rw [e_]; simp only [ix, ↓reduceIte]; done) | simp [e_, *])) (ws_cons (rfl) (ws_cons (cI_eq (by first | (rw [e_]; done) | (rw [e_]; rfl) | (rw [e_]; simp only [ix, ↓reduceIte]; done) | simp [e_, *])) (rfl))))⟩)
set_option maxHeartbeats 4000000 in
set_option maxRecDepth 20000 in
theorem ct_X6_row (l : Launch) (d : KD) (m0 a0 a1 a2 a4 a6 a8 a9 b1 b2 b3 b4 b5 b6 : Nat) (Rf : Nat → Int32) (Rw : Nat → Nat) (tn ap rn : Nat) (im : Int32) (x : Int32) (hrn : rn ≤ 16) : Ct l d yX6_row cX6_row 2 (some .int) { frames := 1, cells := 0, slots := 0, locals := 21 } [.ref m0, .int x] [(m0, cO 6 [.ref a0, .ref a1, .ref a2, .int (nI tn), .ref a4, .int (nI ap), .ref a6, .int (nI rn), .ref a8, .ref a9, .int im, .ref b1, .ref b2, .ref b3, .ref b4, .ref b5, .ref b6]), (a8, cI d 16 (nF Rw)), (a9, cI d 7 (rf7 Rf))] 0 0 (fun r wo => r = some (.int ((sp_row rn x).1)) ∧ wo = [(m0, cO 6 [.ref a0, .ref a1, .ref a2, .int (nI tn), .ref a4, .int (nI ap), .ref a6, .int (nI (if (sp_row rn x).2 = 0 then rn + 1 else rn)), .ref a8, .ref a9, .int im, .ref b1, .ref b2, .ref b3, .ref b4, .ref b5, .ref b6]), (a8, cI d 16 (nF (if (sp_row rn x).2 = 0 then (fun q => if q = rn then ix x else Rw q) else Rw))), (a9, cI d 7 (rf7 (bmp Rf (sp_row rn x).2)))]) := by
  refine ct_of (own := RX6) (ini := false) (by decide +kernel) rfl (fun h => by cases h) (Nat.le_of_ble_eq_true rfl) ?_
  intro g X
  show g 0 0 [(m0, cO 6 [.ref a0, .ref a1, .ref a2, .int (nI tn), .ref a4, .int (nI ap), .ref a6, .int (nI rn), .ref a8, .ref a9, .int im, .ref b1, .ref b2, .ref b3, .ref b4, .ref b5, .ref b6]), (a8, cI d 16 (nF Rw)), (a9, cI d 7 (rf7 Rf))] [(0, .ref m0), (1, .int x)] 0 []
  refine g_iload_n X dX6_row_0 rfl 1 rfl ?_
  refine g_if_ge X 11 dX6_row_1 (by decide) (fun c1_1 => ?_) (fun c1_1 => ?_)
  · refine g_iload_n X dX6_row_11 rfl 1 rfl ?_
    refine g_bipush (v := 99) X dX6_row_12 (by decide) ?_
    refine g_icmp_gt X 26 dX6_row_14 (by decide) (fun c14_2 => ?_) (fun c14_2 => ?_)
    · refine g_aload_n X dX6_row_26 rfl 0 rfl ?_
      refine g_bipush (v := (-6)) X dX6_row_27 (by decide) ?_
      refine g_dV (ci := 6) (q0 := 0) (n := 1) (wr := [(a8, cI d 16 (nF Rw))]) (ws' := [(m0, cO 6 [.ref a0, .ref a1, .ref a2, .int (nI tn), .ref a4, .int (nI ap), .ref a6, .int (nI rn), .ref a8, .ref a9, .int im, .ref b1, .ref b2, .ref b3, .ref b4, .ref b5, .ref b6]), (a8, cI d 16 (nF Rw)), (a9, cI d 7 (rf7 (bmp Rf 6)))]) (st' := [.int (-6)]) (As := [.int (-6)]) (st := []) X (ct_X6_no_6 l d m0 a0 a1 a2 a4 a6 a8 a9 b1 b2 b3 b4 b5 b6 Rf tn ap rn im) wd_855 wd_852 wd_854 wd_25 wd_58 hd_X6_no rfl ⟨(Nat.le_of_ble_eq_true rfl), (Nat.le_of_ble_eq_true rfl)⟩ rfl rfl dX6_row_29 ⟨(Nat.le_of_ble_eq_true rfl), (Nat.le_of_ble_eq_true rfl)⟩ rfl rfl (Nat.le_of_ble_eq_true rfl) [0, 2] [1] rfl rfl rfl rfl rfl (by decide) rfl [1, 0, 2] rfl rfl rfl rfl ?_
      have e_ : sp_row rn x = ((-6), 6) := by unfold sp_row; grind [b2i_t, b2i_f]
      exact g_end X (gE_i dX6_row_32 (rfl) (Nat.le_of_ble_eq_true rfl) (Nat.le_of_ble_eq_true rfl) ⟨congrArg (fun z => some (Value.int z)) (by rw [e_]), ws_cons (congrArg (cO 6) (lcons (rfl) (lcons (rfl) (lcons (rfl) (lcons (rfl) (lcons (rfl) (lcons (rfl) (lcons (rfl) (lcons (vI (by first | (rw [e_]; done) | (rw [e_]; rfl) | (rw [e_]; simp only [ix, ↓reduceIte]; done) | simp [e_, *])) (lcons (rfl) (lcons (rfl) (lcons (rfl) (lcons (rfl) (lcons (rfl) (lcons (rfl) (lcons (rfl) (lcons (rfl) (lcons (rfl) (rfl))))))))))))))))))) (ws_cons (cI_eq (by first | (rw [e_]; done) | (rw [e_]; rfl) | (rw [e_]; simp only [ix, ↓reduceIte]; done) | simp [e_, *])) (ws_cons (cI_eq (by first | (rw [e_]; done) | (rw [e_]; rfl) | (rw [e_]; simp only [ix, ↓reduceIte]; done) | simp [e_, *])) (rfl)))⟩)
    · refine g_aload_n X dX6_row_17 rfl 0 rfl ?_
      refine g_get (C := RX6) (T := TX6) (N := 17) (ci := 6) (v := .int (nI rn)) X rfl inT6 7 (by decide) wd_803 rfl dX6_row_18 0 rfl rfl ?_
      refine g_bipush (v := 16) X dX6_row_21 (by decide) ?_
      refine g_icmpN_ne (a := rn) (b := 16) X rfl rfl (by omega) (by omega) 33 dX6_row_23 (by decide) (fun c23_4 => ?_) (fun c23_4 => ?_)
      · have hxn := i0_99 (by assumption) (by assumption)
        obtain ⟨j_x, hj_x, rfl⟩ := hxn
        have hcl_j_x : (nI j_x).toNatClampNeg = j_x := nI_clamp (by omega)
        refine g_aload_n X dX6_row_33 rfl 0 rfl ?_
        refine g_get (C := RX6) (T := TX6) (N := 17) (ci := 6) (v := .ref a8) X rfl inT6 8 (by decide) wd_804 rfl dX6_row_34 0 rfl rfl ?_
        refine g_aload_n X dX6_row_37 rfl 0 rfl ?_
        refine g_dup X dX6_row_38 rfl ?_
        refine g_get (C := RX6) (T := TX6) (N := 17) (ci := 6) (v := .int (nI rn)) X rfl inT6 7 (by decide) wd_803 rfl dX6_row_39 0 rfl rfl ?_
        refine g_dup_x1 X dX6_row_42 rfl rfl ?_
        refine g_iconst (v := 1) X dX6_row_43 (by decide) ?_
        refine g_iadd X dX6_row_44 ?_
        refine g_tope (y := nI (rn + 1)) (nI_add _ _) ?_
        refine g_put (C := RX6) (T := TX6) (N := 17) (ci := 6) (v := .int (nI (rn + 1))) (ty := .int) (ws' := [(m0, cO 6 [.ref a0, .ref a1, .ref a2, .int (nI tn), .ref a4, .int (nI ap), .ref a6, .int (nI (rn + 1)), .ref a8, .ref a9, .int im, .ref b1, .ref b2, .ref b3, .ref b4, .ref b5, .ref b6]), (a8, cI d 16 (nF Rw)), (a9, cI d 7 (rf7 Rf))]) X rfl inT6 tyX6 tyX6_ok nmX6 7 (by decide) wd_803 rfl rfl (by decide +kernel) dX6_row_45 0 rfl (by rfl) rfl (Nat.le_of_ble_eq_true rfl) rfl ?_
        refine g_iload_n X dX6_row_48 rfl 1 rfl ?_
        refine g_iastore_N (k := rn) (ws' := [(m0, cO 6 [.ref a0, .ref a1, .ref a2, .int (nI tn), .ref a4, .int (nI ap), .ref a6, .int (nI (rn + 1)), .ref a8, .ref a9, .int im, .ref b1, .ref b2, .ref b3, .ref b4, .ref b5, .ref b6]), (a8, cI d 16 (upd (nF Rw) rn (nI j_x))), (a9, cI d 7 (rf7 Rf))]) X rfl dX6_row_49 1 rfl (by first | assumption | omega) (by omega) rfl ?_
        refine g_eq (ws' := [(m0, cO 6 [.ref a0, .ref a1, .ref a2, .int (nI tn), .ref a4, .int (nI ap), .ref a6, .int (nI (rn + 1)), .ref a8, .ref a9, .int im, .ref b1, .ref b2, .ref b3, .ref b4, .ref b5, .ref b6]), (a8, cI d 16 (nF (fun q => if q = rn then j_x else Rw q))), (a9, cI d 7 (rf7 Rf))]) (ws_cons (rfl) (ws_cons (cI_eq (nF_u)) (ws_cons (rfl) (rfl)))) rfl ?_
        refine g_aload_n X dX6_row_50 rfl 0 rfl ?_
        refine g_get (C := RX6) (T := TX6) (N := 17) (ci := 6) (v := .int (nI (rn + 1))) X rfl inT6 7 (by decide) wd_803 rfl dX6_row_51 0 rfl rfl ?_
        have e_ : sp_row rn (nI j_x) = (nI (rn + 1), 0) := by unfold sp_row; grind [b2i_t, b2i_f]
        exact g_end X (gE_i dX6_row_54 (rfl) (Nat.le_of_ble_eq_true rfl) (Nat.le_of_ble_eq_true rfl) ⟨congrArg (fun z => some (Value.int z)) (by rw [e_]), ws_cons (congrArg (cO 6) (lcons (rfl) (lcons (rfl) (lcons (rfl) (lcons (rfl) (lcons (rfl) (lcons (rfl) (lcons (rfl) (lcons (vI (by first | (rw [e_]; done) | (rw [e_]; rfl) | (rw [e_]; simp only [ix, hcl_j_x, ↓reduceIte]; done) | simp [e_, *])) (lcons (rfl) (lcons (rfl) (lcons (rfl) (lcons (rfl) (lcons (rfl) (lcons (rfl) (lcons (rfl) (lcons (rfl) (lcons (rfl) (rfl))))))))))))))))))) (ws_cons (cI_eq (by first | (rw [e_]; done) | (rw [e_]; rfl) | (rw [e_]; simp only [ix, hcl_j_x, ↓reduceIte]; done) | simp [e_, *])) (ws_cons (cI_eq (by first | (rw [e_]; done) | (rw [e_]; rfl) | (rw [e_]; simp only [ix, hcl_j_x, ↓reduceIte]; done) | simp [e_, *])) (rfl)))⟩)
      · refine g_aload_n X dX6_row_26 rfl 0 rfl ?_
        refine g_bipush (v := (-6)) X dX6_row_27 (by decide) ?_
        refine g_dV (ci := 6) (q0 := 0) (n := 1) (wr := [(a8, cI d 16 (nF Rw))]) (ws' := [(m0, cO 6 [.ref a0, .ref a1, .ref a2, .int (nI tn), .ref a4, .int (nI ap), .ref a6, .int (nI rn), .ref a8, .ref a9, .int im, .ref b1, .ref b2, .ref b3, .ref b4, .ref b5, .ref b6]), (a8, cI d 16 (nF Rw)), (a9, cI d 7 (rf7 (bmp Rf 6)))]) (st' := [.int (-6)]) (As := [.int (-6)]) (st := []) X (ct_X6_no_6 l d m0 a0 a1 a2 a4 a6 a8 a9 b1 b2 b3 b4 b5 b6 Rf tn ap rn im) wd_855 wd_852 wd_854 wd_25 wd_58 hd_X6_no rfl ⟨(Nat.le_of_ble_eq_true rfl), (Nat.le_of_ble_eq_true rfl)⟩ rfl rfl dX6_row_29 ⟨(Nat.le_of_ble_eq_true rfl), (Nat.le_of_ble_eq_true rfl)⟩ rfl rfl (Nat.le_of_ble_eq_true rfl) [0, 2] [1] rfl rfl rfl rfl rfl (by decide) rfl [1, 0, 2] rfl rfl rfl rfl ?_
        have e_ : sp_row rn x = ((-6), 6) := by unfold sp_row; grind [b2i_t, b2i_f]
        exact g_end X (gE_i dX6_row_32 (rfl) (Nat.le_of_ble_eq_true rfl) (Nat.le_of_ble_eq_true rfl) ⟨congrArg (fun z => some (Value.int z)) (by rw [e_]), ws_cons (congrArg (cO 6) (lcons (rfl) (lcons (rfl) (lcons (rfl) (lcons (rfl) (lcons (rfl) (lcons (rfl) (lcons (rfl) (lcons (vI (by first | (rw [e_]; done) | (rw [e_]; rfl) | (rw [e_]; simp only [ix, ↓reduceIte]; done) | simp [e_, *])) (lcons (rfl) (lcons (rfl) (lcons (rfl) (lcons (rfl) (lcons (rfl) (lcons (rfl) (lcons (rfl) (lcons (rfl) (lcons (rfl) (rfl))))))))))))))))))) (ws_cons (cI_eq (by first | (rw [e_]; done) | (rw [e_]; rfl) | (rw [e_]; simp only [ix, ↓reduceIte]; done) | simp [e_, *])) (ws_cons (cI_eq (by first | (rw [e_]; done) | (rw [e_]; rfl) | (rw [e_]; simp only [ix, ↓reduceIte]; done) | simp [e_, *])) (rfl)))⟩)
  · refine g_aload_n X dX6_row_4 rfl 0 rfl ?_
    refine g_bipush (v := (-4)) X dX6_row_5 (by decide) ?_
    refine g_dV (ci := 6) (q0 := 0) (n := 1) (wr := [(a8, cI d 16 (nF Rw))]) (ws' := [(m0, cO 6 [.ref a0, .ref a1, .ref a2, .int (nI tn), .ref a4, .int (nI ap), .ref a6, .int (nI rn), .ref a8, .ref a9, .int im, .ref b1, .ref b2, .ref b3, .ref b4, .ref b5, .ref b6]), (a8, cI d 16 (nF Rw)), (a9, cI d 7 (rf7 (bmp Rf 4)))]) (st' := [.int (-4)]) (As := [.int (-4)]) (st := []) X (ct_X6_no_4 l d m0 a0 a1 a2 a4 a6 a8 a9 b1 b2 b3 b4 b5 b6 Rf tn ap rn im) wd_855 wd_852 wd_854 wd_25 wd_58 hd_X6_no rfl ⟨(Nat.le_of_ble_eq_true rfl), (Nat.le_of_ble_eq_true rfl)⟩ rfl rfl dX6_row_7 ⟨(Nat.le_of_ble_eq_true rfl), (Nat.le_of_ble_eq_true rfl)⟩ rfl rfl (Nat.le_of_ble_eq_true rfl) [0, 2] [1] rfl rfl rfl rfl rfl (by decide) rfl [1, 0, 2] rfl rfl rfl rfl ?_
    have e_ : sp_row rn x = ((-4), 4) := by unfold sp_row; grind [b2i_t, b2i_f]
    exact g_end X (gE_i dX6_row_10 (rfl) (Nat.le_of_ble_eq_true rfl) (Nat.le_of_ble_eq_true rfl) ⟨congrArg (fun z => some (Value.int z)) (by rw [e_]), ws_cons (congrArg (cO 6) (lcons (rfl) (lcons (rfl) (lcons (rfl) (lcons (rfl) (lcons (rfl) (lcons (rfl) (lcons (rfl) (lcons (vI (by first | (rw [e_]; done) | (rw [e_]; rfl) | (rw [e_]; simp only [ix, ↓reduceIte]; done) | simp [e_, *])) (lcons (rfl) (lcons (rfl) (lcons (rfl) (lcons (rfl) (lcons (rfl) (lcons (rfl) (lcons (rfl) (lcons (rfl) (lcons (rfl) (rfl))))))))))))))))))) (ws_cons (cI_eq (by first | (rw [e_]; done) | (rw [e_]; rfl) | (rw [e_]; simp only [ix, ↓reduceIte]; done) | simp [e_, *])) (ws_cons (cI_eq (by first | (rw [e_]; done) | (rw [e_]; rfl) | (rw [e_]; simp only [ix, ↓reduceIte]; done) | simp [e_, *])) (rfl)))⟩)
set_option maxHeartbeats 4000000 in
set_option maxRecDepth 20000 in
theorem ct_X6_letter (l : Launch) (d : KD) (m0 a0 a1 a2 a4 a6 a8 a9 b1 b2 b3 b4 b5 b6 : Nat) (Rf : Nat → Int32) (A : Nat → Nat) (tn ap rn : Nat) (im : Int32) (x : Int32) (htn : tn ≤ 96) : Ct l d yX6_letter cX6_letter 2 (some .int) { frames := 1, cells := 0, slots := 0, locals := 21 } [.ref m0, .int x] [(m0, cO 6 [.ref a0, .ref a1, .ref a2, .int (nI tn), .ref a4, .int (nI ap), .ref a6, .int (nI rn), .ref a8, .ref a9, .int im, .ref b1, .ref b2, .ref b3, .ref b4, .ref b5, .ref b6]), (a4, cI d 96 (nF A)), (a9, cI d 7 (rf7 Rf))] 0 0 (fun r wo => r = some (.int ((sp_letter tn x).1)) ∧ wo = [(m0, cO 6 [.ref a0, .ref a1, .ref a2, .int (nI (if (sp_letter tn x).2 = 0 then tn + 1 else tn)), .ref a4, .int (nI ap), .ref a6, .int (nI rn), .ref a8, .ref a9, .int im, .ref b1, .ref b2, .ref b3, .ref b4, .ref b5, .ref b6]), (a4, cI d 96 (nF (if (sp_letter tn x).2 = 0 then (fun q => if q = tn then ix x else A q) else A))), (a9, cI d 7 (rf7 (bmp Rf (sp_letter tn x).2)))]) := by
  refine ct_of (own := RX6) (ini := false) (by decide +kernel) rfl (fun h => by cases h) (Nat.le_of_ble_eq_true rfl) ?_
  intro g X
  show g 0 0 [(m0, cO 6 [.ref a0, .ref a1, .ref a2, .int (nI tn), .ref a4, .int (nI ap), .ref a6, .int (nI rn), .ref a8, .ref a9, .int im, .ref b1, .ref b2, .ref b3, .ref b4, .ref b5, .ref b6]), (a4, cI d 96 (nF A)), (a9, cI d 7 (rf7 Rf))] [(0, .ref m0), (1, .int x)] 0 []
  refine g_iload_n X dX6_letter_0 rfl 1 rfl ?_
  refine g_if_ge X 11 dX6_letter_1 (by decide) (fun c1_1 => ?_) (fun c1_1 => ?_)
  · refine g_iload_n X dX6_letter_11 rfl 1 rfl ?_
    refine g_sipush (v := 255) X dX6_letter_12 (by decide) ?_
    refine g_icmp_gt X 27 dX6_letter_15 (by decide) (fun c15_2 => ?_) (fun c15_2 => ?_)
    · refine g_aload_n X dX6_letter_27 rfl 0 rfl ?_
      refine g_bipush (v := (-6)) X dX6_letter_28 (by decide) ?_
      refine g_dV (ci := 6) (q0 := 0) (n := 1) (wr := [(a4, cI d 96 (nF A))]) (ws' := [(m0, cO 6 [.ref a0, .ref a1, .ref a2, .int (nI tn), .ref a4, .int (nI ap), .ref a6, .int (nI rn), .ref a8, .ref a9, .int im, .ref b1, .ref b2, .ref b3, .ref b4, .ref b5, .ref b6]), (a4, cI d 96 (nF A)), (a9, cI d 7 (rf7 (bmp Rf 6)))]) (st' := [.int (-6)]) (As := [.int (-6)]) (st := []) X (ct_X6_no_6 l d m0 a0 a1 a2 a4 a6 a8 a9 b1 b2 b3 b4 b5 b6 Rf tn ap rn im) wd_855 wd_852 wd_854 wd_25 wd_58 hd_X6_no rfl ⟨(Nat.le_of_ble_eq_true rfl), (Nat.le_of_ble_eq_true rfl)⟩ rfl rfl dX6_letter_30 ⟨(Nat.le_of_ble_eq_true rfl), (Nat.le_of_ble_eq_true rfl)⟩ rfl rfl (Nat.le_of_ble_eq_true rfl) [0, 2] [1] rfl rfl rfl rfl rfl (by decide) rfl [1, 0, 2] rfl rfl rfl rfl ?_
      have e_ : sp_letter tn x = ((-6), 6) := by unfold sp_letter; grind [b2i_t, b2i_f]
      exact g_end X (gE_i dX6_letter_33 (rfl) (Nat.le_of_ble_eq_true rfl) (Nat.le_of_ble_eq_true rfl) ⟨congrArg (fun z => some (Value.int z)) (by rw [e_]), ws_cons (congrArg (cO 6) (lcons (rfl) (lcons (rfl) (lcons (rfl) (lcons (vI (by first | (rw [e_]; done) | (rw [e_]; rfl) | (rw [e_]; simp only [ix, ↓reduceIte]; done) | simp [e_, *])) (lcons (rfl) (lcons (rfl) (lcons (rfl) (lcons (rfl) (lcons (rfl) (lcons (rfl) (lcons (rfl) (lcons (rfl) (lcons (rfl) (lcons (rfl) (lcons (rfl) (lcons (rfl) (lcons (rfl) (rfl))))))))))))))))))) (ws_cons (cI_eq (by first | (rw [e_]; done) | (rw [e_]; rfl) | (rw [e_]; simp only [ix, ↓reduceIte]; done) | simp [e_, *])) (ws_cons (cI_eq (by first | (rw [e_]; done) | (rw [e_]; rfl) | (rw [e_]; simp only [ix, ↓reduceIte]; done) | simp [e_, *])) (rfl)))⟩)
    · refine g_aload_n X dX6_letter_18 rfl 0 rfl ?_
      refine g_get (C := RX6) (T := TX6) (N := 17) (ci := 6) (v := .int (nI tn)) X rfl inT6 3 (by decide) wd_799 rfl dX6_letter_19 0 rfl rfl ?_
      refine g_bipush (v := 96) X dX6_letter_22 (by decide) ?_
      refine g_icmpN_ne (a := tn) (b := 96) X rfl rfl (by omega) (by omega) 34 dX6_letter_24 (by decide) (fun c24_4 => ?_) (fun c24_4 => ?_)
      · have hxn := i0_255 (by assumption) (by assumption)
        obtain ⟨j_x, hj_x, rfl⟩ := hxn
        have hcl_j_x : (nI j_x).toNatClampNeg = j_x := nI_clamp (by omega)
        refine g_aload_n X dX6_letter_34 rfl 0 rfl ?_
        refine g_get (C := RX6) (T := TX6) (N := 17) (ci := 6) (v := .ref a4) X rfl inT6 4 (by decide) wd_800 rfl dX6_letter_35 0 rfl rfl ?_
        refine g_aload_n X dX6_letter_38 rfl 0 rfl ?_
        refine g_dup X dX6_letter_39 rfl ?_
        refine g_get (C := RX6) (T := TX6) (N := 17) (ci := 6) (v := .int (nI tn)) X rfl inT6 3 (by decide) wd_799 rfl dX6_letter_40 0 rfl rfl ?_
        refine g_dup_x1 X dX6_letter_43 rfl rfl ?_
        refine g_iconst (v := 1) X dX6_letter_44 (by decide) ?_
        refine g_iadd X dX6_letter_45 ?_
        refine g_tope (y := nI (tn + 1)) (nI_add _ _) ?_
        refine g_put (C := RX6) (T := TX6) (N := 17) (ci := 6) (v := .int (nI (tn + 1))) (ty := .int) (ws' := [(m0, cO 6 [.ref a0, .ref a1, .ref a2, .int (nI (tn + 1)), .ref a4, .int (nI ap), .ref a6, .int (nI rn), .ref a8, .ref a9, .int im, .ref b1, .ref b2, .ref b3, .ref b4, .ref b5, .ref b6]), (a4, cI d 96 (nF A)), (a9, cI d 7 (rf7 Rf))]) X rfl inT6 tyX6 tyX6_ok nmX6 3 (by decide) wd_799 rfl rfl (by decide +kernel) dX6_letter_46 0 rfl (by rfl) rfl (Nat.le_of_ble_eq_true rfl) rfl ?_
        refine g_iload_n X dX6_letter_49 rfl 1 rfl ?_
        refine g_iastore_N (k := tn) (ws' := [(m0, cO 6 [.ref a0, .ref a1, .ref a2, .int (nI (tn + 1)), .ref a4, .int (nI ap), .ref a6, .int (nI rn), .ref a8, .ref a9, .int im, .ref b1, .ref b2, .ref b3, .ref b4, .ref b5, .ref b6]), (a4, cI d 96 (upd (nF A) tn (nI j_x))), (a9, cI d 7 (rf7 Rf))]) X rfl dX6_letter_50 1 rfl (by first | assumption | omega) (by omega) rfl ?_
        refine g_eq (ws' := [(m0, cO 6 [.ref a0, .ref a1, .ref a2, .int (nI (tn + 1)), .ref a4, .int (nI ap), .ref a6, .int (nI rn), .ref a8, .ref a9, .int im, .ref b1, .ref b2, .ref b3, .ref b4, .ref b5, .ref b6]), (a4, cI d 96 (nF (fun q => if q = tn then j_x else A q))), (a9, cI d 7 (rf7 Rf))]) (ws_cons (rfl) (ws_cons (cI_eq (nF_u)) (ws_cons (rfl) (rfl)))) rfl ?_
        refine g_aload_n X dX6_letter_51 rfl 0 rfl ?_
        refine g_get (C := RX6) (T := TX6) (N := 17) (ci := 6) (v := .int (nI (tn + 1))) X rfl inT6 3 (by decide) wd_799 rfl dX6_letter_52 0 rfl rfl ?_
        have e_ : sp_letter tn (nI j_x) = (nI (tn + 1), 0) := by unfold sp_letter; grind [b2i_t, b2i_f]
        exact g_end X (gE_i dX6_letter_55 (rfl) (Nat.le_of_ble_eq_true rfl) (Nat.le_of_ble_eq_true rfl) ⟨congrArg (fun z => some (Value.int z)) (by rw [e_]), ws_cons (congrArg (cO 6) (lcons (rfl) (lcons (rfl) (lcons (rfl) (lcons (vI (by first | (rw [e_]; done) | (rw [e_]; rfl) | (rw [e_]; simp only [ix, hcl_j_x, ↓reduceIte]; done) | simp [e_, *])) (lcons (rfl) (lcons (rfl) (lcons (rfl) (lcons (rfl) (lcons (rfl) (lcons (rfl) (lcons (rfl) (lcons (rfl) (lcons (rfl) (lcons (rfl) (lcons (rfl) (lcons (rfl) (lcons (rfl) (rfl))))))))))))))))))) (ws_cons (cI_eq (by first | (rw [e_]; done) | (rw [e_]; rfl) | (rw [e_]; simp only [ix, hcl_j_x, ↓reduceIte]; done) | simp [e_, *])) (ws_cons (cI_eq (by first | (rw [e_]; done) | (rw [e_]; rfl) | (rw [e_]; simp only [ix, hcl_j_x, ↓reduceIte]; done) | simp [e_, *])) (rfl)))⟩)
      · refine g_aload_n X dX6_letter_27 rfl 0 rfl ?_
        refine g_bipush (v := (-6)) X dX6_letter_28 (by decide) ?_
        refine g_dV (ci := 6) (q0 := 0) (n := 1) (wr := [(a4, cI d 96 (nF A))]) (ws' := [(m0, cO 6 [.ref a0, .ref a1, .ref a2, .int (nI tn), .ref a4, .int (nI ap), .ref a6, .int (nI rn), .ref a8, .ref a9, .int im, .ref b1, .ref b2, .ref b3, .ref b4, .ref b5, .ref b6]), (a4, cI d 96 (nF A)), (a9, cI d 7 (rf7 (bmp Rf 6)))]) (st' := [.int (-6)]) (As := [.int (-6)]) (st := []) X (ct_X6_no_6 l d m0 a0 a1 a2 a4 a6 a8 a9 b1 b2 b3 b4 b5 b6 Rf tn ap rn im) wd_855 wd_852 wd_854 wd_25 wd_58 hd_X6_no rfl ⟨(Nat.le_of_ble_eq_true rfl), (Nat.le_of_ble_eq_true rfl)⟩ rfl rfl dX6_letter_30 ⟨(Nat.le_of_ble_eq_true rfl), (Nat.le_of_ble_eq_true rfl)⟩ rfl rfl (Nat.le_of_ble_eq_true rfl) [0, 2] [1] rfl rfl rfl rfl rfl (by decide) rfl [1, 0, 2] rfl rfl rfl rfl ?_
        have e_ : sp_letter tn x = ((-6), 6) := by unfold sp_letter; grind [b2i_t, b2i_f]
        exact g_end X (gE_i dX6_letter_33 (rfl) (Nat.le_of_ble_eq_true rfl) (Nat.le_of_ble_eq_true rfl) ⟨congrArg (fun z => some (Value.int z)) (by rw [e_]), ws_cons (congrArg (cO 6) (lcons (rfl) (lcons (rfl) (lcons (rfl) (lcons (vI (by first | (rw [e_]; done) | (rw [e_]; rfl) | (rw [e_]; simp only [ix, ↓reduceIte]; done) | simp [e_, *])) (lcons (rfl) (lcons (rfl) (lcons (rfl) (lcons (rfl) (lcons (rfl) (lcons (rfl) (lcons (rfl) (lcons (rfl) (lcons (rfl) (lcons (rfl) (lcons (rfl) (lcons (rfl) (lcons (rfl) (rfl))))))))))))))))))) (ws_cons (cI_eq (by first | (rw [e_]; done) | (rw [e_]; rfl) | (rw [e_]; simp only [ix, ↓reduceIte]; done) | simp [e_, *])) (ws_cons (cI_eq (by first | (rw [e_]; done) | (rw [e_]; rfl) | (rw [e_]; simp only [ix, ↓reduceIte]; done) | simp [e_, *])) (rfl)))⟩)
  · refine g_aload_n X dX6_letter_4 rfl 0 rfl ?_
    refine g_bipush (v := (-4)) X dX6_letter_5 (by decide) ?_
    refine g_dV (ci := 6) (q0 := 0) (n := 1) (wr := [(a4, cI d 96 (nF A))]) (ws' := [(m0, cO 6 [.ref a0, .ref a1, .ref a2, .int (nI tn), .ref a4, .int (nI ap), .ref a6, .int (nI rn), .ref a8, .ref a9, .int im, .ref b1, .ref b2, .ref b3, .ref b4, .ref b5, .ref b6]), (a4, cI d 96 (nF A)), (a9, cI d 7 (rf7 (bmp Rf 4)))]) (st' := [.int (-4)]) (As := [.int (-4)]) (st := []) X (ct_X6_no_4 l d m0 a0 a1 a2 a4 a6 a8 a9 b1 b2 b3 b4 b5 b6 Rf tn ap rn im) wd_855 wd_852 wd_854 wd_25 wd_58 hd_X6_no rfl ⟨(Nat.le_of_ble_eq_true rfl), (Nat.le_of_ble_eq_true rfl)⟩ rfl rfl dX6_letter_7 ⟨(Nat.le_of_ble_eq_true rfl), (Nat.le_of_ble_eq_true rfl)⟩ rfl rfl (Nat.le_of_ble_eq_true rfl) [0, 2] [1] rfl rfl rfl rfl rfl (by decide) rfl [1, 0, 2] rfl rfl rfl rfl ?_
    have e_ : sp_letter tn x = ((-4), 4) := by unfold sp_letter; grind [b2i_t, b2i_f]
    exact g_end X (gE_i dX6_letter_10 (rfl) (Nat.le_of_ble_eq_true rfl) (Nat.le_of_ble_eq_true rfl) ⟨congrArg (fun z => some (Value.int z)) (by rw [e_]), ws_cons (congrArg (cO 6) (lcons (rfl) (lcons (rfl) (lcons (rfl) (lcons (vI (by first | (rw [e_]; done) | (rw [e_]; rfl) | (rw [e_]; simp only [ix, ↓reduceIte]; done) | simp [e_, *])) (lcons (rfl) (lcons (rfl) (lcons (rfl) (lcons (rfl) (lcons (rfl) (lcons (rfl) (lcons (rfl) (lcons (rfl) (lcons (rfl) (lcons (rfl) (lcons (rfl) (lcons (rfl) (lcons (rfl) (rfl))))))))))))))))))) (ws_cons (cI_eq (by first | (rw [e_]; done) | (rw [e_]; rfl) | (rw [e_]; simp only [ix, ↓reduceIte]; done) | simp [e_, *])) (ws_cons (cI_eq (by first | (rw [e_]; done) | (rw [e_]; rfl) | (rw [e_]; simp only [ix, ↓reduceIte]; done) | simp [e_, *])) (rfl)))⟩)
set_option maxHeartbeats 4000000 in
set_option maxRecDepth 20000 in
theorem ct_X6_keep (l : Launch) (d : KD) (m0 a0 a1 a2 a4 a6 a8 a9 b1 b2 b3 b4 b5 b6 : Nat) (K L S D : Nat → Int32) (dd : Nat) (tn ap rn : Nat) (im : Int32) : Ct l d yX6_keep cX6_keep 3 none { frames := 0, cells := 0, slots := 0, locals := 0 } [.ref m0, .ref dd] [(m0, cO 6 [.ref a0, .ref a1, .ref a2, .int (nI tn), .ref a4, .int (nI ap), .ref a6, .int (nI rn), .ref a8, .ref a9, .int im, .ref b1, .ref b2, .ref b3, .ref b4, .ref b5, .ref b6]), (a0, cI d 36 K), (a1, cI d 36 L), (a2, cI d 5 S), (dd, cI d 77 D)] 0 0 (fun r wo => r = none ∧ wo = [(m0, cO 6 [.ref a0, .ref a1, .ref a2, .int (nI tn), .ref a4, .int (nI ap), .ref a6, .int (nI rn), .ref a8, .ref a9, .int im, .ref b1, .ref b2, .ref b3, .ref b4, .ref b5, .ref b6]), (a0, cI d 36 K), (a1, cI d 36 L), (a2, cI d 5 S), (dd, cI d 77 (kp K L S))]) := by
  refine ct_of (own := RX6) (ini := false) (by decide +kernel) rfl (fun h => by cases h) (Nat.le_of_ble_eq_true rfl) ?_
  intro g X
  show g 0 0 [(m0, cO 6 [.ref a0, .ref a1, .ref a2, .int (nI tn), .ref a4, .int (nI ap), .ref a6, .int (nI rn), .ref a8, .ref a9, .int im, .ref b1, .ref b2, .ref b3, .ref b4, .ref b5, .ref b6]), (a0, cI d 36 K), (a1, cI d 36 L), (a2, cI d 5 S), (dd, cI d 77 D)] [(0, .ref m0), (1, .ref dd)] 0 []
  refine g_iconst (v := 0) X dX6_keep_0 (by decide) ?_
  refine g_istore_n (lv' := [(2, .int 0), (0, .ref m0), (1, .ref dd)]) X dX6_keep_1 rfl (by decide) rfl ?_
  have at_2 : ∀ (n_ : Nat) (i : Nat) (hi : i ≤ 36), (36 - i) < n_ → g 0 0 [(m0, cO 6 [.ref a0, .ref a1, .ref a2, .int (nI tn), .ref a4, .int (nI ap), .ref a6, .int (nI rn), .ref a8, .ref a9, .int im, .ref b1, .ref b2, .ref b3, .ref b4, .ref b5, .ref b6]), (a0, cI d 36 K), (a1, cI d 36 L), (a2, cI d 5 S), (dd, cI d 77 (kF1 D K L i))] [(0, .ref m0), (1, .ref dd), (2, .int (nI i))] 2 [] := by
    intro n_
    induction n_ with
    | zero => intro i hi hn_; exact absurd hn_ (Nat.not_lt_zero _)
    | succ n_ ih_2 =>
      intro i hi hn_2
      refine g_iload_n X dX6_keep_2 rfl 2 rfl ?_
      refine g_bipush (v := 36) X dX6_keep_3 (by decide) ?_
      refine g_icmpN_ge (a := i) (b := 36) X rfl rfl (by omega) (by omega) 35 dX6_keep_5 (by decide) (fun c5_1 => ?_) (fun c5_1 => ?_)
      · obtain rfl : i = 36 := by omega
        refine g_iconst (v := 0) X dX6_keep_35 (by decide) ?_
        refine g_istore_n (lv' := [(2, .int 0), (0, .ref m0), (1, .ref dd)]) X dX6_keep_36 rfl (by decide) rfl ?_
        have at_37 : ∀ (n_ : Nat) (n : Nat) (hn : n ≤ 5), (5 - n) < n_ → g 0 0 [(m0, cO 6 [.ref a0, .ref a1, .ref a2, .int (nI tn), .ref a4, .int (nI ap), .ref a6, .int (nI rn), .ref a8, .ref a9, .int im, .ref b1, .ref b2, .ref b3, .ref b4, .ref b5, .ref b6]), (a0, cI d 36 K), (a1, cI d 36 L), (a2, cI d 5 S), (dd, cI d 77 (kF2 (kF1 D K L 36) S n))] [(0, .ref m0), (1, .ref dd), (2, .int (nI n))] 37 [] := by
          intro n_
          induction n_ with
          | zero => intro n hn hn_; exact absurd hn_ (Nat.not_lt_zero _)
          | succ n_ ih_37 =>
            intro n hn hn_37
            refine g_iload_n X dX6_keep_37 rfl 2 rfl ?_
            refine g_iconst (v := 5) X dX6_keep_38 (by decide) ?_
            refine g_icmpN_ge (a := n) (b := 5) X rfl rfl (by omega) (by omega) 60 dX6_keep_39 (by decide) (fun c39_2 => ?_) (fun c39_2 => ?_)
            · obtain rfl : n = 5 := by omega
              refine g_ext (ws' := [(m0, cO 6 [.ref a0, .ref a1, .ref a2, .int (nI tn), .ref a4, .int (nI ap), .ref a6, .int (nI rn), .ref a8, .ref a9, .int im, .ref b1, .ref b2, .ref b3, .ref b4, .ref b5, .ref b6]), (a0, cI d 36 K), (a1, cI d 36 L), (a2, cI d 5 S), (dd, cI d 77 (kp K L S))]) (h := kp K L S) X 4 rfl (kF_e) rfl ?_
              exact g_end X (gE_v dX6_keep_60 (Nat.le_of_ble_eq_true rfl) (Nat.le_of_ble_eq_true rfl) ⟨rfl, rfl⟩)
            · refine g_aload_n X dX6_keep_42 rfl 1 rfl ?_
              refine g_bipush (v := 72) X dX6_keep_43 (by decide) ?_
              refine g_iload_n X dX6_keep_45 rfl 2 rfl ?_
              refine g_iadd X dX6_keep_46 ?_
              refine g_tope (y := nI (72 + n)) (nI_add _ _) ?_
              refine g_aload_n X dX6_keep_47 rfl 0 rfl ?_
              refine g_get (C := RX6) (T := TX6) (N := 17) (ci := 6) (v := .ref a2) X rfl inT6 2 (by decide) wd_798 rfl dX6_keep_48 0 rfl rfl ?_
              refine g_iload_n X dX6_keep_51 rfl 2 rfl ?_
              refine g_iaload_N (k := n) X rfl dX6_keep_52 3 rfl (by first | assumption | omega) (by omega) ?_
              refine g_iastore_N (k := (72 + n)) (ws' := [(m0, cO 6 [.ref a0, .ref a1, .ref a2, .int (nI tn), .ref a4, .int (nI ap), .ref a6, .int (nI rn), .ref a8, .ref a9, .int im, .ref b1, .ref b2, .ref b3, .ref b4, .ref b5, .ref b6]), (a0, cI d 36 K), (a1, cI d 36 L), (a2, cI d 5 S), (dd, cI d 77 (upd (kF2 (kF1 D K L 36) S n) (72 + n) (S n)))]) X rfl dX6_keep_53 4 rfl (by first | assumption | omega) (by omega) rfl ?_
              refine g_iinc (v := nI (n + 1)) (lv' := [(2, .int (nI (n + 1))), (0, .ref m0), (1, .ref dd)]) X dX6_keep_54 2 rfl (nI_inc _) (by decide) rfl ?_
              refine g_goto X 37 dX6_keep_57 (by decide) ?_
              refine g_lv (lv' := [(0, .ref m0), (1, .ref dd), (2, .int (nI (n + 1)))]) X [1, 2, 0] rfl ?_
              exact g_eq (ws' := [(m0, cO 6 [.ref a0, .ref a1, .ref a2, .int (nI tn), .ref a4, .int (nI ap), .ref a6, .int (nI rn), .ref a8, .ref a9, .int im, .ref b1, .ref b2, .ref b3, .ref b4, .ref b5, .ref b6]), (a0, cI d 36 K), (a1, cI d 36 L), (a2, cI d 5 S), (dd, cI d 77 (kF2 (kF1 D K L 36) S (n + 1)))]) (lv' := [(0, .ref m0), (1, .ref dd), (2, .int (nI (n + 1)))]) (ws_cons (rfl) (ws_cons (rfl) (ws_cons (rfl) (ws_cons (rfl) (ws_cons (cI_eq (kF2_s)) (rfl)))))) (rfl) (ih_37 (n + 1) (by first | assumption | omega) (by omega))
        refine g_lv (lv' := [(0, .ref m0), (1, .ref dd), (2, .int 0)]) X [1, 2, 0] rfl ?_
        exact g_eq (ws' := [(m0, cO 6 [.ref a0, .ref a1, .ref a2, .int (nI tn), .ref a4, .int (nI ap), .ref a6, .int (nI rn), .ref a8, .ref a9, .int im, .ref b1, .ref b2, .ref b3, .ref b4, .ref b5, .ref b6]), (a0, cI d 36 K), (a1, cI d 36 L), (a2, cI d 5 S), (dd, cI d 77 (kF2 (kF1 D K L 36) S 0))]) (lv' := [(0, .ref m0), (1, .ref dd), (2, .int (nI 0))]) (ws_cons (rfl) (ws_cons (rfl) (ws_cons (rfl) (ws_cons (rfl) (ws_cons (cI_eq (kF2_0)) (rfl)))))) (lv_cons (rfl) (lv_cons (rfl) (lv_cons (vI (by rfl)) (rfl)))) (at_37 _ 0 (by first | assumption | omega) (Nat.lt_succ_self _))
      · refine g_aload_n X dX6_keep_8 rfl 1 rfl ?_
        refine g_iload_n X dX6_keep_9 rfl 2 rfl ?_
        refine g_aload_n X dX6_keep_10 rfl 0 rfl ?_
        refine g_get (C := RX6) (T := TX6) (N := 17) (ci := 6) (v := .ref a0) X rfl inT6 0 (by decide) wd_796 rfl dX6_keep_11 0 rfl rfl ?_
        refine g_iload_n X dX6_keep_14 rfl 2 rfl ?_
        refine g_iaload_N (k := i) X rfl dX6_keep_15 1 rfl (by first | assumption | omega) (by omega) ?_
        refine g_iastore_N (k := i) (ws' := [(m0, cO 6 [.ref a0, .ref a1, .ref a2, .int (nI tn), .ref a4, .int (nI ap), .ref a6, .int (nI rn), .ref a8, .ref a9, .int im, .ref b1, .ref b2, .ref b3, .ref b4, .ref b5, .ref b6]), (a0, cI d 36 K), (a1, cI d 36 L), (a2, cI d 5 S), (dd, cI d 77 (upd (kF1 D K L i) i (K i)))]) X rfl dX6_keep_16 4 rfl (by first | assumption | omega) (by omega) rfl ?_
        refine g_aload_n X dX6_keep_17 rfl 1 rfl ?_
        refine g_bipush (v := 36) X dX6_keep_18 (by decide) ?_
        refine g_iload_n X dX6_keep_20 rfl 2 rfl ?_
        refine g_iadd X dX6_keep_21 ?_
        refine g_tope (y := nI (36 + i)) (nI_add _ _) ?_
        refine g_aload_n X dX6_keep_22 rfl 0 rfl ?_
        refine g_get (C := RX6) (T := TX6) (N := 17) (ci := 6) (v := .ref a1) X rfl inT6 1 (by decide) wd_797 rfl dX6_keep_23 0 rfl rfl ?_
        refine g_iload_n X dX6_keep_26 rfl 2 rfl ?_
        refine g_iaload_N (k := i) X rfl dX6_keep_27 2 rfl (by first | assumption | omega) (by omega) ?_
        refine g_iastore_N (k := (36 + i)) (ws' := [(m0, cO 6 [.ref a0, .ref a1, .ref a2, .int (nI tn), .ref a4, .int (nI ap), .ref a6, .int (nI rn), .ref a8, .ref a9, .int im, .ref b1, .ref b2, .ref b3, .ref b4, .ref b5, .ref b6]), (a0, cI d 36 K), (a1, cI d 36 L), (a2, cI d 5 S), (dd, cI d 77 (upd (upd (kF1 D K L i) i (K i)) (36 + i) (L i)))]) X rfl dX6_keep_28 4 rfl (by first | assumption | omega) (by omega) rfl ?_
        refine g_iinc (v := nI (i + 1)) (lv' := [(2, .int (nI (i + 1))), (0, .ref m0), (1, .ref dd)]) X dX6_keep_29 2 rfl (nI_inc _) (by decide) rfl ?_
        refine g_goto X 2 dX6_keep_32 (by decide) ?_
        refine g_lv (lv' := [(0, .ref m0), (1, .ref dd), (2, .int (nI (i + 1)))]) X [1, 2, 0] rfl ?_
        exact g_eq (ws' := [(m0, cO 6 [.ref a0, .ref a1, .ref a2, .int (nI tn), .ref a4, .int (nI ap), .ref a6, .int (nI rn), .ref a8, .ref a9, .int im, .ref b1, .ref b2, .ref b3, .ref b4, .ref b5, .ref b6]), (a0, cI d 36 K), (a1, cI d 36 L), (a2, cI d 5 S), (dd, cI d 77 (kF1 D K L (i + 1)))]) (lv' := [(0, .ref m0), (1, .ref dd), (2, .int (nI (i + 1)))]) (ws_cons (rfl) (ws_cons (rfl) (ws_cons (rfl) (ws_cons (rfl) (ws_cons (cI_eq (kF1_s (by omega))) (rfl)))))) (rfl) (ih_2 (i + 1) (by first | assumption | omega) (by omega))
  refine g_lv (lv' := [(0, .ref m0), (1, .ref dd), (2, .int 0)]) X [1, 2, 0] rfl ?_
  exact g_eq (ws' := [(m0, cO 6 [.ref a0, .ref a1, .ref a2, .int (nI tn), .ref a4, .int (nI ap), .ref a6, .int (nI rn), .ref a8, .ref a9, .int im, .ref b1, .ref b2, .ref b3, .ref b4, .ref b5, .ref b6]), (a0, cI d 36 K), (a1, cI d 36 L), (a2, cI d 5 S), (dd, cI d 77 (kF1 D K L 0))]) (lv' := [(0, .ref m0), (1, .ref dd), (2, .int (nI 0))]) (ws_cons (rfl) (ws_cons (rfl) (ws_cons (rfl) (ws_cons (rfl) (ws_cons (cI_eq (kF1_0)) (rfl)))))) (lv_cons (rfl) (lv_cons (rfl) (lv_cons (vI (by rfl)) (rfl)))) (at_2 _ 0 (by first | assumption | omega) (Nat.lt_succ_self _))
set_option maxHeartbeats 4000000 in
set_option maxRecDepth 20000 in
theorem ct_X6_again (l : Launch) (d : KD) (m0 a0 a1 a2 a4 a6 a8 a9 b1 b2 b3 b4 b5 b6 : Nat) (K L S K2 L2 S2 : Nat → Int32) (dd : Nat) (tn ap rn : Nat) (im : Int32) : Ct l d yX6_again cX6_again 3 none { frames := 0, cells := 0, slots := 0, locals := 0 } [.ref m0, .ref dd] [(m0, cO 6 [.ref a0, .ref a1, .ref a2, .int (nI tn), .ref a4, .int (nI ap), .ref a6, .int (nI rn), .ref a8, .ref a9, .int im, .ref b1, .ref b2, .ref b3, .ref b4, .ref b5, .ref b6]), (a0, cI d 36 K), (a1, cI d 36 L), (a2, cI d 5 S), (dd, cI d 77 (kp K2 L2 S2))] 0 0 (fun r wo => r = none ∧ wo = [(m0, cO 6 [.ref a0, .ref a1, .ref a2, .int (nI tn), .ref a4, .int (nI ap), .ref a6, .int (nI rn), .ref a8, .ref a9, .int im, .ref b1, .ref b2, .ref b3, .ref b4, .ref b5, .ref b6]), (a0, cI d 36 K2), (a1, cI d 36 L2), (a2, cI d 5 S2), (dd, cI d 77 (kp K2 L2 S2))]) := by
  refine ct_of (own := RX6) (ini := false) (by decide +kernel) rfl (fun h => by cases h) (Nat.le_of_ble_eq_true rfl) ?_
  intro g X
  show g 0 0 [(m0, cO 6 [.ref a0, .ref a1, .ref a2, .int (nI tn), .ref a4, .int (nI ap), .ref a6, .int (nI rn), .ref a8, .ref a9, .int im, .ref b1, .ref b2, .ref b3, .ref b4, .ref b5, .ref b6]), (a0, cI d 36 K), (a1, cI d 36 L), (a2, cI d 5 S), (dd, cI d 77 (kp K2 L2 S2))] [(0, .ref m0), (1, .ref dd)] 0 []
  refine g_iconst (v := 0) X dX6_again_0 (by decide) ?_
  refine g_istore_n (lv' := [(2, .int 0), (0, .ref m0), (1, .ref dd)]) X dX6_again_1 rfl (by decide) rfl ?_
  have at_2 : ∀ (n_ : Nat) (i : Nat) (hi : i ≤ 36), (36 - i) < n_ → g 0 0 [(m0, cO 6 [.ref a0, .ref a1, .ref a2, .int (nI tn), .ref a4, .int (nI ap), .ref a6, .int (nI rn), .ref a8, .ref a9, .int im, .ref b1, .ref b2, .ref b3, .ref b4, .ref b5, .ref b6]), (a0, cI d 36 (cpF K K2 i)), (a1, cI d 36 (cpF L L2 i)), (a2, cI d 5 S), (dd, cI d 77 (kp K2 L2 S2))] [(0, .ref m0), (1, .ref dd), (2, .int (nI i))] 2 [] := by
    intro n_
    induction n_ with
    | zero => intro i hi hn_; exact absurd hn_ (Nat.not_lt_zero _)
    | succ n_ ih_2 =>
      intro i hi hn_2
      refine g_iload_n X dX6_again_2 rfl 2 rfl ?_
      refine g_bipush (v := 36) X dX6_again_3 (by decide) ?_
      refine g_icmpN_ge (a := i) (b := 36) X rfl rfl (by omega) (by omega) 35 dX6_again_5 (by decide) (fun c5_1 => ?_) (fun c5_1 => ?_)
      · obtain rfl : i = 36 := by omega
        refine g_ext (ws' := [(m0, cO 6 [.ref a0, .ref a1, .ref a2, .int (nI tn), .ref a4, .int (nI ap), .ref a6, .int (nI rn), .ref a8, .ref a9, .int im, .ref b1, .ref b2, .ref b3, .ref b4, .ref b5, .ref b6]), (a0, cI d 36 K2), (a1, cI d 36 (cpF L L2 36)), (a2, cI d 5 S), (dd, cI d 77 (kp K2 L2 S2))]) (h := K2) X 1 rfl (cpF_e) rfl ?_
        refine g_ext (ws' := [(m0, cO 6 [.ref a0, .ref a1, .ref a2, .int (nI tn), .ref a4, .int (nI ap), .ref a6, .int (nI rn), .ref a8, .ref a9, .int im, .ref b1, .ref b2, .ref b3, .ref b4, .ref b5, .ref b6]), (a0, cI d 36 K2), (a1, cI d 36 L2), (a2, cI d 5 S), (dd, cI d 77 (kp K2 L2 S2))]) (h := L2) X 2 rfl (cpF_e) rfl ?_
        refine g_iconst (v := 0) X dX6_again_35 (by decide) ?_
        refine g_istore_n (lv' := [(2, .int 0), (0, .ref m0), (1, .ref dd)]) X dX6_again_36 rfl (by decide) rfl ?_
        have at_37 : ∀ (n_ : Nat) (n : Nat) (hn : n ≤ 5), (5 - n) < n_ → g 0 0 [(m0, cO 6 [.ref a0, .ref a1, .ref a2, .int (nI tn), .ref a4, .int (nI ap), .ref a6, .int (nI rn), .ref a8, .ref a9, .int im, .ref b1, .ref b2, .ref b3, .ref b4, .ref b5, .ref b6]), (a0, cI d 36 K2), (a1, cI d 36 L2), (a2, cI d 5 (cpF S S2 n)), (dd, cI d 77 (kp K2 L2 S2))] [(0, .ref m0), (1, .ref dd), (2, .int (nI n))] 37 [] := by
          intro n_
          induction n_ with
          | zero => intro n hn hn_; exact absurd hn_ (Nat.not_lt_zero _)
          | succ n_ ih_37 =>
            intro n hn hn_37
            refine g_iload_n X dX6_again_37 rfl 2 rfl ?_
            refine g_iconst (v := 5) X dX6_again_38 (by decide) ?_
            refine g_icmpN_ge (a := n) (b := 5) X rfl rfl (by omega) (by omega) 60 dX6_again_39 (by decide) (fun c39_2 => ?_) (fun c39_2 => ?_)
            · obtain rfl : n = 5 := by omega
              refine g_ext (ws' := [(m0, cO 6 [.ref a0, .ref a1, .ref a2, .int (nI tn), .ref a4, .int (nI ap), .ref a6, .int (nI rn), .ref a8, .ref a9, .int im, .ref b1, .ref b2, .ref b3, .ref b4, .ref b5, .ref b6]), (a0, cI d 36 K2), (a1, cI d 36 L2), (a2, cI d 5 S2), (dd, cI d 77 (kp K2 L2 S2))]) (h := S2) X 3 rfl (cpF_e) rfl ?_
              exact g_end X (gE_v dX6_again_60 (Nat.le_of_ble_eq_true rfl) (Nat.le_of_ble_eq_true rfl) ⟨rfl, rfl⟩)
            · refine g_aload_n X dX6_again_42 rfl 0 rfl ?_
              refine g_get (C := RX6) (T := TX6) (N := 17) (ci := 6) (v := .ref a2) X rfl inT6 2 (by decide) wd_798 rfl dX6_again_43 0 rfl rfl ?_
              refine g_iload_n X dX6_again_46 rfl 2 rfl ?_
              refine g_aload_n X dX6_again_47 rfl 1 rfl ?_
              refine g_bipush (v := 72) X dX6_again_48 (by decide) ?_
              refine g_iload_n X dX6_again_50 rfl 2 rfl ?_
              refine g_iadd X dX6_again_51 ?_
              refine g_tope (y := nI (72 + n)) (nI_add _ _) ?_
              refine g_iaload_N (k := (72 + n)) X rfl dX6_again_52 4 rfl (by first | assumption | omega) (by omega) ?_
              refine g_iastore_N (k := n) (ws' := [(m0, cO 6 [.ref a0, .ref a1, .ref a2, .int (nI tn), .ref a4, .int (nI ap), .ref a6, .int (nI rn), .ref a8, .ref a9, .int im, .ref b1, .ref b2, .ref b3, .ref b4, .ref b5, .ref b6]), (a0, cI d 36 K2), (a1, cI d 36 L2), (a2, cI d 5 (upd (cpF S S2 n) n ((kp K2 L2 S2) (72 + n)))), (dd, cI d 77 (kp K2 L2 S2))]) X rfl dX6_again_53 3 rfl (by first | assumption | omega) (by omega) rfl ?_
              refine g_iinc (v := nI (n + 1)) (lv' := [(2, .int (nI (n + 1))), (0, .ref m0), (1, .ref dd)]) X dX6_again_54 2 rfl (nI_inc _) (by decide) rfl ?_
              refine g_goto X 37 dX6_again_57 (by decide) ?_
              refine g_lv (lv' := [(0, .ref m0), (1, .ref dd), (2, .int (nI (n + 1)))]) X [1, 2, 0] rfl ?_
              exact g_eq (ws' := [(m0, cO 6 [.ref a0, .ref a1, .ref a2, .int (nI tn), .ref a4, .int (nI ap), .ref a6, .int (nI rn), .ref a8, .ref a9, .int im, .ref b1, .ref b2, .ref b3, .ref b4, .ref b5, .ref b6]), (a0, cI d 36 K2), (a1, cI d 36 L2), (a2, cI d 5 (cpF S S2 (n + 1))), (dd, cI d 77 (kp K2 L2 S2))]) (lv' := [(0, .ref m0), (1, .ref dd), (2, .int (nI (n + 1)))]) (ws_cons (rfl) (ws_cons (rfl) (ws_cons (rfl) (ws_cons (cI_eq (cpF_s (kp_S (by omega)))) (ws_cons (rfl) (rfl)))))) (rfl) (ih_37 (n + 1) (by first | assumption | omega) (by omega))
        refine g_lv (lv' := [(0, .ref m0), (1, .ref dd), (2, .int 0)]) X [1, 2, 0] rfl ?_
        exact g_eq (ws' := [(m0, cO 6 [.ref a0, .ref a1, .ref a2, .int (nI tn), .ref a4, .int (nI ap), .ref a6, .int (nI rn), .ref a8, .ref a9, .int im, .ref b1, .ref b2, .ref b3, .ref b4, .ref b5, .ref b6]), (a0, cI d 36 K2), (a1, cI d 36 L2), (a2, cI d 5 (cpF S S2 0)), (dd, cI d 77 (kp K2 L2 S2))]) (lv' := [(0, .ref m0), (1, .ref dd), (2, .int (nI 0))]) (ws_cons (rfl) (ws_cons (rfl) (ws_cons (rfl) (ws_cons (cI_eq (cpF_0)) (ws_cons (rfl) (rfl)))))) (lv_cons (rfl) (lv_cons (rfl) (lv_cons (vI (by rfl)) (rfl)))) (at_37 _ 0 (by first | assumption | omega) (Nat.lt_succ_self _))
      · refine g_aload_n X dX6_again_8 rfl 0 rfl ?_
        refine g_get (C := RX6) (T := TX6) (N := 17) (ci := 6) (v := .ref a0) X rfl inT6 0 (by decide) wd_796 rfl dX6_again_9 0 rfl rfl ?_
        refine g_iload_n X dX6_again_12 rfl 2 rfl ?_
        refine g_aload_n X dX6_again_13 rfl 1 rfl ?_
        refine g_iload_n X dX6_again_14 rfl 2 rfl ?_
        refine g_iaload_N (k := i) X rfl dX6_again_15 4 rfl (by first | assumption | omega) (by omega) ?_
        refine g_iastore_N (k := i) (ws' := [(m0, cO 6 [.ref a0, .ref a1, .ref a2, .int (nI tn), .ref a4, .int (nI ap), .ref a6, .int (nI rn), .ref a8, .ref a9, .int im, .ref b1, .ref b2, .ref b3, .ref b4, .ref b5, .ref b6]), (a0, cI d 36 (upd (cpF K K2 i) i ((kp K2 L2 S2) i))), (a1, cI d 36 (cpF L L2 i)), (a2, cI d 5 S), (dd, cI d 77 (kp K2 L2 S2))]) X rfl dX6_again_16 1 rfl (by first | assumption | omega) (by omega) rfl ?_
        refine g_aload_n X dX6_again_17 rfl 0 rfl ?_
        refine g_get (C := RX6) (T := TX6) (N := 17) (ci := 6) (v := .ref a1) X rfl inT6 1 (by decide) wd_797 rfl dX6_again_18 0 rfl rfl ?_
        refine g_iload_n X dX6_again_21 rfl 2 rfl ?_
        refine g_aload_n X dX6_again_22 rfl 1 rfl ?_
        refine g_bipush (v := 36) X dX6_again_23 (by decide) ?_
        refine g_iload_n X dX6_again_25 rfl 2 rfl ?_
        refine g_iadd X dX6_again_26 ?_
        refine g_tope (y := nI (36 + i)) (nI_add _ _) ?_
        refine g_iaload_N (k := (36 + i)) X rfl dX6_again_27 4 rfl (by first | assumption | omega) (by omega) ?_
        refine g_iastore_N (k := i) (ws' := [(m0, cO 6 [.ref a0, .ref a1, .ref a2, .int (nI tn), .ref a4, .int (nI ap), .ref a6, .int (nI rn), .ref a8, .ref a9, .int im, .ref b1, .ref b2, .ref b3, .ref b4, .ref b5, .ref b6]), (a0, cI d 36 (upd (cpF K K2 i) i ((kp K2 L2 S2) i))), (a1, cI d 36 (upd (cpF L L2 i) i ((kp K2 L2 S2) (36 + i)))), (a2, cI d 5 S), (dd, cI d 77 (kp K2 L2 S2))]) X rfl dX6_again_28 2 rfl (by first | assumption | omega) (by omega) rfl ?_
        refine g_iinc (v := nI (i + 1)) (lv' := [(2, .int (nI (i + 1))), (0, .ref m0), (1, .ref dd)]) X dX6_again_29 2 rfl (nI_inc _) (by decide) rfl ?_
        refine g_goto X 2 dX6_again_32 (by decide) ?_
        refine g_lv (lv' := [(0, .ref m0), (1, .ref dd), (2, .int (nI (i + 1)))]) X [1, 2, 0] rfl ?_
        exact g_eq (ws' := [(m0, cO 6 [.ref a0, .ref a1, .ref a2, .int (nI tn), .ref a4, .int (nI ap), .ref a6, .int (nI rn), .ref a8, .ref a9, .int im, .ref b1, .ref b2, .ref b3, .ref b4, .ref b5, .ref b6]), (a0, cI d 36 (cpF K K2 (i + 1))), (a1, cI d 36 (cpF L L2 (i + 1))), (a2, cI d 5 S), (dd, cI d 77 (kp K2 L2 S2))]) (lv' := [(0, .ref m0), (1, .ref dd), (2, .int (nI (i + 1)))]) (ws_cons (rfl) (ws_cons (cI_eq (cpF_s (kp_K (by omega)))) (ws_cons (cI_eq (cpF_s (kp_L (by omega)))) (ws_cons (rfl) (ws_cons (rfl) (rfl)))))) (rfl) (ih_2 (i + 1) (by first | assumption | omega) (by omega))
  refine g_lv (lv' := [(0, .ref m0), (1, .ref dd), (2, .int 0)]) X [1, 2, 0] rfl ?_
  exact g_eq (ws' := [(m0, cO 6 [.ref a0, .ref a1, .ref a2, .int (nI tn), .ref a4, .int (nI ap), .ref a6, .int (nI rn), .ref a8, .ref a9, .int im, .ref b1, .ref b2, .ref b3, .ref b4, .ref b5, .ref b6]), (a0, cI d 36 (cpF K K2 0)), (a1, cI d 36 (cpF L L2 0)), (a2, cI d 5 S), (dd, cI d 77 (kp K2 L2 S2))]) (lv' := [(0, .ref m0), (1, .ref dd), (2, .int (nI 0))]) (ws_cons (rfl) (ws_cons (cI_eq (cpF_0)) (ws_cons (cI_eq (cpF_0)) (ws_cons (rfl) (ws_cons (rfl) (rfl)))))) (lv_cons (rfl) (lv_cons (rfl) (lv_cons (vI (by rfl)) (rfl)))) (at_2 _ 0 (by first | assumption | omega) (Nat.lt_succ_self _))
set_option maxHeartbeats 4000000 in
set_option maxRecDepth 20000 in
theorem ct_X6_image (l : Launch) (d : KD) (m0 a0 a1 a2 a4 a6 a8 a9 b1 b2 b3 b4 b5 b6 : Nat) (K L S O : Nat → Int32) (tn ap rn : Nat) (im : Int32) : Ct l d yX6_image cX6_image 1 (some .int) { frames := 1, cells := 0, slots := 0, locals := 22 } [.ref m0] [(m0, cO 6 [.ref a0, .ref a1, .ref a2, .int (nI tn), .ref a4, .int (nI ap), .ref a6, .int (nI rn), .ref a8, .ref a9, .int im, .ref b1, .ref b2, .ref b3, .ref b4, .ref b5, .ref b6]), (a0, cI d 36 K), (a1, cI d 36 L), (a2, cI d 5 S), (b1, cI d 77 O)] 0 0 (fun r wo => r = some (.int (nI (cnt (fun q => 0 < L q) 36))) ∧ wo = [(m0, cO 6 [.ref a0, .ref a1, .ref a2, .int (nI tn), .ref a4, .int (nI ap), .ref a6, .int (nI rn), .ref a8, .ref a9, .int 1, .ref b1, .ref b2, .ref b3, .ref b4, .ref b5, .ref b6]), (a0, cI d 36 K), (a1, cI d 36 L), (a2, cI d 5 S), (b1, cI d 77 (kp K L S))]) := by
  refine ct_of (own := RX6) (ini := false) (by decide +kernel) rfl (fun h => by cases h) (Nat.le_of_ble_eq_true rfl) ?_
  intro g X
  show g 0 0 [(m0, cO 6 [.ref a0, .ref a1, .ref a2, .int (nI tn), .ref a4, .int (nI ap), .ref a6, .int (nI rn), .ref a8, .ref a9, .int im, .ref b1, .ref b2, .ref b3, .ref b4, .ref b5, .ref b6]), (a0, cI d 36 K), (a1, cI d 36 L), (a2, cI d 5 S), (b1, cI d 77 O)] [(0, .ref m0)] 0 []
  refine g_aload_n X dX6_image_0 rfl 0 rfl ?_
  refine g_iconst (v := 1) X dX6_image_1 (by decide) ?_
  refine g_put (C := RX6) (T := TX6) (N := 17) (ci := 6) (v := .int 1) (ty := .boolean) (ws' := [(m0, cO 6 [.ref a0, .ref a1, .ref a2, .int (nI tn), .ref a4, .int (nI ap), .ref a6, .int (nI rn), .ref a8, .ref a9, .int 1, .ref b1, .ref b2, .ref b3, .ref b4, .ref b5, .ref b6]), (a0, cI d 36 K), (a1, cI d 36 L), (a2, cI d 5 S), (b1, cI d 77 O)]) X rfl inT6 tyX6 tyX6_ok nmX6 10 (by decide) wd_806 rfl rfl (by decide +kernel) dX6_image_2 0 rfl (by rfl) rfl (Nat.le_of_ble_eq_true rfl) rfl ?_
  refine g_aload_n X dX6_image_5 rfl 0 rfl ?_
  refine g_aload_n X dX6_image_6 rfl 0 rfl ?_
  refine g_get (C := RX6) (T := TX6) (N := 17) (ci := 6) (v := .ref b1) X rfl inT6 11 (by decide) wd_807 rfl dX6_image_7 0 rfl rfl ?_
  refine g_dV (ci := 6) (q0 := 0) (n := 1) (wr := []) (ws' := [(m0, cO 6 [.ref a0, .ref a1, .ref a2, .int (nI tn), .ref a4, .int (nI ap), .ref a6, .int (nI rn), .ref a8, .ref a9, .int 1, .ref b1, .ref b2, .ref b3, .ref b4, .ref b5, .ref b6]), (a0, cI d 36 K), (a1, cI d 36 L), (a2, cI d 5 S), (b1, cI d 77 (kp K L S))]) (st' := []) (As := [.ref b1]) (st := []) X (ct_X6_keep l d m0 a0 a1 a2 a4 a6 a8 a9 b1 b2 b3 b4 b5 b6 K L S O b1 tn ap rn 1) wd_932 wd_929 wd_931 wd_40 wd_58 hd_X6_keep rfl ⟨(Nat.le_of_ble_eq_true rfl), (Nat.le_of_ble_eq_true rfl)⟩ rfl rfl dX6_image_10 ⟨(Nat.le_of_ble_eq_true rfl), (Nat.le_of_ble_eq_true rfl)⟩ rfl rfl (Nat.le_of_ble_eq_true rfl) [0, 1, 2, 3, 4] [] rfl rfl rfl rfl rfl (by decide) rfl [0, 1, 2, 3, 4] rfl rfl rfl rfl ?_
  refine g_aload_n X dX6_image_13 rfl 0 rfl ?_
  refine g_dV (ci := 6) (q0 := 0) (n := 0) (wr := [(a0, cI d 36 K), (a2, cI d 5 S), (b1, cI d 77 (kp K L S))]) (ws' := [(m0, cO 6 [.ref a0, .ref a1, .ref a2, .int (nI tn), .ref a4, .int (nI ap), .ref a6, .int (nI rn), .ref a8, .ref a9, .int 1, .ref b1, .ref b2, .ref b3, .ref b4, .ref b5, .ref b6]), (a0, cI d 36 K), (a1, cI d 36 L), (a2, cI d 5 S), (b1, cI d 77 (kp K L S))]) (st' := [.int (nI (cnt (fun q => 0 < L q) 36))]) (As := []) (st := []) X (ct_X6_left l d m0 a0 a1 a2 a4 a6 a8 a9 b1 b2 b3 b4 b5 b6 L tn ap rn 1) wd_996 wd_993 wd_995 wd_45 wd_58 hd_X6_left rfl ⟨(Nat.le_of_ble_eq_true rfl), (Nat.le_of_ble_eq_true rfl)⟩ rfl rfl dX6_image_14 ⟨(Nat.le_of_ble_eq_true rfl), (Nat.le_of_ble_eq_true rfl)⟩ rfl rfl (Nat.le_of_ble_eq_true rfl) [0, 2] [1, 3, 4] rfl rfl rfl rfl rfl (by decide) rfl [3, 0, 4, 1, 2] rfl rfl rfl rfl ?_
  exact g_end X (gE_i dX6_image_17 (rfl) (Nat.le_of_ble_eq_true rfl) (Nat.le_of_ble_eq_true rfl) ⟨rfl, rfl⟩)
