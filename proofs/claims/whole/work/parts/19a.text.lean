theorem hd_X4_isFull : yX4_isFull.cls = "HeWreckedHimself$Text" ∧ yX4_isFull.cls ≠ "java/lang/invoke/MethodHandle" ∧ yX4_isFull.cls ≠ "java/lang/invoke/VarHandle" ∧ (parseMethodDescriptor yX4_isFull.desc).map (fun d => d.parameters.length) = some 0 := by decide +kernel
set_option maxHeartbeats 4000000 in
set_option maxRecDepth 20000 in
theorem ct_X4_size (l : Launch) (d : KD) (e0 e1 tn : Nat) (A : Nat → Nat) : Ct l d yX4_size cX4_size 1 (some .int) { frames := 0, cells := 0, slots := 0, locals := 0 } [.ref e0] [(e0, cO 4 [.ref e1, .int (nI tn)]), (e1, cI d 96 (nF A))] 0 0 (fun r wo => r = some (.int (nI tn)) ∧ wo = [(e0, cO 4 [.ref e1, .int (nI tn)]), (e1, cI d 96 (nF A))]) := by
  refine ct_of (own := RX4) (ini := false) (by decide +kernel) rfl (fun h => by cases h) (Nat.le_of_ble_eq_true rfl) ?_
  intro g X
  show g 0 0 [(e0, cO 4 [.ref e1, .int (nI tn)]), (e1, cI d 96 (nF A))] [(0, .ref e0)] 0 []
  refine g_aload_n X dX4_size_0 rfl 0 rfl ?_
  refine g_get (C := RX4) (T := TX4) (N := 2) (ci := 4) (v := .int (nI tn)) X rfl inT4 1 (by decide) wd_99 rfl dX4_size_1 0 rfl rfl ?_
  exact g_end X (gE_i dX4_size_4 (rfl) (Nat.le_of_ble_eq_true rfl) (Nat.le_of_ble_eq_true rfl) ⟨rfl, rfl⟩)
set_option maxHeartbeats 4000000 in
set_option maxRecDepth 20000 in
theorem ct_X4_isFull (l : Launch) (d : KD) (e0 e1 tn : Nat) (A : Nat → Nat) (htn : tn ≤ 96) : Ct l d yX4_isFull cX4_isFull 1 (some .boolean) { frames := 0, cells := 0, slots := 0, locals := 0 } [.ref e0] [(e0, cO 4 [.ref e1, .int (nI tn)]), (e1, cI d 96 (nF A))] 0 0 (fun r wo => r = some (.int (b2i (96 ≤ tn))) ∧ wo = [(e0, cO 4 [.ref e1, .int (nI tn)]), (e1, cI d 96 (nF A))]) := by
  refine ct_of (own := RX4) (ini := false) (by decide +kernel) rfl (fun h => by cases h) (Nat.le_of_ble_eq_true rfl) ?_
  intro g X
  show g 0 0 [(e0, cO 4 [.ref e1, .int (nI tn)]), (e1, cI d 96 (nF A))] [(0, .ref e0)] 0 []
  refine g_aload_n X dX4_isFull_0 rfl 0 rfl ?_
  refine g_get (C := RX4) (T := TX4) (N := 2) (ci := 4) (v := .int (nI tn)) X rfl inT4 1 (by decide) wd_99 rfl dX4_isFull_1 0 rfl rfl ?_
  refine g_ifN_lt (a := tn) X rfl (by omega) 19 dX4_isFull_4 (by decide) (fun c4_1 => absurd c4_1 (by omega)) (fun c4_1 => ?_)
  refine g_aload_n X dX4_isFull_7 rfl 0 rfl ?_
  refine g_get (C := RX4) (T := TX4) (N := 2) (ci := 4) (v := .int (nI tn)) X rfl inT4 1 (by decide) wd_99 rfl dX4_isFull_8 0 rfl rfl ?_
  refine g_aload_n X dX4_isFull_11 rfl 0 rfl ?_
  refine g_get (C := RX4) (T := TX4) (N := 2) (ci := 4) (v := .ref e1) X rfl inT4 0 (by decide) wd_98 rfl dX4_isFull_12 0 rfl rfl ?_
  refine g_alen (v := 96) X dX4_isFull_15 1 rfl (by rfl) ?_
  refine g_icmpN_lt (a := tn) (b := 96) X rfl rfl (by omega) (by omega) 23 dX4_isFull_16 (by decide) (fun c16_2 => ?_) (fun c16_2 => ?_)
  · refine g_iconst (v := 0) X dX4_isFull_23 (by decide) ?_
    exact g_end X (gE_i dX4_isFull_24 (rfl) (Nat.le_of_ble_eq_true rfl) (Nat.le_of_ble_eq_true rfl) ⟨congrArg (fun z => some (Value.int z)) (by first | exact (b2i_t (by omega)).symm | exact (b2i_f (by omega)).symm), rfl⟩)
  · refine g_iconst (v := 1) X dX4_isFull_19 (by decide) ?_
    refine g_goto X 24 dX4_isFull_20 (by decide) ?_
    exact g_end X (gE_i dX4_isFull_24 (rfl) (Nat.le_of_ble_eq_true rfl) (Nat.le_of_ble_eq_true rfl) ⟨congrArg (fun z => some (Value.int z)) (by first | exact (b2i_t (by omega)).symm | exact (b2i_f (by omega)).symm), rfl⟩)
set_option maxHeartbeats 4000000 in
set_option maxRecDepth 20000 in
theorem ct_X4_add (l : Launch) (d : KD) (e0 e1 tn : Nat) (A : Nat → Nat) (v : Nat) (htn : tn < 96) : Ct l d yX4_add cX4_add 2 none { frames := 1, cells := 0, slots := 0, locals := 20 } [.ref e0, .int (nI v)] [(e0, cO 4 [.ref e1, .int (nI tn)]), (e1, cI d 96 (nF A))] 0 0 (fun r wo => r = none ∧ wo = [(e0, cO 4 [.ref e1, .int (nI (tn + 1))]), (e1, cI d 96 (nF (fun q => if q = tn then v else A q)))]) := by
  refine ct_of (own := RX4) (ini := false) (by decide +kernel) rfl (fun h => by cases h) (Nat.le_of_ble_eq_true rfl) ?_
  intro g X
  show g 0 0 [(e0, cO 4 [.ref e1, .int (nI tn)]), (e1, cI d 96 (nF A))] [(0, .ref e0), (1, .int (nI v))] 0 []
  refine g_aload_n X dX4_add_0 rfl 0 rfl ?_
  refine g_dV (ci := 4) (q0 := 0) (n := 0) (wr := []) (ws' := [(e0, cO 4 [.ref e1, .int (nI tn)]), (e1, cI d 96 (nF A))]) (st' := [.int (b2i (96 ≤ tn))]) (As := []) (st := []) X (ct_X4_isFull l d e0 e1 tn A (by first | assumption | omega)) wd_187 wd_192 wd_185 wd_186 wd_54 hd_X4_isFull rfl ⟨(Nat.le_of_ble_eq_true rfl), (Nat.le_of_ble_eq_true rfl)⟩ rfl rfl dX4_add_1 ⟨(Nat.le_of_ble_eq_true rfl), (Nat.le_of_ble_eq_true rfl)⟩ rfl rfl (Nat.le_of_ble_eq_true rfl) [0, 1] [] rfl rfl rfl rfl rfl (by decide) rfl [0, 1] rfl rfl rfl rfl ?_
  refine g_ifB_eq X 8 dX4_add_4 (by decide) (fun c4_1 => ?_) (fun c4_1 => absurd c4_1 (by omega))
  refine g_aload_n X dX4_add_8 rfl 0 rfl ?_
  refine g_get (C := RX4) (T := TX4) (N := 2) (ci := 4) (v := .ref e1) X rfl inT4 0 (by decide) wd_98 rfl dX4_add_9 0 rfl rfl ?_
  refine g_aload_n X dX4_add_12 rfl 0 rfl ?_
  refine g_get (C := RX4) (T := TX4) (N := 2) (ci := 4) (v := .int (nI tn)) X rfl inT4 1 (by decide) wd_99 rfl dX4_add_13 0 rfl rfl ?_
  refine g_iload_n X dX4_add_16 rfl 1 rfl ?_
  refine g_iastore_N (k := tn) (ws' := [(e0, cO 4 [.ref e1, .int (nI tn)]), (e1, cI d 96 (upd (nF A) tn (nI v)))]) X rfl dX4_add_17 1 rfl (by first | assumption | omega) (by omega) rfl ?_
  refine g_eq (ws' := [(e0, cO 4 [.ref e1, .int (nI tn)]), (e1, cI d 96 (nF (fun q => if q = tn then v else A q)))]) (ws_cons (rfl) (ws_cons (cI_eq (nF_u)) (rfl))) rfl ?_
  refine g_aload_n X dX4_add_18 rfl 0 rfl ?_
  refine g_dup X dX4_add_19 rfl ?_
  refine g_get (C := RX4) (T := TX4) (N := 2) (ci := 4) (v := .int (nI tn)) X rfl inT4 1 (by decide) wd_99 rfl dX4_add_20 0 rfl rfl ?_
  refine g_iconst (v := 1) X dX4_add_23 (by decide) ?_
  refine g_iadd X dX4_add_24 ?_
  refine g_tope (y := nI (tn + 1)) (nI_add _ _) ?_
  refine g_put (C := RX4) (T := TX4) (N := 2) (ci := 4) (v := .int (nI (tn + 1))) (ty := .int) (ws' := [(e0, cO 4 [.ref e1, .int (nI (tn + 1))]), (e1, cI d 96 (nF (fun q => if q = tn then v else A q)))]) X rfl inT4 tyX4 tyX4_ok nmX4 1 (by decide) wd_99 rfl rfl (by decide +kernel) dX4_add_25 0 rfl (by rfl) rfl (Nat.le_of_ble_eq_true rfl) rfl ?_
  exact g_end X (gE_v dX4_add_28 (Nat.le_of_ble_eq_true rfl) (Nat.le_of_ble_eq_true rfl) ⟨rfl, rfl⟩)
set_option maxHeartbeats 4000000 in
set_option maxRecDepth 20000 in
theorem ct_X4_forget (l : Launch) (d : KD) (e0 e1 tn : Nat) (A : Nat → Nat) : Ct l d yX4_forget cX4_forget 1 none { frames := 0, cells := 0, slots := 0, locals := 0 } [.ref e0] [(e0, cO 4 [.ref e1, .int (nI tn)]), (e1, cI d 96 (nF A))] 0 0 (fun r wo => r = none ∧ wo = [(e0, cO 4 [.ref e1, .int (nI 0)]), (e1, cI d 96 (nF A))]) := by
  refine ct_of (own := RX4) (ini := false) (by decide +kernel) rfl (fun h => by cases h) (Nat.le_of_ble_eq_true rfl) ?_
  intro g X
  show g 0 0 [(e0, cO 4 [.ref e1, .int (nI tn)]), (e1, cI d 96 (nF A))] [(0, .ref e0)] 0 []
  refine g_aload_n X dX4_forget_0 rfl 0 rfl ?_
  refine g_iconst (v := 0) X dX4_forget_1 (by decide) ?_
  refine g_put (C := RX4) (T := TX4) (N := 2) (ci := 4) (v := .int 0) (ty := .int) (ws' := [(e0, cO 4 [.ref e1, .int 0]), (e1, cI d 96 (nF A))]) X rfl inT4 tyX4 tyX4_ok nmX4 1 (by decide) wd_99 rfl rfl (by decide +kernel) dX4_forget_2 0 rfl (by rfl) rfl (Nat.le_of_ble_eq_true rfl) rfl ?_
  exact g_end X (gE_v dX4_forget_5 (Nat.le_of_ble_eq_true rfl) (Nat.le_of_ble_eq_true rfl) ⟨rfl, ws_cons (congrArg (cO 4) (lcons (rfl) (lcons (vI (by rfl)) (rfl)))) (ws_cons (rfl) (rfl))⟩)
