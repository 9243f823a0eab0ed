theorem hd_X0_comesTo : yX0_comesTo.cls = "HeWreckedHimself$Pilot" ∧ yX0_comesTo.cls ≠ "java/lang/invoke/MethodHandle" ∧ yX0_comesTo.cls ≠ "java/lang/invoke/VarHandle" ∧ (parseMethodDescriptor yX0_comesTo.desc).map (fun d => d.parameters.length) = some 1 := by decide +kernel
theorem hd_X0_forget : yX0_forget.cls = "HeWreckedHimself$Pilot" ∧ yX0_forget.cls ≠ "java/lang/invoke/MethodHandle" ∧ yX0_forget.cls ≠ "java/lang/invoke/VarHandle" ∧ (parseMethodDescriptor yX0_forget.desc).map (fun d => d.parameters.length) = some 0 := by decide +kernel
theorem hd_X0_nearestUnsettled : yX0_nearestUnsettled.cls = "HeWreckedHimself$Pilot" ∧ yX0_nearestUnsettled.cls ≠ "java/lang/invoke/MethodHandle" ∧ yX0_nearestUnsettled.cls ≠ "java/lang/invoke/VarHandle" ∧ (parseMethodDescriptor yX0_nearestUnsettled.desc).map (fun d => d.parameters.length) = some 0 := by decide +kernel
theorem hd_X0_offer : yX0_offer.cls = "HeWreckedHimself$Pilot" ∧ yX0_offer.cls ≠ "java/lang/invoke/MethodHandle" ∧ yX0_offer.cls ≠ "java/lang/invoke/VarHandle" ∧ (parseMethodDescriptor yX0_offer.desc).map (fun d => d.parameters.length) = some 2 := by decide +kernel
theorem hd_X0_offerTurns : yX0_offerTurns.cls = "HeWreckedHimself$Pilot" ∧ yX0_offerTurns.cls ≠ "java/lang/invoke/MethodHandle" ∧ yX0_offerTurns.cls ≠ "java/lang/invoke/VarHandle" ∧ (parseMethodDescriptor yX0_offerTurns.desc).map (fun d => d.parameters.length) = some 4 := by decide +kernel
theorem hd_X0_searchFrom : yX0_searchFrom.cls = "HeWreckedHimself$Pilot" ∧ yX0_searchFrom.cls ≠ "java/lang/invoke/MethodHandle" ∧ yX0_searchFrom.cls ≠ "java/lang/invoke/VarHandle" ∧ (parseMethodDescriptor yX0_searchFrom.desc).map (fun d => d.parameters.length) = some 2 := by decide +kernel
theorem hd_X0_spread : yX0_spread.cls = "HeWreckedHimself$Pilot" ∧ yX0_spread.cls ≠ "java/lang/invoke/MethodHandle" ∧ yX0_spread.cls ≠ "java/lang/invoke/VarHandle" ∧ (parseMethodDescriptor yX0_spread.desc).map (fun d => d.parameters.length) = some 1 := by decide +kernel
theorem hd_X1_daysToGo : yX1_daysToGo.cls = "HeWreckedHimself$Sea" ∧ yX1_daysToGo.cls ≠ "java/lang/invoke/MethodHandle" ∧ yX1_daysToGo.cls ≠ "java/lang/invoke/VarHandle" ∧ (parseMethodDescriptor yX1_daysToGo.desc).map (fun d => d.parameters.length) = some 2 := by decide +kernel
theorem hd_X1_number : yX1_number.cls = "HeWreckedHimself$Sea" ∧ yX1_number.cls ≠ "java/lang/invoke/MethodHandle" ∧ yX1_number.cls ≠ "java/lang/invoke/VarHandle" ∧ (parseMethodDescriptor yX1_number.desc).map (fun d => d.parameters.length) = some 1 := by decide +kernel
/-! the pilot -/
theorem ct_X5_isSquare_b (l : Launch) (d : KD) (n : Nat) : Ct l d yX5_isSquare cX5_isSquare 1 (some .boolean) { frames := 0, cells := 0, slots := 0, locals := 0 } [.int (besI n)] [] 0 0 (fun r wo => r = some (.int (b2i (n < 36))) ∧ wo = []) := by
  have h := ct_X5_isSquare l d (besI n); rwa [b2i_c sq_besI] at h
theorem ct_X5_isSquare_m (l : Launch) (d : KD) (n : Nat) : Ct l d yX5_isSquare cX5_isSquare 1 (some .boolean) { frames := 0, cells := 0, slots := 0, locals := 0 } [.int (besM n)] [] 0 0 (fun r wo => r = some (.int (b2i (n < 36))) ∧ wo = []) := by
  have h := ct_X5_isSquare l d (besM n); rwa [b2i_c sq_besM] at h
set_option maxHeartbeats 4000000 in
set_option maxRecDepth 20000 in
theorem ct_X0_forget (l : Launch) (d : KD) (p0 r1 r2 r3 : Nat) (F Bf Zf : Nat → Int32) : Ct l d yX0_forget cX0_forget 2 none { frames := 0, cells := 0, slots := 0, locals := 0 } [.ref p0] [(p0, cO 0 [.ref r1, .ref r2, .ref r3]), (r1, cI d 36 F), (r2, cI d 36 Bf), (r3, cZ d 36 Zf)] 0 0 (fun r wo => r = none ∧ wo = [(p0, cO 0 [.ref r1, .ref r2, .ref r3]), (r1, cI d 36 (nF (fun _ => 1000000))), (r2, cI d 36 Bf), (r3, cZ d 36 (zF (fun _ => false)))]) := by
  refine ct_of (own := RX0) (ini := false) (by decide +kernel) rfl (fun h => by cases h) (Nat.le_of_ble_eq_true rfl) ?_
  intro g X
  show g 0 0 [(p0, cO 0 [.ref r1, .ref r2, .ref r3]), (r1, cI d 36 F), (r2, cI d 36 Bf), (r3, cZ d 36 Zf)] [(0, .ref p0)] 0 []
  refine g_iconst (v := 0) X dX0_forget_0 (by decide) ?_
  refine g_istore_n (lv' := [(1, .int 0), (0, .ref p0)]) X dX0_forget_1 rfl (by decide) rfl ?_
  have at_2 : ∀ (n_ : Nat) (i : Nat) (hi : i ≤ 36), (36 - i) < n_ → g 0 0 [(p0, cO 0 [.ref r1, .ref r2, .ref r3]), (r1, cI d 36 (fun k => if k < i then 1000000 else F k)), (r2, cI d 36 Bf), (r3, cZ d 36 (fun k => if k < i then 0 else Zf k))] [(0, .ref p0), (1, .int (nI i))] 2 [] := by
    intro n_
    induction n_ with
    | zero => intro i hi hn_; exact absurd hn_ (Nat.not_lt_zero _)
    | succ n_ ih_2 =>
      intro i hi hn_2
      refine g_iload_n X dX0_forget_2 rfl 1 rfl ?_
      refine g_bipush (v := 36) X dX0_forget_3 (by decide) ?_
      refine g_icmpN_ge (a := i) (b := 36) X rfl rfl (by omega) (by omega) 29 dX0_forget_5 (by decide) (fun c5_1 => ?_) (fun c5_1 => ?_)
      · refine g_ext (ws' := [(p0, cO 0 [.ref r1, .ref r2, .ref r3]), (r1, cI d 36 (nF (fun _ => 1000000))), (r2, cI d 36 Bf), (r3, cZ d 36 (fun k => if k < i then 0 else Zf k))]) (h := nF (fun _ => 1000000)) X 1 rfl (fun j hj => by rw [if_pos (by omega)]; rfl) rfl ?_
        refine g_ext (ws' := [(p0, cO 0 [.ref r1, .ref r2, .ref r3]), (r1, cI d 36 (nF (fun _ => 1000000))), (r2, cI d 36 Bf), (r3, cZ d 36 (zF (fun _ => false)))]) (h := zF (fun _ => false)) X 3 rfl (fun j hj => by rw [if_pos (by omega)]; exact (b2i_f (by simp)).symm) rfl ?_
        exact g_end X (gE_v dX0_forget_29 (Nat.le_of_ble_eq_true rfl) (Nat.le_of_ble_eq_true rfl) ⟨rfl, rfl⟩)
      · refine g_aload_n X dX0_forget_8 rfl 0 rfl ?_
        refine g_get (C := RX0) (T := TX0) (N := 3) (ci := 0) (v := .ref r1) X rfl inT0 0 (by decide) wd_111 rfl dX0_forget_9 0 rfl rfl ?_
        refine g_iload_n X dX0_forget_12 rfl 1 rfl ?_
        refine g_ldc (v := 1000000) X wd_362 dX0_forget_13 ?_
        refine g_iastore_N (k := i) (ws' := [(p0, cO 0 [.ref r1, .ref r2, .ref r3]), (r1, cI d 36 (upd (fun k => if k < i then 1000000 else F k) i 1000000)), (r2, cI d 36 Bf), (r3, cZ d 36 (fun k => if k < i then 0 else Zf k))]) X rfl dX0_forget_15 1 rfl (by first | assumption | omega) (by omega) rfl ?_
        refine g_aload_n X dX0_forget_16 rfl 0 rfl ?_
        refine g_get (C := RX0) (T := TX0) (N := 3) (ci := 0) (v := .ref r3) X rfl inT0 2 (by decide) wd_113 rfl dX0_forget_17 0 rfl rfl ?_
        refine g_iload_n X dX0_forget_20 rfl 1 rfl ?_
        refine g_iconst (v := 0) X dX0_forget_21 (by decide) ?_
        refine g_zastore_N (k := i) (x' := 0) (ws' := [(p0, cO 0 [.ref r1, .ref r2, .ref r3]), (r1, cI d 36 (upd (fun k => if k < i then 1000000 else F k) i 1000000)), (r2, cI d 36 Bf), (r3, cZ d 36 (upd (fun k => if k < i then 0 else Zf k) i 0))]) X rfl rfl dX0_forget_22 3 rfl (by first | assumption | omega) (by omega) rfl ?_
        refine g_iinc (v := nI (i + 1)) (lv' := [(1, .int (nI (i + 1))), (0, .ref p0)]) X dX0_forget_23 1 rfl (nI_inc _) (by decide) rfl ?_
        refine g_goto X 2 dX0_forget_26 (by decide) ?_
        refine g_lv (lv' := [(0, .ref p0), (1, .int (nI (i + 1)))]) X [1, 0] rfl ?_
        exact g_eq (ws' := [(p0, cO 0 [.ref r1, .ref r2, .ref r3]), (r1, cI d 36 (fun k => if k < (i + 1) then 1000000 else F k)), (r2, cI d 36 Bf), (r3, cZ d 36 (fun k => if k < (i + 1) then 0 else Zf k))]) (lv' := [(0, .ref p0), (1, .int (nI (i + 1)))]) (ws_cons (rfl) (ws_cons (cI_eq (fill_s)) (ws_cons (rfl) (ws_cons (cZ_eq (fill_s)) (rfl))))) (rfl) (ih_2 (i + 1) (by first | assumption | omega) (by omega))
  refine g_lv (lv' := [(0, .ref p0), (1, .int 0)]) X [1, 0] rfl ?_
  exact g_eq (ws' := [(p0, cO 0 [.ref r1, .ref r2, .ref r3]), (r1, cI d 36 (fun k => if k < 0 then 1000000 else F k)), (r2, cI d 36 Bf), (r3, cZ d 36 (fun k => if k < 0 then 0 else Zf k))]) (lv' := [(0, .ref p0), (1, .int (nI 0))]) (ws_cons (rfl) (ws_cons (cI_eq (by funext k; exact (if_neg (Nat.not_lt_zero k)).symm)) (ws_cons (rfl) (ws_cons (cZ_eq (by funext k; exact (if_neg (Nat.not_lt_zero k)).symm)) (rfl))))) (lv_cons (rfl) (lv_cons (vI (by rfl)) (rfl))) (at_2 _ 0 (by first | assumption | omega) (Nat.lt_succ_self _))
set_option maxHeartbeats 4000000 in
set_option maxRecDepth 20000 in
theorem ct_X0_offer (l : Launch) (d : KD) (p0 r1 r2 r3 : Nat) (G : Nat → Nat) (Bf Zf : Nat → Int32) (t v : Nat) (ht : t < 36) (hv : v < 2147483648) (hG : ∀ q, G q ≤ 1000000) : Ct l d yX0_offer cX0_offer 3 none { frames := 0, cells := 0, slots := 0, locals := 0 } [.ref p0, .int (nI t), .int (nI v)] [(p0, cO 0 [.ref r1, .ref r2, .ref r3]), (r1, cI d 36 (nF G)), (r2, cI d 36 Bf), (r3, cZ d 36 Zf)] 0 0 (fun r wo => r = none ∧ wo = [(p0, cO 0 [.ref r1, .ref r2, .ref r3]), (r1, cI d 36 (nF (ofr G t v))), (r2, cI d 36 Bf), (r3, cZ d 36 Zf)]) := by
  refine ct_of (own := RX0) (ini := false) (by decide +kernel) rfl (fun h => by cases h) (Nat.le_of_ble_eq_true rfl) ?_
  intro g X
  show g 0 0 [(p0, cO 0 [.ref r1, .ref r2, .ref r3]), (r1, cI d 36 (nF G)), (r2, cI d 36 Bf), (r3, cZ d 36 Zf)] [(0, .ref p0), (1, .int (nI t)), (2, .int (nI v))] 0 []
  refine g_iload_n X dX0_offer_0 rfl 1 rfl ?_
  refine g_ifN_lt (a := t) X rfl (by omega) 27 dX0_offer_1 (by decide) (fun c1_1 => absurd c1_1 (by omega)) (fun c1_1 => ?_)
  refine g_iload_n X dX0_offer_4 rfl 1 rfl ?_
  refine g_bipush (v := 36) X dX0_offer_5 (by decide) ?_
  refine g_icmpN_ge (a := t) (b := 36) X rfl rfl (by omega) (by omega) 27 dX0_offer_7 (by decide) (fun c7_2 => absurd c7_2 (by omega)) (fun c7_2 => ?_)
  have hb1 := hG t
  refine g_iload_n X dX0_offer_10 rfl 2 rfl ?_
  refine g_aload_n X dX0_offer_11 rfl 0 rfl ?_
  refine g_get (C := RX0) (T := TX0) (N := 3) (ci := 0) (v := .ref r1) X rfl inT0 0 (by decide) wd_111 rfl dX0_offer_12 0 rfl rfl ?_
  refine g_iload_n X dX0_offer_15 rfl 1 rfl ?_
  refine g_iaload_N (k := t) X rfl dX0_offer_16 1 rfl (by first | assumption | omega) (by omega) ?_
  refine g_icmpN_ge (a := v) (b := (G t)) X rfl rfl (by omega) (by omega) 27 dX0_offer_17 (by decide) (fun c17_3 => ?_) (fun c17_3 => ?_)
  · exact g_end X (gE_v dX0_offer_27 (Nat.le_of_ble_eq_true rfl) (Nat.le_of_ble_eq_true rfl) ⟨rfl, ws_cons (rfl) (ws_cons (cI_eq (by first | exact ofr_y (by omega) | exact ofr_n (by omega))) (ws_cons (rfl) (ws_cons (rfl) (rfl))))⟩)
  · refine g_aload_n X dX0_offer_20 rfl 0 rfl ?_
    refine g_get (C := RX0) (T := TX0) (N := 3) (ci := 0) (v := .ref r1) X rfl inT0 0 (by decide) wd_111 rfl dX0_offer_21 0 rfl rfl ?_
    refine g_iload_n X dX0_offer_24 rfl 1 rfl ?_
    refine g_iload_n X dX0_offer_25 rfl 2 rfl ?_
    refine g_iastore_N (k := t) (ws' := [(p0, cO 0 [.ref r1, .ref r2, .ref r3]), (r1, cI d 36 (upd (nF G) t (nI v))), (r2, cI d 36 Bf), (r3, cZ d 36 Zf)]) X rfl dX0_offer_26 1 rfl (by first | assumption | omega) (by omega) rfl ?_
    exact g_end X (gE_v dX0_offer_27 (Nat.le_of_ble_eq_true rfl) (Nat.le_of_ble_eq_true rfl) ⟨rfl, ws_cons (rfl) (ws_cons (cI_eq (by first | exact ofr_y (by omega) | exact ofr_n (by omega))) (ws_cons (rfl) (ws_cons (rfl) (rfl))))⟩)
set_option maxHeartbeats 4000000 in
set_option maxRecDepth 20000 in
theorem ct_X0_nearestUnsettled (l : Launch) (d : KD) (p0 r1 r2 r3 : Nat) (G : Nat → Nat) (Bf : Nat → Int32) (Z : Nat → Bool) (hG : ∀ q, G q ≤ 1000000) : Ct l d yX0_nearestUnsettled cX0_nearestUnsettled 4 (some .int) { frames := 0, cells := 0, slots := 0, locals := 0 } [.ref p0] [(p0, cO 0 [.ref r1, .ref r2, .ref r3]), (r1, cI d 36 (nF G)), (r2, cI d 36 Bf), (r3, cZ d 36 (zF Z))] 0 0 (fun r wo => r = some (.int (besI (nrs G Z))) ∧ wo = [(p0, cO 0 [.ref r1, .ref r2, .ref r3]), (r1, cI d 36 (nF G)), (r2, cI d 36 Bf), (r3, cZ d 36 (zF Z))]) := by
  refine ct_of (own := RX0) (ini := false) (by decide +kernel) rfl (fun h => by cases h) (Nat.le_of_ble_eq_true rfl) ?_
  intro g X
  show g 0 0 [(p0, cO 0 [.ref r1, .ref r2, .ref r3]), (r1, cI d 36 (nF G)), (r2, cI d 36 Bf), (r3, cZ d 36 (zF Z))] [(0, .ref p0)] 0 []
  refine g_iconst (v := (-1)) X dX0_nearestUnsettled_0 (by decide) ?_
  refine g_istore_n (lv' := [(1, .int (-1)), (0, .ref p0)]) X dX0_nearestUnsettled_1 rfl (by decide) rfl ?_
  refine g_ldc (v := 1000000) X wd_362 dX0_nearestUnsettled_2 ?_
  refine g_istore_n (lv' := [(2, .int 1000000), (1, .int (-1)), (0, .ref p0)]) X dX0_nearestUnsettled_4 rfl (by decide) rfl ?_
  refine g_iconst (v := 0) X dX0_nearestUnsettled_5 (by decide) ?_
  refine g_istore_n (lv' := [(3, .int 0), (2, .int 1000000), (1, .int (-1)), (0, .ref p0)]) X dX0_nearestUnsettled_6 rfl (by decide) rfl ?_
  have at_7 : ∀ (n_ : Nat) (i : Nat) (hi : i ≤ 36), (36 - i) < n_ → g 0 0 [(p0, cO 0 [.ref r1, .ref r2, .ref r3]), (r1, cI d 36 (nF G)), (r2, cI d 36 Bf), (r3, cZ d 36 (zF Z))] [(0, .ref p0), (1, .int (besI (nr G Z i).1)), (2, .int (nI ((nr G Z i).2))), (3, .int (nI i))] 7 [] := by
    intro n_
    induction n_ with
    | zero => intro i hi hn_; exact absurd hn_ (Nat.not_lt_zero _)
    | succ n_ ih_7 =>
      intro i hi hn_7
      have hb1 := nr_le G Z i
      have hb2 := hG i
      refine g_iload_n X dX0_nearestUnsettled_7 rfl 3 rfl ?_
      refine g_bipush (v := 36) X dX0_nearestUnsettled_8 (by decide) ?_
      refine g_icmpN_ge (a := i) (b := 36) X rfl rfl (by omega) (by omega) 47 dX0_nearestUnsettled_10 (by decide) (fun c10_1 => ?_) (fun c10_1 => ?_)
      · refine g_iload_n X dX0_nearestUnsettled_47 rfl 1 rfl ?_
        exact g_end X (gE_i dX0_nearestUnsettled_48 (rfl) (Nat.le_of_ble_eq_true rfl) (Nat.le_of_ble_eq_true rfl) ⟨congrArg (fun z => some (Value.int z)) (by rw [show i = 36 by omega]; rfl), rfl⟩)
      · refine g_aload_n X dX0_nearestUnsettled_13 rfl 0 rfl ?_
        refine g_get (C := RX0) (T := TX0) (N := 3) (ci := 0) (v := .ref r3) X rfl inT0 2 (by decide) wd_113 rfl dX0_nearestUnsettled_14 0 rfl rfl ?_
        refine g_iload_n X dX0_nearestUnsettled_17 rfl 3 rfl ?_
        refine g_zaload_N (k := i) X rfl dX0_nearestUnsettled_18 3 rfl (by first | assumption | omega) (by omega) ?_
        refine g_ifB_ne X 41 dX0_nearestUnsettled_19 (by decide) (fun c19_2 => ?_) (fun c19_2 => ?_)
        · refine g_iinc (v := nI (i + 1)) (lv' := [(3, .int (nI (i + 1))), (0, .ref p0), (1, .int (besI (nr G Z i).1)), (2, .int (nI ((nr G Z i).2)))]) X dX0_nearestUnsettled_41 3 rfl (nI_inc _) (by decide) rfl ?_
          refine g_goto X 7 dX0_nearestUnsettled_44 (by decide) ?_
          refine g_lv (lv' := [(0, .ref p0), (1, .int (besI (nr G Z i).1)), (2, .int (nI ((nr G Z i).2))), (3, .int (nI (i + 1)))]) X [1, 2, 3, 0] rfl ?_
          exact g_eq (ws' := [(p0, cO 0 [.ref r1, .ref r2, .ref r3]), (r1, cI d 36 (nF G)), (r2, cI d 36 Bf), (r3, cZ d 36 (zF Z))]) (lv' := [(0, .ref p0), (1, .int (besI (nr G Z (i + 1)).1)), (2, .int (nI ((nr G Z (i + 1)).2))), (3, .int (nI (i + 1)))]) (rfl) (lv_cons (rfl) (lv_cons (vI (by rw [nr_n (Or.inl (by assumption))])) (lv_cons (vI (by rw [nr_n (Or.inl (by assumption))])) (lv_cons (rfl) (rfl))))) (ih_7 (i + 1) (by first | assumption | omega) (by omega))
        · refine g_aload_n X dX0_nearestUnsettled_22 rfl 0 rfl ?_
          refine g_get (C := RX0) (T := TX0) (N := 3) (ci := 0) (v := .ref r1) X rfl inT0 0 (by decide) wd_111 rfl dX0_nearestUnsettled_23 0 rfl rfl ?_
          refine g_iload_n X dX0_nearestUnsettled_26 rfl 3 rfl ?_
          refine g_iaload_N (k := i) X rfl dX0_nearestUnsettled_27 1 rfl (by first | assumption | omega) (by omega) ?_
          refine g_iload_n X dX0_nearestUnsettled_28 rfl 2 rfl ?_
          refine g_icmpN_ge (a := (G i)) (b := ((nr G Z i).2)) X rfl rfl (by omega) (by omega) 41 dX0_nearestUnsettled_29 (by decide) (fun c29_3 => ?_) (fun c29_3 => ?_)
          · refine g_iinc (v := nI (i + 1)) (lv' := [(3, .int (nI (i + 1))), (0, .ref p0), (1, .int (besI (nr G Z i).1)), (2, .int (nI ((nr G Z i).2)))]) X dX0_nearestUnsettled_41 3 rfl (nI_inc _) (by decide) rfl ?_
            refine g_goto X 7 dX0_nearestUnsettled_44 (by decide) ?_
            refine g_lv (lv' := [(0, .ref p0), (1, .int (besI (nr G Z i).1)), (2, .int (nI ((nr G Z i).2))), (3, .int (nI (i + 1)))]) X [1, 2, 3, 0] rfl ?_
            exact g_eq (ws' := [(p0, cO 0 [.ref r1, .ref r2, .ref r3]), (r1, cI d 36 (nF G)), (r2, cI d 36 Bf), (r3, cZ d 36 (zF Z))]) (lv' := [(0, .ref p0), (1, .int (besI (nr G Z (i + 1)).1)), (2, .int (nI ((nr G Z (i + 1)).2))), (3, .int (nI (i + 1)))]) (rfl) (lv_cons (rfl) (lv_cons (vI (by rw [nr_n (Or.inr (by omega))])) (lv_cons (vI (by rw [nr_n (Or.inr (by omega))])) (lv_cons (rfl) (rfl))))) (ih_7 (i + 1) (by first | assumption | omega) (by omega))
          · refine g_iload_n X dX0_nearestUnsettled_32 rfl 3 rfl ?_
            refine g_istore_n (lv' := [(1, .int (nI i)), (0, .ref p0), (2, .int (nI ((nr G Z i).2))), (3, .int (nI i))]) X dX0_nearestUnsettled_33 rfl (by decide) rfl ?_
            refine g_aload_n X dX0_nearestUnsettled_34 rfl 1 rfl ?_
            refine g_get (C := RX0) (T := TX0) (N := 3) (ci := 0) (v := .ref r1) X rfl inT0 0 (by decide) wd_111 rfl dX0_nearestUnsettled_35 0 rfl rfl ?_
            refine g_iload_n X dX0_nearestUnsettled_38 rfl 3 rfl ?_
            refine g_iaload_N (k := i) X rfl dX0_nearestUnsettled_39 1 rfl (by first | assumption | omega) (by omega) ?_
            refine g_istore_n (lv' := [(2, .int (nI (G i))), (1, .int (nI i)), (0, .ref p0), (3, .int (nI i))]) X dX0_nearestUnsettled_40 rfl (by decide) rfl ?_
            refine g_iinc (v := nI (i + 1)) (lv' := [(3, .int (nI (i + 1))), (2, .int (nI (G i))), (1, .int (nI i)), (0, .ref p0)]) X dX0_nearestUnsettled_41 3 rfl (nI_inc _) (by decide) rfl ?_
            refine g_goto X 7 dX0_nearestUnsettled_44 (by decide) ?_
            refine g_lv (lv' := [(0, .ref p0), (1, .int (nI i)), (2, .int (nI (G i))), (3, .int (nI (i + 1)))]) X [3, 2, 1, 0] rfl ?_
            exact g_eq (ws' := [(p0, cO 0 [.ref r1, .ref r2, .ref r3]), (r1, cI d 36 (nF G)), (r2, cI d 36 Bf), (r3, cZ d 36 (zF Z))]) (lv' := [(0, .ref p0), (1, .int (besI (nr G Z (i + 1)).1)), (2, .int (nI ((nr G Z (i + 1)).2))), (3, .int (nI (i + 1)))]) (rfl) (lv_cons (rfl) (lv_cons (vI (by rw [nr_y (by assumption) (by omega)]; exact (besI_t (by omega)).symm)) (lv_cons (vI (by rw [nr_y (by assumption) (by omega)])) (lv_cons (rfl) (rfl))))) (ih_7 (i + 1) (by first | assumption | omega) (by omega))
  refine g_lv (lv' := [(0, .ref p0), (1, .int (-1)), (2, .int 1000000), (3, .int 0)]) X [3, 2, 1, 0] rfl ?_
  exact g_eq (ws' := [(p0, cO 0 [.ref r1, .ref r2, .ref r3]), (r1, cI d 36 (nF G)), (r2, cI d 36 Bf), (r3, cZ d 36 (zF Z))]) (lv' := [(0, .ref p0), (1, .int (besI (nr G Z 0).1)), (2, .int (nI ((nr G Z 0).2))), (3, .int (nI 0))]) (rfl) (lv_cons (rfl) (lv_cons (vI (by rfl)) (lv_cons (vI (by rfl)) (lv_cons (vI (by rfl)) (rfl))))) (at_7 _ 0 (by first | assumption | omega) (Nat.lt_succ_self _))
set_option maxHeartbeats 4000000 in
set_option maxRecDepth 20000 in
theorem ct_X0_spread (l : Launch) (d : KD) (p0 r1 r2 r3 : Nat) (h0 q1 q2 q3 : Nat) (K L S : Nat → Int32) (G : Nat → Nat) (Bf : Nat → Int32) (Z : Nat → Bool) (hG : ∀ q, G q ≤ 1000000) : Ct l d yX0_spread cX0_spread 6 none { frames := 2, cells := 0, slots := 0, locals := 44 } [.ref p0, .ref h0] [(h0, cO 1 [.ref q1, .ref q2, .ref q3]), (q1, cI d 36 K), (q2, cI d 36 L), (q3, cI d 5 S), (p0, cO 0 [.ref r1, .ref r2, .ref r3]), (r1, cI d 36 (nF G)), (r2, cI d 36 Bf), (r3, cZ d 36 (zF Z))] 0 0 (fun r wo => r = none ∧ wo = [(h0, cO 1 [.ref q1, .ref q2, .ref q3]), (q1, cI d 36 K), (q2, cI d 36 L), (q3, cI d 5 S), (p0, cO 0 [.ref r1, .ref r2, .ref r3]), (r1, cI d 36 (nF (spr K S 36 G Z).1)), (r2, cI d 36 Bf), (r3, cZ d 36 (zF (spr K S 36 G Z).2))]) := by
  refine ct_of (own := RX0) (ini := false) (by decide +kernel) rfl (fun h => by cases h) (Nat.le_of_ble_eq_true rfl) ?_
  intro g X
  show g 0 0 [(h0, cO 1 [.ref q1, .ref q2, .ref q3]), (q1, cI d 36 K), (q2, cI d 36 L), (q3, cI d 5 S), (p0, cO 0 [.ref r1, .ref r2, .ref r3]), (r1, cI d 36 (nF G)), (r2, cI d 36 Bf), (r3, cZ d 36 (zF Z))] [(0, .ref p0), (1, .ref h0)] 0 []
  refine g_iconst (v := 0) X dX0_spread_0 (by decide) ?_
  refine g_istore_n (lv' := [(2, .int 0), (0, .ref p0), (1, .ref h0)]) X dX0_spread_1 rfl (by decide) rfl ?_
  have at_2 : ∀ (n_ : Nat) (i : Nat) (G2 : Nat → Nat) (Z2 : Nat → Bool) (hi : i ≤ 36) (hG2 : ∀ q, G2 q ≤ 1000000) (hs : spr K S (36 - i) G2 Z2 = spr K S 36 G Z), (36 - i) < n_ → g 0 0 [(h0, cO 1 [.ref q1, .ref q2, .ref q3]), (q1, cI d 36 K), (q2, cI d 36 L), (q3, cI d 5 S), (p0, cO 0 [.ref r1, .ref r2, .ref r3]), (r1, cI d 36 (nF G2)), (r2, cI d 36 Bf), (r3, cZ d 36 (zF Z2))] [(0, .ref p0), (1, .ref h0), (2, .int (nI i))] 2 [] := by
    intro n_
    induction n_ with
    | zero => intro i G2 Z2 hi hG2 hs hn_; exact absurd hn_ (Nat.not_lt_zero _)
    | succ n_ ih_2 =>
      intro i G2 Z2 hi hG2 hs hn_2
      refine g_iload_n X dX0_spread_2 rfl 2 rfl ?_
      refine g_bipush (v := 36) X dX0_spread_3 (by decide) ?_
      refine g_icmpN_ge (a := i) (b := 36) X rfl rfl (by omega) (by omega) 84 dX0_spread_5 (by decide) (fun c5_1 => ?_) (fun c5_1 => ?_)
      · exact g_end X (gE_v dX0_spread_84 (Nat.le_of_ble_eq_true rfl) (Nat.le_of_ble_eq_true rfl) ⟨rfl, ws_cons (rfl) (ws_cons (rfl) (ws_cons (rfl) (ws_cons (rfl) (ws_cons (rfl) (ws_cons (cI_eq (by first | (rw [← hs, show i = 36 by omega]; rfl) | (rw [← hs, spr_n (by assumption)]))) (ws_cons (rfl) (ws_cons (cZ_eq (by first | (rw [← hs, show i = 36 by omega]; rfl) | (rw [← hs, spr_n (by assumption)]))) (rfl))))))))⟩)
      · refine g_aload_n X dX0_spread_8 rfl 0 rfl ?_
        refine g_dV (ci := 0) (q0 := 0) (n := 0) (wr := [(h0, cO 1 [.ref q1, .ref q2, .ref q3]), (q1, cI d 36 K), (q2, cI d 36 L), (q3, cI d 5 S)]) (ws' := [(h0, cO 1 [.ref q1, .ref q2, .ref q3]), (q1, cI d 36 K), (q2, cI d 36 L), (q3, cI d 5 S), (p0, cO 0 [.ref r1, .ref r2, .ref r3]), (r1, cI d 36 (nF G2)), (r2, cI d 36 Bf), (r3, cZ d 36 (zF Z2))]) (st' := [.int (besI (nrs G2 Z2))]) (As := []) (st := []) X (ct_X0_nearestUnsettled l d p0 r1 r2 r3 G2 Bf Z2 (by first | assumption | omega)) wd_381 wd_378 wd_380 wd_4 wd_55 hd_X0_nearestUnsettled rfl ⟨(Nat.le_of_ble_eq_true rfl), (Nat.le_of_ble_eq_true rfl)⟩ rfl rfl dX0_spread_9 ⟨(Nat.le_of_ble_eq_true rfl), (Nat.le_of_ble_eq_true rfl)⟩ rfl rfl (Nat.le_of_ble_eq_true rfl) [4, 5, 6, 7] [0, 1, 2, 3] rfl rfl rfl rfl rfl (by decide) rfl [0, 1, 2, 3, 4, 5, 6, 7] rfl rfl rfl rfl ?_
        refine g_istore_n (lv' := [(3, .int (besI (nrs G2 Z2))), (0, .ref p0), (1, .ref h0), (2, .int (nI i))]) X dX0_spread_12 rfl (by decide) rfl ?_
        refine g_iload_n X dX0_spread_13 rfl 0 rfl ?_
        refine g_dSN (host := "HeWreckedHimself") (n := 1) (wr := [(h0, cO 1 [.ref q1, .ref q2, .ref q3]), (q1, cI d 36 K), (q2, cI d 36 L), (q3, cI d 5 S), (p0, cO 0 [.ref r1, .ref r2, .ref r3]), (r1, cI d 36 (nF G2)), (r2, cI d 36 Bf), (r3, cZ d 36 (zF Z2))]) (ws' := [(h0, cO 1 [.ref q1, .ref q2, .ref q3]), (q1, cI d 36 K), (q2, cI d 36 L), (q3, cI d 5 S), (p0, cO 0 [.ref r1, .ref r2, .ref r3]), (r1, cI d 36 (nF G2)), (r2, cI d 36 Bf), (r3, cZ d 36 (zF Z2))]) (st' := [.int (b2i ((nrs G2 Z2) < 36))]) (As := [.int (besI (nrs G2 Z2))]) (st := []) X (ct_X5_isSquare_b l d (nrs G2 Z2)) wd_365 (by decide +kernel) wd_364 wd_52 hd_X5_isSquare ⟨(Nat.le_of_ble_eq_true rfl), (Nat.le_of_ble_eq_true rfl)⟩ rfl rfl dX0_spread_14 ⟨(Nat.le_of_ble_eq_true rfl), (Nat.le_of_ble_eq_true rfl)⟩ rfl rfl (Nat.le_of_ble_eq_true rfl) [] [0, 1, 2, 3, 4, 5, 6, 7] rfl rfl rfl rfl rfl (by decide) [0, 1, 2, 3, 4, 5, 6, 7] rfl rfl rfl rfl ?_
        refine g_ifB_ne X 21 dX0_spread_17 (by decide) (fun c17_2 => ?_) (fun c17_2 => ?_)
        · have hn : nrs G2 Z2 < 36 := c17_2
          refine g_eq (lv' := [(3, .int (nI (nrs G2 Z2))), (0, .ref p0), (1, .ref h0), (2, .int (nI i))]) rfl (lv_cons (vI (besI_t hn)) (lv_cons (rfl) (lv_cons (rfl) (lv_cons (rfl) (rfl))))) ?_
          refine g_aload_n X dX0_spread_21 rfl 1 rfl ?_
          refine g_get (C := RX0) (T := TX0) (N := 3) (ci := 0) (v := .ref r3) X rfl inT0 2 (by decide) wd_113 rfl dX0_spread_22 4 rfl rfl ?_
          refine g_iload_n X dX0_spread_25 rfl 0 rfl ?_
          refine g_iconst (v := 1) X dX0_spread_26 (by decide) ?_
          refine g_zastore_N (k := (nrs G2 Z2)) (x' := 1) (ws' := [(h0, cO 1 [.ref q1, .ref q2, .ref q3]), (q1, cI d 36 K), (q2, cI d 36 L), (q3, cI d 5 S), (p0, cO 0 [.ref r1, .ref r2, .ref r3]), (r1, cI d 36 (nF G2)), (r2, cI d 36 Bf), (r3, cZ d 36 (upd (zF Z2) (nrs G2 Z2) 1))]) X rfl rfl dX0_spread_27 7 rfl (by first | assumption | omega) (by omega) rfl ?_
          refine g_eq (ws' := [(h0, cO 1 [.ref q1, .ref q2, .ref q3]), (q1, cI d 36 K), (q2, cI d 36 L), (q3, cI d 5 S), (p0, cO 0 [.ref r1, .ref r2, .ref r3]), (r1, cI d 36 (nF G2)), (r2, cI d 36 Bf), (r3, cZ d 36 (zF (stl Z2 (nrs G2 Z2))))]) (ws_cons (rfl) (ws_cons (rfl) (ws_cons (rfl) (ws_cons (rfl) (ws_cons (rfl) (ws_cons (rfl) (ws_cons (rfl) (ws_cons (cZ_eq (stl_y)) (rfl))))))))) rfl ?_
          refine g_iconst (v := 0) X dX0_spread_28 (by decide) ?_
          refine g_istore (lv' := [(4, .int 0), (3, .int (nI (nrs G2 Z2))), (0, .ref p0), (1, .ref h0), (2, .int (nI i))]) X dX0_spread_29 (by decide) rfl ?_
          have at_31 : ∀ (n_ : Nat) (w : Nat) (hw : w ≤ 4), (4 - w) < n_ → g 0 0 [(h0, cO 1 [.ref q1, .ref q2, .ref q3]), (q1, cI d 36 K), (q2, cI d 36 L), (q3, cI d 5 S), (p0, cO 0 [.ref r1, .ref r2, .ref r3]), (r1, cI d 36 (nF (rx K S (nrs G2 Z2) G2 w))), (r2, cI d 36 Bf), (r3, cZ d 36 (zF (stl Z2 (nrs G2 Z2))))] [(0, .ref p0), (1, .ref h0), (2, .int (nI i)), (3, .int (nI (nrs G2 Z2))), (4, .int (nI w))] 31 [] := by
            intro n_
            induction n_ with
            | zero => intro w hw hn_; exact absurd hn_ (Nat.not_lt_zero _)
            | succ n_ ih_31 =>
              intro w hw hn_31
              refine g_iload X dX0_spread_31 4 rfl ?_
              refine g_iconst (v := 4) X dX0_spread_33 (by decide) ?_
              refine g_icmpN_ge (a := w) (b := 4) X rfl rfl (by omega) (by omega) 78 dX0_spread_34 (by decide) (fun c34_3 => ?_) (fun c34_3 => ?_)
              · refine g_iinc (v := nI (i + 1)) (lv' := [(2, .int (nI (i + 1))), (0, .ref p0), (1, .ref h0), (3, .int (nI (nrs G2 Z2))), (4, .int (nI w))]) X dX0_spread_78 2 rfl (nI_inc _) (by decide) rfl ?_
                refine g_goto X 2 dX0_spread_81 (by decide) ?_
                refine g_lv (lv' := [(0, .ref p0), (1, .ref h0), (2, .int (nI (i + 1)))]) X [1, 2, 0] rfl ?_
                exact g_eq (ws' := [(h0, cO 1 [.ref q1, .ref q2, .ref q3]), (q1, cI d 36 K), (q2, cI d 36 L), (q3, cI d 5 S), (p0, cO 0 [.ref r1, .ref r2, .ref r3]), (r1, cI d 36 (nF (rx K S (nrs G2 Z2) G2 4))), (r2, cI d 36 Bf), (r3, cZ d 36 (zF (stl Z2 (nrs G2 Z2))))]) (lv' := [(0, .ref p0), (1, .ref h0), (2, .int (nI (i + 1)))]) (ws_cons (rfl) (ws_cons (rfl) (ws_cons (rfl) (ws_cons (rfl) (ws_cons (rfl) (ws_cons (cI_eq (by rw [show w = 4 by omega])) (ws_cons (rfl) (ws_cons (rfl) (rfl))))))))) (rfl) (ih_2 (i + 1) (rx K S (nrs G2 Z2) G2 4) (stl Z2 (nrs G2 Z2)) (by first | assumption | omega) (fun q => Nat.le_trans (rx_le 4) (hG2 q)) ((spr_y (by omega) hn).trans hs) (by omega))
              · refine g_aload_n X dX0_spread_37 rfl 1 rfl ?_
                refine g_iload_n X dX0_spread_38 rfl 3 rfl ?_
                refine g_iload X dX0_spread_39 4 rfl ?_
                refine g_dV (ci := 1) (q0 := 0) (n := 2) (wr := [(p0, cO 0 [.ref r1, .ref r2, .ref r3]), (r1, cI d 36 (nF (rx K S (nrs G2 Z2) G2 w))), (r2, cI d 36 Bf), (r3, cZ d 36 (zF (stl Z2 (nrs G2 Z2))))]) (ws' := [(h0, cO 1 [.ref q1, .ref q2, .ref q3]), (q1, cI d 36 K), (q2, cI d 36 L), (q3, cI d 5 S), (p0, cO 0 [.ref r1, .ref r2, .ref r3]), (r1, cI d 36 (nF (rx K S (nrs G2 Z2) G2 w))), (r2, cI d 36 Bf), (r3, cZ d 36 (zF (stl Z2 (nrs G2 Z2))))]) (st' := [.int (stp K S (nrs G2 Z2) w)]) (As := [.int (nI (nrs G2 Z2)), .int (nI w)]) (st := []) X (ct_X1_daysToGo l d h0 q1 q2 q3 K L S (nrs G2 Z2) w (by first | assumption | omega) (by first | assumption | omega)) wd_385 wd_382 wd_383 wd_384 wd_53 hd_X1_daysToGo rfl ⟨(Nat.le_of_ble_eq_true rfl), (Nat.le_of_ble_eq_true rfl)⟩ rfl rfl dX0_spread_41 ⟨(Nat.le_of_ble_eq_true rfl), (Nat.le_of_ble_eq_true rfl)⟩ rfl rfl (Nat.le_of_ble_eq_true rfl) [0, 1, 2, 3] [4, 5, 6, 7] rfl rfl rfl rfl rfl (by decide) rfl [4, 5, 6, 7, 0, 1, 2, 3] rfl rfl rfl rfl ?_
                refine g_istore (lv' := [(5, .int (stp K S (nrs G2 Z2) w)), (0, .ref p0), (1, .ref h0), (2, .int (nI i)), (3, .int (nI (nrs G2 Z2))), (4, .int (nI w))]) X dX0_spread_44 (by decide) rfl ?_
                refine g_iload X dX0_spread_46 0 rfl ?_
                refine g_bipush (v := (-9)) X dX0_spread_48 (by decide) ?_
                refine g_icmp_eq X 72 dX0_spread_50 (by decide) (fun c50_4 => ?_) (fun c50_4 => ?_)
                · refine g_iinc (v := nI (w + 1)) (lv' := [(4, .int (nI (w + 1))), (5, .int (stp K S (nrs G2 Z2) w)), (0, .ref p0), (1, .ref h0), (2, .int (nI i)), (3, .int (nI (nrs G2 Z2)))]) X dX0_spread_72 5 rfl (nI_inc _) (by decide) rfl ?_
                  refine g_goto X 31 dX0_spread_75 (by decide) ?_
                  refine g_lv (lv' := [(0, .ref p0), (1, .ref h0), (2, .int (nI i)), (3, .int (nI (nrs G2 Z2))), (4, .int (nI (w + 1)))]) X [2, 3, 4, 5, 0] rfl ?_
                  exact g_eq (ws' := [(h0, cO 1 [.ref q1, .ref q2, .ref q3]), (q1, cI d 36 K), (q2, cI d 36 L), (q3, cI d 5 S), (p0, cO 0 [.ref r1, .ref r2, .ref r3]), (r1, cI d 36 (nF (rx K S (nrs G2 Z2) G2 (w + 1)))), (r2, cI d 36 Bf), (r3, cZ d 36 (zF (stl Z2 (nrs G2 Z2))))]) (lv' := [(0, .ref p0), (1, .ref h0), (2, .int (nI i)), (3, .int (nI (nrs G2 Z2))), (4, .int (nI (w + 1)))]) (ws_cons (rfl) (ws_cons (rfl) (ws_cons (rfl) (ws_cons (rfl) (ws_cons (rfl) (ws_cons (cI_eq (congrArg nF (rx_n (stp_eq (by assumption))))) (ws_cons (rfl) (ws_cons (rfl) (rfl))))))))) (rfl) (ih_31 (w + 1) (by first | assumption | omega) (by omega))
                · obtain ⟨hnb, hcs, hst⟩ := stp_ne c50_4
                  refine g_eq (lv' := [(5, .int (nI (cst (K (nb (nrs G2 Z2) w)) w))), (0, .ref p0), (1, .ref h0), (2, .int (nI i)), (3, .int (nI (nrs G2 Z2))), (4, .int (nI w))]) rfl (lv_cons (vI (hst)) (lv_cons (rfl) (lv_cons (rfl) (lv_cons (rfl) (lv_cons (rfl) (lv_cons (rfl) (rfl))))))) ?_
                  have hcl := cst_le (K (nb (nrs G2 Z2) w)) w
                  refine g_aload_n X dX0_spread_53 rfl 1 rfl ?_
                  refine g_iload_n X dX0_spread_54 rfl 4 rfl ?_
                  refine g_iload X dX0_spread_55 5 rfl ?_
                  refine g_dS (n := 2) (wr := [(h0, cO 1 [.ref q1, .ref q2, .ref q3]), (q1, cI d 36 K), (q2, cI d 36 L), (q3, cI d 5 S), (p0, cO 0 [.ref r1, .ref r2, .ref r3]), (r1, cI d 36 (nF (rx K S (nrs G2 Z2) G2 w))), (r2, cI d 36 Bf), (r3, cZ d 36 (zF (stl Z2 (nrs G2 Z2))))]) (ws' := [(h0, cO 1 [.ref q1, .ref q2, .ref q3]), (q1, cI d 36 K), (q2, cI d 36 L), (q3, cI d 5 S), (p0, cO 0 [.ref r1, .ref r2, .ref r3]), (r1, cI d 36 (nF (rx K S (nrs G2 Z2) G2 w))), (r2, cI d 36 Bf), (r3, cZ d 36 (zF (stl Z2 (nrs G2 Z2))))]) (st' := [.int (besI (nb (nrs G2 Z2) w)), .ref p0]) (As := [.int (nI (nrs G2 Z2)), .int (nI w)]) (st := [.ref p0]) X (ct_X1_beside l d (nrs G2 Z2) w (by first | assumption | omega) (by first | assumption | omega)) wd_388 wd_389 wd_387 wd_53 hd_X1_beside ⟨(Nat.le_of_ble_eq_true rfl), (Nat.le_of_ble_eq_true rfl)⟩ rfl rfl dX0_spread_57 ⟨(Nat.le_of_ble_eq_true rfl), (Nat.le_of_ble_eq_true rfl)⟩ rfl rfl (Nat.le_of_ble_eq_true rfl) [] [0, 1, 2, 3, 4, 5, 6, 7] rfl rfl rfl rfl rfl (by decide) [0, 1, 2, 3, 4, 5, 6, 7] rfl rfl rfl rfl ?_
                  refine g_tope (y := nI (nb (nrs G2 Z2) w)) (besI_t hnb) ?_
                  refine g_aload_n X dX0_spread_60 rfl 1 rfl ?_
                  refine g_get (C := RX0) (T := TX0) (N := 3) (ci := 0) (v := .ref r1) X rfl inT0 0 (by decide) wd_111 rfl dX0_spread_61 4 rfl rfl ?_
                  refine g_iload_n X dX0_spread_64 rfl 4 rfl ?_
                  refine g_iaload_N (k := (nrs G2 Z2)) X rfl dX0_spread_65 5 rfl (by first | assumption | omega) (by omega) ?_
                  refine g_iload X dX0_spread_66 0 rfl ?_
                  refine g_iadd X dX0_spread_68 ?_
                  refine g_tope (y := nI (((rx K S (nrs G2 Z2) G2 w) (nrs G2 Z2)) + (cst (K (nb (nrs G2 Z2) w)) w))) (nI_add _ _) ?_
                  have hb1 : rx K S (nrs G2 Z2) G2 w (nrs G2 Z2) ≤ 1000000 := Nat.le_trans (rx_le w) (hG2 _)
                  refine g_dV (ci := 0) (q0 := 0) (n := 2) (wr := [(h0, cO 1 [.ref q1, .ref q2, .ref q3]), (q1, cI d 36 K), (q2, cI d 36 L), (q3, cI d 5 S)]) (ws' := [(h0, cO 1 [.ref q1, .ref q2, .ref q3]), (q1, cI d 36 K), (q2, cI d 36 L), (q3, cI d 5 S), (p0, cO 0 [.ref r1, .ref r2, .ref r3]), (r1, cI d 36 (nF (ofr (rx K S (nrs G2 Z2) G2 w) (nb (nrs G2 Z2) w) (((rx K S (nrs G2 Z2) G2 w) (nrs G2 Z2)) + (cst (K (nb (nrs G2 Z2) w)) w))))), (r2, cI d 36 Bf), (r3, cZ d 36 (zF (stl Z2 (nrs G2 Z2))))]) (st' := []) (As := [.int (nI (nb (nrs G2 Z2) w)), .int (nI (((rx K S (nrs G2 Z2) G2 w) (nrs G2 Z2)) + (cst (K (nb (nrs G2 Z2) w)) w)))]) (st := []) X (ct_X0_offer l d p0 r1 r2 r3 (rx K S (nrs G2 Z2) G2 w) Bf (zF (stl Z2 (nrs G2 Z2))) (nb (nrs G2 Z2) w) (((rx K S (nrs G2 Z2) G2 w) (nrs G2 Z2)) + (cst (K (nb (nrs G2 Z2) w)) w)) (by first | assumption | omega) (by omega) (fun q => Nat.le_trans (rx_le w) (hG2 q))) wd_393 wd_390 wd_392 wd_5 wd_55 hd_X0_offer rfl ⟨(Nat.le_of_ble_eq_true rfl), (Nat.le_of_ble_eq_true rfl)⟩ rfl rfl dX0_spread_69 ⟨(Nat.le_of_ble_eq_true rfl), (Nat.le_of_ble_eq_true rfl)⟩ rfl rfl (Nat.le_of_ble_eq_true rfl) [4, 5, 6, 7] [0, 1, 2, 3] rfl rfl rfl rfl rfl (by decide) rfl [0, 1, 2, 3, 4, 5, 6, 7] rfl rfl rfl rfl ?_
                  refine g_iinc (v := nI (w + 1)) (lv' := [(4, .int (nI (w + 1))), (5, .int (nI (cst (K (nb (nrs G2 Z2) w)) w))), (0, .ref p0), (1, .ref h0), (2, .int (nI i)), (3, .int (nI (nrs G2 Z2)))]) X dX0_spread_72 5 rfl (nI_inc _) (by decide) rfl ?_
                  refine g_goto X 31 dX0_spread_75 (by decide) ?_
                  refine g_lv (lv' := [(0, .ref p0), (1, .ref h0), (2, .int (nI i)), (3, .int (nI (nrs G2 Z2))), (4, .int (nI (w + 1)))]) X [2, 3, 4, 5, 0] rfl ?_
                  exact g_eq (ws' := [(h0, cO 1 [.ref q1, .ref q2, .ref q3]), (q1, cI d 36 K), (q2, cI d 36 L), (q3, cI d 5 S), (p0, cO 0 [.ref r1, .ref r2, .ref r3]), (r1, cI d 36 (nF (rx K S (nrs G2 Z2) G2 (w + 1)))), (r2, cI d 36 Bf), (r3, cZ d 36 (zF (stl Z2 (nrs G2 Z2))))]) (lv' := [(0, .ref p0), (1, .ref h0), (2, .int (nI i)), (3, .int (nI (nrs G2 Z2))), (4, .int (nI (w + 1)))]) (ws_cons (rfl) (ws_cons (rfl) (ws_cons (rfl) (ws_cons (rfl) (ws_cons (rfl) (ws_cons (cI_eq (congrArg nF (rx_y hnb hcs))) (ws_cons (rfl) (ws_cons (rfl) (rfl))))))))) (rfl) (ih_31 (w + 1) (by first | assumption | omega) (by omega))
          refine g_lv (lv' := [(0, .ref p0), (1, .ref h0), (2, .int (nI i)), (3, .int (nI (nrs G2 Z2))), (4, .int 0)]) X [2, 3, 4, 1, 0] rfl ?_
          exact g_eq (ws' := [(h0, cO 1 [.ref q1, .ref q2, .ref q3]), (q1, cI d 36 K), (q2, cI d 36 L), (q3, cI d 5 S), (p0, cO 0 [.ref r1, .ref r2, .ref r3]), (r1, cI d 36 (nF (rx K S (nrs G2 Z2) G2 0))), (r2, cI d 36 Bf), (r3, cZ d 36 (zF (stl Z2 (nrs G2 Z2))))]) (lv' := [(0, .ref p0), (1, .ref h0), (2, .int (nI i)), (3, .int (nI (nrs G2 Z2))), (4, .int (nI 0))]) (ws_cons (rfl) (ws_cons (rfl) (ws_cons (rfl) (ws_cons (rfl) (ws_cons (rfl) (ws_cons (cI_eq (by rfl)) (ws_cons (rfl) (ws_cons (rfl) (rfl))))))))) (lv_cons (rfl) (lv_cons (rfl) (lv_cons (rfl) (lv_cons (rfl) (lv_cons (vI (by rfl)) (rfl)))))) (at_31 _ 0 (by first | assumption | omega) (Nat.lt_succ_self _))
        · exact g_end X (gE_v dX0_spread_20 (Nat.le_of_ble_eq_true rfl) (Nat.le_of_ble_eq_true rfl) ⟨rfl, ws_cons (rfl) (ws_cons (rfl) (ws_cons (rfl) (ws_cons (rfl) (ws_cons (rfl) (ws_cons (cI_eq (by first | (rw [← hs, show i = 36 by omega]; rfl) | (rw [← hs, spr_n (by assumption)]))) (ws_cons (rfl) (ws_cons (cZ_eq (by first | (rw [← hs, show i = 36 by omega]; rfl) | (rw [← hs, spr_n (by assumption)]))) (rfl))))))))⟩)
  refine g_lv (lv' := [(0, .ref p0), (1, .ref h0), (2, .int 0)]) X [1, 2, 0] rfl ?_
  exact g_eq (ws' := [(h0, cO 1 [.ref q1, .ref q2, .ref q3]), (q1, cI d 36 K), (q2, cI d 36 L), (q3, cI d 5 S), (p0, cO 0 [.ref r1, .ref r2, .ref r3]), (r1, cI d 36 (nF G)), (r2, cI d 36 Bf), (r3, cZ d 36 (zF Z))]) (lv' := [(0, .ref p0), (1, .ref h0), (2, .int (nI 0))]) (rfl) (lv_cons (rfl) (lv_cons (rfl) (lv_cons (vI (by rfl)) (rfl)))) (at_2 _ 0 G Z (by first | assumption | omega) (hG) (rfl) (Nat.lt_succ_self _))
set_option maxHeartbeats 4000000 in
set_option maxRecDepth 20000 in
theorem ct_X0_searchFrom (l : Launch) (d : KD) (p0 r1 r2 r3 : Nat) (h0 q1 q2 q3 : Nat) (K L S : Nat → Int32) (F Bf Zf : Nat → Int32) (x : Int32) : Ct l d yX0_searchFrom cX0_searchFrom 3 none { frames := 3, cells := 0, slots := 0, locals := 69 } [.ref p0, .ref h0, .int x] [(h0, cO 1 [.ref q1, .ref q2, .ref q3]), (q1, cI d 36 K), (q2, cI d 36 L), (q3, cI d 5 S), (p0, cO 0 [.ref r1, .ref r2, .ref r3]), (r1, cI d 36 F), (r2, cI d 36 Bf), (r3, cZ d 36 Zf)] 0 0 (fun r wo => ∃ (Z' : Nat → Bool), r = none ∧ wo = [(h0, cO 1 [.ref q1, .ref q2, .ref q3]), (q1, cI d 36 K), (q2, cI d 36 L), (q3, cI d 5 S), (p0, cO 0 [.ref r1, .ref r2, .ref r3]), (r1, cI d 36 (nF (dsI K S x))), (r2, cI d 36 Bf), (r3, cZ d 36 (zF Z'))]) := by
  refine ct_of (own := RX0) (ini := false) (by decide +kernel) rfl (fun h => by cases h) (Nat.le_of_ble_eq_true rfl) ?_
  intro g X
  show g 0 0 [(h0, cO 1 [.ref q1, .ref q2, .ref q3]), (q1, cI d 36 K), (q2, cI d 36 L), (q3, cI d 5 S), (p0, cO 0 [.ref r1, .ref r2, .ref r3]), (r1, cI d 36 F), (r2, cI d 36 Bf), (r3, cZ d 36 Zf)] [(0, .ref p0), (1, .ref h0), (2, .int x)] 0 []
  refine g_aload_n X dX0_searchFrom_0 rfl 0 rfl ?_
  refine g_dV (ci := 0) (q0 := 0) (n := 0) (wr := [(h0, cO 1 [.ref q1, .ref q2, .ref q3]), (q1, cI d 36 K), (q2, cI d 36 L), (q3, cI d 5 S)]) (ws' := [(h0, cO 1 [.ref q1, .ref q2, .ref q3]), (q1, cI d 36 K), (q2, cI d 36 L), (q3, cI d 5 S), (p0, cO 0 [.ref r1, .ref r2, .ref r3]), (r1, cI d 36 (nF (fun _ => 1000000))), (r2, cI d 36 Bf), (r3, cZ d 36 (zF (fun _ => false)))]) (st' := []) (As := []) (st := []) X (ct_X0_forget l d p0 r1 r2 r3 F Bf Zf) wd_361 wd_358 wd_360 wd_2 wd_55 hd_X0_forget rfl ⟨(Nat.le_of_ble_eq_true rfl), (Nat.le_of_ble_eq_true rfl)⟩ rfl rfl dX0_searchFrom_1 ⟨(Nat.le_of_ble_eq_true rfl), (Nat.le_of_ble_eq_true rfl)⟩ rfl rfl (Nat.le_of_ble_eq_true rfl) [4, 5, 6, 7] [0, 1, 2, 3] rfl rfl rfl rfl rfl (by decide) rfl [0, 1, 2, 3, 4, 5, 6, 7] rfl rfl rfl rfl ?_
  refine g_iload_n X dX0_searchFrom_4 rfl 2 rfl ?_
  refine g_dSN (host := "HeWreckedHimself") (n := 1) (wr := [(h0, cO 1 [.ref q1, .ref q2, .ref q3]), (q1, cI d 36 K), (q2, cI d 36 L), (q3, cI d 5 S), (p0, cO 0 [.ref r1, .ref r2, .ref r3]), (r1, cI d 36 (nF (fun _ => 1000000))), (r2, cI d 36 Bf), (r3, cZ d 36 (zF (fun _ => false)))]) (ws' := [(h0, cO 1 [.ref q1, .ref q2, .ref q3]), (q1, cI d 36 K), (q2, cI d 36 L), (q3, cI d 5 S), (p0, cO 0 [.ref r1, .ref r2, .ref r3]), (r1, cI d 36 (nF (fun _ => 1000000))), (r2, cI d 36 Bf), (r3, cZ d 36 (zF (fun _ => false)))]) (st' := [.int (b2i (sq x))]) (As := [.int x]) (st := []) X (ct_X5_isSquare l d x) wd_365 (by decide +kernel) wd_364 wd_52 hd_X5_isSquare ⟨(Nat.le_of_ble_eq_true rfl), (Nat.le_of_ble_eq_true rfl)⟩ rfl rfl dX0_searchFrom_5 ⟨(Nat.le_of_ble_eq_true rfl), (Nat.le_of_ble_eq_true rfl)⟩ rfl rfl (Nat.le_of_ble_eq_true rfl) [] [0, 1, 2, 3, 4, 5, 6, 7] rfl rfl rfl rfl rfl (by decide) [0, 1, 2, 3, 4, 5, 6, 7] rfl rfl rfl rfl ?_
  refine g_ifB_eq X 19 dX0_searchFrom_8 (by decide) (fun c8_1 => ?_) (fun c8_1 => ?_)
  · exact g_end X (gE_v dX0_searchFrom_19 (Nat.le_of_ble_eq_true rfl) (Nat.le_of_ble_eq_true rfl) ⟨(fun _ => false), rfl, ws_cons (rfl) (ws_cons (rfl) (ws_cons (rfl) (ws_cons (rfl) (ws_cons (rfl) (ws_cons (cI_eq (congrArg nF (if_neg (by first | assumption | exact fun z => absurd ((cbe_N hj_x).mp z) (by assumption) | exact fun z => absurd z.1 (by assumption))).symm)) (ws_cons (rfl) (ws_cons (rfl) (rfl))))))))⟩)
  · obtain ⟨j_x, hj_x, rfl⟩ := sq_nat c8_1
    refine g_aload_n X dX0_searchFrom_11 rfl 1 rfl ?_
    refine g_iload_n X dX0_searchFrom_12 rfl 2 rfl ?_
    refine g_dV (ci := 1) (q0 := 0) (n := 1) (wr := [(p0, cO 0 [.ref r1, .ref r2, .ref r3]), (r1, cI d 36 (nF (fun _ => 1000000))), (r2, cI d 36 Bf), (r3, cZ d 36 (zF (fun _ => false)))]) (ws' := [(h0, cO 1 [.ref q1, .ref q2, .ref q3]), (q1, cI d 36 K), (q2, cI d 36 L), (q3, cI d 5 S), (p0, cO 0 [.ref r1, .ref r2, .ref r3]), (r1, cI d 36 (nF (fun _ => 1000000))), (r2, cI d 36 Bf), (r3, cZ d 36 (zF (fun _ => false)))]) (st' := [.int (b2i (csl (K j_x) (S 1)))]) (As := [.int (nI j_x)]) (st := []) X (ct_X1_canBe_N l d h0 q1 q2 q3 K L S j_x (by first | assumption | omega)) wd_369 wd_366 wd_367 wd_368 wd_53 hd_X1_canBe rfl ⟨(Nat.le_of_ble_eq_true rfl), (Nat.le_of_ble_eq_true rfl)⟩ rfl rfl dX0_searchFrom_13 ⟨(Nat.le_of_ble_eq_true rfl), (Nat.le_of_ble_eq_true rfl)⟩ rfl rfl (Nat.le_of_ble_eq_true rfl) [0, 1, 2, 3] [4, 5, 6, 7] rfl rfl rfl rfl rfl (by decide) rfl [4, 5, 6, 7, 0, 1, 2, 3] rfl rfl rfl rfl ?_
    refine g_ifB_ne X 20 dX0_searchFrom_16 (by decide) (fun c16_2 => ?_) (fun c16_2 => ?_)
    · refine g_aload_n X dX0_searchFrom_20 rfl 0 rfl ?_
      refine g_get (C := RX0) (T := TX0) (N := 3) (ci := 0) (v := .ref r1) X rfl inT0 0 (by decide) wd_111 rfl dX0_searchFrom_21 4 rfl rfl ?_
      refine g_iload_n X dX0_searchFrom_24 rfl 2 rfl ?_
      refine g_iconst (v := 0) X dX0_searchFrom_25 (by decide) ?_
      refine g_iastore_N (k := j_x) (ws' := [(h0, cO 1 [.ref q1, .ref q2, .ref q3]), (q1, cI d 36 K), (q2, cI d 36 L), (q3, cI d 5 S), (p0, cO 0 [.ref r1, .ref r2, .ref r3]), (r1, cI d 36 (upd (nF (fun _ => 1000000)) j_x 0)), (r2, cI d 36 Bf), (r3, cZ d 36 (zF (fun _ => false)))]) X rfl dX0_searchFrom_26 5 rfl (by first | assumption | omega) (by omega) rfl ?_
      refine g_eq (ws' := [(h0, cO 1 [.ref q1, .ref q2, .ref q3]), (q1, cI d 36 K), (q2, cI d 36 L), (q3, cI d 5 S), (p0, cO 0 [.ref r1, .ref r2, .ref r3]), (r1, cI d 36 (nF (ini j_x))), (r2, cI d 36 Bf), (r3, cZ d 36 (zF (fun _ => false)))]) (ws_cons (rfl) (ws_cons (rfl) (ws_cons (rfl) (ws_cons (rfl) (ws_cons (rfl) (ws_cons (cI_eq (ini_u)) (ws_cons (rfl) (ws_cons (rfl) (rfl))))))))) rfl ?_
      refine g_aload_n X dX0_searchFrom_27 rfl 0 rfl ?_
      refine g_aload_n X dX0_searchFrom_28 rfl 1 rfl ?_
      refine g_dV (ci := 0) (q0 := 4) (n := 1) (wr := []) (ws' := [(h0, cO 1 [.ref q1, .ref q2, .ref q3]), (q1, cI d 36 K), (q2, cI d 36 L), (q3, cI d 5 S), (p0, cO 0 [.ref r1, .ref r2, .ref r3]), (r1, cI d 36 (nF (spr K S 36 (ini j_x) (fun _ => false)).1)), (r2, cI d 36 Bf), (r3, cZ d 36 (zF (spr K S 36 (ini j_x) (fun _ => false)).2))]) (st' := []) (As := [.ref h0]) (st := []) X (ct_X0_spread l d p0 r1 r2 r3 h0 q1 q2 q3 K L S (ini j_x) Bf (fun _ => false) (ini_le j_x)) wd_377 wd_374 wd_376 wd_3 wd_55 hd_X0_spread rfl ⟨(Nat.le_of_ble_eq_true rfl), (Nat.le_of_ble_eq_true rfl)⟩ rfl rfl dX0_searchFrom_29 ⟨(Nat.le_of_ble_eq_true rfl), (Nat.le_of_ble_eq_true rfl)⟩ rfl rfl (Nat.le_of_ble_eq_true rfl) [0, 1, 2, 3, 4, 5, 6, 7] [] rfl rfl rfl rfl rfl (by decide) rfl [0, 1, 2, 3, 4, 5, 6, 7] rfl rfl rfl rfl ?_
      exact g_end X (gE_v dX0_searchFrom_32 (Nat.le_of_ble_eq_true rfl) (Nat.le_of_ble_eq_true rfl) ⟨(spr K S 36 (ini j_x) (fun _ => false)).2, rfl, ws_cons (rfl) (ws_cons (rfl) (ws_cons (rfl) (ws_cons (rfl) (ws_cons (rfl) (ws_cons (cI_eq (congrArg nF ((if_pos (by rw [cbe_N hj_x]; assumption)).trans (by rw [nI_clamp (by omega)]; rfl)).symm)) (ws_cons (rfl) (ws_cons (cZ_eq (by rfl)) (rfl))))))))⟩)
    · exact g_end X (gE_v dX0_searchFrom_19 (Nat.le_of_ble_eq_true rfl) (Nat.le_of_ble_eq_true rfl) ⟨(fun _ => false), rfl, ws_cons (rfl) (ws_cons (rfl) (ws_cons (rfl) (ws_cons (rfl) (ws_cons (rfl) (ws_cons (cI_eq (congrArg nF (if_neg (by first | assumption | exact fun z => absurd ((cbe_N hj_x).mp z) (by assumption) | exact fun z => absurd z.1 (by assumption))).symm)) (ws_cons (rfl) (ws_cons (rfl) (rfl))))))))⟩)
set_option maxHeartbeats 4000000 in
set_option maxRecDepth 20000 in
theorem ct_X0_offerTurns (l : Launch) (d : KD) (p0 r1 r2 r3 : Nat) (h0 q1 q2 q3 : Nat) (K L S : Nat → Int32) (G : Nat → Nat) (Bf Zf : Nat → Int32) (t cb v : Nat) (ht : t < 36) (hcb : cb < 4) (hv : v ≤ 1000100) (hG : ∀ q, G q ≤ 1000000) : Ct l d yX0_offerTurns cX0_offerTurns 7 none { frames := 2, cells := 0, slots := 0, locals := 44 } [.ref p0, .ref h0, .int (nI t), .int (nI cb), .int (nI v)] [(h0, cO 1 [.ref q1, .ref q2, .ref q3]), (q1, cI d 36 K), (q2, cI d 36 L), (q3, cI d 5 S), (p0, cO 0 [.ref r1, .ref r2, .ref r3]), (r1, cI d 36 (nF G)), (r2, cI d 36 Bf), (r3, cZ d 36 Zf)] 0 0 (fun r wo => r = none ∧ wo = [(h0, cO 1 [.ref q1, .ref q2, .ref q3]), (q1, cI d 36 K), (q2, cI d 36 L), (q3, cI d 5 S), (p0, cO 0 [.ref r1, .ref r2, .ref r3]), (r1, cI d 36 (nF (oft K S t cb v G 4))), (r2, cI d 36 Bf), (r3, cZ d 36 Zf)]) := by
  refine ct_of (own := RX0) (ini := false) (by decide +kernel) rfl (fun h => by cases h) (Nat.le_of_ble_eq_true rfl) ?_
  intro g X
  show g 0 0 [(h0, cO 1 [.ref q1, .ref q2, .ref q3]), (q1, cI d 36 K), (q2, cI d 36 L), (q3, cI d 5 S), (p0, cO 0 [.ref r1, .ref r2, .ref r3]), (r1, cI d 36 (nF G)), (r2, cI d 36 Bf), (r3, cZ d 36 Zf)] [(0, .ref p0), (1, .ref h0), (2, .int (nI t)), (3, .int (nI cb)), (4, .int (nI v))] 0 []
  refine g_iconst (v := 0) X dX0_offerTurns_0 (by decide) ?_
  refine g_istore (lv' := [(5, .int 0), (0, .ref p0), (1, .ref h0), (2, .int (nI t)), (3, .int (nI cb)), (4, .int (nI v))]) X dX0_offerTurns_1 (by decide) rfl ?_
  have at_3 : ∀ (n_ : Nat) (u : Nat) (hu : u ≤ 4), (4 - u) < n_ → g 0 0 [(h0, cO 1 [.ref q1, .ref q2, .ref q3]), (q1, cI d 36 K), (q2, cI d 36 L), (q3, cI d 5 S), (p0, cO 0 [.ref r1, .ref r2, .ref r3]), (r1, cI d 36 (nF (oft K S t cb v G u))), (r2, cI d 36 Bf), (r3, cZ d 36 Zf)] [(0, .ref p0), (1, .ref h0), (2, .int (nI t)), (3, .int (nI cb)), (4, .int (nI v)), (5, .int (nI u))] 3 [] := by
    intro n_
    induction n_ with
    | zero => intro u hu hn_; exact absurd hn_ (Nat.not_lt_zero _)
    | succ n_ ih_3 =>
      intro u hu hn_3
      refine g_iload X dX0_offerTurns_3 5 rfl ?_
      refine g_iconst (v := 4) X dX0_offerTurns_5 (by decide) ?_
      refine g_icmpN_ge (a := u) (b := 4) X rfl rfl (by omega) (by omega) 52 dX0_offerTurns_6 (by decide) (fun c6_1 => ?_) (fun c6_1 => ?_)
      · exact g_end X (gE_v dX0_offerTurns_52 (Nat.le_of_ble_eq_true rfl) (Nat.le_of_ble_eq_true rfl) ⟨rfl, ws_cons (rfl) (ws_cons (rfl) (ws_cons (rfl) (ws_cons (rfl) (ws_cons (rfl) (ws_cons (cI_eq (by rw [show u = 4 by omega])) (ws_cons (rfl) (ws_cons (rfl) (rfl))))))))⟩)
      · refine g_aload_n X dX0_offerTurns_9 rfl 1 rfl ?_
        refine g_iload_n X dX0_offerTurns_10 rfl 2 rfl ?_
        refine g_iload X dX0_offerTurns_11 5 rfl ?_
        refine g_dV (ci := 1) (q0 := 0) (n := 2) (wr := [(p0, cO 0 [.ref r1, .ref r2, .ref r3]), (r1, cI d 36 (nF (oft K S t cb v G u))), (r2, cI d 36 Bf), (r3, cZ d 36 Zf)]) (ws' := [(h0, cO 1 [.ref q1, .ref q2, .ref q3]), (q1, cI d 36 K), (q2, cI d 36 L), (q3, cI d 5 S), (p0, cO 0 [.ref r1, .ref r2, .ref r3]), (r1, cI d 36 (nF (oft K S t cb v G u))), (r2, cI d 36 Bf), (r3, cZ d 36 Zf)]) (st' := [.int (stp K S t u)]) (As := [.int (nI t), .int (nI u)]) (st := []) X (ct_X1_daysToGo l d h0 q1 q2 q3 K L S t u (by first | assumption | omega) (by first | assumption | omega)) wd_385 wd_382 wd_383 wd_384 wd_53 hd_X1_daysToGo rfl ⟨(Nat.le_of_ble_eq_true rfl), (Nat.le_of_ble_eq_true rfl)⟩ rfl rfl dX0_offerTurns_13 ⟨(Nat.le_of_ble_eq_true rfl), (Nat.le_of_ble_eq_true rfl)⟩ rfl rfl (Nat.le_of_ble_eq_true rfl) [0, 1, 2, 3] [4, 5, 6, 7] rfl rfl rfl rfl rfl (by decide) rfl [4, 5, 6, 7, 0, 1, 2, 3] rfl rfl rfl rfl ?_
        refine g_istore (lv' := [(6, .int (stp K S t u)), (0, .ref p0), (1, .ref h0), (2, .int (nI t)), (3, .int (nI cb)), (4, .int (nI v)), (5, .int (nI u))]) X dX0_offerTurns_16 (by decide) rfl ?_
        refine g_iload X dX0_offerTurns_18 6 rfl ?_
        refine g_iload_n X dX0_offerTurns_20 rfl 4 rfl ?_
        refine g_icmpN_eq (a := u) (b := cb) X rfl rfl (by omega) (by omega) 46 dX0_offerTurns_21 (by decide) (fun c21_2 => ?_) (fun c21_2 => ?_)
        · refine g_iinc (v := nI (u + 1)) (lv' := [(5, .int (nI (u + 1))), (6, .int (stp K S t u)), (0, .ref p0), (1, .ref h0), (2, .int (nI t)), (3, .int (nI cb)), (4, .int (nI v))]) X dX0_offerTurns_46 6 rfl (nI_inc _) (by decide) rfl ?_
          refine g_goto X 3 dX0_offerTurns_49 (by decide) ?_
          refine g_lv (lv' := [(0, .ref p0), (1, .ref h0), (2, .int (nI t)), (3, .int (nI cb)), (4, .int (nI v)), (5, .int (nI (u + 1)))]) X [2, 3, 4, 5, 6, 0] rfl ?_
          exact g_eq (ws' := [(h0, cO 1 [.ref q1, .ref q2, .ref q3]), (q1, cI d 36 K), (q2, cI d 36 L), (q3, cI d 5 S), (p0, cO 0 [.ref r1, .ref r2, .ref r3]), (r1, cI d 36 (nF (oft K S t cb v G (u + 1)))), (r2, cI d 36 Bf), (r3, cZ d 36 Zf)]) (lv' := [(0, .ref p0), (1, .ref h0), (2, .int (nI t)), (3, .int (nI cb)), (4, .int (nI v)), (5, .int (nI (u + 1)))]) (ws_cons (rfl) (ws_cons (rfl) (ws_cons (rfl) (ws_cons (rfl) (ws_cons (rfl) (ws_cons (cI_eq (congrArg nF (oft_n (Or.inl (by assumption))))) (ws_cons (rfl) (ws_cons (rfl) (rfl))))))))) (rfl) (ih_3 (u + 1) (by first | assumption | omega) (by omega))
        · refine g_iload X dX0_offerTurns_24 0 rfl ?_
          refine g_bipush (v := (-9)) X dX0_offerTurns_26 (by decide) ?_
          refine g_icmp_eq X 46 dX0_offerTurns_28 (by decide) (fun c28_3 => ?_) (fun c28_3 => ?_)
          · refine g_iinc (v := nI (u + 1)) (lv' := [(5, .int (nI (u + 1))), (6, .int (stp K S t u)), (0, .ref p0), (1, .ref h0), (2, .int (nI t)), (3, .int (nI cb)), (4, .int (nI v))]) X dX0_offerTurns_46 6 rfl (nI_inc _) (by decide) rfl ?_
            refine g_goto X 3 dX0_offerTurns_49 (by decide) ?_
            refine g_lv (lv' := [(0, .ref p0), (1, .ref h0), (2, .int (nI t)), (3, .int (nI cb)), (4, .int (nI v)), (5, .int (nI (u + 1)))]) X [2, 3, 4, 5, 6, 0] rfl ?_
            exact g_eq (ws' := [(h0, cO 1 [.ref q1, .ref q2, .ref q3]), (q1, cI d 36 K), (q2, cI d 36 L), (q3, cI d 5 S), (p0, cO 0 [.ref r1, .ref r2, .ref r3]), (r1, cI d 36 (nF (oft K S t cb v G (u + 1)))), (r2, cI d 36 Bf), (r3, cZ d 36 Zf)]) (lv' := [(0, .ref p0), (1, .ref h0), (2, .int (nI t)), (3, .int (nI cb)), (4, .int (nI v)), (5, .int (nI (u + 1)))]) (ws_cons (rfl) (ws_cons (rfl) (ws_cons (rfl) (ws_cons (rfl) (ws_cons (rfl) (ws_cons (cI_eq (congrArg nF (oft_n (Or.inr (stp_eq (by assumption)))))) (ws_cons (rfl) (ws_cons (rfl) (rfl))))))))) (rfl) (ih_3 (u + 1) (by first | assumption | omega) (by omega))
          · obtain ⟨hnb, hcs, hst⟩ := stp_ne c28_3
            refine g_eq (lv' := [(6, .int (nI (cst (K (nb t u)) u))), (0, .ref p0), (1, .ref h0), (2, .int (nI t)), (3, .int (nI cb)), (4, .int (nI v)), (5, .int (nI u))]) rfl (lv_cons (vI (hst)) (lv_cons (rfl) (lv_cons (rfl) (lv_cons (rfl) (lv_cons (rfl) (lv_cons (rfl) (lv_cons (rfl) (rfl)))))))) ?_
            have hcl := cst_le (K (nb t u)) u
            refine g_aload_n X dX0_offerTurns_31 rfl 1 rfl ?_
            refine g_iload_n X dX0_offerTurns_32 rfl 3 rfl ?_
            refine g_iload X dX0_offerTurns_33 6 rfl ?_
            refine g_dS (n := 2) (wr := [(h0, cO 1 [.ref q1, .ref q2, .ref q3]), (q1, cI d 36 K), (q2, cI d 36 L), (q3, cI d 5 S), (p0, cO 0 [.ref r1, .ref r2, .ref r3]), (r1, cI d 36 (nF (oft K S t cb v G u))), (r2, cI d 36 Bf), (r3, cZ d 36 Zf)]) (ws' := [(h0, cO 1 [.ref q1, .ref q2, .ref q3]), (q1, cI d 36 K), (q2, cI d 36 L), (q3, cI d 5 S), (p0, cO 0 [.ref r1, .ref r2, .ref r3]), (r1, cI d 36 (nF (oft K S t cb v G u))), (r2, cI d 36 Bf), (r3, cZ d 36 Zf)]) (st' := [.int (besI (nb t u)), .ref p0]) (As := [.int (nI t), .int (nI u)]) (st := [.ref p0]) X (ct_X1_beside l d t u (by first | assumption | omega) (by first | assumption | omega)) wd_388 wd_389 wd_387 wd_53 hd_X1_beside ⟨(Nat.le_of_ble_eq_true rfl), (Nat.le_of_ble_eq_true rfl)⟩ rfl rfl dX0_offerTurns_35 ⟨(Nat.le_of_ble_eq_true rfl), (Nat.le_of_ble_eq_true rfl)⟩ rfl rfl (Nat.le_of_ble_eq_true rfl) [] [0, 1, 2, 3, 4, 5, 6, 7] rfl rfl rfl rfl rfl (by decide) [0, 1, 2, 3, 4, 5, 6, 7] rfl rfl rfl rfl ?_
            refine g_tope (y := nI (nb t u)) (besI_t hnb) ?_
            refine g_iload X dX0_offerTurns_38 5 rfl ?_
            refine g_iload X dX0_offerTurns_40 0 rfl ?_
            refine g_iadd X dX0_offerTurns_42 ?_
            refine g_tope (y := nI (v + (cst (K (nb t u)) u))) (nI_add _ _) ?_
            refine g_dV (ci := 0) (q0 := 0) (n := 2) (wr := [(h0, cO 1 [.ref q1, .ref q2, .ref q3]), (q1, cI d 36 K), (q2, cI d 36 L), (q3, cI d 5 S)]) (ws' := [(h0, cO 1 [.ref q1, .ref q2, .ref q3]), (q1, cI d 36 K), (q2, cI d 36 L), (q3, cI d 5 S), (p0, cO 0 [.ref r1, .ref r2, .ref r3]), (r1, cI d 36 (nF (ofr (oft K S t cb v G u) (nb t u) (v + (cst (K (nb t u)) u))))), (r2, cI d 36 Bf), (r3, cZ d 36 Zf)]) (st' := []) (As := [.int (nI (nb t u)), .int (nI (v + (cst (K (nb t u)) u)))]) (st := []) X (ct_X0_offer l d p0 r1 r2 r3 (oft K S t cb v G u) Bf Zf (nb t u) (v + (cst (K (nb t u)) u)) (by first | assumption | omega) (by omega) (fun q => Nat.le_trans (oft_le u) (hG q))) wd_393 wd_390 wd_392 wd_5 wd_55 hd_X0_offer rfl ⟨(Nat.le_of_ble_eq_true rfl), (Nat.le_of_ble_eq_true rfl)⟩ rfl rfl dX0_offerTurns_43 ⟨(Nat.le_of_ble_eq_true rfl), (Nat.le_of_ble_eq_true rfl)⟩ rfl rfl (Nat.le_of_ble_eq_true rfl) [4, 5, 6, 7] [0, 1, 2, 3] rfl rfl rfl rfl rfl (by decide) rfl [0, 1, 2, 3, 4, 5, 6, 7] rfl rfl rfl rfl ?_
            refine g_iinc (v := nI (u + 1)) (lv' := [(5, .int (nI (u + 1))), (6, .int (nI (cst (K (nb t u)) u))), (0, .ref p0), (1, .ref h0), (2, .int (nI t)), (3, .int (nI cb)), (4, .int (nI v))]) X dX0_offerTurns_46 6 rfl (nI_inc _) (by decide) rfl ?_
            refine g_goto X 3 dX0_offerTurns_49 (by decide) ?_
            refine g_lv (lv' := [(0, .ref p0), (1, .ref h0), (2, .int (nI t)), (3, .int (nI cb)), (4, .int (nI v)), (5, .int (nI (u + 1)))]) X [2, 3, 4, 5, 6, 0] rfl ?_
            exact g_eq (ws' := [(h0, cO 1 [.ref q1, .ref q2, .ref q3]), (q1, cI d 36 K), (q2, cI d 36 L), (q3, cI d 5 S), (p0, cO 0 [.ref r1, .ref r2, .ref r3]), (r1, cI d 36 (nF (oft K S t cb v G (u + 1)))), (r2, cI d 36 Bf), (r3, cZ d 36 Zf)]) (lv' := [(0, .ref p0), (1, .ref h0), (2, .int (nI t)), (3, .int (nI cb)), (4, .int (nI v)), (5, .int (nI (u + 1)))]) (ws_cons (rfl) (ws_cons (rfl) (ws_cons (rfl) (ws_cons (rfl) (ws_cons (rfl) (ws_cons (cI_eq (congrArg nF (oft_y (by assumption) hnb hcs))) (ws_cons (rfl) (ws_cons (rfl) (rfl))))))))) (rfl) (ih_3 (u + 1) (by first | assumption | omega) (by omega))
  refine g_lv (lv' := [(0, .ref p0), (1, .ref h0), (2, .int (nI t)), (3, .int (nI cb)), (4, .int (nI v)), (5, .int 0)]) X [1, 2, 3, 4, 5, 0] rfl ?_
  exact g_eq (ws' := [(h0, cO 1 [.ref q1, .ref q2, .ref q3]), (q1, cI d 36 K), (q2, cI d 36 L), (q3, cI d 5 S), (p0, cO 0 [.ref r1, .ref r2, .ref r3]), (r1, cI d 36 (nF (oft K S t cb v G 0))), (r2, cI d 36 Bf), (r3, cZ d 36 Zf)]) (lv' := [(0, .ref p0), (1, .ref h0), (2, .int (nI t)), (3, .int (nI cb)), (4, .int (nI v)), (5, .int (nI 0))]) (ws_cons (rfl) (ws_cons (rfl) (ws_cons (rfl) (ws_cons (rfl) (ws_cons (rfl) (ws_cons (cI_eq (by rfl)) (ws_cons (rfl) (ws_cons (rfl) (rfl))))))))) (lv_cons (rfl) (lv_cons (rfl) (lv_cons (rfl) (lv_cons (rfl) (lv_cons (rfl) (lv_cons (vI (by rfl)) (rfl))))))) (at_3 _ 0 (by first | assumption | omega) (Nat.lt_succ_self _))
set_option maxHeartbeats 4000000 in
set_option maxRecDepth 20000 in
theorem ct_X0_comesTo (l : Launch) (d : KD) (p0 r1 r2 r3 : Nat) (G : Nat → Nat) (Bf Zf : Nat → Int32) (x : Int32) (hG : ∀ q, G q ≤ 1000000) : Ct l d yX0_comesTo cX0_comesTo 2 (some .boolean) { frames := 1, cells := 0, slots := 0, locals := 20 } [.ref p0, .int x] [(p0, cO 0 [.ref r1, .ref r2, .ref r3]), (r1, cI d 36 (nF G)), (r2, cI d 36 Bf), (r3, cZ d 36 Zf)] 0 0 (fun r wo => r = some (.int (b2i (sq x ∧ G x.toNatClampNeg < 1000000))) ∧ wo = [(p0, cO 0 [.ref r1, .ref r2, .ref r3]), (r1, cI d 36 (nF G)), (r2, cI d 36 Bf), (r3, cZ d 36 Zf)]) := by
  refine ct_of (own := RX0) (ini := false) (by decide +kernel) rfl (fun h => by cases h) (Nat.le_of_ble_eq_true rfl) ?_
  intro g X
  show g 0 0 [(p0, cO 0 [.ref r1, .ref r2, .ref r3]), (r1, cI d 36 (nF G)), (r2, cI d 36 Bf), (r3, cZ d 36 Zf)] [(0, .ref p0), (1, .int x)] 0 []
  refine g_iload_n X dX0_comesTo_0 rfl 1 rfl ?_
  refine g_dSN (host := "HeWreckedHimself") (n := 1) (wr := [(p0, cO 0 [.ref r1, .ref r2, .ref r3]), (r1, cI d 36 (nF G)), (r2, cI d 36 Bf), (r3, cZ d 36 Zf)]) (ws' := [(p0, cO 0 [.ref r1, .ref r2, .ref r3]), (r1, cI d 36 (nF G)), (r2, cI d 36 Bf), (r3, cZ d 36 Zf)]) (st' := [.int (b2i (sq x))]) (As := [.int x]) (st := []) X (ct_X5_isSquare l d x) wd_365 (by decide +kernel) wd_364 wd_52 hd_X5_isSquare ⟨(Nat.le_of_ble_eq_true rfl), (Nat.le_of_ble_eq_true rfl)⟩ rfl rfl dX0_comesTo_1 ⟨(Nat.le_of_ble_eq_true rfl), (Nat.le_of_ble_eq_true rfl)⟩ rfl rfl (Nat.le_of_ble_eq_true rfl) [] [0, 1, 2, 3] rfl rfl rfl rfl rfl (by decide) [0, 1, 2, 3] rfl rfl rfl rfl ?_
  refine g_ifB_eq X 22 dX0_comesTo_4 (by decide) (fun c4_1 => ?_) (fun c4_1 => ?_)
  · refine g_iconst (v := 0) X dX0_comesTo_22 (by decide) ?_
    exact g_end X (gE_i dX0_comesTo_23 (rfl) (Nat.le_of_ble_eq_true rfl) (Nat.le_of_ble_eq_true rfl) ⟨congrArg (fun z => some (Value.int z)) (by first | exact (b2i_t ⟨nI_sq hj_x, by rw [nI_clamp (by omega)]; omega⟩).symm | exact (b2i_f (fun z => by have h2 := z.2; rw [nI_clamp (by omega)] at h2; omega)).symm | exact (b2i_f (fun z => absurd z.1 (by assumption))).symm), rfl⟩)
  · obtain ⟨j_x, hj_x, rfl⟩ := sq_nat c4_1
    refine g_aload_n X dX0_comesTo_7 rfl 0 rfl ?_
    refine g_get (C := RX0) (T := TX0) (N := 3) (ci := 0) (v := .ref r1) X rfl inT0 0 (by decide) wd_111 rfl dX0_comesTo_8 0 rfl rfl ?_
    refine g_iload_n X dX0_comesTo_11 rfl 1 rfl ?_
    refine g_iaload_N (k := j_x) X rfl dX0_comesTo_12 1 rfl (by first | assumption | omega) (by omega) ?_
    have hb1 := hG j_x
    refine g_ldc (v := 1000000) X wd_362 dX0_comesTo_13 ?_
    refine g_icmpN_ge (a := (G j_x)) (b := 1000000) X rfl rfl (by omega) (by omega) 22 dX0_comesTo_15 (by decide) (fun c15_2 => ?_) (fun c15_2 => ?_)
    · refine g_iconst (v := 0) X dX0_comesTo_22 (by decide) ?_
      exact g_end X (gE_i dX0_comesTo_23 (rfl) (Nat.le_of_ble_eq_true rfl) (Nat.le_of_ble_eq_true rfl) ⟨congrArg (fun z => some (Value.int z)) (by first | exact (b2i_t ⟨nI_sq hj_x, by rw [nI_clamp (by omega)]; omega⟩).symm | exact (b2i_f (fun z => by have h2 := z.2; rw [nI_clamp (by omega)] at h2; omega)).symm | exact (b2i_f (fun z => absurd z.1 (by assumption))).symm), rfl⟩)
    · refine g_iconst (v := 1) X dX0_comesTo_18 (by decide) ?_
      refine g_goto X 23 dX0_comesTo_19 (by decide) ?_
      exact g_end X (gE_i dX0_comesTo_23 (rfl) (Nat.le_of_ble_eq_true rfl) (Nat.le_of_ble_eq_true rfl) ⟨congrArg (fun z => some (Value.int z)) (by first | exact (b2i_t ⟨nI_sq hj_x, by rw [nI_clamp (by omega)]; omega⟩).symm | exact (b2i_f (fun z => by have h2 := z.2; rw [nI_clamp (by omega)] at h2; omega)).symm | exact (b2i_f (fun z => absurd z.1 (by assumption))).symm), rfl⟩)
theorem ct_X0_comesTo_N (l : Launch) (d : KD) (p0 r1 r2 r3 : Nat) (G : Nat → Nat) (Bf Zf : Nat → Int32) (j : Nat) (hj : j < 36) (hG : ∀ q, G q ≤ 1000000) : Ct l d yX0_comesTo cX0_comesTo 2 (some .boolean) { frames := 1, cells := 0, slots := 0, locals := 20 } [.ref p0, .int (nI j)] [(p0, cO 0 [.ref r1, .ref r2, .ref r3]), (r1, cI d 36 (nF G)), (r2, cI d 36 Bf), (r3, cZ d 36 Zf)] 0 0 (fun r wo => r = some (.int (b2i (G j < 1000000))) ∧ wo = [(p0, cO 0 [.ref r1, .ref r2, .ref r3]), (r1, cI d 36 (nF G)), (r2, cI d 36 Bf), (r3, cZ d 36 Zf)]) := by
  have h := ct_X0_comesTo l d p0 r1 r2 r3 G Bf Zf (nI j) hG; rwa [b2i_c (show (sq (nI j) ∧ G (nI j).toNatClampNeg < 1000000) ↔ G j < 1000000 from by rw [nI_clamp (by omega)]; exact ⟨fun z => z.2, fun z => ⟨nI_sq hj, z⟩⟩)] at h
set_option maxHeartbeats 4000000 in
set_option maxRecDepth 20000 in
theorem ct_X0_daysTo (l : Launch) (d : KD) (p0 r1 r2 r3 : Nat) (G : Nat → Nat) (Bf Zf : Nat → Int32) (x : Int32) (hG : ∀ q, G q ≤ 1000000) : Ct l d yX0_daysTo cX0_daysTo 2 (some .int) { frames := 2, cells := 0, slots := 0, locals := 41 } [.ref p0, .int x] [(p0, cO 0 [.ref r1, .ref r2, .ref r3]), (r1, cI d 36 (nF G)), (r2, cI d 36 Bf), (r3, cZ d 36 Zf)] 0 0 (fun r wo => r = some (.int (if sq x then dI (G x.toNatClampNeg) else -9)) ∧ wo = [(p0, cO 0 [.ref r1, .ref r2, .ref r3]), (r1, cI d 36 (nF G)), (r2, cI d 36 Bf), (r3, cZ d 36 Zf)]) := by
  refine ct_of (own := RX0) (ini := false) (by decide +kernel) rfl (fun h => by cases h) (Nat.le_of_ble_eq_true rfl) ?_
  intro g X
  show g 0 0 [(p0, cO 0 [.ref r1, .ref r2, .ref r3]), (r1, cI d 36 (nF G)), (r2, cI d 36 Bf), (r3, cZ d 36 Zf)] [(0, .ref p0), (1, .int x)] 0 []
  refine g_aload_n X dX0_daysTo_0 rfl 0 rfl ?_
  refine g_iload_n X dX0_daysTo_1 rfl 1 rfl ?_
  refine g_dV (ci := 0) (q0 := 0) (n := 1) (wr := []) (ws' := [(p0, cO 0 [.ref r1, .ref r2, .ref r3]), (r1, cI d 36 (nF G)), (r2, cI d 36 Bf), (r3, cZ d 36 Zf)]) (st' := [.int (b2i (sq x ∧ G x.toNatClampNeg < 1000000))]) (As := [.int x]) (st := []) X (ct_X0_comesTo l d p0 r1 r2 r3 G Bf Zf x (by first | assumption | omega)) wd_401 wd_398 wd_399 wd_400 wd_55 hd_X0_comesTo rfl ⟨(Nat.le_of_ble_eq_true rfl), (Nat.le_of_ble_eq_true rfl)⟩ rfl rfl dX0_daysTo_2 ⟨(Nat.le_of_ble_eq_true rfl), (Nat.le_of_ble_eq_true rfl)⟩ rfl rfl (Nat.le_of_ble_eq_true rfl) [0, 1, 2, 3] [] rfl rfl rfl rfl rfl (by decide) rfl [0, 1, 2, 3] rfl rfl rfl rfl ?_
  refine g_ifB_eq X 17 dX0_daysTo_5 (by decide) (fun c5_1 => ?_) (fun c5_1 => ?_)
  · refine g_bipush (v := (-9)) X dX0_daysTo_17 (by decide) ?_
    exact g_end X (gE_i dX0_daysTo_19 (rfl) (Nat.le_of_ble_eq_true rfl) (Nat.le_of_ble_eq_true rfl) ⟨congrArg (fun z => some (Value.int z)) (by first | (rw [if_pos (nI_sq hj_x), nI_clamp (by omega), dI_t hlt]) | (split; (next hs => exact (dI_f (fun z => (by assumption : ¬ (sq x ∧ G x.toNatClampNeg < 1000000)) ⟨hs, z⟩)).symm); rfl)), rfl⟩)
  · have hsq := c5_1.1
    obtain ⟨j_x, hj_x, rfl⟩ := sq_nat hsq
    have hlt := c5_1.2
    rw [nI_clamp (by omega)] at hlt
    refine g_aload_n X dX0_daysTo_8 rfl 0 rfl ?_
    refine g_get (C := RX0) (T := TX0) (N := 3) (ci := 0) (v := .ref r1) X rfl inT0 0 (by decide) wd_111 rfl dX0_daysTo_9 0 rfl rfl ?_
    refine g_iload_n X dX0_daysTo_12 rfl 1 rfl ?_
    refine g_iaload_N (k := j_x) X rfl dX0_daysTo_13 1 rfl (by first | assumption | omega) (by omega) ?_
    refine g_goto X 19 dX0_daysTo_14 (by decide) ?_
    exact g_end X (gE_i dX0_daysTo_19 (rfl) (Nat.le_of_ble_eq_true rfl) (Nat.le_of_ble_eq_true rfl) ⟨congrArg (fun z => some (Value.int z)) (by first | (rw [if_pos (nI_sq hj_x), nI_clamp (by omega), dI_t hlt]) | (split; (next hs => exact (dI_f (fun z => (by assumption : ¬ (sq x ∧ G x.toNatClampNeg < 1000000)) ⟨hs, z⟩)).symm); rfl)), rfl⟩)
theorem ct_X0_daysTo_N (l : Launch) (d : KD) (p0 r1 r2 r3 : Nat) (G : Nat → Nat) (Bf Zf : Nat → Int32) (j : Nat) (hj : j < 36) (hG : ∀ q, G q ≤ 1000000) : Ct l d yX0_daysTo cX0_daysTo 2 (some .int) { frames := 2, cells := 0, slots := 0, locals := 41 } [.ref p0, .int (nI j)] [(p0, cO 0 [.ref r1, .ref r2, .ref r3]), (r1, cI d 36 (nF G)), (r2, cI d 36 Bf), (r3, cZ d 36 Zf)] 0 0 (fun r wo => r = some (.int (dI (G j))) ∧ wo = [(p0, cO 0 [.ref r1, .ref r2, .ref r3]), (r1, cI d 36 (nF G)), (r2, cI d 36 Bf), (r3, cZ d 36 Zf)]) := by
  have h := ct_X0_daysTo l d p0 r1 r2 r3 G Bf Zf (nI j) hG; rwa [if_pos (nI_sq hj), nI_clamp (by omega)] at h
theorem ct_X0_daysTo_m (l : Launch) (d : KD) (p0 r1 r2 r3 : Nat) (G : Nat → Nat) (Bf Zf : Nat → Int32) (n : Nat) (hG : ∀ q, G q ≤ 1000000) : Ct l d yX0_daysTo cX0_daysTo 2 (some .int) { frames := 2, cells := 0, slots := 0, locals := 41 } [.ref p0, .int (besM n)] [(p0, cO 0 [.ref r1, .ref r2, .ref r3]), (r1, cI d 36 (nF G)), (r2, cI d 36 Bf), (r3, cZ d 36 Zf)] 0 0 (fun r wo => r = some (.int (if n < 36 then dI (G n) else -9)) ∧ wo = [(p0, cO 0 [.ref r1, .ref r2, .ref r3]), (r1, cI d 36 (nF G)), (r2, cI d 36 Bf), (r3, cZ d 36 Zf)]) := by
  have h := ct_X0_daysTo l d p0 r1 r2 r3 G Bf Zf (besM n) hG
  by_cases hn : n < 36
  · rw [if_pos (sq_besM.mpr hn), besM_t hn, nI_clamp (by omega)] at h; rw [besM_t hn, if_pos hn]; exact h
  · rw [if_neg (fun z => hn (sq_besM.mp z))] at h; rw [if_neg hn]; exact h
set_option maxHeartbeats 4000000 in
set_option maxRecDepth 20000 in
theorem ct_X0_within (l : Launch) (d : KD) (p0 r1 r2 r3 : Nat) (G : Nat → Nat) (Bf Zf : Nat → Int32) (x : Int32) : Ct l d yX0_within cX0_within 4 (some .int) { frames := 0, cells := 0, slots := 0, locals := 0 } [.ref p0, .int x] [(p0, cO 0 [.ref r1, .ref r2, .ref r3]), (r1, cI d 36 (nF G)), (r2, cI d 36 Bf), (r3, cZ d 36 Zf)] 0 0 (fun r wo => r = some (.int (nI (cnt (fun q => nI (G q) ≤ x) 36))) ∧ wo = [(p0, cO 0 [.ref r1, .ref r2, .ref r3]), (r1, cI d 36 (nF G)), (r2, cI d 36 Bf), (r3, cZ d 36 Zf)]) := by
  refine ct_of (own := RX0) (ini := false) (by decide +kernel) rfl (fun h => by cases h) (Nat.le_of_ble_eq_true rfl) ?_
  intro g X
  show g 0 0 [(p0, cO 0 [.ref r1, .ref r2, .ref r3]), (r1, cI d 36 (nF G)), (r2, cI d 36 Bf), (r3, cZ d 36 Zf)] [(0, .ref p0), (1, .int x)] 0 []
  refine g_iconst (v := 0) X dX0_within_0 (by decide) ?_
  refine g_istore_n (lv' := [(2, .int 0), (0, .ref p0), (1, .int x)]) X dX0_within_1 rfl (by decide) rfl ?_
  refine g_iconst (v := 0) X dX0_within_2 (by decide) ?_
  refine g_istore_n (lv' := [(3, .int 0), (2, .int 0), (0, .ref p0), (1, .int x)]) X dX0_within_3 rfl (by decide) rfl ?_
  have at_4 : ∀ (n_ : Nat) (i : Nat) (hi : i ≤ 36), (36 - i) < n_ → g 0 0 [(p0, cO 0 [.ref r1, .ref r2, .ref r3]), (r1, cI d 36 (nF G)), (r2, cI d 36 Bf), (r3, cZ d 36 Zf)] [(0, .ref p0), (1, .int x), (2, .int (nI (cnt (fun q => nI (G q) ≤ x) i))), (3, .int (nI i))] 4 [] := by
    intro n_
    induction n_ with
    | zero => intro i hi hn_; exact absurd hn_ (Nat.not_lt_zero _)
    | succ n_ ih_4 =>
      intro i hi hn_4
      refine g_iload_n X dX0_within_4 rfl 3 rfl ?_
      refine g_bipush (v := 36) X dX0_within_5 (by decide) ?_
      refine g_icmpN_ge (a := i) (b := 36) X rfl rfl (by omega) (by omega) 29 dX0_within_7 (by decide) (fun c7_1 => ?_) (fun c7_1 => ?_)
      · refine g_iload_n X dX0_within_29 rfl 2 rfl ?_
        exact g_end X (gE_i dX0_within_30 (rfl) (Nat.le_of_ble_eq_true rfl) (Nat.le_of_ble_eq_true rfl) ⟨congrArg (fun z => some (Value.int z)) (by rw [show i = 36 by omega]), rfl⟩)
      · refine g_aload_n X dX0_within_10 rfl 0 rfl ?_
        refine g_get (C := RX0) (T := TX0) (N := 3) (ci := 0) (v := .ref r1) X rfl inT0 0 (by decide) wd_111 rfl dX0_within_11 0 rfl rfl ?_
        refine g_iload_n X dX0_within_14 rfl 3 rfl ?_
        refine g_iaload_N (k := i) X rfl dX0_within_15 1 rfl (by first | assumption | omega) (by omega) ?_
        refine g_iload_n X dX0_within_16 rfl 1 rfl ?_
        refine g_icmp_gt X 23 dX0_within_17 (by decide) (fun c17_2 => ?_) (fun c17_2 => ?_)
        · refine g_iinc (v := nI (i + 1)) (lv' := [(3, .int (nI (i + 1))), (0, .ref p0), (1, .int x), (2, .int (nI (cnt (fun q => nI (G q) ≤ x) i)))]) X dX0_within_23 3 rfl (nI_inc _) (by decide) rfl ?_
          refine g_goto X 4 dX0_within_26 (by decide) ?_
          refine g_lv (lv' := [(0, .ref p0), (1, .int x), (2, .int (nI (cnt (fun q => nI (G q) ≤ x) i))), (3, .int (nI (i + 1)))]) X [1, 2, 3, 0] rfl ?_
          exact g_eq (ws' := [(p0, cO 0 [.ref r1, .ref r2, .ref r3]), (r1, cI d 36 (nF G)), (r2, cI d 36 Bf), (r3, cZ d 36 Zf)]) (lv' := [(0, .ref p0), (1, .int x), (2, .int (nI (cnt (fun q => nI (G q) ≤ x) (i + 1)))), (3, .int (nI (i + 1)))]) (rfl) (lv_cons (rfl) (lv_cons (rfl) (lv_cons (vI (by first | exact cnt_F (Int32.not_le.mpr (by assumption)) | exact cnt_T (Int32.not_lt.mp (by assumption)))) (lv_cons (rfl) (rfl))))) (ih_4 (i + 1) (by first | assumption | omega) (by omega))
        · refine g_iinc (v := nI (cnt (fun q => nI (G q) ≤ x) i + 1)) (lv' := [(2, .int (nI (cnt (fun q => nI (G q) ≤ x) i + 1))), (0, .ref p0), (1, .int x), (3, .int (nI i))]) X dX0_within_20 2 rfl (nI_inc _) (by decide) rfl ?_
          refine g_iinc (v := nI (i + 1)) (lv' := [(3, .int (nI (i + 1))), (2, .int (nI (cnt (fun q => nI (G q) ≤ x) i + 1))), (0, .ref p0), (1, .int x)]) X dX0_within_23 3 rfl (nI_inc _) (by decide) rfl ?_
          refine g_goto X 4 dX0_within_26 (by decide) ?_
          refine g_lv (lv' := [(0, .ref p0), (1, .int x), (2, .int (nI (cnt (fun q => nI (G q) ≤ x) i + 1))), (3, .int (nI (i + 1)))]) X [2, 3, 1, 0] rfl ?_
          exact g_eq (ws' := [(p0, cO 0 [.ref r1, .ref r2, .ref r3]), (r1, cI d 36 (nF G)), (r2, cI d 36 Bf), (r3, cZ d 36 Zf)]) (lv' := [(0, .ref p0), (1, .int x), (2, .int (nI (cnt (fun q => nI (G q) ≤ x) (i + 1)))), (3, .int (nI (i + 1)))]) (rfl) (lv_cons (rfl) (lv_cons (rfl) (lv_cons (vI (by first | exact cnt_F (Int32.not_le.mpr (by assumption)) | exact cnt_T (Int32.not_lt.mp (by assumption)))) (lv_cons (rfl) (rfl))))) (ih_4 (i + 1) (by first | assumption | omega) (by omega))
  refine g_lv (lv' := [(0, .ref p0), (1, .int x), (2, .int 0), (3, .int 0)]) X [2, 3, 1, 0] rfl ?_
  exact g_eq (ws' := [(p0, cO 0 [.ref r1, .ref r2, .ref r3]), (r1, cI d 36 (nF G)), (r2, cI d 36 Bf), (r3, cZ d 36 Zf)]) (lv' := [(0, .ref p0), (1, .int x), (2, .int (nI (cnt (fun q => nI (G q) ≤ x) 0))), (3, .int (nI 0))]) (rfl) (lv_cons (rfl) (lv_cons (rfl) (lv_cons (vI (by rfl)) (lv_cons (vI (by rfl)) (rfl))))) (at_4 _ 0 (by first | assumption | omega) (Nat.lt_succ_self _))
set_option maxHeartbeats 4000000 in
set_option maxRecDepth 20000 in
theorem ct_X0_searchShaken (l : Launch) (d : KD) (p0 r1 r2 r3 : Nat) (h0 q1 q2 q3 : Nat) (K L S : Nat → Int32) (F Bf Zf : Nat → Int32) : Ct l d yX0_searchShaken cX0_searchShaken 7 none { frames := 4, cells := 0, slots := 0, locals := 91 } [.ref p0, .ref h0] [(h0, cO 1 [.ref q1, .ref q2, .ref q3]), (q1, cI d 36 K), (q2, cI d 36 L), (q3, cI d 5 S), (p0, cO 0 [.ref r1, .ref r2, .ref r3]), (r1, cI d 36 F), (r2, cI d 36 Bf), (r3, cZ d 36 Zf)] 0 0 (fun r wo => ∃ (Z' : Nat → Bool), r = none ∧ wo = [(h0, cO 1 [.ref q1, .ref q2, .ref q3]), (q1, cI d 36 K), (q2, cI d 36 L), (q3, cI d 5 S), (p0, cO 0 [.ref r1, .ref r2, .ref r3]), (r1, cI d 36 (nF (shk K S))), (r2, cI d 36 (nF (dsI K S (S 0)))), (r3, cZ d 36 (zF Z'))]) := by
  refine ct_of (own := RX0) (ini := false) (by decide +kernel) rfl (fun h => by cases h) (Nat.le_of_ble_eq_true rfl) ?_
  intro g X
  show g 0 0 [(h0, cO 1 [.ref q1, .ref q2, .ref q3]), (q1, cI d 36 K), (q2, cI d 36 L), (q3, cI d 5 S), (p0, cO 0 [.ref r1, .ref r2, .ref r3]), (r1, cI d 36 F), (r2, cI d 36 Bf), (r3, cZ d 36 Zf)] [(0, .ref p0), (1, .ref h0)] 0 []
  refine g_aload_n X dX0_searchShaken_0 rfl 0 rfl ?_
  refine g_aload_n X dX0_searchShaken_1 rfl 1 rfl ?_
  refine g_aload_n X dX0_searchShaken_2 rfl 1 rfl ?_
  refine g_iconst (v := 0) X dX0_searchShaken_3 (by decide) ?_
  refine g_dV (ci := 1) (q0 := 0) (n := 1) (wr := [(p0, cO 0 [.ref r1, .ref r2, .ref r3]), (r1, cI d 36 F), (r2, cI d 36 Bf), (r3, cZ d 36 Zf)]) (ws' := [(h0, cO 1 [.ref q1, .ref q2, .ref q3]), (q1, cI d 36 K), (q2, cI d 36 L), (q3, cI d 5 S), (p0, cO 0 [.ref r1, .ref r2, .ref r3]), (r1, cI d 36 F), (r2, cI d 36 Bf), (r3, cZ d 36 Zf)]) (st' := [.int (S 0), .ref h0, .ref p0]) (As := [.int 0]) (st := [.ref h0, .ref p0]) X (ct_X1_number l d h0 q1 q2 q3 K L S 0 (by first | assumption | omega)) wd_353 wd_573 wd_351 wd_352 wd_53 hd_X1_number rfl ⟨(Nat.le_of_ble_eq_true rfl), (Nat.le_of_ble_eq_true rfl)⟩ rfl rfl dX0_searchShaken_4 ⟨(Nat.le_of_ble_eq_true rfl), (Nat.le_of_ble_eq_true rfl)⟩ rfl rfl (Nat.le_of_ble_eq_true rfl) [0, 1, 2, 3] [4, 5, 6, 7] rfl rfl rfl rfl rfl (by decide) rfl [4, 5, 6, 7, 0, 1, 2, 3] rfl rfl rfl rfl ?_
  refine g_callV (ci := 0) (q0 := 4) (n := 2) (wr := []) (As := [.ref h0, .int (S 0)]) (st := []) X (ct_X0_searchFrom l d p0 r1 r2 r3 h0 q1 q2 q3 K L S F Bf Zf (S 0)) wd_357 wd_574 wd_355 wd_356 wd_55 hd_X0_searchFrom rfl ⟨(Nat.le_of_ble_eq_true rfl), (Nat.le_of_ble_eq_true rfl)⟩ rfl rfl dX0_searchShaken_7 ⟨(Nat.le_of_ble_eq_true rfl), (Nat.le_of_ble_eq_true rfl)⟩ rfl rfl (Nat.le_of_ble_eq_true rfl) [0, 1, 2, 3, 4, 5, 6, 7] [] rfl rfl rfl rfl rfl (by decide) rfl (fun r_ wo_ hp_ => ?_)
  obtain ⟨Z_1, rfl, rfl⟩ := hp_
  show g 0 0 [(h0, cO 1 [.ref q1, .ref q2, .ref q3]), (q1, cI d 36 K), (q2, cI d 36 L), (q3, cI d 5 S), (p0, cO 0 [.ref r1, .ref r2, .ref r3]), (r1, cI d 36 (nF (dsI K S (S 0)))), (r2, cI d 36 Bf), (r3, cZ d 36 (zF Z_1))] [(0, .ref p0), (1, .ref h0)] 10 []
  refine g_aload_n X dX0_searchShaken_10 rfl 0 rfl ?_
  refine g_get (C := RX0) (T := TX0) (N := 3) (ci := 0) (v := .ref r1) X rfl inT0 0 (by decide) wd_111 rfl dX0_searchShaken_11 4 rfl rfl ?_
  refine g_iconst (v := 0) X dX0_searchShaken_14 (by decide) ?_
  refine g_aload_n X dX0_searchShaken_15 rfl 0 rfl ?_
  refine g_get (C := RX0) (T := TX0) (N := 3) (ci := 0) (v := .ref r2) X rfl inT0 1 (by decide) wd_112 rfl dX0_searchShaken_16 4 rfl rfl ?_
  refine g_iconst (v := 0) X dX0_searchShaken_19 (by decide) ?_
  refine g_bipush (v := 36) X dX0_searchShaken_20 (by decide) ?_
  refine g_copyi (ws' := [(h0, cO 1 [.ref q1, .ref q2, .ref q3]), (q1, cI d 36 K), (q2, cI d 36 L), (q3, cI d 5 S), (p0, cO 0 [.ref r1, .ref r2, .ref r3]), (r1, cI d 36 (nF (dsI K S (S 0)))), (r2, cI d 36 (va_cpy (nF (dsI K S (S 0))) Bf (0 : Int32).toNatClampNeg (0 : Int32).toNatClampNeg (36 : Int32).toNatClampNeg)), (r3, cZ d 36 (zF Z_1))]) X wd_575 wd_341 wd_340 wd_65 rfl (Nat.le_of_ble_eq_true rfl) (Nat.le_of_ble_eq_true rfl) dX0_searchShaken_22 5 6 rfl rfl (by decide) (by decide) (by decide) (by decide) (by decide) rfl ?_
  refine g_ext (ws' := [(h0, cO 1 [.ref q1, .ref q2, .ref q3]), (q1, cI d 36 K), (q2, cI d 36 L), (q3, cI d 5 S), (p0, cO 0 [.ref r1, .ref r2, .ref r3]), (r1, cI d 36 (nF (dsI K S (S 0)))), (r2, cI d 36 (nF (dsI K S (S 0)))), (r3, cZ d 36 (zF Z_1))]) (h := nF (dsI K S (S 0))) X 6 rfl (cpy36 rfl) rfl ?_
  refine g_aload_n X dX0_searchShaken_25 rfl 0 rfl ?_
  refine g_dV (ci := 0) (q0 := 0) (n := 0) (wr := [(h0, cO 1 [.ref q1, .ref q2, .ref q3]), (q1, cI d 36 K), (q2, cI d 36 L), (q3, cI d 5 S)]) (ws' := [(h0, cO 1 [.ref q1, .ref q2, .ref q3]), (q1, cI d 36 K), (q2, cI d 36 L), (q3, cI d 5 S), (p0, cO 0 [.ref r1, .ref r2, .ref r3]), (r1, cI d 36 (nF (fun _ => 1000000))), (r2, cI d 36 (nF (dsI K S (S 0)))), (r3, cZ d 36 (zF (fun _ => false)))]) (st' := []) (As := []) (st := []) X (ct_X0_forget l d p0 r1 r2 r3 (nF (dsI K S (S 0))) (nF (dsI K S (S 0))) (zF Z_1)) wd_361 wd_358 wd_360 wd_2 wd_55 hd_X0_forget rfl ⟨(Nat.le_of_ble_eq_true rfl), (Nat.le_of_ble_eq_true rfl)⟩ rfl rfl dX0_searchShaken_26 ⟨(Nat.le_of_ble_eq_true rfl), (Nat.le_of_ble_eq_true rfl)⟩ rfl rfl (Nat.le_of_ble_eq_true rfl) [4, 5, 6, 7] [0, 1, 2, 3] rfl rfl rfl rfl rfl (by decide) rfl [0, 1, 2, 3, 4, 5, 6, 7] rfl rfl rfl rfl ?_
  refine g_iconst (v := 0) X dX0_searchShaken_29 (by decide) ?_
  refine g_istore_n (lv' := [(2, .int 0), (0, .ref p0), (1, .ref h0)]) X dX0_searchShaken_30 rfl (by decide) rfl ?_
  have at_31 : ∀ (n_ : Nat) (q : Nat) (hq : q ≤ 36), (36 - q) < n_ → g 0 0 [(h0, cO 1 [.ref q1, .ref q2, .ref q3]), (q1, cI d 36 K), (q2, cI d 36 L), (q3, cI d 5 S), (p0, cO 0 [.ref r1, .ref r2, .ref r3]), (r1, cI d 36 (nF (trq K S (dsI K S (S 0)) (fun _ => 1000000) q))), (r2, cI d 36 (nF (dsI K S (S 0)))), (r3, cZ d 36 (zF (fun _ => false)))] [(0, .ref p0), (1, .ref h0), (2, .int (nI q))] 31 [] := by
    intro n_
    induction n_ with
    | zero => intro q hq hn_; exact absurd hn_ (Nat.not_lt_zero _)
    | succ n_ ih_31 =>
      intro q hq hn_31
      refine g_iload_n X dX0_searchShaken_31 rfl 2 rfl ?_
      refine g_bipush (v := 36) X dX0_searchShaken_32 (by decide) ?_
      refine g_icmpN_ge (a := q) (b := 36) X rfl rfl (by omega) (by omega) 128 dX0_searchShaken_34 (by decide) (fun c34_2 => ?_) (fun c34_2 => ?_)
      · obtain rfl : q = 36 := by omega
        refine g_aload_n X dX0_searchShaken_128 rfl 0 rfl ?_
        refine g_aload_n X dX0_searchShaken_129 rfl 1 rfl ?_
        refine g_dV (ci := 0) (q0 := 4) (n := 1) (wr := []) (ws' := [(h0, cO 1 [.ref q1, .ref q2, .ref q3]), (q1, cI d 36 K), (q2, cI d 36 L), (q3, cI d 5 S), (p0, cO 0 [.ref r1, .ref r2, .ref r3]), (r1, cI d 36 (nF (spr K S 36 (trq K S (dsI K S (S 0)) (fun _ => 1000000) 36) (fun _ => false)).1)), (r2, cI d 36 (nF (dsI K S (S 0)))), (r3, cZ d 36 (zF (spr K S 36 (trq K S (dsI K S (S 0)) (fun _ => 1000000) 36) (fun _ => false)).2))]) (st' := []) (As := [.ref h0]) (st := []) X (ct_X0_spread l d p0 r1 r2 r3 h0 q1 q2 q3 K L S (trq K S (dsI K S (S 0)) (fun _ => 1000000) 36) (nF (dsI K S (S 0))) (fun _ => false) (fun r => trq_le 36)) wd_377 wd_374 wd_376 wd_3 wd_55 hd_X0_spread rfl ⟨(Nat.le_of_ble_eq_true rfl), (Nat.le_of_ble_eq_true rfl)⟩ rfl rfl dX0_searchShaken_130 ⟨(Nat.le_of_ble_eq_true rfl), (Nat.le_of_ble_eq_true rfl)⟩ rfl rfl (Nat.le_of_ble_eq_true rfl) [0, 1, 2, 3, 4, 5, 6, 7] [] rfl rfl rfl rfl rfl (by decide) rfl [0, 1, 2, 3, 4, 5, 6, 7] rfl rfl rfl rfl ?_
        exact g_end X (gE_v dX0_searchShaken_133 (Nat.le_of_ble_eq_true rfl) (Nat.le_of_ble_eq_true rfl) ⟨(spr K S 36 (trq K S (dsI K S (S 0)) (fun _ => 1000000) 36) (fun _ => false)).2, rfl, ws_cons (rfl) (ws_cons (rfl) (ws_cons (rfl) (ws_cons (rfl) (ws_cons (rfl) (ws_cons (cI_eq (by rfl)) (ws_cons (rfl) (ws_cons (cZ_eq (by rfl)) (rfl))))))))⟩)
      · refine g_iconst (v := 0) X dX0_searchShaken_37 (by decide) ?_
        refine g_istore_n (lv' := [(3, .int 0), (0, .ref p0), (1, .ref h0), (2, .int (nI q))]) X dX0_searchShaken_38 rfl (by decide) rfl ?_
        have at_39 : ∀ (n_ : Nat) (w : Nat) (hw : w ≤ 4), (4 - w) < n_ → g 0 0 [(h0, cO 1 [.ref q1, .ref q2, .ref q3]), (q1, cI d 36 K), (q2, cI d 36 L), (q3, cI d 5 S), (p0, cO 0 [.ref r1, .ref r2, .ref r3]), (r1, cI d 36 (nF (trw K S (dsI K S (S 0)) q (trq K S (dsI K S (S 0)) (fun _ => 1000000) q) w))), (r2, cI d 36 (nF (dsI K S (S 0)))), (r3, cZ d 36 (zF (fun _ => false)))] [(0, .ref p0), (1, .ref h0), (2, .int (nI q)), (3, .int (nI w))] 39 [] := by
          intro n_
          induction n_ with
          | zero => intro w hw hn_; exact absurd hn_ (Nat.not_lt_zero _)
          | succ n_ ih_39 =>
            intro w hw hn_39
            have hb1 := dsI_le K S (S 0) q
            refine g_iload_n X dX0_searchShaken_39 rfl 3 rfl ?_
            refine g_iconst (v := 4) X dX0_searchShaken_40 (by decide) ?_
            refine g_icmpN_ge (a := w) (b := 4) X rfl rfl (by omega) (by omega) 122 dX0_searchShaken_41 (by decide) (fun c41_3 => ?_) (fun c41_3 => ?_)
            · refine g_iinc (v := nI (q + 1)) (lv' := [(2, .int (nI (q + 1))), (0, .ref p0), (1, .ref h0), (3, .int (nI w))]) X dX0_searchShaken_122 2 rfl (nI_inc _) (by decide) rfl ?_
              refine g_goto X 31 dX0_searchShaken_125 (by decide) ?_
              refine g_lv (lv' := [(0, .ref p0), (1, .ref h0), (2, .int (nI (q + 1)))]) X [1, 2, 0] rfl ?_
              exact g_eq (ws' := [(h0, cO 1 [.ref q1, .ref q2, .ref q3]), (q1, cI d 36 K), (q2, cI d 36 L), (q3, cI d 5 S), (p0, cO 0 [.ref r1, .ref r2, .ref r3]), (r1, cI d 36 (nF (trq K S (dsI K S (S 0)) (fun _ => 1000000) (q + 1)))), (r2, cI d 36 (nF (dsI K S (S 0)))), (r3, cZ d 36 (zF (fun _ => false)))]) (lv' := [(0, .ref p0), (1, .ref h0), (2, .int (nI (q + 1)))]) (ws_cons (rfl) (ws_cons (rfl) (ws_cons (rfl) (ws_cons (rfl) (ws_cons (rfl) (ws_cons (cI_eq (by rw [show w = 4 by omega]; rfl)) (ws_cons (rfl) (ws_cons (rfl) (rfl))))))))) (rfl) (ih_31 (q + 1) (by first | assumption | omega) (by omega))
            · refine g_iload_n X dX0_searchShaken_44 rfl 2 rfl ?_
              refine g_iload_n X dX0_searchShaken_45 rfl 3 rfl ?_
              refine g_dS (n := 2) (wr := [(h0, cO 1 [.ref q1, .ref q2, .ref q3]), (q1, cI d 36 K), (q2, cI d 36 L), (q3, cI d 5 S), (p0, cO 0 [.ref r1, .ref r2, .ref r3]), (r1, cI d 36 (nF (trw K S (dsI K S (S 0)) q (trq K S (dsI K S (S 0)) (fun _ => 1000000) q) w))), (r2, cI d 36 (nF (dsI K S (S 0)))), (r3, cZ d 36 (zF (fun _ => false)))]) (ws' := [(h0, cO 1 [.ref q1, .ref q2, .ref q3]), (q1, cI d 36 K), (q2, cI d 36 L), (q3, cI d 5 S), (p0, cO 0 [.ref r1, .ref r2, .ref r3]), (r1, cI d 36 (nF (trw K S (dsI K S (S 0)) q (trq K S (dsI K S (S 0)) (fun _ => 1000000) q) w))), (r2, cI d 36 (nF (dsI K S (S 0)))), (r3, cZ d 36 (zF (fun _ => false)))]) (st' := [.int (besI (nb q w))]) (As := [.int (nI q), .int (nI w)]) (st := []) X (ct_X1_beside l d q w (by first | assumption | omega) (by first | assumption | omega)) wd_388 wd_389 wd_387 wd_53 hd_X1_beside ⟨(Nat.le_of_ble_eq_true rfl), (Nat.le_of_ble_eq_true rfl)⟩ rfl rfl dX0_searchShaken_46 ⟨(Nat.le_of_ble_eq_true rfl), (Nat.le_of_ble_eq_true rfl)⟩ rfl rfl (Nat.le_of_ble_eq_true rfl) [] [0, 1, 2, 3, 4, 5, 6, 7] rfl rfl rfl rfl rfl (by decide) [0, 1, 2, 3, 4, 5, 6, 7] rfl rfl rfl rfl ?_
              refine g_istore (lv' := [(4, .int (besI (nb q w))), (0, .ref p0), (1, .ref h0), (2, .int (nI q)), (3, .int (nI w))]) X dX0_searchShaken_49 (by decide) rfl ?_
              refine g_aload_n X dX0_searchShaken_51 rfl 2 rfl ?_
              refine g_iload_n X dX0_searchShaken_52 rfl 3 rfl ?_
              refine g_iload_n X dX0_searchShaken_53 rfl 4 rfl ?_
              refine g_dV (ci := 1) (q0 := 0) (n := 2) (wr := [(p0, cO 0 [.ref r1, .ref r2, .ref r3]), (r1, cI d 36 (nF (trw K S (dsI K S (S 0)) q (trq K S (dsI K S (S 0)) (fun _ => 1000000) q) w))), (r2, cI d 36 (nF (dsI K S (S 0)))), (r3, cZ d 36 (zF (fun _ => false)))]) (ws' := [(h0, cO 1 [.ref q1, .ref q2, .ref q3]), (q1, cI d 36 K), (q2, cI d 36 L), (q3, cI d 5 S), (p0, cO 0 [.ref r1, .ref r2, .ref r3]), (r1, cI d 36 (nF (trw K S (dsI K S (S 0)) q (trq K S (dsI K S (S 0)) (fun _ => 1000000) q) w))), (r2, cI d 36 (nF (dsI K S (S 0)))), (r3, cZ d 36 (zF (fun _ => false)))]) (st' := [.int (stp K S q w)]) (As := [.int (nI q), .int (nI w)]) (st := []) X (ct_X1_daysToGo l d h0 q1 q2 q3 K L S q w (by first | assumption | omega) (by first | assumption | omega)) wd_385 wd_382 wd_383 wd_384 wd_53 hd_X1_daysToGo rfl ⟨(Nat.le_of_ble_eq_true rfl), (Nat.le_of_ble_eq_true rfl)⟩ rfl rfl dX0_searchShaken_54 ⟨(Nat.le_of_ble_eq_true rfl), (Nat.le_of_ble_eq_true rfl)⟩ rfl rfl (Nat.le_of_ble_eq_true rfl) [0, 1, 2, 3] [4, 5, 6, 7] rfl rfl rfl rfl rfl (by decide) rfl [4, 5, 6, 7, 0, 1, 2, 3] rfl rfl rfl rfl ?_
              refine g_istore (lv' := [(5, .int (stp K S q w)), (4, .int (besI (nb q w))), (0, .ref p0), (1, .ref h0), (2, .int (nI q)), (3, .int (nI w))]) X dX0_searchShaken_57 (by decide) rfl ?_
              refine g_aload_n X dX0_searchShaken_59 rfl 2 rfl ?_
              refine g_get (C := RX0) (T := TX0) (N := 3) (ci := 0) (v := .ref r2) X rfl inT0 1 (by decide) wd_112 rfl dX0_searchShaken_60 4 rfl rfl ?_
              refine g_iload_n X dX0_searchShaken_63 rfl 4 rfl ?_
              refine g_iaload_N (k := q) X rfl dX0_searchShaken_64 6 rfl (by first | assumption | omega) (by omega) ?_
              refine g_ldc (v := 1000000) X wd_362 dX0_searchShaken_65 ?_
              refine g_icmpN_ge (a := ((dsI K S (S 0)) q)) (b := 1000000) X rfl rfl (by omega) (by omega) 81 dX0_searchShaken_67 (by decide) (fun c67_4 => ?_) (fun c67_4 => ?_)
              · refine g_iconst (v := 0) X dX0_searchShaken_81 (by decide) ?_
                refine g_istore (lv' := [(6, .int 0), (5, .int (stp K S q w)), (4, .int (besI (nb q w))), (0, .ref p0), (1, .ref h0), (2, .int (nI q)), (3, .int (nI w))]) X dX0_searchShaken_82 (by decide) rfl ?_
                refine g_iload X dX0_searchShaken_84 0 rfl ?_
                refine g_if_eq X 116 dX0_searchShaken_86 (by decide) (fun _ => ?_) (fun h => absurd h (by decide))
                refine g_iinc (v := nI (w + 1)) (lv' := [(3, .int (nI (w + 1))), (6, .int 0), (5, .int (stp K S q w)), (4, .int (besI (nb q w))), (0, .ref p0), (1, .ref h0), (2, .int (nI q))]) X dX0_searchShaken_116 6 rfl (nI_inc _) (by decide) rfl ?_
                refine g_goto X 39 dX0_searchShaken_119 (by decide) ?_
                refine g_lv (lv' := [(0, .ref p0), (1, .ref h0), (2, .int (nI q)), (3, .int (nI (w + 1)))]) X [4, 5, 6, 0] rfl ?_
                exact g_eq (ws' := [(h0, cO 1 [.ref q1, .ref q2, .ref q3]), (q1, cI d 36 K), (q2, cI d 36 L), (q3, cI d 5 S), (p0, cO 0 [.ref r1, .ref r2, .ref r3]), (r1, cI d 36 (nF (trw K S (dsI K S (S 0)) q (trq K S (dsI K S (S 0)) (fun _ => 1000000) q) (w + 1)))), (r2, cI d 36 (nF (dsI K S (S 0)))), (r3, cZ d 36 (zF (fun _ => false)))]) (lv' := [(0, .ref p0), (1, .ref h0), (2, .int (nI q)), (3, .int (nI (w + 1)))]) (ws_cons (rfl) (ws_cons (rfl) (ws_cons (rfl) (ws_cons (rfl) (ws_cons (rfl) (ws_cons (cI_eq (congrArg nF (tr1_n (fun z => absurd z.1.1 (by omega))))) (ws_cons (rfl) (ws_cons (rfl) (rfl))))))))) (rfl) (ih_39 (w + 1) (by first | assumption | omega) (by omega))
              · refine g_iload X dX0_searchShaken_70 0 rfl ?_
                refine g_bipush (v := (-9)) X dX0_searchShaken_72 (by decide) ?_
                refine g_icmp_eq X 81 dX0_searchShaken_74 (by decide) (fun c74_6 => ?_) (fun c74_6 => ?_)
                · refine g_iconst (v := 0) X dX0_searchShaken_81 (by decide) ?_
                  refine g_istore (lv' := [(6, .int 0), (5, .int (stp K S q w)), (4, .int (besI (nb q w))), (0, .ref p0), (1, .ref h0), (2, .int (nI q)), (3, .int (nI w))]) X dX0_searchShaken_82 (by decide) rfl ?_
                  refine g_iload X dX0_searchShaken_84 0 rfl ?_
                  refine g_if_eq X 116 dX0_searchShaken_86 (by decide) (fun _ => ?_) (fun h => absurd h (by decide))
                  refine g_iinc (v := nI (w + 1)) (lv' := [(3, .int (nI (w + 1))), (6, .int 0), (5, .int (stp K S q w)), (4, .int (besI (nb q w))), (0, .ref p0), (1, .ref h0), (2, .int (nI q))]) X dX0_searchShaken_116 6 rfl (nI_inc _) (by decide) rfl ?_
                  refine g_goto X 39 dX0_searchShaken_119 (by decide) ?_
                  refine g_lv (lv' := [(0, .ref p0), (1, .ref h0), (2, .int (nI q)), (3, .int (nI (w + 1)))]) X [4, 5, 6, 0] rfl ?_
                  exact g_eq (ws' := [(h0, cO 1 [.ref q1, .ref q2, .ref q3]), (q1, cI d 36 K), (q2, cI d 36 L), (q3, cI d 5 S), (p0, cO 0 [.ref r1, .ref r2, .ref r3]), (r1, cI d 36 (nF (trw K S (dsI K S (S 0)) q (trq K S (dsI K S (S 0)) (fun _ => 1000000) q) (w + 1)))), (r2, cI d 36 (nF (dsI K S (S 0)))), (r3, cZ d 36 (zF (fun _ => false)))]) (lv' := [(0, .ref p0), (1, .ref h0), (2, .int (nI q)), (3, .int (nI (w + 1)))]) (ws_cons (rfl) (ws_cons (rfl) (ws_cons (rfl) (ws_cons (rfl) (ws_cons (rfl) (ws_cons (cI_eq (congrArg nF (tr1_n (fun z => absurd z.1.2 (stp_eq (by assumption)))))) (ws_cons (rfl) (ws_cons (rfl) (rfl))))))))) (rfl) (ih_39 (w + 1) (by first | assumption | omega) (by omega))
                · obtain ⟨hnb, hcs, hst⟩ := stp_ne c74_6
                  refine g_eq (lv' := [(5, .int (nI (cst (K (nb q w)) w))), (4, .int (besI (nb q w))), (0, .ref p0), (1, .ref h0), (2, .int (nI q)), (3, .int (nI w))]) rfl (lv_cons (vI (hst)) (lv_cons (rfl) (lv_cons (rfl) (lv_cons (rfl) (lv_cons (rfl) (lv_cons (rfl) (rfl))))))) ?_
                  have hcl := cst_le (K (nb q w)) w
                  refine g_eq (lv' := [(5, .int (nI (cst (K (nb q w)) w))), (4, .int (nI (nb q w))), (0, .ref p0), (1, .ref h0), (2, .int (nI q)), (3, .int (nI w))]) rfl (lv_cons (rfl) (lv_cons (vI (besI_t hnb)) (lv_cons (rfl) (lv_cons (rfl) (lv_cons (rfl) (lv_cons (rfl) (rfl))))))) ?_
                  refine g_iconst (v := 1) X dX0_searchShaken_77 (by decide) ?_
                  refine g_goto X 82 dX0_searchShaken_78 (by decide) ?_
                  refine g_istore (lv' := [(6, .int 1), (5, .int (nI (cst (K (nb q w)) w))), (4, .int (nI (nb q w))), (0, .ref p0), (1, .ref h0), (2, .int (nI q)), (3, .int (nI w))]) X dX0_searchShaken_82 (by decide) rfl ?_
                  refine g_iload X dX0_searchShaken_84 0 rfl ?_
                  refine g_if_eq X 116 dX0_searchShaken_86 (by decide) (fun h => absurd h (by decide)) (fun _ => ?_)
                  refine g_aload_n X dX0_searchShaken_89 rfl 4 rfl ?_
                  refine g_iload X dX0_searchShaken_90 2 rfl ?_
                  refine g_dV (ci := 1) (q0 := 0) (n := 1) (wr := [(p0, cO 0 [.ref r1, .ref r2, .ref r3]), (r1, cI d 36 (nF (trw K S (dsI K S (S 0)) q (trq K S (dsI K S (S 0)) (fun _ => 1000000) q) w))), (r2, cI d 36 (nF (dsI K S (S 0)))), (r3, cZ d 36 (zF (fun _ => false)))]) (ws' := [(h0, cO 1 [.ref q1, .ref q2, .ref q3]), (q1, cI d 36 K), (q2, cI d 36 L), (q3, cI d 5 S), (p0, cO 0 [.ref r1, .ref r2, .ref r3]), (r1, cI d 36 (nF (trw K S (dsI K S (S 0)) q (trq K S (dsI K S (S 0)) (fun _ => 1000000) q) w))), (r2, cI d 36 (nF (dsI K S (S 0)))), (r3, cZ d 36 (zF (fun _ => false)))]) (st' := [.int (K (nb q w))]) (As := [.int (nI (nb q w))]) (st := []) X (ct_X1_kindOf_N l d h0 q1 q2 q3 K L S (nb q w) (by first | assumption | omega)) wd_421 wd_576 wd_419 wd_420 wd_53 hd_X1_kindOf rfl ⟨(Nat.le_of_ble_eq_true rfl), (Nat.le_of_ble_eq_true rfl)⟩ rfl rfl dX0_searchShaken_92 ⟨(Nat.le_of_ble_eq_true rfl), (Nat.le_of_ble_eq_true rfl)⟩ rfl rfl (Nat.le_of_ble_eq_true rfl) [0, 1, 2, 3] [4, 5, 6, 7] rfl rfl rfl rfl rfl (by decide) rfl [4, 5, 6, 7, 0, 1, 2, 3] rfl rfl rfl rfl ?_
                  refine g_iconst (v := 3) X dX0_searchShaken_95 (by decide) ?_
                  refine g_icmp_ne X 116 dX0_searchShaken_96 (by decide) (fun c96_9 => ?_) (fun c96_9 => ?_)
                  · refine g_iinc (v := nI (w + 1)) (lv' := [(3, .int (nI (w + 1))), (6, .int 1), (5, .int (nI (cst (K (nb q w)) w))), (4, .int (nI (nb q w))), (0, .ref p0), (1, .ref h0), (2, .int (nI q))]) X dX0_searchShaken_116 6 rfl (nI_inc _) (by decide) rfl ?_
                    refine g_goto X 39 dX0_searchShaken_119 (by decide) ?_
                    refine g_lv (lv' := [(0, .ref p0), (1, .ref h0), (2, .int (nI q)), (3, .int (nI (w + 1)))]) X [4, 5, 6, 0] rfl ?_
                    exact g_eq (ws' := [(h0, cO 1 [.ref q1, .ref q2, .ref q3]), (q1, cI d 36 K), (q2, cI d 36 L), (q3, cI d 5 S), (p0, cO 0 [.ref r1, .ref r2, .ref r3]), (r1, cI d 36 (nF (trw K S (dsI K S (S 0)) q (trq K S (dsI K S (S 0)) (fun _ => 1000000) q) (w + 1)))), (r2, cI d 36 (nF (dsI K S (S 0)))), (r3, cZ d 36 (zF (fun _ => false)))]) (lv' := [(0, .ref p0), (1, .ref h0), (2, .int (nI q)), (3, .int (nI (w + 1)))]) (ws_cons (rfl) (ws_cons (rfl) (ws_cons (rfl) (ws_cons (rfl) (ws_cons (rfl) (ws_cons (cI_eq (congrArg nF (tr1_n (fun z => absurd z.2 (by assumption))))) (ws_cons (rfl) (ws_cons (rfl) (rfl))))))))) (rfl) (ih_39 (w + 1) (by first | assumption | omega) (by omega))
                  · refine g_aload_n X dX0_searchShaken_99 rfl 3 rfl ?_
                    refine g_aload_n X dX0_searchShaken_100 rfl 4 rfl ?_
                    refine g_iload X dX0_searchShaken_101 2 rfl ?_
                    refine g_iload_n X dX0_searchShaken_103 rfl 6 rfl ?_
                    refine g_aload_n X dX0_searchShaken_104 rfl 3 rfl ?_
                    refine g_get (C := RX0) (T := TX0) (N := 3) (ci := 0) (v := .ref r2) X rfl inT0 1 (by decide) wd_112 rfl dX0_searchShaken_105 4 rfl rfl ?_
                    refine g_iload_n X dX0_searchShaken_108 rfl 5 rfl ?_
                    refine g_iaload_N (k := q) X rfl dX0_searchShaken_109 6 rfl (by first | assumption | omega) (by omega) ?_
                    refine g_iload X dX0_searchShaken_110 1 rfl ?_
                    refine g_iadd X dX0_searchShaken_112 ?_
                    refine g_tope (y := nI (((dsI K S (S 0)) q) + (cst (K (nb q w)) w))) (nI_add _ _) ?_
                    refine g_dV (ci := 0) (q0 := 4) (n := 4) (wr := []) (ws' := [(h0, cO 1 [.ref q1, .ref q2, .ref q3]), (q1, cI d 36 K), (q2, cI d 36 L), (q3, cI d 5 S), (p0, cO 0 [.ref r1, .ref r2, .ref r3]), (r1, cI d 36 (nF (oft K S (nb q w) w (((dsI K S (S 0)) q) + (cst (K (nb q w)) w)) (trw K S (dsI K S (S 0)) q (trq K S (dsI K S (S 0)) (fun _ => 1000000) q) w) 4))), (r2, cI d 36 (nF (dsI K S (S 0)))), (r3, cZ d 36 (zF (fun _ => false)))]) (st' := []) (As := [.ref h0, .int (nI (nb q w)), .int (nI w), .int (nI (((dsI K S (S 0)) q) + (cst (K (nb q w)) w)))]) (st := []) X (ct_X0_offerTurns l d p0 r1 r2 r3 h0 q1 q2 q3 K L S (trw K S (dsI K S (S 0)) q (trq K S (dsI K S (S 0)) (fun _ => 1000000) q) w) (nF (dsI K S (S 0))) (zF (fun _ => false)) (nb q w) w (((dsI K S (S 0)) q) + (cst (K (nb q w)) w)) (by first | assumption | omega) (by first | assumption | omega) (by omega) (fun r => Nat.le_trans (trw_le w) (trq_le q))) wd_580 wd_577 wd_579 wd_15 wd_55 hd_X0_offerTurns rfl ⟨(Nat.le_of_ble_eq_true rfl), (Nat.le_of_ble_eq_true rfl)⟩ rfl rfl dX0_searchShaken_113 ⟨(Nat.le_of_ble_eq_true rfl), (Nat.le_of_ble_eq_true rfl)⟩ rfl rfl (Nat.le_of_ble_eq_true rfl) [0, 1, 2, 3, 4, 5, 6, 7] [] rfl rfl rfl rfl rfl (by decide) rfl [0, 1, 2, 3, 4, 5, 6, 7] rfl rfl rfl rfl ?_
                    refine g_iinc (v := nI (w + 1)) (lv' := [(3, .int (nI (w + 1))), (6, .int 1), (5, .int (nI (cst (K (nb q w)) w))), (4, .int (nI (nb q w))), (0, .ref p0), (1, .ref h0), (2, .int (nI q))]) X dX0_searchShaken_116 6 rfl (nI_inc _) (by decide) rfl ?_
                    refine g_goto X 39 dX0_searchShaken_119 (by decide) ?_
                    refine g_lv (lv' := [(0, .ref p0), (1, .ref h0), (2, .int (nI q)), (3, .int (nI (w + 1)))]) X [4, 5, 6, 0] rfl ?_
                    exact g_eq (ws' := [(h0, cO 1 [.ref q1, .ref q2, .ref q3]), (q1, cI d 36 K), (q2, cI d 36 L), (q3, cI d 5 S), (p0, cO 0 [.ref r1, .ref r2, .ref r3]), (r1, cI d 36 (nF (trw K S (dsI K S (S 0)) q (trq K S (dsI K S (S 0)) (fun _ => 1000000) q) (w + 1)))), (r2, cI d 36 (nF (dsI K S (S 0)))), (r3, cZ d 36 (zF (fun _ => false)))]) (lv' := [(0, .ref p0), (1, .ref h0), (2, .int (nI q)), (3, .int (nI (w + 1)))]) (ws_cons (rfl) (ws_cons (rfl) (ws_cons (rfl) (ws_cons (rfl) (ws_cons (rfl) (ws_cons (cI_eq (congrArg nF (tr1_y (by omega) hnb hcs (by assumption)))) (ws_cons (rfl) (ws_cons (rfl) (rfl))))))))) (rfl) (ih_39 (w + 1) (by first | assumption | omega) (by omega))
        refine g_lv (lv' := [(0, .ref p0), (1, .ref h0), (2, .int (nI q)), (3, .int 0)]) X [1, 2, 3, 0] rfl ?_
        exact g_eq (ws' := [(h0, cO 1 [.ref q1, .ref q2, .ref q3]), (q1, cI d 36 K), (q2, cI d 36 L), (q3, cI d 5 S), (p0, cO 0 [.ref r1, .ref r2, .ref r3]), (r1, cI d 36 (nF (trw K S (dsI K S (S 0)) q (trq K S (dsI K S (S 0)) (fun _ => 1000000) q) 0))), (r2, cI d 36 (nF (dsI K S (S 0)))), (r3, cZ d 36 (zF (fun _ => false)))]) (lv' := [(0, .ref p0), (1, .ref h0), (2, .int (nI q)), (3, .int (nI 0))]) (ws_cons (rfl) (ws_cons (rfl) (ws_cons (rfl) (ws_cons (rfl) (ws_cons (rfl) (ws_cons (cI_eq (by rfl)) (ws_cons (rfl) (ws_cons (rfl) (rfl))))))))) (lv_cons (rfl) (lv_cons (rfl) (lv_cons (rfl) (lv_cons (vI (by rfl)) (rfl))))) (at_39 _ 0 (by first | assumption | omega) (Nat.lt_succ_self _))
  refine g_lv (lv' := [(0, .ref p0), (1, .ref h0), (2, .int 0)]) X [1, 2, 0] rfl ?_
  exact g_eq (ws' := [(h0, cO 1 [.ref q1, .ref q2, .ref q3]), (q1, cI d 36 K), (q2, cI d 36 L), (q3, cI d 5 S), (p0, cO 0 [.ref r1, .ref r2, .ref r3]), (r1, cI d 36 (nF (trq K S (dsI K S (S 0)) (fun _ => 1000000) 0))), (r2, cI d 36 (nF (dsI K S (S 0)))), (r3, cZ d 36 (zF (fun _ => false)))]) (lv' := [(0, .ref p0), (1, .ref h0), (2, .int (nI 0))]) (ws_cons (rfl) (ws_cons (rfl) (ws_cons (rfl) (ws_cons (rfl) (ws_cons (rfl) (ws_cons (cI_eq (by rfl)) (ws_cons (rfl) (ws_cons (rfl) (rfl))))))))) (lv_cons (rfl) (lv_cons (rfl) (lv_cons (vI (by rfl)) (rfl)))) (at_31 _ 0 (by first | assumption | omega) (Nat.lt_succ_self _))
