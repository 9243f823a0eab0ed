
set_option maxHeartbeats 4000000 in
set_option maxRecDepth 20000 in
theorem ct_X6_is (l : Launch) (d : KD) (m0 a0 a1 a2 a4 a6 a8 a9 b1 b2 b3 b4 b5 b6 : Nat) (A : Nat → Nat) (tn ap rn : Nat) (im : Int32) (s : Int32) (htn : tn ≤ 96) (hap : ap ≤ tn) (hs : ¬ s = -1) : Ct l d yX6_is cX6_is 2 (some .boolean) { frames := 0, cells := 0, slots := 0, locals := 0 } [.ref m0, .int s] [(m0, cO 6 [.ref a0, .ref a1, .ref a2, .int (nI tn), .ref a4, .int (nI ap), .ref a6, .int (nI rn), .ref a8, .ref a9, .int im, .ref b1, .ref b2, .ref b3, .ref b4, .ref b5, .ref b6]), (a4, cI d 96 (nF A))] 0 0 (fun r wo => r = some (.int (b2i (ltA A tn ap = s))) ∧ wo = [(m0, cO 6 [.ref a0, .ref a1, .ref a2, .int (nI tn), .ref a4, .int (nI (if ltA A tn ap = s then ap + 1 else ap)), .ref a6, .int (nI rn), .ref a8, .ref a9, .int im, .ref b1, .ref b2, .ref b3, .ref b4, .ref b5, .ref b6]), (a4, cI d 96 (nF A))]) := by
  refine ct_of (own := RX6) (ini := false) (by decide +kernel) rfl (fun h => by cases h) (Nat.le_of_ble_eq_true rfl) ?_
  intro g X
  show g 0 0 [(m0, cO 6 [.ref a0, .ref a1, .ref a2, .int (nI tn), .ref a4, .int (nI ap), .ref a6, .int (nI rn), .ref a8, .ref a9, .int im, .ref b1, .ref b2, .ref b3, .ref b4, .ref b5, .ref b6]), (a4, cI d 96 (nF A))] [(0, .ref m0), (1, .int s)] 0 []
  refine g_aload_n X dX6_is_0 rfl 0 rfl ?_
  refine g_get (C := RX6) (T := TX6) (N := 17) (ci := 6) (v := .int (nI ap)) X rfl inT6 5 (by decide) wd_801 rfl dX6_is_1 0 rfl rfl ?_
  refine g_aload_n X dX6_is_4 rfl 0 rfl ?_
  refine g_get (C := RX6) (T := TX6) (N := 17) (ci := 6) (v := .int (nI tn)) X rfl inT6 3 (by decide) wd_799 rfl dX6_is_5 0 rfl rfl ?_
  refine g_icmpN_eq (a := ap) (b := tn) X rfl rfl (by omega) (by omega) 24 dX6_is_8 (by decide) (fun c8_1 => ?_) (fun c8_1 => ?_)
  · have hb : ¬ ltA A tn ap = s := fun z => hs (by rw [← z]; exact ltA_9 (by omega))
    refine g_iconst (v := 0) X dX6_is_24 (by decide) ?_
    exact g_end X (gE_i dX6_is_25 (rfl) (Nat.le_of_ble_eq_true rfl) (Nat.le_of_ble_eq_true rfl) ⟨congrArg (fun z => some (Value.int z)) ((b2i_f hb).symm), ws_cons (congrArg (cO 6) (lcons (rfl) (lcons (rfl) (lcons (rfl) (lcons (rfl) (lcons (rfl) (lcons (vI (congrArg nI (if_neg hb).symm)) (lcons (rfl) (lcons (rfl) (lcons (rfl) (lcons (rfl) (lcons (rfl) (lcons (rfl) (lcons (rfl) (lcons (rfl) (lcons (rfl) (lcons (rfl) (lcons (rfl) (rfl))))))))))))))))))) (ws_cons (rfl) (rfl))⟩)
  · have hlt : ap < tn := by omega
    refine g_aload_n X dX6_is_11 rfl 0 rfl ?_
    refine g_get (C := RX6) (T := TX6) (N := 17) (ci := 6) (v := .ref a4) X rfl inT6 4 (by decide) wd_800 rfl dX6_is_12 0 rfl rfl ?_
    refine g_aload_n X dX6_is_15 rfl 0 rfl ?_
    refine g_get (C := RX6) (T := TX6) (N := 17) (ci := 6) (v := .int (nI ap)) X rfl inT6 5 (by decide) wd_801 rfl dX6_is_16 0 rfl rfl ?_
    refine g_iaload_N (k := ap) X rfl dX6_is_19 1 rfl (by first | assumption | omega) (by omega) ?_
    refine g_iload_n X dX6_is_20 rfl 1 rfl ?_
    refine g_icmp_eq X 26 dX6_is_21 (by decide) (fun c21_2 => ?_) (fun c21_2 => ?_)
    · have hb : ltA A tn ap = s := (ltA_e hlt).trans c21_2
      refine g_aload_n X dX6_is_26 rfl 0 rfl ?_
      refine g_dup X dX6_is_27 rfl ?_
      refine g_get (C := RX6) (T := TX6) (N := 17) (ci := 6) (v := .int (nI ap)) X rfl inT6 5 (by decide) wd_801 rfl dX6_is_28 0 rfl rfl ?_
      refine g_iconst (v := 1) X dX6_is_31 (by decide) ?_
      refine g_iadd X dX6_is_32 ?_
      refine g_tope (y := nI (ap + 1)) (nI_add _ _) ?_
      refine g_put (C := RX6) (T := TX6) (N := 17) (ci := 6) (v := .int (nI (ap + 1))) (ty := .int) (ws' := [(m0, cO 6 [.ref a0, .ref a1, .ref a2, .int (nI tn), .ref a4, .int (nI (ap + 1)), .ref a6, .int (nI rn), .ref a8, .ref a9, .int im, .ref b1, .ref b2, .ref b3, .ref b4, .ref b5, .ref b6]), (a4, cI d 96 (nF A))]) X rfl inT6 tyX6 tyX6_ok nmX6 5 (by decide) wd_801 rfl rfl (by decide +kernel) dX6_is_33 0 rfl (by rfl) rfl (Nat.le_of_ble_eq_true rfl) rfl ?_
      refine g_iconst (v := 1) X dX6_is_36 (by decide) ?_
      exact g_end X (gE_i dX6_is_37 (rfl) (Nat.le_of_ble_eq_true rfl) (Nat.le_of_ble_eq_true rfl) ⟨congrArg (fun z => some (Value.int z)) ((b2i_t hb).symm), ws_cons (congrArg (cO 6) (lcons (rfl) (lcons (rfl) (lcons (rfl) (lcons (rfl) (lcons (rfl) (lcons (vI (congrArg nI (if_pos hb).symm)) (lcons (rfl) (lcons (rfl) (lcons (rfl) (lcons (rfl) (lcons (rfl) (lcons (rfl) (lcons (rfl) (lcons (rfl) (lcons (rfl) (lcons (rfl) (lcons (rfl) (rfl))))))))))))))))))) (ws_cons (rfl) (rfl))⟩)
    · have hb : ¬ ltA A tn ap = s := fun z => c21_2 (by rw [← z]; exact (ltA_e hlt).symm)
      refine g_iconst (v := 0) X dX6_is_24 (by decide) ?_
      exact g_end X (gE_i dX6_is_25 (rfl) (Nat.le_of_ble_eq_true rfl) (Nat.le_of_ble_eq_true rfl) ⟨congrArg (fun z => some (Value.int z)) ((b2i_f hb).symm), ws_cons (congrArg (cO 6) (lcons (rfl) (lcons (rfl) (lcons (rfl) (lcons (rfl) (lcons (rfl) (lcons (vI (congrArg nI (if_neg hb).symm)) (lcons (rfl) (lcons (rfl) (lcons (rfl) (lcons (rfl) (lcons (rfl) (lcons (rfl) (lcons (rfl) (lcons (rfl) (lcons (rfl) (lcons (rfl) (lcons (rfl) (rfl))))))))))))))))))) (ws_cons (rfl) (rfl))⟩)
set_option maxHeartbeats 4000000 in
set_option maxRecDepth 20000 in
theorem ct_X6_digits (l : Launch) (d : KD) (m0 a0 a1 a2 a4 a6 a8 a9 b1 b2 b3 b4 b5 b6 : Nat) (Vv : Nat → Int32) (A : Nat → Nat) (tn ap rn : Nat) (im : Int32) (n : Nat) (htn : tn ≤ 96) (hap : ap ≤ tn) (hA : ∀ q, A q < 256) (hn : n ≤ 8) : Ct l d yX6_digits cX6_digits 3 (some .boolean) { frames := 0, cells := 0, slots := 0, locals := 0 } [.ref m0, .int (nI n)] [(m0, cO 6 [.ref a0, .ref a1, .ref a2, .int (nI tn), .ref a4, .int (nI ap), .ref a6, .int (nI rn), .ref a8, .ref a9, .int im, .ref b1, .ref b2, .ref b3, .ref b4, .ref b5, .ref b6]), (a4, cI d 96 (nF A)), (a6, cI d 8 Vv)] 0 0 (fun r wo => r = some (.int (b2i (dgN A tn ap n = n))) ∧ wo = [(m0, cO 6 [.ref a0, .ref a1, .ref a2, .int (nI tn), .ref a4, .int (nI (ap + dgN A tn ap n)), .ref a6, .int (nI rn), .ref a8, .ref a9, .int im, .ref b1, .ref b2, .ref b3, .ref b4, .ref b5, .ref b6]), (a4, cI d 96 (nF A)), (a6, cI d 8 (vdF A tn ap Vv (dgN A tn ap n)))]) := by
  refine ct_of (own := RX6) (ini := false) (by decide +kernel) rfl (fun h => by cases h) (Nat.le_of_ble_eq_true rfl) ?_
  intro g X
  show g 0 0 [(m0, cO 6 [.ref a0, .ref a1, .ref a2, .int (nI tn), .ref a4, .int (nI ap), .ref a6, .int (nI rn), .ref a8, .ref a9, .int im, .ref b1, .ref b2, .ref b3, .ref b4, .ref b5, .ref b6]), (a4, cI d 96 (nF A)), (a6, cI d 8 Vv)] [(0, .ref m0), (1, .int (nI n))] 0 []
  refine g_iconst (v := 0) X dX6_digits_0 (by decide) ?_
  refine g_istore_n (lv' := [(2, .int 0), (0, .ref m0), (1, .int (nI n))]) X dX6_digits_1 rfl (by decide) rfl ?_
  have at_2 : ∀ (n_ : Nat) (i : Nat) (hi : i ≤ n) (hd : dgN A tn ap i = i) (hai : ap + i ≤ tn), (n - i) < n_ → g 0 0 [(m0, cO 6 [.ref a0, .ref a1, .ref a2, .int (nI tn), .ref a4, .int (nI (ap + i)), .ref a6, .int (nI rn), .ref a8, .ref a9, .int im, .ref b1, .ref b2, .ref b3, .ref b4, .ref b5, .ref b6]), (a4, cI d 96 (nF A)), (a6, cI d 8 (vdF A tn ap Vv i))] [(0, .ref m0), (1, .int (nI n)), (2, .int (nI i))] 2 [] := by
    intro n_
    induction n_ with
    | zero => intro i hi hd hai hn_; exact absurd hn_ (Nat.not_lt_zero _)
    | succ n_ ih_2 =>
      intro i hi hd hai hn_2
      refine g_iload_n X dX6_digits_2 rfl 2 rfl ?_
      refine g_iload_n X dX6_digits_3 rfl 1 rfl ?_
      refine g_icmpN_ge (a := i) (b := n) X rfl rfl (by omega) (by omega) 79 dX6_digits_4 (by decide) (fun c4_1 => ?_) (fun c4_1 => ?_)
      · obtain rfl : n = i := by omega
        refine g_iconst (v := 1) X dX6_digits_79 (by decide) ?_
        exact g_end X (gE_i dX6_digits_80 (rfl) (Nat.le_of_ble_eq_true rfl) (Nat.le_of_ble_eq_true rfl) ⟨congrArg (fun z => some (Value.int z)) ((b2i_t hd).symm), ws_cons (congrArg (cO 6) (lcons (rfl) (lcons (rfl) (lcons (rfl) (lcons (rfl) (lcons (rfl) (lcons (vI (by rw [hd])) (lcons (rfl) (lcons (rfl) (lcons (rfl) (lcons (rfl) (lcons (rfl) (lcons (rfl) (lcons (rfl) (lcons (rfl) (lcons (rfl) (lcons (rfl) (lcons (rfl) (rfl))))))))))))))))))) (ws_cons (rfl) (ws_cons (cI_eq (by rw [hd])) (rfl)))⟩)
      · refine g_aload_n X dX6_digits_7 rfl 0 rfl ?_
        refine g_get (C := RX6) (T := TX6) (N := 17) (ci := 6) (v := .int (nI (ap + i))) X rfl inT6 5 (by decide) wd_801 rfl dX6_digits_8 0 rfl rfl ?_
        refine g_aload_n X dX6_digits_11 rfl 0 rfl ?_
        refine g_get (C := RX6) (T := TX6) (N := 17) (ci := 6) (v := .int (nI tn)) X rfl inT6 3 (by decide) wd_799 rfl dX6_digits_12 0 rfl rfl ?_
        refine g_icmpN_eq (a := (ap + i)) (b := tn) X rfl rfl (by omega) (by omega) 46 dX6_digits_15 (by decide) (fun c15_2 => ?_) (fun c15_2 => ?_)
        · have hni : ¬ isd (ltA A tn (ap + i)) := fun z => absurd (isd_in z) (by omega)
          have hdn := dgN_s (m := n) hd hni (by omega)
          refine g_iconst (v := 0) X dX6_digits_46 (by decide) ?_
          exact g_end X (gE_i dX6_digits_47 (rfl) (Nat.le_of_ble_eq_true rfl) (Nat.le_of_ble_eq_true rfl) ⟨congrArg (fun z => some (Value.int z)) ((b2i_f (by omega)).symm), ws_cons (congrArg (cO 6) (lcons (rfl) (lcons (rfl) (lcons (rfl) (lcons (rfl) (lcons (rfl) (lcons (vI (by rw [hdn])) (lcons (rfl) (lcons (rfl) (lcons (rfl) (lcons (rfl) (lcons (rfl) (lcons (rfl) (lcons (rfl) (lcons (rfl) (lcons (rfl) (lcons (rfl) (lcons (rfl) (rfl))))))))))))))))))) (ws_cons (rfl) (ws_cons (cI_eq (by rw [hdn])) (rfl)))⟩)
        · have hlt : ap + i < tn := by omega
          have hAi := hA (ap + i)
          refine g_aload_n X dX6_digits_18 rfl 0 rfl ?_
          refine g_get (C := RX6) (T := TX6) (N := 17) (ci := 6) (v := .ref a4) X rfl inT6 4 (by decide) wd_800 rfl dX6_digits_19 0 rfl rfl ?_
          refine g_aload_n X dX6_digits_22 rfl 0 rfl ?_
          refine g_get (C := RX6) (T := TX6) (N := 17) (ci := 6) (v := .int (nI (ap + i))) X rfl inT6 5 (by decide) wd_801 rfl dX6_digits_23 0 rfl rfl ?_
          refine g_iaload_N (k := (ap + i)) X rfl dX6_digits_26 1 rfl (by first | assumption | omega) (by omega) ?_
          refine g_bipush (v := 48) X dX6_digits_27 (by decide) ?_
          refine g_icmpN_lt (a := (A (ap + i))) (b := 48) X rfl rfl (by omega) (by omega) 46 dX6_digits_29 (by decide) (fun c29_3 => ?_) (fun c29_3 => ?_)
          · have hni : ¬ isd (ltA A tn (ap + i)) := fun z => by rw [ltA_e hlt] at z; have h2 := (nI_leI (a := 48) (b := A (ap + i)) (by omega) (by omega)).mp z.1; omega
            have hdn := dgN_s (m := n) hd hni (by omega)
            refine g_iconst (v := 0) X dX6_digits_46 (by decide) ?_
            exact g_end X (gE_i dX6_digits_47 (rfl) (Nat.le_of_ble_eq_true rfl) (Nat.le_of_ble_eq_true rfl) ⟨congrArg (fun z => some (Value.int z)) ((b2i_f (by omega)).symm), ws_cons (congrArg (cO 6) (lcons (rfl) (lcons (rfl) (lcons (rfl) (lcons (rfl) (lcons (rfl) (lcons (vI (by rw [hdn])) (lcons (rfl) (lcons (rfl) (lcons (rfl) (lcons (rfl) (lcons (rfl) (lcons (rfl) (lcons (rfl) (lcons (rfl) (lcons (rfl) (lcons (rfl) (lcons (rfl) (rfl))))))))))))))))))) (ws_cons (rfl) (ws_cons (cI_eq (by rw [hdn])) (rfl)))⟩)
          · refine g_aload_n X dX6_digits_32 rfl 0 rfl ?_
            refine g_get (C := RX6) (T := TX6) (N := 17) (ci := 6) (v := .ref a4) X rfl inT6 4 (by decide) wd_800 rfl dX6_digits_33 0 rfl rfl ?_
            refine g_aload_n X dX6_digits_36 rfl 0 rfl ?_
            refine g_get (C := RX6) (T := TX6) (N := 17) (ci := 6) (v := .int (nI (ap + i))) X rfl inT6 5 (by decide) wd_801 rfl dX6_digits_37 0 rfl rfl ?_
            refine g_iaload_N (k := (ap + i)) X rfl dX6_digits_40 1 rfl (by first | assumption | omega) (by omega) ?_
            refine g_bipush (v := 57) X dX6_digits_41 (by decide) ?_
            refine g_icmpN_le (a := (A (ap + i))) (b := 57) X rfl rfl (by omega) (by omega) 48 dX6_digits_43 (by decide) (fun c43_4 => ?_) (fun c43_4 => ?_)
            · have hisd : isd (ltA A tn (ap + i)) := by rw [ltA_e hlt]; exact ⟨nI_le (a := 48) (by omega) (by omega), nI_le (b := 57) (by omega) (by omega)⟩
              refine g_aload_n X dX6_digits_48 rfl 0 rfl ?_
              refine g_get (C := RX6) (T := TX6) (N := 17) (ci := 6) (v := .ref a6) X rfl inT6 6 (by decide) wd_802 rfl dX6_digits_49 0 rfl rfl ?_
              refine g_iload_n X dX6_digits_52 rfl 2 rfl ?_
              refine g_aload_n X dX6_digits_53 rfl 0 rfl ?_
              refine g_get (C := RX6) (T := TX6) (N := 17) (ci := 6) (v := .ref a4) X rfl inT6 4 (by decide) wd_800 rfl dX6_digits_54 0 rfl rfl ?_
              refine g_aload_n X dX6_digits_57 rfl 0 rfl ?_
              refine g_dup X dX6_digits_58 rfl ?_
              refine g_get (C := RX6) (T := TX6) (N := 17) (ci := 6) (v := .int (nI (ap + i))) X rfl inT6 5 (by decide) wd_801 rfl dX6_digits_59 0 rfl rfl ?_
              refine g_dup_x1 X dX6_digits_62 rfl rfl ?_
              refine g_iconst (v := 1) X dX6_digits_63 (by decide) ?_
              refine g_iadd X dX6_digits_64 ?_
              refine g_tope (y := nI ((ap + i) + 1)) (nI_add _ _) ?_
              refine g_put (C := RX6) (T := TX6) (N := 17) (ci := 6) (v := .int (nI ((ap + i) + 1))) (ty := .int) (ws' := [(m0, cO 6 [.ref a0, .ref a1, .ref a2, .int (nI tn), .ref a4, .int (nI ((ap + i) + 1)), .ref a6, .int (nI rn), .ref a8, .ref a9, .int im, .ref b1, .ref b2, .ref b3, .ref b4, .ref b5, .ref b6]), (a4, cI d 96 (nF A)), (a6, cI d 8 (vdF A tn ap Vv i))]) X rfl inT6 tyX6 tyX6_ok nmX6 5 (by decide) wd_801 rfl rfl (by decide +kernel) dX6_digits_65 0 rfl (by rfl) rfl (Nat.le_of_ble_eq_true rfl) rfl ?_
              refine g_iaload_N (k := (ap + i)) X rfl dX6_digits_68 1 rfl (by first | assumption | omega) (by omega) ?_
              refine g_bipush (v := 48) X dX6_digits_69 (by decide) ?_
              refine g_isub X dX6_digits_71 ?_
              refine g_iastore_N (k := i) (ws' := [(m0, cO 6 [.ref a0, .ref a1, .ref a2, .int (nI tn), .ref a4, .int (nI ((ap + i) + 1)), .ref a6, .int (nI rn), .ref a8, .ref a9, .int im, .ref b1, .ref b2, .ref b3, .ref b4, .ref b5, .ref b6]), (a4, cI d 96 (nF A)), (a6, cI d 8 (upd (vdF A tn ap Vv i) i ((nI (A (ap + i))) - 48)))]) X rfl dX6_digits_72 2 rfl (by first | assumption | omega) (by omega) rfl ?_
              refine g_eq (ws' := [(m0, cO 6 [.ref a0, .ref a1, .ref a2, .int (nI tn), .ref a4, .int (nI ((ap + i) + 1)), .ref a6, .int (nI rn), .ref a8, .ref a9, .int im, .ref b1, .ref b2, .ref b3, .ref b4, .ref b5, .ref b6]), (a4, cI d 96 (nF A)), (a6, cI d 8 (vdF A tn ap Vv (i + 1)))]) (ws_cons (rfl) (ws_cons (rfl) (ws_cons (cI_eq (vdF_s (by unfold dgA; rw [ltA_e hlt]))) (rfl)))) rfl ?_
              refine g_iinc (v := nI (i + 1)) (lv' := [(2, .int (nI (i + 1))), (0, .ref m0), (1, .int (nI n))]) X dX6_digits_73 2 rfl (nI_inc _) (by decide) rfl ?_
              refine g_goto X 2 dX6_digits_76 (by decide) ?_
              refine g_lv (lv' := [(0, .ref m0), (1, .int (nI n)), (2, .int (nI (i + 1)))]) X [1, 2, 0] rfl ?_
              exact g_eq (ws' := [(m0, cO 6 [.ref a0, .ref a1, .ref a2, .int (nI tn), .ref a4, .int (nI (ap + (i + 1))), .ref a6, .int (nI rn), .ref a8, .ref a9, .int im, .ref b1, .ref b2, .ref b3, .ref b4, .ref b5, .ref b6]), (a4, cI d 96 (nF A)), (a6, cI d 8 (vdF A tn ap Vv (i + 1)))]) (lv' := [(0, .ref m0), (1, .int (nI n)), (2, .int (nI (i + 1)))]) (ws_cons (congrArg (cO 6) (lcons (rfl) (lcons (rfl) (lcons (rfl) (lcons (rfl) (lcons (rfl) (lcons (vI (by rfl)) (lcons (rfl) (lcons (rfl) (lcons (rfl) (lcons (rfl) (lcons (rfl) (lcons (rfl) (lcons (rfl) (lcons (rfl) (lcons (rfl) (lcons (rfl) (lcons (rfl) (rfl))))))))))))))))))) (ws_cons (rfl) (ws_cons (rfl) (rfl)))) (rfl) (ih_2 (i + 1) (by first | assumption | omega) (dgN_y hd hisd) (by omega) (by omega))
            · have hni : ¬ isd (ltA A tn (ap + i)) := fun z => by rw [ltA_e hlt] at z; have h2 := (nI_leI (a := A (ap + i)) (b := 57) (by omega) (by omega)).mp z.2; omega
              have hdn := dgN_s (m := n) hd hni (by omega)
              refine g_iconst (v := 0) X dX6_digits_46 (by decide) ?_
              exact g_end X (gE_i dX6_digits_47 (rfl) (Nat.le_of_ble_eq_true rfl) (Nat.le_of_ble_eq_true rfl) ⟨congrArg (fun z => some (Value.int z)) ((b2i_f (by omega)).symm), ws_cons (congrArg (cO 6) (lcons (rfl) (lcons (rfl) (lcons (rfl) (lcons (rfl) (lcons (rfl) (lcons (vI (by rw [hdn])) (lcons (rfl) (lcons (rfl) (lcons (rfl) (lcons (rfl) (lcons (rfl) (lcons (rfl) (lcons (rfl) (lcons (rfl) (lcons (rfl) (lcons (rfl) (lcons (rfl) (rfl))))))))))))))))))) (ws_cons (rfl) (ws_cons (cI_eq (by rw [hdn])) (rfl)))⟩)
  refine g_lv (lv' := [(0, .ref m0), (1, .int (nI n)), (2, .int 0)]) X [1, 2, 0] rfl ?_
  exact g_eq (ws' := [(m0, cO 6 [.ref a0, .ref a1, .ref a2, .int (nI tn), .ref a4, .int (nI (ap + 0)), .ref a6, .int (nI rn), .ref a8, .ref a9, .int im, .ref b1, .ref b2, .ref b3, .ref b4, .ref b5, .ref b6]), (a4, cI d 96 (nF A)), (a6, cI d 8 (vdF A tn ap Vv 0))]) (lv' := [(0, .ref m0), (1, .int (nI n)), (2, .int (nI 0))]) (ws_cons (congrArg (cO 6) (lcons (rfl) (lcons (rfl) (lcons (rfl) (lcons (rfl) (lcons (rfl) (lcons (vI (by rfl)) (lcons (rfl) (lcons (rfl) (lcons (rfl) (lcons (rfl) (lcons (rfl) (lcons (rfl) (lcons (rfl) (lcons (rfl) (lcons (rfl) (lcons (rfl) (lcons (rfl) (rfl))))))))))))))))))) (ws_cons (rfl) (ws_cons (cI_eq (vdF_0)) (rfl)))) (lv_cons (rfl) (lv_cons (rfl) (lv_cons (vI (by rfl)) (rfl)))) (at_2 _ 0 (by first | assumption | omega) (rfl) (by first | assumption | omega) (Nat.lt_succ_self _))
set_option maxHeartbeats 4000000 in
set_option maxRecDepth 20000 in
theorem ct_X6_two (l : Launch) (d : KD) (m0 a0 a1 a2 a4 a6 a8 a9 b1 b2 b3 b4 b5 b6 : Nat) (Vv : Nat → Int32) (tn ap rn : Nat) (im : Int32) (i : Nat) (hi : i + 1 < 8) : Ct l d yX6_two cX6_two 2 (some .int) { frames := 0, cells := 0, slots := 0, locals := 0 } [.ref m0, .int (nI i)] [(m0, cO 6 [.ref a0, .ref a1, .ref a2, .int (nI tn), .ref a4, .int (nI ap), .ref a6, .int (nI rn), .ref a8, .ref a9, .int im, .ref b1, .ref b2, .ref b3, .ref b4, .ref b5, .ref b6]), (a6, cI d 8 Vv)] 0 0 (fun r wo => r = some (.int (10 * Vv i + Vv (i + 1))) ∧ wo = [(m0, cO 6 [.ref a0, .ref a1, .ref a2, .int (nI tn), .ref a4, .int (nI ap), .ref a6, .int (nI rn), .ref a8, .ref a9, .int im, .ref b1, .ref b2, .ref b3, .ref b4, .ref b5, .ref b6]), (a6, cI d 8 Vv)]) := by
  refine ct_of (own := RX6) (ini := false) (by decide +kernel) rfl (fun h => by cases h) (Nat.le_of_ble_eq_true rfl) ?_
  intro g X
  show g 0 0 [(m0, cO 6 [.ref a0, .ref a1, .ref a2, .int (nI tn), .ref a4, .int (nI ap), .ref a6, .int (nI rn), .ref a8, .ref a9, .int im, .ref b1, .ref b2, .ref b3, .ref b4, .ref b5, .ref b6]), (a6, cI d 8 Vv)] [(0, .ref m0), (1, .int (nI i))] 0 []
  refine g_bipush (v := 10) X dX6_two_0 (by decide) ?_
  refine g_aload_n X dX6_two_2 rfl 0 rfl ?_
  refine g_get (C := RX6) (T := TX6) (N := 17) (ci := 6) (v := .ref a6) X rfl inT6 6 (by decide) wd_802 rfl dX6_two_3 0 rfl rfl ?_
  refine g_iload_n X dX6_two_6 rfl 1 rfl ?_
  refine g_iaload_N (k := i) X rfl dX6_two_7 1 rfl (by first | assumption | omega) (by omega) ?_
  refine g_imul X dX6_two_8 ?_
  refine g_aload_n X dX6_two_9 rfl 0 rfl ?_
  refine g_get (C := RX6) (T := TX6) (N := 17) (ci := 6) (v := .ref a6) X rfl inT6 6 (by decide) wd_802 rfl dX6_two_10 0 rfl rfl ?_
  refine g_iload_n X dX6_two_13 rfl 1 rfl ?_
  refine g_iconst (v := 1) X dX6_two_14 (by decide) ?_
  refine g_iadd X dX6_two_15 ?_
  refine g_tope (y := nI (i + 1)) (nI_add _ _) ?_
  refine g_iaload_N (k := (i + 1)) X rfl dX6_two_16 1 rfl (by first | assumption | omega) (by omega) ?_
  refine g_iadd X dX6_two_17 ?_
  exact g_end X (gE_i dX6_two_18 (rfl) (Nat.le_of_ble_eq_true rfl) (Nat.le_of_ble_eq_true rfl) ⟨congrArg (fun z => some (Value.int z)) (by rfl), rfl⟩)
set_option maxHeartbeats 4000000 in
set_option maxRecDepth 20000 in
theorem ct_X6_letterOf (l : Launch) (d : KD) (m0 a0 a1 a2 a4 a6 a8 a9 b1 b2 b3 b4 b5 b6 : Nat) (A : Nat → Nat) (tn ap rn : Nat) (im : Int32) (i : Nat) (htn : tn ≤ 96) (hap : ap ≤ tn) (hA : ∀ q, A q < 256) (hi7 : i = 7 ∨ i = 8) : Ct l d yX6_letterOf cX6_letterOf 3 (some .int) { frames := 4, cells := 0, slots := 0, locals := 91 } [.ref m0, .ref (kS d i)] [(m0, cO 6 [.ref a0, .ref a1, .ref a2, .int (nI tn), .ref a4, .int (nI ap), .ref a6, .int (nI rn), .ref a8, .ref a9, .int im, .ref b1, .ref b2, .ref b3, .ref b4, .ref b5, .ref b6]), (a4, cI d 96 (nF A))] 0 0 (fun r wo => r = some (.int (cdA A tn i ap)) ∧ wo = [(m0, cO 6 [.ref a0, .ref a1, .ref a2, .int (nI tn), .ref a4, .int (nI (if 0 ≤ cdA A tn i ap then ap + 1 else ap)), .ref a6, .int (nI rn), .ref a8, .ref a9, .int im, .ref b1, .ref b2, .ref b3, .ref b4, .ref b5, .ref b6]), (a4, cI d 96 (nF A))]) := by
  refine ct_of (own := RX6) (ini := false) (by decide +kernel) rfl (fun h => by cases h) (Nat.le_of_ble_eq_true rfl) ?_
  intro g X
  show g 0 0 [(m0, cO 6 [.ref a0, .ref a1, .ref a2, .int (nI tn), .ref a4, .int (nI ap), .ref a6, .int (nI rn), .ref a8, .ref a9, .int im, .ref b1, .ref b2, .ref b3, .ref b4, .ref b5, .ref b6]), (a4, cI d 96 (nF A))] [(0, .ref m0), (1, .ref (kS d i))] 0 []
  refine g_aload_n X dX6_letterOf_0 rfl 0 rfl ?_
  refine g_get (C := RX6) (T := TX6) (N := 17) (ci := 6) (v := .int (nI ap)) X rfl inT6 5 (by decide) wd_801 rfl dX6_letterOf_1 0 rfl rfl ?_
  refine g_aload_n X dX6_letterOf_4 rfl 0 rfl ?_
  refine g_get (C := RX6) (T := TX6) (N := 17) (ci := 6) (v := .int (nI tn)) X rfl inT6 3 (by decide) wd_799 rfl dX6_letterOf_5 0 rfl rfl ?_
  refine g_icmpN_ge (a := ap) (b := tn) X rfl rfl (by omega) (by omega) 39 dX6_letterOf_8 (by decide) (fun c8_1 => ?_) (fun c8_1 => ?_)
  · have hcd : cdA A tn i ap = -1 := cd_0 hi7 (fun z => absurd z (by omega))
    refine g_iconst (v := (-1)) X dX6_letterOf_39 (by decide) ?_
    refine g_tope (y := cdA A tn i ap) (hcd.symm) ?_
    refine g_istore_n (lv' := [(2, .int (cdA A tn i ap)), (0, .ref m0), (1, .ref (kS d i))]) X dX6_letterOf_40 rfl (by decide) rfl ?_
    refine g_iload_n X dX6_letterOf_41 rfl 0 rfl ?_
    refine g_if_lt X 55 dX6_letterOf_42 (by decide) (fun c42_2 => ?_) (fun c42_2 => ?_)
    · refine g_iload_n X dX6_letterOf_55 rfl 0 rfl ?_
      exact g_end X (gE_i dX6_letterOf_56 (rfl) (Nat.le_of_ble_eq_true rfl) (Nat.le_of_ble_eq_true rfl) ⟨rfl, ws_cons (congrArg (cO 6) (lcons (rfl) (lcons (rfl) (lcons (rfl) (lcons (rfl) (lcons (rfl) (lcons (vI (congrArg nI (if_neg (fun z => absurd z (Int32.not_le.mpr c42_2))).symm)) (lcons (rfl) (lcons (rfl) (lcons (rfl) (lcons (rfl) (lcons (rfl) (lcons (rfl) (lcons (rfl) (lcons (rfl) (lcons (rfl) (lcons (rfl) (lcons (rfl) (rfl))))))))))))))))))) (ws_cons (rfl) (rfl))⟩)
    · refine g_aload_n X dX6_letterOf_45 rfl 1 rfl ?_
      refine g_dup X dX6_letterOf_46 rfl ?_
      refine g_get (C := RX6) (T := TX6) (N := 17) (ci := 6) (v := .int (nI ap)) X rfl inT6 5 (by decide) wd_801 rfl dX6_letterOf_47 0 rfl rfl ?_
      refine g_iconst (v := 1) X dX6_letterOf_50 (by decide) ?_
      refine g_iadd X dX6_letterOf_51 ?_
      refine g_tope (y := nI (ap + 1)) (nI_add _ _) ?_
      refine g_put (C := RX6) (T := TX6) (N := 17) (ci := 6) (v := .int (nI (ap + 1))) (ty := .int) (ws' := [(m0, cO 6 [.ref a0, .ref a1, .ref a2, .int (nI tn), .ref a4, .int (nI (ap + 1)), .ref a6, .int (nI rn), .ref a8, .ref a9, .int im, .ref b1, .ref b2, .ref b3, .ref b4, .ref b5, .ref b6]), (a4, cI d 96 (nF A))]) X rfl inT6 tyX6 tyX6_ok nmX6 5 (by decide) wd_801 rfl rfl (by decide +kernel) dX6_letterOf_52 0 rfl (by rfl) rfl (Nat.le_of_ble_eq_true rfl) rfl ?_
      refine g_iload_n X dX6_letterOf_55 rfl 0 rfl ?_
      exact g_end X (gE_i dX6_letterOf_56 (rfl) (Nat.le_of_ble_eq_true rfl) (Nat.le_of_ble_eq_true rfl) ⟨rfl, ws_cons (congrArg (cO 6) (lcons (rfl) (lcons (rfl) (lcons (rfl) (lcons (rfl) (lcons (rfl) (lcons (vI (congrArg nI (if_pos (Int32.not_lt.mp c42_2)).symm)) (lcons (rfl) (lcons (rfl) (lcons (rfl) (lcons (rfl) (lcons (rfl) (lcons (rfl) (lcons (rfl) (lcons (rfl) (lcons (rfl) (lcons (rfl) (lcons (rfl) (rfl))))))))))))))))))) (ws_cons (rfl) (rfl))⟩)
  · have hlt : ap < tn := by omega
    have hAp := hA ap
    refine g_aload_n X dX6_letterOf_11 rfl 0 rfl ?_
    refine g_get (C := RX6) (T := TX6) (N := 17) (ci := 6) (v := .ref a4) X rfl inT6 4 (by decide) wd_800 rfl dX6_letterOf_12 0 rfl rfl ?_
    refine g_aload_n X dX6_letterOf_15 rfl 0 rfl ?_
    refine g_get (C := RX6) (T := TX6) (N := 17) (ci := 6) (v := .int (nI ap)) X rfl inT6 5 (by decide) wd_801 rfl dX6_letterOf_16 0 rfl rfl ?_
    refine g_iaload_N (k := ap) X rfl dX6_letterOf_19 1 rfl (by first | assumption | omega) (by omega) ?_
    refine g_ifN_le (a := (A ap)) X rfl (by omega) 39 dX6_letterOf_20 (by decide) (fun c20_3 => ?_) (fun c20_3 => ?_)
    · have hcd : cdA A tn i ap = -1 := cd_0 hi7 (fun _ => by omega)
      refine g_iconst (v := (-1)) X dX6_letterOf_39 (by decide) ?_
      refine g_tope (y := cdA A tn i ap) (hcd.symm) ?_
      refine g_istore_n (lv' := [(2, .int (cdA A tn i ap)), (0, .ref m0), (1, .ref (kS d i))]) X dX6_letterOf_40 rfl (by decide) rfl ?_
      refine g_iload_n X dX6_letterOf_41 rfl 0 rfl ?_
      refine g_if_lt X 55 dX6_letterOf_42 (by decide) (fun c42_4 => ?_) (fun c42_4 => ?_)
      · refine g_iload_n X dX6_letterOf_55 rfl 0 rfl ?_
        exact g_end X (gE_i dX6_letterOf_56 (rfl) (Nat.le_of_ble_eq_true rfl) (Nat.le_of_ble_eq_true rfl) ⟨rfl, ws_cons (congrArg (cO 6) (lcons (rfl) (lcons (rfl) (lcons (rfl) (lcons (rfl) (lcons (rfl) (lcons (vI (congrArg nI (if_neg (fun z => absurd z (Int32.not_le.mpr c42_4))).symm)) (lcons (rfl) (lcons (rfl) (lcons (rfl) (lcons (rfl) (lcons (rfl) (lcons (rfl) (lcons (rfl) (lcons (rfl) (lcons (rfl) (lcons (rfl) (lcons (rfl) (rfl))))))))))))))))))) (ws_cons (rfl) (rfl))⟩)
      · refine g_aload_n X dX6_letterOf_45 rfl 1 rfl ?_
        refine g_dup X dX6_letterOf_46 rfl ?_
        refine g_get (C := RX6) (T := TX6) (N := 17) (ci := 6) (v := .int (nI ap)) X rfl inT6 5 (by decide) wd_801 rfl dX6_letterOf_47 0 rfl rfl ?_
        refine g_iconst (v := 1) X dX6_letterOf_50 (by decide) ?_
        refine g_iadd X dX6_letterOf_51 ?_
        refine g_tope (y := nI (ap + 1)) (nI_add _ _) ?_
        refine g_put (C := RX6) (T := TX6) (N := 17) (ci := 6) (v := .int (nI (ap + 1))) (ty := .int) (ws' := [(m0, cO 6 [.ref a0, .ref a1, .ref a2, .int (nI tn), .ref a4, .int (nI (ap + 1)), .ref a6, .int (nI rn), .ref a8, .ref a9, .int im, .ref b1, .ref b2, .ref b3, .ref b4, .ref b5, .ref b6]), (a4, cI d 96 (nF A))]) X rfl inT6 tyX6 tyX6_ok nmX6 5 (by decide) wd_801 rfl rfl (by decide +kernel) dX6_letterOf_52 0 rfl (by rfl) rfl (Nat.le_of_ble_eq_true rfl) rfl ?_
        refine g_iload_n X dX6_letterOf_55 rfl 0 rfl ?_
        exact g_end X (gE_i dX6_letterOf_56 (rfl) (Nat.le_of_ble_eq_true rfl) (Nat.le_of_ble_eq_true rfl) ⟨rfl, ws_cons (congrArg (cO 6) (lcons (rfl) (lcons (rfl) (lcons (rfl) (lcons (rfl) (lcons (rfl) (lcons (vI (congrArg nI (if_pos (Int32.not_lt.mp c42_4)).symm)) (lcons (rfl) (lcons (rfl) (lcons (rfl) (lcons (rfl) (lcons (rfl) (lcons (rfl) (lcons (rfl) (lcons (rfl) (lcons (rfl) (lcons (rfl) (lcons (rfl) (rfl))))))))))))))))))) (ws_cons (rfl) (rfl))⟩)
    · refine g_aload_n X dX6_letterOf_23 rfl 1 rfl ?_
      refine g_aload_n X dX6_letterOf_24 rfl 0 rfl ?_
      refine g_get (C := RX6) (T := TX6) (N := 17) (ci := 6) (v := .ref a4) X rfl inT6 4 (by decide) wd_800 rfl dX6_letterOf_25 0 rfl rfl ?_
      refine g_aload_n X dX6_letterOf_28 rfl 0 rfl ?_
      refine g_get (C := RX6) (T := TX6) (N := 17) (ci := 6) (v := .int (nI ap)) X rfl inT6 5 (by decide) wd_801 rfl dX6_letterOf_29 0 rfl rfl ?_
      refine g_iaload_N (k := ap) X rfl dX6_letterOf_32 1 rfl (by first | assumption | omega) (by omega) ?_
      refine g_dVS (n := 1) (st' := [.int (ixo i (A ap))]) (As := [.int (nI (A ap))]) (st := []) X i (by omega) (ct_J0_indexOf_0f7a4 l d i (A ap) (by omega) (hAp) (by rcases hi7 with rfl | rfl <;> decide)) wd_278 wd_873 wd_276 wd_277 wd_59 hd_J0_indexOf_0f7a4 ⟨(Nat.le_of_ble_eq_true rfl), (Nat.le_of_ble_eq_true rfl)⟩ rfl rfl dX6_letterOf_33 ⟨(Nat.le_of_ble_eq_true rfl), (Nat.le_of_ble_eq_true rfl)⟩ rfl rfl (Nat.le_of_ble_eq_true rfl) [0, 1] rfl rfl rfl ?_
      refine g_tope (y := cdA A tn i ap) (cd_y hlt) ?_
      refine g_goto X 40 dX6_letterOf_36 (by decide) ?_
      refine g_tope (y := cdA A tn i ap) (by rfl) ?_
      refine g_istore_n (lv' := [(2, .int (cdA A tn i ap)), (0, .ref m0), (1, .ref (kS d i))]) X dX6_letterOf_40 rfl (by decide) rfl ?_
      refine g_iload_n X dX6_letterOf_41 rfl 0 rfl ?_
      refine g_if_lt X 55 dX6_letterOf_42 (by decide) (fun c42_5 => ?_) (fun c42_5 => ?_)
      · refine g_iload_n X dX6_letterOf_55 rfl 0 rfl ?_
        exact g_end X (gE_i dX6_letterOf_56 (rfl) (Nat.le_of_ble_eq_true rfl) (Nat.le_of_ble_eq_true rfl) ⟨rfl, ws_cons (congrArg (cO 6) (lcons (rfl) (lcons (rfl) (lcons (rfl) (lcons (rfl) (lcons (rfl) (lcons (vI (congrArg nI (if_neg (fun z => absurd z (Int32.not_le.mpr c42_5))).symm)) (lcons (rfl) (lcons (rfl) (lcons (rfl) (lcons (rfl) (lcons (rfl) (lcons (rfl) (lcons (rfl) (lcons (rfl) (lcons (rfl) (lcons (rfl) (lcons (rfl) (rfl))))))))))))))))))) (ws_cons (rfl) (rfl))⟩)
      · refine g_aload_n X dX6_letterOf_45 rfl 1 rfl ?_
        refine g_dup X dX6_letterOf_46 rfl ?_
        refine g_get (C := RX6) (T := TX6) (N := 17) (ci := 6) (v := .int (nI ap)) X rfl inT6 5 (by decide) wd_801 rfl dX6_letterOf_47 0 rfl rfl ?_
        refine g_iconst (v := 1) X dX6_letterOf_50 (by decide) ?_
        refine g_iadd X dX6_letterOf_51 ?_
        refine g_tope (y := nI (ap + 1)) (nI_add _ _) ?_
        refine g_put (C := RX6) (T := TX6) (N := 17) (ci := 6) (v := .int (nI (ap + 1))) (ty := .int) (ws' := [(m0, cO 6 [.ref a0, .ref a1, .ref a2, .int (nI tn), .ref a4, .int (nI (ap + 1)), .ref a6, .int (nI rn), .ref a8, .ref a9, .int im, .ref b1, .ref b2, .ref b3, .ref b4, .ref b5, .ref b6]), (a4, cI d 96 (nF A))]) X rfl inT6 tyX6 tyX6_ok nmX6 5 (by decide) wd_801 rfl rfl (by decide +kernel) dX6_letterOf_52 0 rfl (by rfl) rfl (Nat.le_of_ble_eq_true rfl) rfl ?_
        refine g_iload_n X dX6_letterOf_55 rfl 0 rfl ?_
        exact g_end X (gE_i dX6_letterOf_56 (rfl) (Nat.le_of_ble_eq_true rfl) (Nat.le_of_ble_eq_true rfl) ⟨rfl, ws_cons (congrArg (cO 6) (lcons (rfl) (lcons (rfl) (lcons (rfl) (lcons (rfl) (lcons (rfl) (lcons (vI (congrArg nI (if_pos (Int32.not_lt.mp c42_5)).symm)) (lcons (rfl) (lcons (rfl) (lcons (rfl) (lcons (rfl) (lcons (rfl) (lcons (rfl) (lcons (rfl) (lcons (rfl) (lcons (rfl) (lcons (rfl) (lcons (rfl) (rfl))))))))))))))))))) (ws_cons (rfl) (rfl))⟩)
