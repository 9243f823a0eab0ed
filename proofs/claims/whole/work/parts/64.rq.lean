theorem hd_X6_statement : yX6_statement.cls = "HeWreckedHimselfModel" ∧ yX6_statement.cls ≠ "java/lang/invoke/MethodHandle" ∧ yX6_statement.cls ≠ "java/lang/invoke/VarHandle" ∧ (parseMethodDescriptor yX6_statement.desc).map (fun d => d.parameters.length) = some 1 := by decide +kernel
set_option maxHeartbeats 4000000 in
set_option maxRecDepth 20000 in
theorem ct_X6_sea (l : Launch) (d : KD) (m0 a0 a1 a2 a4 a6 a8 a9 b1 b2 b3 b4 b5 b6 : Nat) (K L S Vv P H : Nat → Int32) (A : Nat → Nat) (tn ap rn : Nat) (im : Int32) (htn : tn ≤ 96) (hA : ∀ q, A q < 256) (hh : cbe K S (S 0)) : Ct l d yX6_sea cX6_sea 4 (some .int) { frames := 6, cells := 0, slots := 0, locals := 141 } [.ref m0] [(m0, cO 6 [.ref a0, .ref a1, .ref a2, .int (nI tn), .ref a4, .int (nI ap), .ref a6, .int (nI rn), .ref a8, .ref a9, .int im, .ref b1, .ref b2, .ref b3, .ref b4, .ref b5, .ref b6]), (a0, cI d 36 K), (a1, cI d 36 L), (a2, cI d 5 S), (a4, cI d 96 (nF A)), (a6, cI d 8 Vv), (b2, cI d 77 P), (b5, cI d 36 H)] 0 0 (fun r wo => ∃ (ap' : Nat), ∃ (Vv' : Nat → Int32), ∃ (P' : Nat → Int32), ∃ (H' : Nat → Int32), r = some (.int ((sp_sea A tn K L S).1)) ∧ wo = [(m0, cO 6 [.ref a0, .ref a1, .ref a2, .int (nI 0), .ref a4, .int (nI ap'), .ref a6, .int (nI rn), .ref a8, .ref a9, .int im, .ref b1, .ref b2, .ref b3, .ref b4, .ref b5, .ref b6]), (a0, cI d 36 ((sp_sea A tn K L S).2.1)), (a1, cI d 36 ((sp_sea A tn K L S).2.2.1)), (a2, cI d 5 ((sp_sea A tn K L S).2.2.2)), (a4, cI d 96 (nF A)), (a6, cI d 8 Vv'), (b2, cI d 77 P'), (b5, cI d 36 H')]) := by
  refine ct_of (own := RX6) (ini := false) (by decide +kernel) rfl (fun h => by cases h) (Nat.le_of_ble_eq_true rfl) ?_
  intro g X
  show g 0 0 [(m0, cO 6 [.ref a0, .ref a1, .ref a2, .int (nI tn), .ref a4, .int (nI ap), .ref a6, .int (nI rn), .ref a8, .ref a9, .int im, .ref b1, .ref b2, .ref b3, .ref b4, .ref b5, .ref b6]), (a0, cI d 36 K), (a1, cI d 36 L), (a2, cI d 5 S), (a4, cI d 96 (nF A)), (a6, cI d 8 Vv), (b2, cI d 77 P), (b5, cI d 36 H)] [(0, .ref m0)] 0 []
  refine g_aload_n X dX6_sea_0 rfl 0 rfl ?_
  refine g_iconst (v := 0) X dX6_sea_1 (by decide) ?_
  refine g_put (C := RX6) (T := TX6) (N := 17) (ci := 6) (v := .int 0) (ty := .int) (ws' := [(m0, cO 6 [.ref a0, .ref a1, .ref a2, .int (nI tn), .ref a4, .int 0, .ref a6, .int (nI rn), .ref a8, .ref a9, .int im, .ref b1, .ref b2, .ref b3, .ref b4, .ref b5, .ref b6]), (a0, cI d 36 K), (a1, cI d 36 L), (a2, cI d 5 S), (a4, cI d 96 (nF A)), (a6, cI d 8 Vv), (b2, cI d 77 P), (b5, cI d 36 H)]) X rfl inT6 tyX6 tyX6_ok nmX6 5 (by decide) wd_801 rfl rfl (by decide +kernel) dX6_sea_2 0 rfl (by rfl) rfl (Nat.le_of_ble_eq_true rfl) rfl ?_
  refine g_iconst (v := 1) X dX6_sea_5 (by decide) ?_
  refine g_istore_n (lv' := [(1, .int 1), (0, .ref m0)]) X dX6_sea_6 rfl (by decide) rfl ?_
  have at_7 : ∀ (n_ : Nat) (p : Nat) (k : Nat) (y : Int32) (Vv2 : Nat → Int32) (hp : p ≤ tn) (hk : 96 ≤ p + k) (hJ : (y = 1 ∧ fofF A tn (k + 1) p = fofF A tn 97 0) ∨ (y = 0 ∧ fofF A tn 97 0 = some p)), (200 - p + (if y = 0 then 0 else 1)) < n_ → g 0 0 [(m0, cO 6 [.ref a0, .ref a1, .ref a2, .int (nI tn), .ref a4, .int (nI p), .ref a6, .int (nI rn), .ref a8, .ref a9, .int im, .ref b1, .ref b2, .ref b3, .ref b4, .ref b5, .ref b6]), (a0, cI d 36 K), (a1, cI d 36 L), (a2, cI d 5 S), (a4, cI d 96 (nF A)), (a6, cI d 8 Vv2), (b2, cI d 77 P), (b5, cI d 36 H)] [(0, .ref m0), (1, .int y)] 7 [] := by
    intro n_
    induction n_ with
    | zero => intro p k y Vv2 hp hk hJ hn_; exact absurd hn_ (Nat.not_lt_zero _)
    | succ n_ ih_7 =>
      intro p k y Vv2 hp hk hJ hn_7
      refine g_iload_n X dX6_sea_7 rfl 1 rfl ?_
      refine g_if_eq X 53 dX6_sea_8 (by decide) (fun c8_1 => ?_) (fun c8_1 => ?_)
      · have hf1 : fofF A tn 97 0 = some p := hJ.elim (fun z => absurd (z.1.symm.trans c8_1) (by decide)) (fun z => z.2)
        refine g_eq (lv' := [(0, .ref m0), (1, .int 0)]) rfl (lv_cons (rfl) (lv_cons (vI (c8_1)) (rfl))) ?_
        refine g_iload_n X dX6_sea_53 rfl 1 rfl ?_
        refine g_if_ne X 71 dX6_sea_54 (by decide) (fun h => absurd h (by decide)) (fun _ => ?_)
        refine g_aload_n X dX6_sea_57 rfl 0 rfl ?_
        refine g_iconst (v := 0) X dX6_sea_58 (by decide) ?_
        refine g_put (C := RX6) (T := TX6) (N := 17) (ci := 6) (v := .int 0) (ty := .int) (ws' := [(m0, cO 6 [.ref a0, .ref a1, .ref a2, .int 0, .ref a4, .int (nI p), .ref a6, .int (nI rn), .ref a8, .ref a9, .int im, .ref b1, .ref b2, .ref b3, .ref b4, .ref b5, .ref b6]), (a0, cI d 36 K), (a1, cI d 36 L), (a2, cI d 5 S), (a4, cI d 96 (nF A)), (a6, cI d 8 Vv2), (b2, cI d 77 P), (b5, cI d 36 H)]) X rfl inT6 tyX6 tyX6_ok nmX6 3 (by decide) wd_799 rfl rfl (by decide +kernel) dX6_sea_59 0 rfl (by rfl) rfl (Nat.le_of_ble_eq_true rfl) rfl ?_
        refine g_sipush (v := (-1000)) X dX6_sea_62 (by decide) ?_
        refine g_aload_n X dX6_sea_65 rfl 0 rfl ?_
        refine g_get (C := RX6) (T := TX6) (N := 17) (ci := 6) (v := .int (nI p)) X rfl inT6 5 (by decide) wd_801 rfl dX6_sea_66 0 rfl rfl ?_
        refine g_isub X dX6_sea_69 ?_
        have e_ : (sp_sea A tn K L S) = ((-1000) - (nI p), K, L, S) := sea_f hf1 (by omega)
        exact g_end X (gE_i dX6_sea_70 (rfl) (Nat.le_of_ble_eq_true rfl) (Nat.le_of_ble_eq_true rfl) ⟨p, Vv2, P, H, congrArg (fun z => some (Value.int z)) (by rw [e_]), ws_cons (congrArg (cO 6) (lcons (rfl) (lcons (rfl) (lcons (rfl) (lcons (vI (by rfl)) (lcons (rfl) (lcons (rfl) (lcons (rfl) (lcons (rfl) (lcons (rfl) (lcons (rfl) (lcons (rfl) (lcons (rfl) (lcons (rfl) (lcons (rfl) (lcons (rfl) (lcons (rfl) (lcons (rfl) (rfl))))))))))))))))))) (ws_cons (cI_eq (by rw [e_])) (ws_cons (cI_eq (by rw [e_])) (ws_cons (cI_eq (by rw [e_])) (ws_cons (rfl) (ws_cons (rfl) (ws_cons (rfl) (ws_cons (rfl) (rfl))))))))⟩)
      · have hy0 := c8_1
        have hs : fofF A tn (k + 1) p = fofF A tn 97 0 := hJ.elim (fun z => z.2) (fun z => absurd z.1 c8_1)
        have hst := st0_in (A := A) (tn := tn) hp
        refine g_aload_n X dX6_sea_11 rfl 0 rfl ?_
        refine g_iconst (v := 0) X dX6_sea_12 (by decide) ?_
        refine g_callV (ci := 6) (q0 := 0) (n := 1) (wr := [(a0, cI d 36 K), (a1, cI d 36 L), (a2, cI d 5 S), (b2, cI d 77 P), (b5, cI d 36 H)]) (As := [.int 0]) (st := []) X (ct_X6_statement_0 l d m0 a0 a1 a2 a4 a6 a8 a9 b1 b2 b3 b4 b5 b6 Vv2 A tn p rn im (by first | assumption | omega) (by first | assumption | exact hst.2 | omega) (by first | assumption | omega)) wd_863 wd_860 wd_862 wd_26 wd_58 hd_X6_statement rfl ⟨(Nat.le_of_ble_eq_true rfl), (Nat.le_of_ble_eq_true rfl)⟩ rfl rfl dX6_sea_13 ⟨(Nat.le_of_ble_eq_true rfl), (Nat.le_of_ble_eq_true rfl)⟩ rfl rfl (Nat.le_of_ble_eq_true rfl) [0, 4, 5] [1, 2, 3, 6, 7] rfl rfl rfl rfl rfl (by decide) rfl (fun r_ wo_ hp_ => ?_)
        obtain ⟨V7, rfl, rfl⟩ := hp_
        show g 0 0 [(a0, cI d 36 K), (a1, cI d 36 L), (a2, cI d 5 S), (b2, cI d 77 P), (b5, cI d 36 H), (m0, cO 6 [.ref a0, .ref a1, .ref a2, .int (nI tn), .ref a4, .int (nI ((st0 A tn p).2)), .ref a6, .int (nI rn), .ref a8, .ref a9, .int im, .ref b1, .ref b2, .ref b3, .ref b4, .ref b5, .ref b6]), (a4, cI d 96 (nF A)), (a6, cI d 8 V7)] [(0, .ref m0), (1, .int y)] 16 [.int ((st0 A tn p).1)]
        refine g_ws (ws' := [(m0, cO 6 [.ref a0, .ref a1, .ref a2, .int (nI tn), .ref a4, .int (nI ((st0 A tn p).2)), .ref a6, .int (nI rn), .ref a8, .ref a9, .int im, .ref b1, .ref b2, .ref b3, .ref b4, .ref b5, .ref b6]), (a0, cI d 36 K), (a1, cI d 36 L), (a2, cI d 5 S), (a4, cI d 96 (nF A)), (a6, cI d 8 V7), (b2, cI d 77 P), (b5, cI d 36 H)]) X [5, 0, 1, 2, 6, 7, 3, 4] rfl rfl rfl ?_
        refine g_iconst (v := 1) X dX6_sea_16 (by decide) ?_
        refine g_icmp_ne X 33 dX6_sea_17 (by decide) (fun c17_4 => ?_) (fun c17_4 => ?_)
        · refine g_iconst (v := 0) X dX6_sea_33 (by decide) ?_
          refine g_istore_n (lv' := [(1, .int 0), (0, .ref m0)]) X dX6_sea_34 rfl (by decide) rfl ?_
          refine g_iload_n X dX6_sea_35 rfl 0 rfl ?_
          refine g_if_eq X 7 dX6_sea_36 (by decide) (fun _ => ?_) (fun h => absurd h (by decide))
          refine g_lv (lv' := [(0, .ref m0), (1, .int 0)]) X [1, 0] rfl ?_
          exact ih_7 ((st0 A tn p).2) k 0 V7 (hst.2) (by omega) (Or.inr ⟨rfl, hs.symm.trans (fs_r c17_4)⟩) (by have hn := hn_7; rw [if_neg hy0] at hn; rw [if_pos rfl]; omega)
        · refine g_aload_n X dX6_sea_20 rfl 0 rfl ?_
          refine g_bipush (v := 59) X dX6_sea_21 (by decide) ?_
          refine g_dV (ci := 6) (q0 := 0) (n := 1) (wr := [(a0, cI d 36 K), (a1, cI d 36 L), (a2, cI d 5 S), (a6, cI d 8 V7), (b2, cI d 77 P), (b5, cI d 36 H)]) (ws' := [(m0, cO 6 [.ref a0, .ref a1, .ref a2, .int (nI tn), .ref a4, .int (nI (if ltA A tn ((st0 A tn p).2) = 59 then ((st0 A tn p).2) + 1 else ((st0 A tn p).2))), .ref a6, .int (nI rn), .ref a8, .ref a9, .int im, .ref b1, .ref b2, .ref b3, .ref b4, .ref b5, .ref b6]), (a0, cI d 36 K), (a1, cI d 36 L), (a2, cI d 5 S), (a4, cI d 96 (nF A)), (a6, cI d 8 V7), (b2, cI d 77 P), (b5, cI d 36 H)]) (st' := [.int (b2i (ltA A tn ((st0 A tn p).2) = 59))]) (As := [.int 59]) (st := []) X (ct_X6_is l d m0 a0 a1 a2 a4 a6 a8 a9 b1 b2 b3 b4 b5 b6 A tn ((st0 A tn p).2) rn im 59 (by first | assumption | omega) (by first | assumption | exact hst.2 | omega) (by decide)) wd_867 wd_864 wd_866 wd_27 wd_58 hd_X6_is rfl ⟨(Nat.le_of_ble_eq_true rfl), (Nat.le_of_ble_eq_true rfl)⟩ rfl rfl dX6_sea_23 ⟨(Nat.le_of_ble_eq_true rfl), (Nat.le_of_ble_eq_true rfl)⟩ rfl rfl (Nat.le_of_ble_eq_true rfl) [0, 4] [1, 2, 3, 5, 6, 7] rfl rfl rfl rfl rfl (by decide) rfl [6, 0, 1, 2, 7, 3, 4, 5] rfl rfl rfl rfl ?_
          refine g_ifB_eq X 33 dX6_sea_26 (by decide) (fun c26_6 => ?_) (fun c26_6 => ?_)
          · refine g_eq (ws' := [(m0, cO 6 [.ref a0, .ref a1, .ref a2, .int (nI tn), .ref a4, .int (nI ((st0 A tn p).2)), .ref a6, .int (nI rn), .ref a8, .ref a9, .int im, .ref b1, .ref b2, .ref b3, .ref b4, .ref b5, .ref b6]), (a0, cI d 36 K), (a1, cI d 36 L), (a2, cI d 5 S), (a4, cI d 96 (nF A)), (a6, cI d 8 V7), (b2, cI d 77 P), (b5, cI d 36 H)]) (ws_cons (congrArg (cO 6) (lcons (rfl) (lcons (rfl) (lcons (rfl) (lcons (rfl) (lcons (rfl) (lcons (vI (congrArg nI (if_neg c26_6))) (lcons (rfl) (lcons (rfl) (lcons (rfl) (lcons (rfl) (lcons (rfl) (lcons (rfl) (lcons (rfl) (lcons (rfl) (lcons (rfl) (lcons (rfl) (lcons (rfl) (rfl))))))))))))))))))) (ws_cons (rfl) (ws_cons (rfl) (ws_cons (rfl) (ws_cons (rfl) (ws_cons (rfl) (ws_cons (rfl) (ws_cons (rfl) (rfl))))))))) rfl ?_
            refine g_iconst (v := 0) X dX6_sea_33 (by decide) ?_
            refine g_istore_n (lv' := [(1, .int 0), (0, .ref m0)]) X dX6_sea_34 rfl (by decide) rfl ?_
            refine g_iload_n X dX6_sea_35 rfl 0 rfl ?_
            refine g_if_eq X 7 dX6_sea_36 (by decide) (fun _ => ?_) (fun h => absurd h (by decide))
            refine g_lv (lv' := [(0, .ref m0), (1, .int 0)]) X [1, 0] rfl ?_
            exact ih_7 ((st0 A tn p).2) k 0 V7 (hst.2) (by omega) (Or.inr ⟨rfl, hs.symm.trans (fs_q c17_4 c26_6)⟩) (by have hn := hn_7; rw [if_neg hy0] at hn; rw [if_pos rfl]; omega)
          · have h59 := ltA_i c26_6 (by decide)
            refine g_eq (ws' := [(m0, cO 6 [.ref a0, .ref a1, .ref a2, .int (nI tn), .ref a4, .int (nI ((st0 A tn p).2 + 1)), .ref a6, .int (nI rn), .ref a8, .ref a9, .int im, .ref b1, .ref b2, .ref b3, .ref b4, .ref b5, .ref b6]), (a0, cI d 36 K), (a1, cI d 36 L), (a2, cI d 5 S), (a4, cI d 96 (nF A)), (a6, cI d 8 V7), (b2, cI d 77 P), (b5, cI d 36 H)]) (ws_cons (congrArg (cO 6) (lcons (rfl) (lcons (rfl) (lcons (rfl) (lcons (rfl) (lcons (rfl) (lcons (vI (congrArg nI (if_pos c26_6))) (lcons (rfl) (lcons (rfl) (lcons (rfl) (lcons (rfl) (lcons (rfl) (lcons (rfl) (lcons (rfl) (lcons (rfl) (lcons (rfl) (lcons (rfl) (lcons (rfl) (rfl))))))))))))))))))) (ws_cons (rfl) (ws_cons (rfl) (ws_cons (rfl) (ws_cons (rfl) (ws_cons (rfl) (ws_cons (rfl) (ws_cons (rfl) (rfl))))))))) rfl ?_
            refine g_iconst (v := 1) X dX6_sea_29 (by decide) ?_
            refine g_goto X 34 dX6_sea_30 (by decide) ?_
            refine g_istore_n (lv' := [(1, .int 1), (0, .ref m0)]) X dX6_sea_34 rfl (by decide) rfl ?_
            refine g_iload_n X dX6_sea_35 rfl 0 rfl ?_
            refine g_if_eq X 7 dX6_sea_36 (by decide) (fun h => absurd h (by decide)) (fun _ => ?_)
            refine g_aload_n X dX6_sea_39 rfl 1 rfl ?_
            refine g_get (C := RX6) (T := TX6) (N := 17) (ci := 6) (v := .int (nI ((st0 A tn p).2 + 1))) X rfl inT6 5 (by decide) wd_801 rfl dX6_sea_40 0 rfl rfl ?_
            refine g_aload_n X dX6_sea_43 rfl 1 rfl ?_
            refine g_get (C := RX6) (T := TX6) (N := 17) (ci := 6) (v := .int (nI tn)) X rfl inT6 3 (by decide) wd_799 rfl dX6_sea_44 0 rfl rfl ?_
            refine g_icmpN_ne (a := ((st0 A tn p).2 + 1)) (b := tn) X rfl rfl (by omega) (by omega) 7 dX6_sea_47 (by decide) (fun c47_9 => ?_) (fun c47_9 => ?_)
            · refine g_lv (lv' := [(0, .ref m0), (1, .int 1)]) X [1, 0] rfl ?_
              exact ih_7 ((st0 A tn p).2 + 1) (k - 1) 1 V7 (by omega) (by omega) (Or.inl ⟨rfl, (fs_go (by omega) c17_4 c26_6 (by omega)).trans hs⟩) (by have hn := hn_7; rw [if_neg hy0] at hn; rw [if_neg (by decide)]; omega)
            · have hf0 : fofF A tn 97 0 = none := hs.symm.trans (fs_end c17_4 c26_6 (by omega))
              have htp : 0 < tn := by omega
              refine g_goto X 53 dX6_sea_50 (by decide) ?_
              refine g_iload_n X dX6_sea_53 rfl 0 rfl ?_
              refine g_if_ne X 71 dX6_sea_54 (by decide) (fun _ => ?_) (fun h => absurd h (by decide))
              refine g_aload_n X dX6_sea_71 rfl 1 rfl ?_
              refine g_aload_n X dX6_sea_72 rfl 1 rfl ?_
              refine g_get (C := RX6) (T := TX6) (N := 17) (ci := 6) (v := .ref b2) X rfl inT6 12 (by decide) wd_808 rfl dX6_sea_73 0 rfl rfl ?_
              refine g_dV (ci := 6) (q0 := 0) (n := 1) (wr := [(a4, cI d 96 (nF A)), (a6, cI d 8 V7), (b5, cI d 36 H)]) (ws' := [(m0, cO 6 [.ref a0, .ref a1, .ref a2, .int (nI tn), .ref a4, .int (nI ((st0 A tn p).2 + 1)), .ref a6, .int (nI rn), .ref a8, .ref a9, .int im, .ref b1, .ref b2, .ref b3, .ref b4, .ref b5, .ref b6]), (a0, cI d 36 K), (a1, cI d 36 L), (a2, cI d 5 S), (a4, cI d 96 (nF A)), (a6, cI d 8 V7), (b2, cI d 77 (kp K L S)), (b5, cI d 36 H)]) (st' := []) (As := [.ref b2]) (st := []) X (ct_X6_keep l d m0 a0 a1 a2 a4 a6 a8 a9 b1 b2 b3 b4 b5 b6 K L S P b2 tn ((st0 A tn p).2 + 1) rn im) wd_932 wd_929 wd_931 wd_40 wd_58 hd_X6_keep rfl ⟨(Nat.le_of_ble_eq_true rfl), (Nat.le_of_ble_eq_true rfl)⟩ rfl rfl dX6_sea_76 ⟨(Nat.le_of_ble_eq_true rfl), (Nat.le_of_ble_eq_true rfl)⟩ rfl rfl (Nat.le_of_ble_eq_true rfl) [0, 1, 2, 3, 6] [4, 5, 7] rfl rfl rfl rfl rfl (by decide) rfl [3, 4, 5, 6, 0, 1, 7, 2] rfl rfl rfl rfl ?_
              refine g_aload_n X dX6_sea_79 rfl 1 rfl ?_
              refine g_iconst (v := 0) X dX6_sea_80 (by decide) ?_
              refine g_put (C := RX6) (T := TX6) (N := 17) (ci := 6) (v := .int 0) (ty := .int) (ws' := [(m0, cO 6 [.ref a0, .ref a1, .ref a2, .int (nI tn), .ref a4, .int 0, .ref a6, .int (nI rn), .ref a8, .ref a9, .int im, .ref b1, .ref b2, .ref b3, .ref b4, .ref b5, .ref b6]), (a0, cI d 36 K), (a1, cI d 36 L), (a2, cI d 5 S), (a4, cI d 96 (nF A)), (a6, cI d 8 V7), (b2, cI d 77 (kp K L S)), (b5, cI d 36 H)]) X rfl inT6 tyX6 tyX6_ok nmX6 5 (by decide) wd_801 rfl rfl (by decide +kernel) dX6_sea_81 0 rfl (by rfl) rfl (Nat.le_of_ble_eq_true rfl) rfl ?_
              refine g_iconst (v := 0) X dX6_sea_84 (by decide) ?_
              refine g_istore_n (lv' := [(2, .int 0), (1, .int 1), (0, .ref m0)]) X dX6_sea_85 rfl (by decide) rfl ?_
              have at_86 : ∀ (n_ : Nat) (p : Nat) (n k : Nat) (K2 L2 S2 V2 H2 : Nat → Int32) (hp2 : p ≤ tn) (hn : n ≤ p) (hn0 : n = 0 → p = 0) (hk2 : 96 ≤ p + k) (hfm : p < tn → fofF A tn (k + 1) p = none) (hs2 : taF A tn (k + 1) p n K2 L2 S2 = taF A tn 97 0 0 K L S) (hh2 : cbe K2 S2 (S2 0)), (200 - p) < n_ → g 0 0 [(m0, cO 6 [.ref a0, .ref a1, .ref a2, .int (nI tn), .ref a4, .int (nI p), .ref a6, .int (nI rn), .ref a8, .ref a9, .int im, .ref b1, .ref b2, .ref b3, .ref b4, .ref b5, .ref b6]), (a0, cI d 36 K2), (a1, cI d 36 L2), (a2, cI d 5 S2), (a4, cI d 96 (nF A)), (a6, cI d 8 V2), (b2, cI d 77 (kp K L S)), (b5, cI d 36 H2)] [(0, .ref m0), (2, .int (nI n))] 86 [] := by
                intro n_
                induction n_ with
                | zero => intro p n k K2 L2 S2 V2 H2 hp2 hn hn0 hk2 hfm hs2 hh2 hn_; exact absurd hn_ (Nat.not_lt_zero _)
                | succ n_ ih_86 =>
                  intro p n k K2 L2 S2 V2 H2 hp2 hn hn0 hk2 hfm hs2 hh2 hn_86
                  refine g_aload_n X dX6_sea_86 rfl 0 rfl ?_
                  refine g_get (C := RX6) (T := TX6) (N := 17) (ci := 6) (v := .int (nI p)) X rfl inT6 5 (by decide) wd_801 rfl dX6_sea_87 0 rfl rfl ?_
                  refine g_aload_n X dX6_sea_90 rfl 0 rfl ?_
                  refine g_get (C := RX6) (T := TX6) (N := 17) (ci := 6) (v := .int (nI tn)) X rfl inT6 3 (by decide) wd_799 rfl dX6_sea_91 0 rfl rfl ?_
                  refine g_icmpN_ge (a := p) (b := tn) X rfl rfl (by omega) (by omega) 142 dX6_sea_94 (by decide) (fun c94_11 => ?_) (fun c94_11 => ?_)
                  · refine g_aload_n X dX6_sea_142 rfl 0 rfl ?_
                    refine g_iconst (v := 0) X dX6_sea_143 (by decide) ?_
                    refine g_put (C := RX6) (T := TX6) (N := 17) (ci := 6) (v := .int 0) (ty := .int) (ws' := [(m0, cO 6 [.ref a0, .ref a1, .ref a2, .int 0, .ref a4, .int (nI p), .ref a6, .int (nI rn), .ref a8, .ref a9, .int im, .ref b1, .ref b2, .ref b3, .ref b4, .ref b5, .ref b6]), (a0, cI d 36 K2), (a1, cI d 36 L2), (a2, cI d 5 S2), (a4, cI d 96 (nF A)), (a6, cI d 8 V2), (b2, cI d 77 (kp K L S)), (b5, cI d 36 H2)]) X rfl inT6 tyX6 tyX6_ok nmX6 3 (by decide) wd_799 rfl rfl (by decide +kernel) dX6_sea_144 0 rfl (by rfl) rfl (Nat.le_of_ble_eq_true rfl) rfl ?_
                    refine g_iload_n X dX6_sea_147 rfl 1 rfl ?_
                    have e_ : (sp_sea A tn K L S) = (nI n, K2, L2, S2) := sea_y hf0 hs2 (by omega) (by omega) (by omega)
                    exact g_end X (gE_i dX6_sea_148 (rfl) (Nat.le_of_ble_eq_true rfl) (Nat.le_of_ble_eq_true rfl) ⟨p, V2, (kp K L S), H2, congrArg (fun z => some (Value.int z)) (by rw [e_]), ws_cons (congrArg (cO 6) (lcons (rfl) (lcons (rfl) (lcons (rfl) (lcons (vI (by rfl)) (lcons (rfl) (lcons (rfl) (lcons (rfl) (lcons (rfl) (lcons (rfl) (lcons (rfl) (lcons (rfl) (lcons (rfl) (lcons (rfl) (lcons (rfl) (lcons (rfl) (lcons (rfl) (lcons (rfl) (rfl))))))))))))))))))) (ws_cons (cI_eq (by rw [e_])) (ws_cons (cI_eq (by rw [e_])) (ws_cons (cI_eq (by rw [e_])) (ws_cons (rfl) (ws_cons (rfl) (ws_cons (rfl) (ws_cons (rfl) (rfl))))))))⟩)
                  · have hlt : p < tn := by omega
                    have hfi := fofF_i (hfm hlt)
                    have h59 := fs_59 hfi.1 hfi.2.1
                    refine g_aload_n X dX6_sea_97 rfl 0 rfl ?_
                    refine g_get (C := RX6) (T := TX6) (N := 17) (ci := 6) (v := .int (nI p)) X rfl inT6 5 (by decide) wd_801 rfl dX6_sea_98 0 rfl rfl ?_
                    refine g_istore_n (lv' := [(3, .int (nI p)), (0, .ref m0), (2, .int (nI n))]) X dX6_sea_101 rfl (by decide) rfl ?_
                    refine g_aload_n X dX6_sea_102 rfl 1 rfl ?_
                    refine g_iconst (v := 1) X dX6_sea_103 (by decide) ?_
                    refine g_callV (ci := 6) (q0 := 0) (n := 1) (wr := [(b2, cI d 77 (kp K L S))]) (As := [.int 1]) (st := []) X (ct_X6_statement_1 l d m0 a0 a1 a2 a4 a6 a8 a9 b1 b2 b3 b4 b5 b6 K2 L2 S2 V2 H2 A tn p rn im (by first | assumption | omega) (hp2) (by first | assumption | omega) (hh2) (hfi.1) (hfi.2.1)) wd_863 wd_860 wd_862 wd_26 wd_58 hd_X6_statement rfl ⟨(Nat.le_of_ble_eq_true rfl), (Nat.le_of_ble_eq_true rfl)⟩ rfl rfl dX6_sea_104 ⟨(Nat.le_of_ble_eq_true rfl), (Nat.le_of_ble_eq_true rfl)⟩ rfl rfl (Nat.le_of_ble_eq_true rfl) [0, 1, 2, 3, 4, 5, 7] [6] rfl rfl rfl rfl rfl (by decide) rfl (fun r_ wo_ hp_ => ?_)
                    obtain ⟨K4, L4, S4, V4, H4, rfl, rfl, f12_0⟩ := hp_
                    show g 0 0 [(b2, cI d 77 (kp K L S)), (m0, cO 6 [.ref a0, .ref a1, .ref a2, .int (nI tn), .ref a4, .int (nI (p + strL.getD (fbi (ltA A tn p)) 0)), .ref a6, .int (nI rn), .ref a8, .ref a9, .int im, .ref b1, .ref b2, .ref b3, .ref b4, .ref b5, .ref b6]), (a0, cI d 36 K4), (a1, cI d 36 L4), (a2, cI d 5 S4), (a4, cI d 96 (nF A)), (a6, cI d 8 V4), (b5, cI d 36 H4)] [(3, .int (nI p)), (0, .ref m0), (2, .int (nI n))] 107 [.int ((tlr A tn (sg K2 (dsI K2 S2 (S2 0))) K2 L2 S2 p).1)]
                    refine g_ws (ws' := [(m0, cO 6 [.ref a0, .ref a1, .ref a2, .int (nI tn), .ref a4, .int (nI (p + strL.getD (fbi (ltA A tn p)) 0)), .ref a6, .int (nI rn), .ref a8, .ref a9, .int im, .ref b1, .ref b2, .ref b3, .ref b4, .ref b5, .ref b6]), (a0, cI d 36 K4), (a1, cI d 36 L4), (a2, cI d 5 S4), (a4, cI d 96 (nF A)), (a6, cI d 8 V4), (b2, cI d 77 (kp K L S)), (b5, cI d 36 H4)]) X [1, 2, 3, 4, 5, 6, 0, 7] rfl rfl rfl ?_
                    refine g_if_ne X 129 dX6_sea_107 (by decide) (fun c107_13 => ?_) (fun c107_13 => ?_)
                    · have hne := c107_13
                      have hx4 := f12_0 hne
                      refine g_aload_n X dX6_sea_129 rfl 1 rfl ?_
                      refine g_bipush (v := 59) X dX6_sea_130 (by decide) ?_
                      refine g_dV (ci := 6) (q0 := 0) (n := 1) (wr := [(a0, cI d 36 K4), (a1, cI d 36 L4), (a2, cI d 5 S4), (a6, cI d 8 V4), (b2, cI d 77 (kp K L S)), (b5, cI d 36 H4)]) (ws' := [(m0, cO 6 [.ref a0, .ref a1, .ref a2, .int (nI tn), .ref a4, .int (nI (if ltA A tn (p + strL.getD (fbi (ltA A tn p)) 0) = 59 then (p + strL.getD (fbi (ltA A tn p)) 0) + 1 else (p + strL.getD (fbi (ltA A tn p)) 0))), .ref a6, .int (nI rn), .ref a8, .ref a9, .int im, .ref b1, .ref b2, .ref b3, .ref b4, .ref b5, .ref b6]), (a0, cI d 36 K4), (a1, cI d 36 L4), (a2, cI d 5 S4), (a4, cI d 96 (nF A)), (a6, cI d 8 V4), (b2, cI d 77 (kp K L S)), (b5, cI d 36 H4)]) (st' := [.int (b2i (ltA A tn (p + strL.getD (fbi (ltA A tn p)) 0) = 59))]) (As := [.int 59]) (st := []) X (ct_X6_is l d m0 a0 a1 a2 a4 a6 a8 a9 b1 b2 b3 b4 b5 b6 A tn (p + strL.getD (fbi (ltA A tn p)) 0) rn im 59 (by first | assumption | omega) (by omega) (by decide)) wd_867 wd_864 wd_866 wd_27 wd_58 hd_X6_is rfl ⟨(Nat.le_of_ble_eq_true rfl), (Nat.le_of_ble_eq_true rfl)⟩ rfl rfl dX6_sea_132 ⟨(Nat.le_of_ble_eq_true rfl), (Nat.le_of_ble_eq_true rfl)⟩ rfl rfl (Nat.le_of_ble_eq_true rfl) [0, 4] [1, 2, 3, 5, 6, 7] rfl rfl rfl rfl rfl (by decide) rfl [6, 0, 1, 2, 7, 3, 4, 5] rfl rfl rfl rfl ?_
                      refine g_pop X dX6_sea_135 rfl ?_
                      refine g_eq (ws' := [(m0, cO 6 [.ref a0, .ref a1, .ref a2, .int (nI tn), .ref a4, .int (nI (p + 1 + strL.getD (fbi (ltA A tn p)) 0)), .ref a6, .int (nI rn), .ref a8, .ref a9, .int im, .ref b1, .ref b2, .ref b3, .ref b4, .ref b5, .ref b6]), (a0, cI d 36 K4), (a1, cI d 36 L4), (a2, cI d 5 S4), (a4, cI d 96 (nF A)), (a6, cI d 8 V4), (b2, cI d 77 (kp K L S)), (b5, cI d 36 H4)]) (ws_cons (congrArg (cO 6) (lcons (rfl) (lcons (rfl) (lcons (rfl) (lcons (rfl) (lcons (rfl) (lcons (vI (congrArg nI ((if_pos h59.1).trans (by omega)))) (lcons (rfl) (lcons (rfl) (lcons (rfl) (lcons (rfl) (lcons (rfl) (lcons (rfl) (lcons (rfl) (lcons (rfl) (lcons (rfl) (lcons (rfl) (lcons (rfl) (rfl))))))))))))))))))) (ws_cons (rfl) (ws_cons (rfl) (ws_cons (rfl) (ws_cons (rfl) (ws_cons (rfl) (ws_cons (rfl) (ws_cons (rfl) (rfl))))))))) rfl ?_
                      refine g_iinc (v := nI (n + 1)) (lv' := [(2, .int (nI (n + 1))), (3, .int (nI p)), (0, .ref m0)]) X dX6_sea_136 2 rfl (nI_inc _) (by decide) rfl ?_
                      refine g_goto X 86 dX6_sea_139 (by decide) ?_
                      refine g_lv (lv' := [(0, .ref m0), (2, .int (nI (n + 1)))]) X [2, 0] rfl ?_
                      exact ih_86 (p + 1 + strL.getD (fbi (ltA A tn p)) 0) (n + 1) (k - 1) K4 L4 S4 V4 H4 (by first | assumption | omega) (by first | assumption | omega) (fun z => absurd z (by omega)) (by first | assumption | omega) (fun h => fofF_nx (by omega) (hfm hlt) h) ((taF_g2 (by omega) hlt (tl_e hx4) hne).trans hs2) (tl_cb hh2 hne hx4) (by omega)
                    · refine g_aload_n X dX6_sea_110 rfl 1 rfl ?_
                      refine g_aload_n X dX6_sea_111 rfl 1 rfl ?_
                      refine g_get (C := RX6) (T := TX6) (N := 17) (ci := 6) (v := .ref b2) X rfl inT6 12 (by decide) wd_808 rfl dX6_sea_112 0 rfl rfl ?_
                      refine g_dV (ci := 6) (q0 := 0) (n := 1) (wr := [(a4, cI d 96 (nF A)), (a6, cI d 8 V4), (b5, cI d 36 H4)]) (ws' := [(m0, cO 6 [.ref a0, .ref a1, .ref a2, .int (nI tn), .ref a4, .int (nI (p + strL.getD (fbi (ltA A tn p)) 0)), .ref a6, .int (nI rn), .ref a8, .ref a9, .int im, .ref b1, .ref b2, .ref b3, .ref b4, .ref b5, .ref b6]), (a0, cI d 36 K), (a1, cI d 36 L), (a2, cI d 5 S), (a4, cI d 96 (nF A)), (a6, cI d 8 V4), (b2, cI d 77 (kp K L S)), (b5, cI d 36 H4)]) (st' := []) (As := [.ref b2]) (st := []) X (ct_X6_again l d m0 a0 a1 a2 a4 a6 a8 a9 b1 b2 b3 b4 b5 b6 K4 L4 S4 K L S b2 tn (p + strL.getD (fbi (ltA A tn p)) 0) rn im) wd_936 wd_933 wd_935 wd_41 wd_58 hd_X6_again rfl ⟨(Nat.le_of_ble_eq_true rfl), (Nat.le_of_ble_eq_true rfl)⟩ rfl rfl dX6_sea_115 ⟨(Nat.le_of_ble_eq_true rfl), (Nat.le_of_ble_eq_true rfl)⟩ rfl rfl (Nat.le_of_ble_eq_true rfl) [0, 1, 2, 3, 6] [4, 5, 7] rfl rfl rfl rfl rfl (by decide) rfl [3, 4, 5, 6, 0, 1, 7, 2] rfl rfl rfl rfl ?_
                      refine g_aload_n X dX6_sea_118 rfl 1 rfl ?_
                      refine g_iconst (v := 0) X dX6_sea_119 (by decide) ?_
                      refine g_put (C := RX6) (T := TX6) (N := 17) (ci := 6) (v := .int 0) (ty := .int) (ws' := [(m0, cO 6 [.ref a0, .ref a1, .ref a2, .int 0, .ref a4, .int (nI (p + strL.getD (fbi (ltA A tn p)) 0)), .ref a6, .int (nI rn), .ref a8, .ref a9, .int im, .ref b1, .ref b2, .ref b3, .ref b4, .ref b5, .ref b6]), (a0, cI d 36 K), (a1, cI d 36 L), (a2, cI d 5 S), (a4, cI d 96 (nF A)), (a6, cI d 8 V4), (b2, cI d 77 (kp K L S)), (b5, cI d 36 H4)]) X rfl inT6 tyX6 tyX6_ok nmX6 3 (by decide) wd_799 rfl rfl (by decide +kernel) dX6_sea_120 0 rfl (by rfl) rfl (Nat.le_of_ble_eq_true rfl) rfl ?_
                      refine g_sipush (v := (-2000)) X dX6_sea_123 (by decide) ?_
                      refine g_iload_n X dX6_sea_126 rfl 0 rfl ?_
                      refine g_isub X dX6_sea_127 ?_
                      have e_ : (sp_sea A tn K L S) = ((-2000) - (nI p), K, L, S) := sea_0 hf0 hs2 hlt htn c107_13
                      exact g_end X (gE_i dX6_sea_128 (rfl) (Nat.le_of_ble_eq_true rfl) (Nat.le_of_ble_eq_true rfl) ⟨(p + strL.getD (fbi (ltA A tn p)) 0), V4, (kp K L S), H4, congrArg (fun z => some (Value.int z)) (by rw [e_]), ws_cons (congrArg (cO 6) (lcons (rfl) (lcons (rfl) (lcons (rfl) (lcons (vI (by rfl)) (lcons (rfl) (lcons (rfl) (lcons (rfl) (lcons (rfl) (lcons (rfl) (lcons (rfl) (lcons (rfl) (lcons (rfl) (lcons (rfl) (lcons (rfl) (lcons (rfl) (lcons (rfl) (lcons (rfl) (rfl))))))))))))))))))) (ws_cons (cI_eq (by rw [e_])) (ws_cons (cI_eq (by rw [e_])) (ws_cons (cI_eq (by rw [e_])) (ws_cons (rfl) (ws_cons (rfl) (ws_cons (rfl) (ws_cons (rfl) (rfl))))))))⟩)
              refine g_lv (lv' := [(0, .ref m0), (2, .int 0)]) X [2, 0] rfl ?_
              exact g_eq (ws' := [(m0, cO 6 [.ref a0, .ref a1, .ref a2, .int (nI tn), .ref a4, .int (nI 0), .ref a6, .int (nI rn), .ref a8, .ref a9, .int im, .ref b1, .ref b2, .ref b3, .ref b4, .ref b5, .ref b6]), (a0, cI d 36 K), (a1, cI d 36 L), (a2, cI d 5 S), (a4, cI d 96 (nF A)), (a6, cI d 8 V7), (b2, cI d 77 (kp K L S)), (b5, cI d 36 H)]) (lv' := [(0, .ref m0), (2, .int (nI 0))]) (ws_cons (congrArg (cO 6) (lcons (rfl) (lcons (rfl) (lcons (rfl) (lcons (rfl) (lcons (rfl) (lcons (vI (by rfl)) (lcons (rfl) (lcons (rfl) (lcons (rfl) (lcons (rfl) (lcons (rfl) (lcons (rfl) (lcons (rfl) (lcons (rfl) (lcons (rfl) (lcons (rfl) (lcons (rfl) (rfl))))))))))))))))))) (ws_cons (rfl) (ws_cons (rfl) (ws_cons (rfl) (ws_cons (rfl) (ws_cons (rfl) (ws_cons (rfl) (ws_cons (rfl) (rfl))))))))) (lv_cons (rfl) (lv_cons (vI (by rfl)) (rfl))) (at_86 _ 0 0 96 K L S V7 H (by first | assumption | omega) (by first | assumption | omega) (fun _ => rfl) (by first | assumption | omega) (fun _ => hf0) (rfl) (hh) (Nat.lt_succ_self _))
  refine g_lv (lv' := [(0, .ref m0), (1, .int 1)]) X [1, 0] rfl ?_
  exact g_eq (ws' := [(m0, cO 6 [.ref a0, .ref a1, .ref a2, .int (nI tn), .ref a4, .int (nI 0), .ref a6, .int (nI rn), .ref a8, .ref a9, .int im, .ref b1, .ref b2, .ref b3, .ref b4, .ref b5, .ref b6]), (a0, cI d 36 K), (a1, cI d 36 L), (a2, cI d 5 S), (a4, cI d 96 (nF A)), (a6, cI d 8 Vv), (b2, cI d 77 P), (b5, cI d 36 H)]) (lv' := [(0, .ref m0), (1, .int 1)]) (ws_cons (congrArg (cO 6) (lcons (rfl) (lcons (rfl) (lcons (rfl) (lcons (rfl) (lcons (rfl) (lcons (vI (by rfl)) (lcons (rfl) (lcons (rfl) (lcons (rfl) (lcons (rfl) (lcons (rfl) (lcons (rfl) (lcons (rfl) (lcons (rfl) (lcons (rfl) (lcons (rfl) (lcons (rfl) (rfl))))))))))))))))))) (ws_cons (rfl) (ws_cons (rfl) (ws_cons (rfl) (ws_cons (rfl) (ws_cons (rfl) (ws_cons (rfl) (ws_cons (rfl) (rfl))))))))) (rfl) (at_7 _ 0 96 1 Vv (by first | assumption | omega) (by first | assumption | omega) (Or.inl ⟨rfl, rfl⟩) (Nat.lt_succ_self _))
