theorem hd_X6_beside : yX6_beside.cls ≠ "java/lang/invoke/MethodHandle" ∧ yX6_beside.cls ≠ "java/lang/invoke/VarHandle" ∧ (parseMethodDescriptor yX6_beside.desc).map (fun d => d.parameters.length) = some 2 := by decide +kernel
theorem hd_X6_canBe : yX6_canBe.cls = "HeWreckedHimselfModel" ∧ yX6_canBe.cls ≠ "java/lang/invoke/MethodHandle" ∧ yX6_canBe.cls ≠ "java/lang/invoke/VarHandle" ∧ (parseMethodDescriptor yX6_canBe.desc).map (fun d => d.parameters.length) = some 1 := by decide +kernel
theorem hd_X6_daysTo : yX6_daysTo.cls = "HeWreckedHimselfModel" ∧ yX6_daysTo.cls ≠ "java/lang/invoke/MethodHandle" ∧ yX6_daysTo.cls ≠ "java/lang/invoke/VarHandle" ∧ (parseMethodDescriptor yX6_daysTo.desc).map (fun d => d.parameters.length) = some 2 := by decide +kernel
set_option maxHeartbeats 4000000 in
set_option maxRecDepth 20000 in
theorem ct_X6_sails (l : Launch) (d : KD) (m0 a0 a1 a2 a4 a6 a8 a9 b1 b2 b3 b4 b5 b6 : Nat) (K S : Nat → Int32) (D : Nat → Int32) (dd j : Nat) (tn ap rn : Nat) (im : Int32) (hj : j < 36) : Ct l d yX6_sails cX6_sails 8 none { frames := 1, cells := 0, slots := 0, locals := 22 } [.ref m0, .int (nI j), .ref dd] [(m0, cO 6 [.ref a0, .ref a1, .ref a2, .int (nI tn), .ref a4, .int (nI ap), .ref a6, .int (nI rn), .ref a8, .ref a9, .int im, .ref b1, .ref b2, .ref b3, .ref b4, .ref b5, .ref b6]), (a0, cI d 36 K), (a2, cI d 5 S), (dd, cI d 36 D)] 0 0 (fun r wo => r = none ∧ wo = [(m0, cO 6 [.ref a0, .ref a1, .ref a2, .int (nI tn), .ref a4, .int (nI ap), .ref a6, .int (nI rn), .ref a8, .ref a9, .int im, .ref b1, .ref b2, .ref b3, .ref b4, .ref b5, .ref b6]), (a0, cI d 36 K), (a2, cI d 5 S), (dd, cI d 36 (dF (dsI K S (nI j))))]) := by
  refine ct_of (own := RX6) (ini := false) (by decide +kernel) rfl (fun h => by cases h) (Nat.le_of_ble_eq_true rfl) ?_
  intro g X
  show g 0 0 [(m0, cO 6 [.ref a0, .ref a1, .ref a2, .int (nI tn), .ref a4, .int (nI ap), .ref a6, .int (nI rn), .ref a8, .ref a9, .int im, .ref b1, .ref b2, .ref b3, .ref b4, .ref b5, .ref b6]), (a0, cI d 36 K), (a2, cI d 5 S), (dd, cI d 36 D)] [(0, .ref m0), (1, .int (nI j)), (2, .ref dd)] 0 []
  refine g_iconst (v := 0) X dX6_sails_0 (by decide) ?_
  refine g_istore_n (lv' := [(3, .int 0), (0, .ref m0), (1, .int (nI j)), (2, .ref dd)]) X dX6_sails_1 rfl (by decide) rfl ?_
  have at_2 : ∀ (n_ : Nat) (i : Nat) (hi : i ≤ 36), (36 - i) < n_ → g 0 0 [(m0, cO 6 [.ref a0, .ref a1, .ref a2, .int (nI tn), .ref a4, .int (nI ap), .ref a6, .int (nI rn), .ref a8, .ref a9, .int im, .ref b1, .ref b2, .ref b3, .ref b4, .ref b5, .ref b6]), (a0, cI d 36 K), (a2, cI d 5 S), (dd, cI d 36 (emF D i))] [(0, .ref m0), (1, .int (nI j)), (2, .ref dd), (3, .int (nI i))] 2 [] := by
    intro n_
    induction n_ with
    | zero => intro i hi hn_; exact absurd hn_ (Nat.not_lt_zero _)
    | succ n_ ih_2 =>
      intro i hi hn_2
      refine g_iload_n X dX6_sails_2 rfl 3 rfl ?_
      refine g_bipush (v := 36) X dX6_sails_3 (by decide) ?_
      refine g_icmpN_ge (a := i) (b := 36) X rfl rfl (by omega) (by omega) 19 dX6_sails_5 (by decide) (fun c5_1 => ?_) (fun c5_1 => ?_)
      · obtain rfl : i = 36 := by omega
        refine g_ext (ws' := [(m0, cO 6 [.ref a0, .ref a1, .ref a2, .int (nI tn), .ref a4, .int (nI ap), .ref a6, .int (nI rn), .ref a8, .ref a9, .int im, .ref b1, .ref b2, .ref b3, .ref b4, .ref b5, .ref b6]), (a0, cI d 36 K), (a2, cI d 5 S), (dd, cI d 36 (dF (fun _ => 1000000)))]) (h := dF (fun _ => 1000000)) X 3 rfl (emF_e) rfl ?_
        refine g_aload_n X dX6_sails_19 rfl 0 rfl ?_
        refine g_iload_n X dX6_sails_20 rfl 1 rfl ?_
        refine g_dV (ci := 6) (q0 := 0) (n := 1) (wr := [(dd, cI d 36 (dF (fun _ => 1000000)))]) (ws' := [(m0, cO 6 [.ref a0, .ref a1, .ref a2, .int (nI tn), .ref a4, .int (nI ap), .ref a6, .int (nI rn), .ref a8, .ref a9, .int im, .ref b1, .ref b2, .ref b3, .ref b4, .ref b5, .ref b6]), (a0, cI d 36 K), (a2, cI d 5 S), (dd, cI d 36 (dF (fun _ => 1000000)))]) (st' := [.int (b2i (csl (K j) (S 1)))]) (As := [.int (nI j)]) (st := []) X (ct_X6_canBe l d m0 a0 a1 a2 a4 a6 a8 a9 b1 b2 b3 b4 b5 b6 K S tn ap rn im j (by first | assumption | omega)) wd_891 wd_888 wd_890 wd_31 wd_58 hd_X6_canBe rfl ⟨(Nat.le_of_ble_eq_true rfl), (Nat.le_of_ble_eq_true rfl)⟩ rfl rfl dX6_sails_21 ⟨(Nat.le_of_ble_eq_true rfl), (Nat.le_of_ble_eq_true rfl)⟩ rfl rfl (Nat.le_of_ble_eq_true rfl) [0, 1, 2] [3] rfl rfl rfl rfl rfl (by decide) rfl [1, 2, 3, 0] rfl rfl rfl rfl ?_
        refine g_ifB_ne X 28 dX6_sails_24 (by decide) (fun c24_2 => ?_) (fun c24_2 => ?_)
        · have hsl := c24_2
          refine g_aload_n X dX6_sails_28 rfl 2 rfl ?_
          refine g_iload_n X dX6_sails_29 rfl 1 rfl ?_
          refine g_iconst (v := 0) X dX6_sails_30 (by decide) ?_
          refine g_iastore_N (k := j) (ws' := [(m0, cO 6 [.ref a0, .ref a1, .ref a2, .int (nI tn), .ref a4, .int (nI ap), .ref a6, .int (nI rn), .ref a8, .ref a9, .int im, .ref b1, .ref b2, .ref b3, .ref b4, .ref b5, .ref b6]), (a0, cI d 36 K), (a2, cI d 5 S), (dd, cI d 36 (upd (dF (fun _ => 1000000)) j 0))]) X rfl dX6_sails_31 3 rfl (by first | assumption | omega) (by omega) rfl ?_
          refine g_eq (ws' := [(m0, cO 6 [.ref a0, .ref a1, .ref a2, .int (nI tn), .ref a4, .int (nI ap), .ref a6, .int (nI rn), .ref a8, .ref a9, .int im, .ref b1, .ref b2, .ref b3, .ref b4, .ref b5, .ref b6]), (a0, cI d 36 K), (a2, cI d 5 S), (dd, cI d 36 (dF (ini j)))]) (ws_cons (rfl) (ws_cons (rfl) (ws_cons (rfl) (ws_cons (cI_eq (dR_i)) (rfl))))) rfl ?_
          refine g_iconst (v := 1) X dX6_sails_32 (by decide) ?_
          refine g_istore_n (lv' := [(3, .int 1), (0, .ref m0), (1, .int (nI j)), (2, .ref dd)]) X dX6_sails_33 rfl (by decide) rfl ?_
          have at_34 : ∀ (n_ : Nat) (y : Int32) (G : Nat → Nat) (hr : rIn K S j G) (hc : y = 0 → clq K S G 36), (smG G 36 + (if y = 0 then 0 else 1)) < n_ → g 0 0 [(m0, cO 6 [.ref a0, .ref a1, .ref a2, .int (nI tn), .ref a4, .int (nI ap), .ref a6, .int (nI rn), .ref a8, .ref a9, .int im, .ref b1, .ref b2, .ref b3, .ref b4, .ref b5, .ref b6]), (a0, cI d 36 K), (a2, cI d 5 S), (dd, cI d 36 (dF G))] [(0, .ref m0), (1, .int (nI j)), (2, .ref dd), (3, .int y)] 34 [] := by
            intro n_
            induction n_ with
            | zero => intro y G hr hc hn_; exact absurd hn_ (Nat.not_lt_zero _)
            | succ n_ ih_34 =>
              intro y G hr hc hn_34
              refine g_iload_n X dX6_sails_34 rfl 3 rfl ?_
              refine g_if_eq X 155 dX6_sails_35 (by decide) (fun c35_3 => ?_) (fun c35_3 => ?_)
              · refine g_ext (ws' := [(m0, cO 6 [.ref a0, .ref a1, .ref a2, .int (nI tn), .ref a4, .int (nI ap), .ref a6, .int (nI rn), .ref a8, .ref a9, .int im, .ref b1, .ref b2, .ref b3, .ref b4, .ref b5, .ref b6]), (a0, cI d 36 K), (a2, cI d 5 S), (dd, cI d 36 (dF (dsI K S (nI j))))]) (h := dF (dsI K S (nI j))) X 3 rfl (rIn_e hr (hc (by assumption)) hj hsl) rfl ?_
                exact g_end X (gE_v dX6_sails_155 (Nat.le_of_ble_eq_true rfl) (Nat.le_of_ble_eq_true rfl) ⟨rfl, rfl⟩)
              · have hy := c35_3
                refine g_iconst (v := 0) X dX6_sails_38 (by decide) ?_
                refine g_istore_n (lv' := [(3, .int 0), (0, .ref m0), (1, .int (nI j)), (2, .ref dd)]) X dX6_sails_39 rfl (by decide) rfl ?_
                refine g_iconst (v := 0) X dX6_sails_40 (by decide) ?_
                refine g_istore (lv' := [(4, .int 0), (3, .int 0), (0, .ref m0), (1, .int (nI j)), (2, .ref dd)]) X dX6_sails_41 (by decide) rfl ?_
                have at_43 : ∀ (n_ : Nat) (q : Nat) (z : Int32) (G2 : Nat → Nat) (hq : q ≤ 36) (hr2 : rIn K S j G2) (hq2 : z = 0 → G2 = G ∧ clq K S G2 q) (hs2 : ¬ z = 0 → smG G2 36 < smG G 36), (36 - q) < n_ → g 0 0 [(m0, cO 6 [.ref a0, .ref a1, .ref a2, .int (nI tn), .ref a4, .int (nI ap), .ref a6, .int (nI rn), .ref a8, .ref a9, .int im, .ref b1, .ref b2, .ref b3, .ref b4, .ref b5, .ref b6]), (a0, cI d 36 K), (a2, cI d 5 S), (dd, cI d 36 (dF G2))] [(0, .ref m0), (1, .int (nI j)), (2, .ref dd), (3, .int z), (4, .int (nI q))] 43 [] := by
                  intro n_
                  induction n_ with
                  | zero => intro q z G2 hq hr2 hq2 hs2 hn_; exact absurd hn_ (Nat.not_lt_zero _)
                  | succ n_ ih_43 =>
                    intro q z G2 hq hr2 hq2 hs2 hn_43
                    refine g_iload X dX6_sails_43 4 rfl ?_
                    refine g_bipush (v := 36) X dX6_sails_45 (by decide) ?_
                    refine g_icmpN_ge (a := q) (b := 36) X rfl rfl (by omega) (by omega) 152 dX6_sails_47 (by decide) (fun c47_4 => ?_) (fun c47_4 => ?_)
                    · obtain rfl : q = 36 := by omega
                      refine g_goto X 34 dX6_sails_152 (by decide) ?_
                      refine g_lv (lv' := [(0, .ref m0), (1, .int (nI j)), (2, .ref dd), (3, .int z)]) X [0, 1, 2, 3] rfl ?_
                      exact ih_34 z G2 (hr2) (fun h => (hq2 h).2) (by have hn := hn_34; rw [if_neg hy] at hn; by_cases e : z = 0; (rw [if_pos e]; have := (hq2 e).1; rw [this]; omega); (rw [if_neg e]; have := hs2 e; omega))
                    · refine g_iconst (v := 0) X dX6_sails_50 (by decide) ?_
                      refine g_istore (lv' := [(5, .int 0), (0, .ref m0), (1, .int (nI j)), (2, .ref dd), (3, .int z), (4, .int (nI q))]) X dX6_sails_51 (by decide) rfl ?_
                      have at_53 : ∀ (n_ : Nat) (w : Nat) (u : Int32) (G3 : Nat → Nat) (hw : w ≤ 4) (hr3 : rIn K S j G3) (hq3 : u = 0 → G3 = G ∧ clq K S G3 q ∧ clw K S G3 q w) (hs3 : ¬ u = 0 → smG G3 36 < smG G 36), (4 - w) < n_ → g 0 0 [(m0, cO 6 [.ref a0, .ref a1, .ref a2, .int (nI tn), .ref a4, .int (nI ap), .ref a6, .int (nI rn), .ref a8, .ref a9, .int im, .ref b1, .ref b2, .ref b3, .ref b4, .ref b5, .ref b6]), (a0, cI d 36 K), (a2, cI d 5 S), (dd, cI d 36 (dF G3))] [(0, .ref m0), (1, .int (nI j)), (2, .ref dd), (3, .int u), (4, .int (nI q)), (5, .int (nI w))] 53 [] := by
                        intro n_
                        induction n_ with
                        | zero => intro w u G3 hw hr3 hq3 hs3 hn_; exact absurd hn_ (Nat.not_lt_zero _)
                        | succ n_ ih_53 =>
                          intro w u G3 hw hr3 hq3 hs3 hn_53
                          refine g_iload X dX6_sails_53 5 rfl ?_
                          refine g_iconst (v := 4) X dX6_sails_55 (by decide) ?_
                          refine g_icmpN_ge (a := w) (b := 4) X rfl rfl (by omega) (by omega) 146 dX6_sails_56 (by decide) (fun c56_5 => ?_) (fun c56_5 => ?_)
                          · refine g_iinc (v := nI (q + 1)) (lv' := [(4, .int (nI (q + 1))), (0, .ref m0), (1, .int (nI j)), (2, .ref dd), (3, .int u), (5, .int (nI w))]) X dX6_sails_146 4 rfl (nI_inc _) (by decide) rfl ?_
                            refine g_goto X 43 dX6_sails_149 (by decide) ?_
                            refine g_lv (lv' := [(0, .ref m0), (1, .int (nI j)), (2, .ref dd), (3, .int u), (4, .int (nI (q + 1)))]) X [1, 2, 3, 4, 0] rfl ?_
                            exact ih_43 (q + 1) u G3 (by first | assumption | omega) (hr3) (fun h => ⟨(hq3 h).1, clq_s (hq3 h).2.1 (by have e4 : w = 4 := (by omega); exact e4 ▸ (hq3 h).2.2)⟩) (hs3) (by omega)
                          · refine g_iload X dX6_sails_59 4 rfl ?_
                            refine g_iload X dX6_sails_61 5 rfl ?_
                            refine g_dS (n := 2) (wr := [(m0, cO 6 [.ref a0, .ref a1, .ref a2, .int (nI tn), .ref a4, .int (nI ap), .ref a6, .int (nI rn), .ref a8, .ref a9, .int im, .ref b1, .ref b2, .ref b3, .ref b4, .ref b5, .ref b6]), (a0, cI d 36 K), (a2, cI d 5 S), (dd, cI d 36 (dF G3))]) (ws' := [(m0, cO 6 [.ref a0, .ref a1, .ref a2, .int (nI tn), .ref a4, .int (nI ap), .ref a6, .int (nI rn), .ref a8, .ref a9, .int im, .ref b1, .ref b2, .ref b3, .ref b4, .ref b5, .ref b6]), (a0, cI d 36 K), (a2, cI d 5 S), (dd, cI d 36 (dF G3))]) (st' := [.int (besM (nb q w))]) (As := [.int (nI q), .int (nI w)]) (st := []) X (ct_X6_beside l d q w (by first | assumption | omega) (by first | assumption | omega)) wd_907 wd_905 wd_906 wd_58 hd_X6_beside ⟨(Nat.le_of_ble_eq_true rfl), (Nat.le_of_ble_eq_true rfl)⟩ rfl rfl dX6_sails_63 ⟨(Nat.le_of_ble_eq_true rfl), (Nat.le_of_ble_eq_true rfl)⟩ rfl rfl (Nat.le_of_ble_eq_true rfl) [] [0, 1, 2, 3] rfl rfl rfl rfl rfl (by decide) [0, 1, 2, 3] rfl rfl rfl rfl ?_
                            refine g_istore (lv' := [(6, .int (besM (nb q w))), (0, .ref m0), (1, .int (nI j)), (2, .ref dd), (3, .int u), (4, .int (nI q)), (5, .int (nI w))]) X dX6_sails_66 (by decide) rfl ?_
                            refine g_aload_n X dX6_sails_68 rfl 3 rfl ?_
                            refine g_iload X dX6_sails_69 5 rfl ?_
                            refine g_iaload_N (k := q) X rfl dX6_sails_71 3 rfl (by first | assumption | omega) (by omega) ?_
                            refine g_bipush (v := (-9)) X dX6_sails_72 (by decide) ?_
                            refine g_icmp_eq X 140 dX6_sails_74 (by decide) (fun c74_6 => ?_) (fun c74_6 => ?_)
                            · refine g_iinc (v := nI (w + 1)) (lv' := [(5, .int (nI (w + 1))), (6, .int (besM (nb q w))), (0, .ref m0), (1, .int (nI j)), (2, .ref dd), (3, .int u), (4, .int (nI q))]) X dX6_sails_140 6 rfl (nI_inc _) (by decide) rfl ?_
                              refine g_goto X 53 dX6_sails_143 (by decide) ?_
                              refine g_lv (lv' := [(0, .ref m0), (1, .int (nI j)), (2, .ref dd), (3, .int u), (4, .int (nI q)), (5, .int (nI (w + 1)))]) X [2, 3, 4, 5, 6, 0] rfl ?_
                              exact ih_53 (w + 1) u G3 (by first | assumption | omega) (hr3) (fun h => ⟨(hq3 h).1, (hq3 h).2.1, clw_s (hq3 h).2.2 (fun e => by have h1 := hr3.1 (nb q w) e.1; have h2 := dI_m9.mp c74_6; omega)⟩) (hs3) (by omega)
                            · have hqf : G3 q < 1000000 := Decidable.not_not.mp (fun z => c74_6 (dI_m9.mpr z))
                              refine g_iload X dX6_sails_77 0 rfl ?_
                              refine g_bipush (v := (-9)) X dX6_sails_79 (by decide) ?_
                              refine g_icmp_eq X 140 dX6_sails_81 (by decide) (fun c81_7 => ?_) (fun c81_7 => ?_)
                              · refine g_iinc (v := nI (w + 1)) (lv' := [(5, .int (nI (w + 1))), (6, .int (besM (nb q w))), (0, .ref m0), (1, .int (nI j)), (2, .ref dd), (3, .int u), (4, .int (nI q))]) X dX6_sails_140 6 rfl (nI_inc _) (by decide) rfl ?_
                                refine g_goto X 53 dX6_sails_143 (by decide) ?_
                                refine g_lv (lv' := [(0, .ref m0), (1, .int (nI j)), (2, .ref dd), (3, .int u), (4, .int (nI q)), (5, .int (nI (w + 1)))]) X [2, 3, 4, 5, 6, 0] rfl ?_
                                exact ih_53 (w + 1) u G3 (by first | assumption | omega) (hr3) (fun h => ⟨(hq3 h).1, (hq3 h).2.1, clw_s (hq3 h).2.2 (fun e => absurd e.1 (besM_m9.mp c81_7))⟩) (hs3) (by omega)
                              · have hnb : nb q w < 36 := Decidable.not_not.mp (fun z => c81_7 (besM_m9.mpr z))
                                refine g_eq (lv' := [(6, .int (nI (nb q w))), (0, .ref m0), (1, .int (nI j)), (2, .ref dd), (3, .int u), (4, .int (nI q)), (5, .int (nI w))]) rfl (lv_cons (vI (besM_t hnb)) (lv_cons (rfl) (lv_cons (rfl) (lv_cons (rfl) (lv_cons (rfl) (lv_cons (rfl) (lv_cons (rfl) (rfl)))))))) ?_
                                refine g_aload_n X dX6_sails_84 rfl 1 rfl ?_
                                refine g_iload X dX6_sails_85 0 rfl ?_
                                refine g_dV (ci := 6) (q0 := 0) (n := 1) (wr := [(dd, cI d 36 (dF G3))]) (ws' := [(m0, cO 6 [.ref a0, .ref a1, .ref a2, .int (nI tn), .ref a4, .int (nI ap), .ref a6, .int (nI rn), .ref a8, .ref a9, .int im, .ref b1, .ref b2, .ref b3, .ref b4, .ref b5, .ref b6]), (a0, cI d 36 K), (a2, cI d 5 S), (dd, cI d 36 (dF G3))]) (st' := [.int (b2i (csl (K (nb q w)) (S 1)))]) (As := [.int (nI (nb q w))]) (st := []) X (ct_X6_canBe l d m0 a0 a1 a2 a4 a6 a8 a9 b1 b2 b3 b4 b5 b6 K S tn ap rn im (nb q w) (by first | assumption | omega)) wd_891 wd_888 wd_890 wd_31 wd_58 hd_X6_canBe rfl ⟨(Nat.le_of_ble_eq_true rfl), (Nat.le_of_ble_eq_true rfl)⟩ rfl rfl dX6_sails_87 ⟨(Nat.le_of_ble_eq_true rfl), (Nat.le_of_ble_eq_true rfl)⟩ rfl rfl (Nat.le_of_ble_eq_true rfl) [0, 1, 2] [3] rfl rfl rfl rfl rfl (by decide) rfl [1, 2, 3, 0] rfl rfl rfl rfl ?_
                                refine g_ifB_ne X 96 dX6_sails_90 (by decide) (fun c90_8 => ?_) (fun c90_8 => ?_)
                                · refine g_aload_n X dX6_sails_96 rfl 3 rfl ?_
                                  refine g_iload X dX6_sails_97 5 rfl ?_
                                  refine g_iaload_N (k := q) X rfl dX6_sails_99 3 rfl (by first | assumption | omega) (by omega) ?_
                                  refine g_tope (y := nI (G3 q)) (dI_t hqf) ?_
                                  refine g_aload_n X dX6_sails_100 rfl 1 rfl ?_
                                  refine g_iload X dX6_sails_101 0 rfl ?_
                                  refine g_iload X dX6_sails_103 6 rfl ?_
                                  refine g_dV (ci := 6) (q0 := 0) (n := 2) (wr := [(a2, cI d 5 S), (dd, cI d 36 (dF G3))]) (ws' := [(m0, cO 6 [.ref a0, .ref a1, .ref a2, .int (nI tn), .ref a4, .int (nI ap), .ref a6, .int (nI rn), .ref a8, .ref a9, .int im, .ref b1, .ref b2, .ref b3, .ref b4, .ref b5, .ref b6]), (a0, cI d 36 K), (a2, cI d 5 S), (dd, cI d 36 (dF G3))]) (st' := [.int (nI (cst (K (nb q w)) w)), .int (nI (G3 q))]) (As := [.int (nI (nb q w)), .int (nI w)]) (st := [.int (nI (G3 q))]) X (ct_X6_daysTo l d m0 a0 a1 a2 a4 a6 a8 a9 b1 b2 b3 b4 b5 b6 K tn ap rn im (nb q w) w (by first | assumption | omega) (by first | assumption | omega)) wd_911 wd_908 wd_910 wd_35 wd_58 hd_X6_daysTo rfl ⟨(Nat.le_of_ble_eq_true rfl), (Nat.le_of_ble_eq_true rfl)⟩ rfl rfl dX6_sails_105 ⟨(Nat.le_of_ble_eq_true rfl), (Nat.le_of_ble_eq_true rfl)⟩ rfl rfl (Nat.le_of_ble_eq_true rfl) [0, 1] [2, 3] rfl rfl rfl rfl rfl (by decide) rfl [2, 3, 0, 1] rfl rfl rfl rfl ?_
                                  refine g_iadd X dX6_sails_108 ?_
                                  refine g_tope (y := nI ((G3 q) + (cst (K (nb q w)) w))) (nI_add _ _) ?_
                                  refine g_istore (lv' := [(7, .int (nI ((G3 q) + (cst (K (nb q w)) w)))), (6, .int (nI (nb q w))), (0, .ref m0), (1, .int (nI j)), (2, .ref dd), (3, .int u), (4, .int (nI q)), (5, .int (nI w))]) X dX6_sails_109 (by decide) rfl ?_
                                  have h108 := rIn_108 hr3 (by omega) hqf
                                  have hcle := cst_le (K (nb q w)) w
                                  refine g_aload_n X dX6_sails_111 rfl 4 rfl ?_
                                  refine g_iload X dX6_sails_112 1 rfl ?_
                                  refine g_iaload_N (k := (nb q w)) X rfl dX6_sails_114 3 rfl (by first | assumption | omega) (by omega) ?_
                                  refine g_bipush (v := (-9)) X dX6_sails_115 (by decide) ?_
                                  refine g_icmp_eq X 132 dX6_sails_117 (by decide) (fun c117_9 => ?_) (fun c117_9 => ?_)
                                  · have hv : G3 q + cst (K (nb q w)) w < G3 (nb q w) := by have h3 := dI_m9.mp c117_9; omega
                                    refine g_aload_n X dX6_sails_132 rfl 4 rfl ?_
                                    refine g_iload X dX6_sails_133 1 rfl ?_
                                    refine g_iload X dX6_sails_135 0 rfl ?_
                                    refine g_iastore_N (k := (nb q w)) (ws' := [(m0, cO 6 [.ref a0, .ref a1, .ref a2, .int (nI tn), .ref a4, .int (nI ap), .ref a6, .int (nI rn), .ref a8, .ref a9, .int im, .ref b1, .ref b2, .ref b3, .ref b4, .ref b5, .ref b6]), (a0, cI d 36 K), (a2, cI d 5 S), (dd, cI d 36 (upd (dF G3) (nb q w) (nI ((G3 q) + (cst (K (nb q w)) w)))))]) X rfl dX6_sails_137 3 rfl (by first | assumption | omega) (by omega) rfl ?_
                                    refine g_eq (ws' := [(m0, cO 6 [.ref a0, .ref a1, .ref a2, .int (nI tn), .ref a4, .int (nI ap), .ref a6, .int (nI rn), .ref a8, .ref a9, .int im, .ref b1, .ref b2, .ref b3, .ref b4, .ref b5, .ref b6]), (a0, cI d 36 K), (a2, cI d 5 S), (dd, cI d 36 (dF (put G3 (nb q w) (G3 q + cst (K (nb q w)) w))))]) (ws_cons (rfl) (ws_cons (rfl) (ws_cons (rfl) (ws_cons (cI_eq (dR_u (by omega))) (rfl))))) rfl ?_
                                    refine g_iconst (v := 1) X dX6_sails_138 (by decide) ?_
                                    refine g_istore_n (lv' := [(3, .int 1), (7, .int (nI ((G3 q) + (cst (K (nb q w)) w)))), (6, .int (nI (nb q w))), (0, .ref m0), (1, .int (nI j)), (2, .ref dd), (4, .int (nI q)), (5, .int (nI w))]) X dX6_sails_139 rfl (by decide) rfl ?_
                                    refine g_iinc (v := nI (w + 1)) (lv' := [(5, .int (nI (w + 1))), (3, .int 1), (7, .int (nI ((G3 q) + (cst (K (nb q w)) w)))), (6, .int (nI (nb q w))), (0, .ref m0), (1, .int (nI j)), (2, .ref dd), (4, .int (nI q))]) X dX6_sails_140 7 rfl (nI_inc _) (by decide) rfl ?_
                                    refine g_goto X 53 dX6_sails_143 (by decide) ?_
                                    refine g_lv (lv' := [(0, .ref m0), (1, .int (nI j)), (2, .ref dd), (3, .int 1), (4, .int (nI q)), (5, .int (nI (w + 1)))]) X [4, 5, 6, 1, 7, 0] rfl ?_
                                    exact ih_53 (w + 1) 1 (put G3 (nb q w) (G3 q + cst (K (nb q w)) w)) (by first | assumption | omega) ((rIn_s hr3 (by omega) (by omega) hnb c90_8 hqf hv).1) (fun h => absurd h (by decide)) (fun _ => Nat.lt_of_lt_of_le (rIn_s hr3 (by omega) (by omega) hnb c90_8 hqf hv).2 (if e : u = 0 then (by rw [(hq3 e).1]; exact Nat.le_refl _) else Nat.le_of_lt (hs3 e))) (by omega)
                                  · have htf : G3 (nb q w) < 1000000 := Decidable.not_not.mp (fun z => c117_9 (dI_m9.mpr z))
                                    refine g_aload_n X dX6_sails_120 rfl 4 rfl ?_
                                    refine g_iload X dX6_sails_121 1 rfl ?_
                                    refine g_iaload_N (k := (nb q w)) X rfl dX6_sails_123 3 rfl (by first | assumption | omega) (by omega) ?_
                                    refine g_tope (y := nI (G3 (nb q w))) (dI_t htf) ?_
                                    refine g_iload X dX6_sails_124 0 rfl ?_
                                    refine g_icmpN_gt (a := (G3 (nb q w))) (b := ((G3 q) + (cst (K (nb q w)) w))) X rfl rfl (by omega) (by omega) 132 dX6_sails_126 (by decide) (fun c126_10 => ?_) (fun c126_10 => ?_)
                                    · have hv : G3 q + cst (K (nb q w)) w < G3 (nb q w) := c126_10
                                      refine g_aload_n X dX6_sails_132 rfl 4 rfl ?_
                                      refine g_iload X dX6_sails_133 1 rfl ?_
                                      refine g_iload X dX6_sails_135 0 rfl ?_
                                      refine g_iastore_N (k := (nb q w)) (ws' := [(m0, cO 6 [.ref a0, .ref a1, .ref a2, .int (nI tn), .ref a4, .int (nI ap), .ref a6, .int (nI rn), .ref a8, .ref a9, .int im, .ref b1, .ref b2, .ref b3, .ref b4, .ref b5, .ref b6]), (a0, cI d 36 K), (a2, cI d 5 S), (dd, cI d 36 (upd (dF G3) (nb q w) (nI ((G3 q) + (cst (K (nb q w)) w)))))]) X rfl dX6_sails_137 3 rfl (by first | assumption | omega) (by omega) rfl ?_
                                      refine g_eq (ws' := [(m0, cO 6 [.ref a0, .ref a1, .ref a2, .int (nI tn), .ref a4, .int (nI ap), .ref a6, .int (nI rn), .ref a8, .ref a9, .int im, .ref b1, .ref b2, .ref b3, .ref b4, .ref b5, .ref b6]), (a0, cI d 36 K), (a2, cI d 5 S), (dd, cI d 36 (dF (put G3 (nb q w) (G3 q + cst (K (nb q w)) w))))]) (ws_cons (rfl) (ws_cons (rfl) (ws_cons (rfl) (ws_cons (cI_eq (dR_u (by omega))) (rfl))))) rfl ?_
                                      refine g_iconst (v := 1) X dX6_sails_138 (by decide) ?_
                                      refine g_istore_n (lv' := [(3, .int 1), (7, .int (nI ((G3 q) + (cst (K (nb q w)) w)))), (6, .int (nI (nb q w))), (0, .ref m0), (1, .int (nI j)), (2, .ref dd), (4, .int (nI q)), (5, .int (nI w))]) X dX6_sails_139 rfl (by decide) rfl ?_
                                      refine g_iinc (v := nI (w + 1)) (lv' := [(5, .int (nI (w + 1))), (3, .int 1), (7, .int (nI ((G3 q) + (cst (K (nb q w)) w)))), (6, .int (nI (nb q w))), (0, .ref m0), (1, .int (nI j)), (2, .ref dd), (4, .int (nI q))]) X dX6_sails_140 7 rfl (nI_inc _) (by decide) rfl ?_
                                      refine g_goto X 53 dX6_sails_143 (by decide) ?_
                                      refine g_lv (lv' := [(0, .ref m0), (1, .int (nI j)), (2, .ref dd), (3, .int 1), (4, .int (nI q)), (5, .int (nI (w + 1)))]) X [4, 5, 6, 1, 7, 0] rfl ?_
                                      exact ih_53 (w + 1) 1 (put G3 (nb q w) (G3 q + cst (K (nb q w)) w)) (by first | assumption | omega) ((rIn_s hr3 (by omega) (by omega) hnb c90_8 hqf hv).1) (fun h => absurd h (by decide)) (fun _ => Nat.lt_of_lt_of_le (rIn_s hr3 (by omega) (by omega) hnb c90_8 hqf hv).2 (if e : u = 0 then (by rw [(hq3 e).1]; exact Nat.le_refl _) else Nat.le_of_lt (hs3 e))) (by omega)
                                    · refine g_goto X 140 dX6_sails_129 (by decide) ?_
                                      refine g_iinc (v := nI (w + 1)) (lv' := [(5, .int (nI (w + 1))), (7, .int (nI ((G3 q) + (cst (K (nb q w)) w)))), (6, .int (nI (nb q w))), (0, .ref m0), (1, .int (nI j)), (2, .ref dd), (3, .int u), (4, .int (nI q))]) X dX6_sails_140 7 rfl (nI_inc _) (by decide) rfl ?_
                                      refine g_goto X 53 dX6_sails_143 (by decide) ?_
                                      refine g_lv (lv' := [(0, .ref m0), (1, .int (nI j)), (2, .ref dd), (3, .int u), (4, .int (nI q)), (5, .int (nI (w + 1)))]) X [3, 4, 5, 6, 7, 0] rfl ?_
                                      exact ih_53 (w + 1) u G3 (by first | assumption | omega) (hr3) (fun h => ⟨(hq3 h).1, (hq3 h).2.1, clw_s (hq3 h).2.2 (fun e => Nat.not_lt.mp c126_10)⟩) (hs3) (by omega)
                                · refine g_goto X 140 dX6_sails_93 (by decide) ?_
                                  refine g_iinc (v := nI (w + 1)) (lv' := [(5, .int (nI (w + 1))), (6, .int (nI (nb q w))), (0, .ref m0), (1, .int (nI j)), (2, .ref dd), (3, .int u), (4, .int (nI q))]) X dX6_sails_140 6 rfl (nI_inc _) (by decide) rfl ?_
                                  refine g_goto X 53 dX6_sails_143 (by decide) ?_
                                  refine g_lv (lv' := [(0, .ref m0), (1, .int (nI j)), (2, .ref dd), (3, .int u), (4, .int (nI q)), (5, .int (nI (w + 1)))]) X [2, 3, 4, 5, 6, 0] rfl ?_
                                  exact ih_53 (w + 1) u G3 (by first | assumption | omega) (hr3) (fun h => ⟨(hq3 h).1, (hq3 h).2.1, clw_s (hq3 h).2.2 (fun e => absurd e.2 c90_8)⟩) (hs3) (by omega)
                      refine g_lv (lv' := [(0, .ref m0), (1, .int (nI j)), (2, .ref dd), (3, .int z), (4, .int (nI q)), (5, .int 0)]) X [1, 2, 3, 4, 5, 0] rfl ?_
                      exact g_eq (ws' := [(m0, cO 6 [.ref a0, .ref a1, .ref a2, .int (nI tn), .ref a4, .int (nI ap), .ref a6, .int (nI rn), .ref a8, .ref a9, .int im, .ref b1, .ref b2, .ref b3, .ref b4, .ref b5, .ref b6]), (a0, cI d 36 K), (a2, cI d 5 S), (dd, cI d 36 (dF G2))]) (lv' := [(0, .ref m0), (1, .int (nI j)), (2, .ref dd), (3, .int z), (4, .int (nI q)), (5, .int (nI 0))]) (rfl) (lv_cons (rfl) (lv_cons (rfl) (lv_cons (rfl) (lv_cons (rfl) (lv_cons (rfl) (lv_cons (vI (by rfl)) (rfl))))))) (at_53 _ 0 z G2 (by first | assumption | omega) (hr2) (fun h => ⟨(hq2 h).1, (hq2 h).2, clw_0⟩) (hs2) (Nat.lt_succ_self _))
                refine g_lv (lv' := [(0, .ref m0), (1, .int (nI j)), (2, .ref dd), (3, .int 0), (4, .int 0)]) X [2, 3, 4, 1, 0] rfl ?_
                exact g_eq (ws' := [(m0, cO 6 [.ref a0, .ref a1, .ref a2, .int (nI tn), .ref a4, .int (nI ap), .ref a6, .int (nI rn), .ref a8, .ref a9, .int im, .ref b1, .ref b2, .ref b3, .ref b4, .ref b5, .ref b6]), (a0, cI d 36 K), (a2, cI d 5 S), (dd, cI d 36 (dF G))]) (lv' := [(0, .ref m0), (1, .int (nI j)), (2, .ref dd), (3, .int 0), (4, .int (nI 0))]) (rfl) (lv_cons (rfl) (lv_cons (rfl) (lv_cons (rfl) (lv_cons (rfl) (lv_cons (vI (by rfl)) (rfl)))))) (at_43 _ 0 0 G (by first | assumption | omega) (hr) (fun _ => ⟨rfl, clq_0⟩) (fun h => absurd rfl h) (Nat.lt_succ_self _))
          refine g_lv (lv' := [(0, .ref m0), (1, .int (nI j)), (2, .ref dd), (3, .int 1)]) X [1, 2, 3, 0] rfl ?_
          exact at_34 _ 1 (ini j) (rIn_0) (fun h => absurd h (by decide)) (Nat.lt_succ_self _)
        · exact g_end X (gE_v dX6_sails_27 (Nat.le_of_ble_eq_true rfl) (Nat.le_of_ble_eq_true rfl) ⟨rfl, ws_cons (rfl) (ws_cons (rfl) (ws_cons (rfl) (ws_cons (cI_eq (dsI_no hj (by assumption))) (rfl))))⟩)
      · refine g_aload_n X dX6_sails_8 rfl 2 rfl ?_
        refine g_iload_n X dX6_sails_9 rfl 3 rfl ?_
        refine g_bipush (v := (-9)) X dX6_sails_10 (by decide) ?_
        refine g_iastore_N (k := i) (ws' := [(m0, cO 6 [.ref a0, .ref a1, .ref a2, .int (nI tn), .ref a4, .int (nI ap), .ref a6, .int (nI rn), .ref a8, .ref a9, .int im, .ref b1, .ref b2, .ref b3, .ref b4, .ref b5, .ref b6]), (a0, cI d 36 K), (a2, cI d 5 S), (dd, cI d 36 (upd (emF D i) i (-9)))]) X rfl dX6_sails_12 3 rfl (by first | assumption | omega) (by omega) rfl ?_
        refine g_iinc (v := nI (i + 1)) (lv' := [(3, .int (nI (i + 1))), (0, .ref m0), (1, .int (nI j)), (2, .ref dd)]) X dX6_sails_13 3 rfl (nI_inc _) (by decide) rfl ?_
        refine g_goto X 2 dX6_sails_16 (by decide) ?_
        refine g_lv (lv' := [(0, .ref m0), (1, .int (nI j)), (2, .ref dd), (3, .int (nI (i + 1)))]) X [1, 2, 3, 0] rfl ?_
        exact g_eq (ws' := [(m0, cO 6 [.ref a0, .ref a1, .ref a2, .int (nI tn), .ref a4, .int (nI ap), .ref a6, .int (nI rn), .ref a8, .ref a9, .int im, .ref b1, .ref b2, .ref b3, .ref b4, .ref b5, .ref b6]), (a0, cI d 36 K), (a2, cI d 5 S), (dd, cI d 36 (emF D (i + 1)))]) (lv' := [(0, .ref m0), (1, .int (nI j)), (2, .ref dd), (3, .int (nI (i + 1)))]) (ws_cons (rfl) (ws_cons (rfl) (ws_cons (rfl) (ws_cons (cI_eq (emF_s)) (rfl))))) (rfl) (ih_2 (i + 1) (by first | assumption | omega) (by omega))
  refine g_lv (lv' := [(0, .ref m0), (1, .int (nI j)), (2, .ref dd), (3, .int 0)]) X [1, 2, 3, 0] rfl ?_
  exact g_eq (ws' := [(m0, cO 6 [.ref a0, .ref a1, .ref a2, .int (nI tn), .ref a4, .int (nI ap), .ref a6, .int (nI rn), .ref a8, .ref a9, .int im, .ref b1, .ref b2, .ref b3, .ref b4, .ref b5, .ref b6]), (a0, cI d 36 K), (a2, cI d 5 S), (dd, cI d 36 (emF D 0))]) (lv' := [(0, .ref m0), (1, .int (nI j)), (2, .ref dd), (3, .int (nI 0))]) (ws_cons (rfl) (ws_cons (rfl) (ws_cons (rfl) (ws_cons (cI_eq (emF_0)) (rfl))))) (lv_cons (rfl) (lv_cons (rfl) (lv_cons (rfl) (lv_cons (vI (by rfl)) (rfl))))) (at_2 _ 0 (by first | assumption | omega) (Nat.lt_succ_self _))
