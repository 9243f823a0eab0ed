theorem hd_X6_shakes : yX6_shakes.cls = "HeWreckedHimselfModel" ∧ yX6_shakes.cls ≠ "java/lang/invoke/MethodHandle" ∧ yX6_shakes.cls ≠ "java/lang/invoke/VarHandle" ∧ (parseMethodDescriptor yX6_shakes.desc).map (fun d => d.parameters.length) = some 1 := by decide +kernel
set_option maxHeartbeats 4000000 in
set_option maxRecDepth 20000 in
theorem ct_X6_shakes (l : Launch) (d : KD) (m0 a0 a1 a2 a4 a6 a8 a9 b1 b2 b3 b4 b5 b6 : Nat) (K S U : Nat → Int32) (tn ap rn : Nat) (im : Int32) (j : Nat) (hj : j < 36) (hh : cbe K S (S 0)) : Ct l d yX6_shakes cX6_shakes 11 (some .int) { frames := 1, cells := 0, slots := 0, locals := 22 } [.ref m0, .int (nI j)] [(m0, cO 6 [.ref a0, .ref a1, .ref a2, .int (nI tn), .ref a4, .int (nI ap), .ref a6, .int (nI rn), .ref a8, .ref a9, .int im, .ref b1, .ref b2, .ref b3, .ref b4, .ref b5, .ref b6]), (a0, cI d 36 K), (a2, cI d 5 S), (b6, cI d 360 U)] 0 0 (fun r wo => ∃ (U' : Nat → Int32), r = some (.int (dI (shk K S j))) ∧ wo = [(m0, cO 6 [.ref a0, .ref a1, .ref a2, .int (nI tn), .ref a4, .int (nI ap), .ref a6, .int (nI rn), .ref a8, .ref a9, .int im, .ref b1, .ref b2, .ref b3, .ref b4, .ref b5, .ref b6]), (a0, cI d 36 K), (a2, cI d 5 S), (b6, cI d 360 U')]) := by
  refine ct_of (own := RX6) (ini := false) (by decide +kernel) rfl (fun h => by cases h) (Nat.le_of_ble_eq_true rfl) ?_
  intro g X
  show g 0 0 [(m0, cO 6 [.ref a0, .ref a1, .ref a2, .int (nI tn), .ref a4, .int (nI ap), .ref a6, .int (nI rn), .ref a8, .ref a9, .int im, .ref b1, .ref b2, .ref b3, .ref b4, .ref b5, .ref b6]), (a0, cI d 36 K), (a2, cI d 5 S), (b6, cI d 360 U)] [(0, .ref m0), (1, .int (nI j))] 0 []
  obtain ⟨jh, hjh, e0⟩ := sq_nat hh.1
  have hcj : csl (K jh) (S 1) := (cbe_N hjh).mp (e0 ▸ hh)
  refine g_iconst (v := 0) X dX6_shakes_0 (by decide) ?_
  refine g_istore_n (lv' := [(2, .int 0), (0, .ref m0), (1, .int (nI j))]) X dX6_shakes_1 rfl (by decide) rfl ?_
  have at_2 : ∀ (n_ : Nat) (i : Nat) (hi : i ≤ 360), (360 - i) < n_ → g 0 0 [(m0, cO 6 [.ref a0, .ref a1, .ref a2, .int (nI tn), .ref a4, .int (nI ap), .ref a6, .int (nI rn), .ref a8, .ref a9, .int im, .ref b1, .ref b2, .ref b3, .ref b4, .ref b5, .ref b6]), (a0, cI d 36 K), (a2, cI d 5 S), (b6, cI d 360 (emF U i))] [(0, .ref m0), (1, .int (nI j)), (2, .int (nI i))] 2 [] := by
    intro n_
    induction n_ with
    | zero => intro i hi hn_; exact absurd hn_ (Nat.not_lt_zero _)
    | succ n_ ih_2 =>
      intro i hi hn_2
      refine g_iload_n X dX6_shakes_2 rfl 2 rfl ?_
      refine g_sipush (v := 360) X dX6_shakes_3 (by decide) ?_
      refine g_icmpN_ge (a := i) (b := 360) X rfl rfl (by omega) (by omega) 23 dX6_shakes_6 (by decide) (fun c6_1 => ?_) (fun c6_1 => ?_)
      · obtain rfl : i = 360 := by omega
        refine g_ext (ws' := [(m0, cO 6 [.ref a0, .ref a1, .ref a2, .int (nI tn), .ref a4, .int (nI ap), .ref a6, .int (nI rn), .ref a8, .ref a9, .int im, .ref b1, .ref b2, .ref b3, .ref b4, .ref b5, .ref b6]), (a0, cI d 36 K), (a2, cI d 5 S), (b6, cI d 360 (dF (fun _ => 1000000)))]) (h := dF (fun _ => 1000000)) X 3 rfl (emF_e3) rfl ?_
        refine g_aload_n X dX6_shakes_23 rfl 0 rfl ?_
        refine g_get (C := RX6) (T := TX6) (N := 17) (ci := 6) (v := .ref b6) X rfl inT6 16 (by decide) wd_812 rfl dX6_shakes_24 0 rfl rfl ?_
        refine g_bipush (v := 10) X dX6_shakes_27 (by decide) ?_
        refine g_aload_n X dX6_shakes_29 rfl 0 rfl ?_
        refine g_get (C := RX6) (T := TX6) (N := 17) (ci := 6) (v := .ref a2) X rfl inT6 2 (by decide) wd_798 rfl dX6_shakes_30 0 rfl rfl ?_
        refine g_iconst (v := 0) X dX6_shakes_33 (by decide) ?_
        refine g_iaload_N (k := 0) X rfl dX6_shakes_34 2 rfl (by first | assumption | omega) (by omega) ?_
        refine g_tope (y := nI jh) (e0) ?_
        refine g_imul X dX6_shakes_35 ?_
        refine g_tope (y := nI (10 * jh)) (nI_mulN _ _) ?_
        refine g_bipush (v := 8) X dX6_shakes_36 (by decide) ?_
        refine g_iadd X dX6_shakes_38 ?_
        refine g_tope (y := nI ((10 * jh) + 8)) (nI_add _ _) ?_
        refine g_iconst (v := 0) X dX6_shakes_39 (by decide) ?_
        refine g_iastore_N (k := ((10 * jh) + 8)) (ws' := [(m0, cO 6 [.ref a0, .ref a1, .ref a2, .int (nI tn), .ref a4, .int (nI ap), .ref a6, .int (nI rn), .ref a8, .ref a9, .int im, .ref b1, .ref b2, .ref b3, .ref b4, .ref b5, .ref b6]), (a0, cI d 36 K), (a2, cI d 5 S), (b6, cI d 360 (upd (dF (fun _ => 1000000)) ((10 * jh) + 8) 0))]) X rfl dX6_shakes_40 3 rfl (by first | assumption | omega) (by omega) rfl ?_
        refine g_eq (ws' := [(m0, cO 6 [.ref a0, .ref a1, .ref a2, .int (nI tn), .ref a4, .int (nI ap), .ref a6, .int (nI rn), .ref a8, .ref a9, .int im, .ref b1, .ref b2, .ref b3, .ref b4, .ref b5, .ref b6]), (a0, cI d 36 K), (a2, cI d 5 S), (b6, cI d 360 (dF (ini (10 * jh + 8))))]) (ws_cons (rfl) (ws_cons (rfl) (ws_cons (rfl) (ws_cons (cI_eq (dR_i)) (rfl))))) rfl ?_
        refine g_iconst (v := 1) X dX6_shakes_41 (by decide) ?_
        refine g_istore_n (lv' := [(2, .int 1), (0, .ref m0), (1, .int (nI j))]) X dX6_shakes_42 rfl (by decide) rfl ?_
        have at_43 : ∀ (n_ : Nat) (y : Int32) (G : Nat → Nat) (hr : rT K S jh G) (hc : y = 0 → tcq K S G 360), (smG G 360 + (if y = 0 then 0 else 1)) < n_ → g 0 0 [(m0, cO 6 [.ref a0, .ref a1, .ref a2, .int (nI tn), .ref a4, .int (nI ap), .ref a6, .int (nI rn), .ref a8, .ref a9, .int im, .ref b1, .ref b2, .ref b3, .ref b4, .ref b5, .ref b6]), (a0, cI d 36 K), (a2, cI d 5 S), (b6, cI d 360 (dF G))] [(0, .ref m0), (1, .int (nI j)), (2, .int y)] 43 [] := by
          intro n_
          induction n_ with
          | zero => intro y G hr hc hn_; exact absurd hn_ (Nat.not_lt_zero _)
          | succ n_ ih_43 =>
            intro y G hr hc hn_43
            refine g_iload_n X dX6_shakes_43 rfl 2 rfl ?_
            refine g_if_eq X 251 dX6_shakes_44 (by decide) (fun c44_2 => ?_) (fun c44_2 => ?_)
            · have hcl := hc c44_2
              have hse := fun t ht => shk_e hjh e0 hcj hr hcl (t := t) ht
              refine g_bipush (v := (-9)) X dX6_shakes_251 (by decide) ?_
              refine g_istore_n (lv' := [(3, .int (-9)), (0, .ref m0), (1, .int (nI j)), (2, .int y)]) X dX6_shakes_253 rfl (by decide) rfl ?_
              refine g_iconst (v := 0) X dX6_shakes_254 (by decide) ?_
              refine g_istore (lv' := [(4, .int 0), (3, .int (-9)), (0, .ref m0), (1, .int (nI j)), (2, .int y)]) X dX6_shakes_255 (by decide) rfl ?_
              have at_257 : ∀ (n_ : Nat) (w : Nat) (hw : w ≤ 5), (5 - w) < n_ → g 0 0 [(m0, cO 6 [.ref a0, .ref a1, .ref a2, .int (nI tn), .ref a4, .int (nI ap), .ref a6, .int (nI rn), .ref a8, .ref a9, .int im, .ref b1, .ref b2, .ref b3, .ref b4, .ref b5, .ref b6]), (a0, cI d 36 K), (a2, cI d 5 S), (b6, cI d 360 (dF G))] [(0, .ref m0), (1, .int (nI j)), (3, .int (dI (lsF (tuF G j) w))), (4, .int (nI w))] 257 [] := by
                intro n_
                induction n_ with
                | zero => intro w hw hn_; exact absurd hn_ (Nat.not_lt_zero _)
                | succ n_ ih_257 =>
                  intro w hw hn_257
                  refine g_iload X dX6_shakes_257 3 rfl ?_
                  refine g_iconst (v := 5) X dX6_shakes_259 (by decide) ?_
                  refine g_icmpN_ge (a := w) (b := 5) X rfl rfl (by omega) (by omega) 309 dX6_shakes_260 (by decide) (fun c260_3 => ?_) (fun c260_3 => ?_)
                  · obtain rfl : w = 5 := by omega
                    refine g_iload_n X dX6_shakes_309 rfl 2 rfl ?_
                    exact g_end X (gE_i dX6_shakes_310 (rfl) (Nat.le_of_ble_eq_true rfl) (Nat.le_of_ble_eq_true rfl) ⟨(dF G), congrArg (fun z => some (Value.int z)) (congrArg dI (hse j hj)), rfl⟩)
                  · refine g_aload_n X dX6_shakes_263 rfl 0 rfl ?_
                    refine g_get (C := RX6) (T := TX6) (N := 17) (ci := 6) (v := .ref b6) X rfl inT6 16 (by decide) wd_812 rfl dX6_shakes_264 0 rfl rfl ?_
                    refine g_bipush (v := 10) X dX6_shakes_267 (by decide) ?_
                    refine g_iload_n X dX6_shakes_269 rfl 1 rfl ?_
                    refine g_imul X dX6_shakes_270 ?_
                    refine g_tope (y := nI (10 * j)) (nI_mulN _ _) ?_
                    refine g_iconst (v := 2) X dX6_shakes_271 (by decide) ?_
                    refine g_iload X dX6_shakes_272 3 rfl ?_
                    refine g_imul X dX6_shakes_274 ?_
                    refine g_tope (y := nI (2 * w)) (nI_mulN _ _) ?_
                    refine g_iadd X dX6_shakes_275 ?_
                    refine g_tope (y := nI ((10 * j) + (2 * w))) (nI_add _ _) ?_
                    refine g_iconst (v := 1) X dX6_shakes_276 (by decide) ?_
                    refine g_iadd X dX6_shakes_277 ?_
                    refine g_tope (y := nI (((10 * j) + (2 * w)) + 1)) (nI_add _ _) ?_
                    refine g_iaload_N (k := (((10 * j) + (2 * w)) + 1)) X rfl dX6_shakes_278 3 rfl (by first | assumption | omega) (by omega) ?_
                    refine g_istore (lv' := [(5, .int (dI (G (((10 * j) + (2 * w)) + 1)))), (0, .ref m0), (1, .int (nI j)), (3, .int (dI (lsF (tuF G j) w))), (4, .int (nI w))]) X dX6_shakes_279 (by decide) rfl ?_
                    refine g_iload X dX6_shakes_281 0 rfl ?_
                    refine g_bipush (v := (-9)) X dX6_shakes_283 (by decide) ?_
                    refine g_icmp_eq X 303 dX6_shakes_285 (by decide) (fun c285_4 => ?_) (fun c285_4 => ?_)
                    · refine g_iinc (v := nI (w + 1)) (lv' := [(4, .int (nI (w + 1))), (5, .int (dI (G (((10 * j) + (2 * w)) + 1)))), (0, .ref m0), (1, .int (nI j)), (3, .int (dI (lsF (tuF G j) w)))]) X dX6_shakes_303 4 rfl (nI_inc _) (by decide) rfl ?_
                      refine g_goto X 257 dX6_shakes_306 (by decide) ?_
                      refine g_lv (lv' := [(0, .ref m0), (1, .int (nI j)), (3, .int (dI (lsF (tuF G j) w))), (4, .int (nI (w + 1)))]) X [2, 3, 4, 0] rfl ?_
                      exact g_eq (ws' := [(m0, cO 6 [.ref a0, .ref a1, .ref a2, .int (nI tn), .ref a4, .int (nI ap), .ref a6, .int (nI rn), .ref a8, .ref a9, .int im, .ref b1, .ref b2, .ref b3, .ref b4, .ref b5, .ref b6]), (a0, cI d 36 K), (a2, cI d 5 S), (b6, cI d 360 (dF G))]) (lv' := [(0, .ref m0), (1, .int (nI j)), (3, .int (dI (lsF (tuF G j) (w + 1)))), (4, .int (nI (w + 1)))]) (rfl) (lv_cons (rfl) (lv_cons (rfl) (lv_cons (vI (congrArg dI (lsF_n (f := (tuF G j)) (by have h1 := dI_m9.mp c285_4; have h2 := lsF_1 (tuF G j) w; show ¬ G (10 * j + 2 * w + 1) < _; omega)))) (lv_cons (rfl) (rfl))))) (ih_257 (w + 1) (by first | assumption | omega) (by omega))
                    · have hgf : G (10 * j + 2 * w + 1) < 1000000 := Decidable.not_not.mp (fun z => c285_4 (dI_m9.mpr z))
                      refine g_eq (lv' := [(5, .int (nI (G (10 * j + 2 * w + 1)))), (0, .ref m0), (1, .int (nI j)), (3, .int (dI (lsF (tuF G j) w))), (4, .int (nI w))]) rfl (lv_cons (vI (dI_t hgf)) (lv_cons (rfl) (lv_cons (rfl) (lv_cons (rfl) (lv_cons (rfl) (rfl)))))) ?_
                      refine g_iload_n X dX6_shakes_288 rfl 3 rfl ?_
                      refine g_bipush (v := (-9)) X dX6_shakes_289 (by decide) ?_
                      refine g_icmp_eq X 300 dX6_shakes_291 (by decide) (fun c291_5 => ?_) (fun c291_5 => ?_)
                      · refine g_iload X dX6_shakes_300 0 rfl ?_
                        refine g_istore_n (lv' := [(3, .int (nI (G (10 * j + 2 * w + 1)))), (5, .int (nI (G (10 * j + 2 * w + 1)))), (0, .ref m0), (1, .int (nI j)), (4, .int (nI w))]) X dX6_shakes_302 rfl (by decide) rfl ?_
                        refine g_iinc (v := nI (w + 1)) (lv' := [(4, .int (nI (w + 1))), (3, .int (nI (G (10 * j + 2 * w + 1)))), (5, .int (nI (G (10 * j + 2 * w + 1)))), (0, .ref m0), (1, .int (nI j))]) X dX6_shakes_303 4 rfl (nI_inc _) (by decide) rfl ?_
                        refine g_goto X 257 dX6_shakes_306 (by decide) ?_
                        refine g_lv (lv' := [(0, .ref m0), (1, .int (nI j)), (3, .int (nI (G (10 * j + 2 * w + 1)))), (4, .int (nI (w + 1)))]) X [3, 4, 1, 0] rfl ?_
                        exact g_eq (ws' := [(m0, cO 6 [.ref a0, .ref a1, .ref a2, .int (nI tn), .ref a4, .int (nI ap), .ref a6, .int (nI rn), .ref a8, .ref a9, .int im, .ref b1, .ref b2, .ref b3, .ref b4, .ref b5, .ref b6]), (a0, cI d 36 K), (a2, cI d 5 S), (b6, cI d 360 (dF G))]) (lv' := [(0, .ref m0), (1, .int (nI j)), (3, .int (dI (lsF (tuF G j) (w + 1)))), (4, .int (nI (w + 1)))]) (rfl) (lv_cons (rfl) (lv_cons (rfl) (lv_cons (vI ((dI_t hgf).symm.trans (congrArg dI (lsF_y (f := (tuF G j)) (by have h1 := dI_m9.mp c291_5; show G (10 * j + 2 * w + 1) < _; omega))))) (lv_cons (rfl) (rfl))))) (ih_257 (w + 1) (by first | assumption | omega) (by omega))
                      · have hlf : lsF (tuF G j) w < 1000000 := Decidable.not_not.mp (fun z => c291_5 (dI_m9.mpr z))
                        refine g_eq (lv' := [(5, .int (nI (G (10 * j + 2 * w + 1)))), (0, .ref m0), (1, .int (nI j)), (3, .int (nI (lsF (tuF G j) w))), (4, .int (nI w))]) rfl (lv_cons (rfl) (lv_cons (rfl) (lv_cons (rfl) (lv_cons (vI (dI_t hlf)) (lv_cons (rfl) (rfl)))))) ?_
                        refine g_iload X dX6_shakes_294 0 rfl ?_
                        refine g_iload_n X dX6_shakes_296 rfl 3 rfl ?_
                        refine g_icmpN_ge (a := (G (10 * j + 2 * w + 1))) (b := (lsF (tuF G j) w)) X rfl rfl (by omega) (by omega) 303 dX6_shakes_297 (by decide) (fun c297_6 => ?_) (fun c297_6 => ?_)
                        · refine g_iinc (v := nI (w + 1)) (lv' := [(4, .int (nI (w + 1))), (5, .int (nI (G (10 * j + 2 * w + 1)))), (0, .ref m0), (1, .int (nI j)), (3, .int (nI (lsF (tuF G j) w)))]) X dX6_shakes_303 4 rfl (nI_inc _) (by decide) rfl ?_
                          refine g_goto X 257 dX6_shakes_306 (by decide) ?_
                          refine g_lv (lv' := [(0, .ref m0), (1, .int (nI j)), (3, .int (nI (lsF (tuF G j) w))), (4, .int (nI (w + 1)))]) X [2, 3, 4, 0] rfl ?_
                          exact g_eq (ws' := [(m0, cO 6 [.ref a0, .ref a1, .ref a2, .int (nI tn), .ref a4, .int (nI ap), .ref a6, .int (nI rn), .ref a8, .ref a9, .int im, .ref b1, .ref b2, .ref b3, .ref b4, .ref b5, .ref b6]), (a0, cI d 36 K), (a2, cI d 5 S), (b6, cI d 360 (dF G))]) (lv' := [(0, .ref m0), (1, .int (nI j)), (3, .int (dI (lsF (tuF G j) (w + 1)))), (4, .int (nI (w + 1)))]) (rfl) (lv_cons (rfl) (lv_cons (rfl) (lv_cons (vI ((dI_t hlf).symm.trans (congrArg dI (lsF_n (f := (tuF G j)) (by show ¬ G (10 * j + 2 * w + 1) < _; omega))))) (lv_cons (rfl) (rfl))))) (ih_257 (w + 1) (by first | assumption | omega) (by omega))
                        · refine g_iload X dX6_shakes_300 0 rfl ?_
                          refine g_istore_n (lv' := [(3, .int (nI (G (10 * j + 2 * w + 1)))), (5, .int (nI (G (10 * j + 2 * w + 1)))), (0, .ref m0), (1, .int (nI j)), (4, .int (nI w))]) X dX6_shakes_302 rfl (by decide) rfl ?_
                          refine g_iinc (v := nI (w + 1)) (lv' := [(4, .int (nI (w + 1))), (3, .int (nI (G (10 * j + 2 * w + 1)))), (5, .int (nI (G (10 * j + 2 * w + 1)))), (0, .ref m0), (1, .int (nI j))]) X dX6_shakes_303 4 rfl (nI_inc _) (by decide) rfl ?_
                          refine g_goto X 257 dX6_shakes_306 (by decide) ?_
                          refine g_lv (lv' := [(0, .ref m0), (1, .int (nI j)), (3, .int (nI (G (10 * j + 2 * w + 1)))), (4, .int (nI (w + 1)))]) X [3, 4, 1, 0] rfl ?_
                          exact g_eq (ws' := [(m0, cO 6 [.ref a0, .ref a1, .ref a2, .int (nI tn), .ref a4, .int (nI ap), .ref a6, .int (nI rn), .ref a8, .ref a9, .int im, .ref b1, .ref b2, .ref b3, .ref b4, .ref b5, .ref b6]), (a0, cI d 36 K), (a2, cI d 5 S), (b6, cI d 360 (dF G))]) (lv' := [(0, .ref m0), (1, .int (nI j)), (3, .int (dI (lsF (tuF G j) (w + 1)))), (4, .int (nI (w + 1)))]) (rfl) (lv_cons (rfl) (lv_cons (rfl) (lv_cons (vI ((dI_t hgf).symm.trans (congrArg dI (lsF_y (f := (tuF G j)) (by show G (10 * j + 2 * w + 1) < _; omega))))) (lv_cons (rfl) (rfl))))) (ih_257 (w + 1) (by first | assumption | omega) (by omega))
              refine g_lv (lv' := [(0, .ref m0), (1, .int (nI j)), (3, .int (-9)), (4, .int 0)]) X [2, 3, 1, 0] rfl ?_
              exact g_eq (ws' := [(m0, cO 6 [.ref a0, .ref a1, .ref a2, .int (nI tn), .ref a4, .int (nI ap), .ref a6, .int (nI rn), .ref a8, .ref a9, .int im, .ref b1, .ref b2, .ref b3, .ref b4, .ref b5, .ref b6]), (a0, cI d 36 K), (a2, cI d 5 S), (b6, cI d 360 (dF G))]) (lv' := [(0, .ref m0), (1, .int (nI j)), (3, .int (dI (lsF (tuF G j) 0))), (4, .int (nI 0))]) (rfl) (lv_cons (rfl) (lv_cons (rfl) (lv_cons (vI ((dI_f (Nat.lt_irrefl 1000000)).symm)) (lv_cons (vI (by rfl)) (rfl))))) (at_257 _ 0 (by first | assumption | omega) (Nat.lt_succ_self _))
            · have hy := c44_2
              refine g_iconst (v := 0) X dX6_shakes_47 (by decide) ?_
              refine g_istore_n (lv' := [(2, .int 0), (0, .ref m0), (1, .int (nI j))]) X dX6_shakes_48 rfl (by decide) rfl ?_
              refine g_iconst (v := 0) X dX6_shakes_49 (by decide) ?_
              refine g_istore_n (lv' := [(3, .int 0), (2, .int 0), (0, .ref m0), (1, .int (nI j))]) X dX6_shakes_50 rfl (by decide) rfl ?_
              have at_51 : ∀ (n_ : Nat) (i : Nat) (z : Int32) (G2 : Nat → Nat) (hi : i ≤ 360) (hr2 : rT K S jh G2) (hq2 : z = 0 → G2 = G ∧ tcq K S G2 i) (hs2 : ¬ z = 0 → smG G2 360 < smG G 360), (360 - i) < n_ → g 0 0 [(m0, cO 6 [.ref a0, .ref a1, .ref a2, .int (nI tn), .ref a4, .int (nI ap), .ref a6, .int (nI rn), .ref a8, .ref a9, .int im, .ref b1, .ref b2, .ref b3, .ref b4, .ref b5, .ref b6]), (a0, cI d 36 K), (a2, cI d 5 S), (b6, cI d 360 (dF G2))] [(0, .ref m0), (1, .int (nI j)), (2, .int z), (3, .int (nI i))] 51 [] := by
                intro n_
                induction n_ with
                | zero => intro i z G2 hi hr2 hq2 hs2 hn_; exact absurd hn_ (Nat.not_lt_zero _)
                | succ n_ ih_51 =>
                  intro i z G2 hi hr2 hq2 hs2 hn_51
                  refine g_iload_n X dX6_shakes_51 rfl 3 rfl ?_
                  refine g_sipush (v := 360) X dX6_shakes_52 (by decide) ?_
                  refine g_icmpN_ge (a := i) (b := 360) X rfl rfl (by omega) (by omega) 248 dX6_shakes_55 (by decide) (fun c55_7 => ?_) (fun c55_7 => ?_)
                  · obtain rfl : i = 360 := by omega
                    refine g_goto X 43 dX6_shakes_248 (by decide) ?_
                    refine g_lv (lv' := [(0, .ref m0), (1, .int (nI j)), (2, .int z)]) X [0, 1, 2] rfl ?_
                    exact ih_43 z G2 (hr2) (fun h => (hq2 h).2) (by have hn := hn_43; rw [if_neg hy] at hn; by_cases e : z = 0; (rw [if_pos e]; have := (hq2 e).1; rw [this]; omega); (rw [if_neg e]; have := hs2 e; omega))
                  · refine g_iload_n X dX6_shakes_58 rfl 3 rfl ?_
                    refine g_bipush (v := 10) X dX6_shakes_59 (by decide) ?_
                    refine g_idiv X dX6_shakes_61 (by decide) ?_
                    refine g_tope (y := nI (i / 10)) (nI_div (by omega) (by decide) (by decide)) ?_
                    refine g_istore (lv' := [(4, .int (nI (i / 10))), (0, .ref m0), (1, .int (nI j)), (2, .int z), (3, .int (nI i))]) X dX6_shakes_62 (by decide) rfl ?_
                    refine g_iload_n X dX6_shakes_64 rfl 4 rfl ?_
                    refine g_bipush (v := 10) X dX6_shakes_65 (by decide) ?_
                    refine g_irem X dX6_shakes_67 (by decide) ?_
                    refine g_tope (y := nI (i % 10)) (nI_rem (by omega) (by decide) (by decide)) ?_
                    refine g_iconst (v := 2) X dX6_shakes_68 (by decide) ?_
                    refine g_idiv X dX6_shakes_69 (by decide) ?_
                    refine g_tope (y := nI ((i % 10) / 2)) (nI_div (by omega) (by decide) (by decide)) ?_
                    refine g_istore (lv' := [(5, .int (nI ((i % 10) / 2))), (4, .int (nI (i / 10))), (0, .ref m0), (1, .int (nI j)), (2, .int z), (3, .int (nI i))]) X dX6_shakes_70 (by decide) rfl ?_
                    refine g_iconst (v := 0) X dX6_shakes_72 (by decide) ?_
                    refine g_istore (lv' := [(6, .int 0), (5, .int (nI ((i % 10) / 2))), (4, .int (nI (i / 10))), (0, .ref m0), (1, .int (nI j)), (2, .int z), (3, .int (nI i))]) X dX6_shakes_73 (by decide) rfl ?_
                    have at_75 : ∀ (n_ : Nat) (w : Nat) (u : Int32) (G3 : Nat → Nat) (hw : w ≤ 4) (hr3 : rT K S jh G3) (hq3 : u = 0 → G3 = G ∧ tcq K S G3 i ∧ tcw K S G3 i w) (hs3 : ¬ u = 0 → smG G3 360 < smG G 360), (4 - w) < n_ → g 0 0 [(m0, cO 6 [.ref a0, .ref a1, .ref a2, .int (nI tn), .ref a4, .int (nI ap), .ref a6, .int (nI rn), .ref a8, .ref a9, .int im, .ref b1, .ref b2, .ref b3, .ref b4, .ref b5, .ref b6]), (a0, cI d 36 K), (a2, cI d 5 S), (b6, cI d 360 (dF G3))] [(0, .ref m0), (1, .int (nI j)), (2, .int u), (3, .int (nI i)), (4, .int (nI (i / 10))), (5, .int (nI (i % 10 / 2))), (6, .int (nI w))] 75 [] := by
                      intro n_
                      induction n_ with
                      | zero => intro w u G3 hw hr3 hq3 hs3 hn_; exact absurd hn_ (Nat.not_lt_zero _)
                      | succ n_ ih_75 =>
                        intro w u G3 hw hr3 hq3 hs3 hn_75
                        refine g_iload X dX6_shakes_75 6 rfl ?_
                        refine g_iconst (v := 4) X dX6_shakes_77 (by decide) ?_
                        refine g_icmpN_ge (a := w) (b := 4) X rfl rfl (by omega) (by omega) 242 dX6_shakes_78 (by decide) (fun c78_8 => ?_) (fun c78_8 => ?_)
                        · refine g_iinc (v := nI (i + 1)) (lv' := [(3, .int (nI (i + 1))), (0, .ref m0), (1, .int (nI j)), (2, .int u), (4, .int (nI (i / 10))), (5, .int (nI (i % 10 / 2))), (6, .int (nI w))]) X dX6_shakes_242 3 rfl (nI_inc _) (by decide) rfl ?_
                          refine g_goto X 51 dX6_shakes_245 (by decide) ?_
                          refine g_lv (lv' := [(0, .ref m0), (1, .int (nI j)), (2, .int u), (3, .int (nI (i + 1)))]) X [1, 2, 3, 0] rfl ?_
                          exact ih_51 (i + 1) u G3 (by first | assumption | omega) (hr3) (fun h => ⟨(hq3 h).1, tcq_s (hq3 h).2.1 (by have e4 : w = 4 := (by omega); exact e4 ▸ (hq3 h).2.2)⟩) (hs3) (by omega)
                        · have hwl : w < 4 := by omega
                          refine g_iload X dX6_shakes_81 4 rfl ?_
                          refine g_iload X dX6_shakes_83 6 rfl ?_
                          refine g_dS (n := 2) (wr := [(m0, cO 6 [.ref a0, .ref a1, .ref a2, .int (nI tn), .ref a4, .int (nI ap), .ref a6, .int (nI rn), .ref a8, .ref a9, .int im, .ref b1, .ref b2, .ref b3, .ref b4, .ref b5, .ref b6]), (a0, cI d 36 K), (a2, cI d 5 S), (b6, cI d 360 (dF G3))]) (ws' := [(m0, cO 6 [.ref a0, .ref a1, .ref a2, .int (nI tn), .ref a4, .int (nI ap), .ref a6, .int (nI rn), .ref a8, .ref a9, .int im, .ref b1, .ref b2, .ref b3, .ref b4, .ref b5, .ref b6]), (a0, cI d 36 K), (a2, cI d 5 S), (b6, cI d 360 (dF G3))]) (st' := [.int (besM (nb (i / 10) w))]) (As := [.int (nI (i / 10)), .int (nI w)]) (st := []) X (ct_X6_beside l d (i / 10) w (by omega) (hwl)) wd_907 wd_905 wd_906 wd_58 hd_X6_beside ⟨(Nat.le_of_ble_eq_true rfl), (Nat.le_of_ble_eq_true rfl)⟩ rfl rfl dX6_shakes_85 ⟨(Nat.le_of_ble_eq_true rfl), (Nat.le_of_ble_eq_true rfl)⟩ rfl rfl (Nat.le_of_ble_eq_true rfl) [] [0, 1, 2, 3] rfl rfl rfl rfl rfl (by decide) [0, 1, 2, 3] rfl rfl rfl rfl ?_
                          refine g_istore (lv' := [(7, .int (besM (nb (i / 10) w))), (0, .ref m0), (1, .int (nI j)), (2, .int u), (3, .int (nI i)), (4, .int (nI (i / 10))), (5, .int (nI (i % 10 / 2))), (6, .int (nI w))]) X dX6_shakes_88 (by decide) rfl ?_
                          refine g_aload_n X dX6_shakes_90 rfl 1 rfl ?_
                          refine g_get (C := RX6) (T := TX6) (N := 17) (ci := 6) (v := .ref b6) X rfl inT6 16 (by decide) wd_812 rfl dX6_shakes_91 0 rfl rfl ?_
                          refine g_iload_n X dX6_shakes_94 rfl 4 rfl ?_
                          refine g_iaload_N (k := i) X rfl dX6_shakes_95 3 rfl (by first | assumption | omega) (by omega) ?_
                          refine g_bipush (v := (-9)) X dX6_shakes_96 (by decide) ?_
                          refine g_icmp_eq X 236 dX6_shakes_98 (by decide) (fun c98_9 => ?_) (fun c98_9 => ?_)
                          · refine g_iinc (v := nI (w + 1)) (lv' := [(6, .int (nI (w + 1))), (7, .int (besM (nb (i / 10) w))), (0, .ref m0), (1, .int (nI j)), (2, .int u), (3, .int (nI i)), (4, .int (nI (i / 10))), (5, .int (nI (i % 10 / 2)))]) X dX6_shakes_236 7 rfl (nI_inc _) (by decide) rfl ?_
                            refine g_goto X 75 dX6_shakes_239 (by decide) ?_
                            refine g_lv (lv' := [(0, .ref m0), (1, .int (nI j)), (2, .int u), (3, .int (nI i)), (4, .int (nI (i / 10))), (5, .int (nI (i % 10 / 2))), (6, .int (nI (w + 1)))]) X [2, 3, 4, 5, 6, 7, 0] rfl ?_
                            exact ih_75 (w + 1) u G3 (by first | assumption | omega) (hr3) (fun h => ⟨(hq3 h).1, (hq3 h).2.1, tcw_s (hq3 h).2.2 (fun e => by have h1 := hlw_ti hr3 (by omega) hwl e; have h2 := dI_m9.mp c98_9; show _ ≤ G3 i + cst _ _; omega)⟩) (hs3) (by omega)
                          · have hqf : G3 i < 1000000 := Decidable.not_not.mp (fun z => c98_9 (dI_m9.mpr z))
                            have h1080 := rT_b hr3 (by omega) hqf
                            refine g_iload X dX6_shakes_101 0 rfl ?_
                            refine g_bipush (v := (-9)) X dX6_shakes_103 (by decide) ?_
                            refine g_icmp_eq X 236 dX6_shakes_105 (by decide) (fun c105_10 => ?_) (fun c105_10 => ?_)
                            · refine g_iinc (v := nI (w + 1)) (lv' := [(6, .int (nI (w + 1))), (7, .int (besM (nb (i / 10) w))), (0, .ref m0), (1, .int (nI j)), (2, .int u), (3, .int (nI i)), (4, .int (nI (i / 10))), (5, .int (nI (i % 10 / 2)))]) X dX6_shakes_236 7 rfl (nI_inc _) (by decide) rfl ?_
                              refine g_goto X 75 dX6_shakes_239 (by decide) ?_
                              refine g_lv (lv' := [(0, .ref m0), (1, .int (nI j)), (2, .int u), (3, .int (nI i)), (4, .int (nI (i / 10))), (5, .int (nI (i % 10 / 2))), (6, .int (nI (w + 1)))]) X [2, 3, 4, 5, 6, 7, 0] rfl ?_
                              exact ih_75 (w + 1) u G3 (by first | assumption | omega) (hr3) (fun h => ⟨(hq3 h).1, (hq3 h).2.1, tcw_s (hq3 h).2.2 (fun e => absurd e.1 (besM_m9.mp c105_10))⟩) (hs3) (by omega)
                            · have hnb : nb (i / 10) w < 36 := Decidable.not_not.mp (fun z => c105_10 (besM_m9.mpr z))
                              refine g_eq (lv' := [(7, .int (nI (nb (i / 10) w))), (0, .ref m0), (1, .int (nI j)), (2, .int u), (3, .int (nI i)), (4, .int (nI (i / 10))), (5, .int (nI (i % 10 / 2))), (6, .int (nI w))]) rfl (lv_cons (vI (besM_t hnb)) (lv_cons (rfl) (lv_cons (rfl) (lv_cons (rfl) (lv_cons (rfl) (lv_cons (rfl) (lv_cons (rfl) (lv_cons (rfl) (rfl))))))))) ?_
                              refine g_aload_n X dX6_shakes_108 rfl 1 rfl ?_
                              refine g_iload X dX6_shakes_109 0 rfl ?_
                              refine g_dV (ci := 6) (q0 := 0) (n := 1) (wr := [(b6, cI d 360 (dF G3))]) (ws' := [(m0, cO 6 [.ref a0, .ref a1, .ref a2, .int (nI tn), .ref a4, .int (nI ap), .ref a6, .int (nI rn), .ref a8, .ref a9, .int im, .ref b1, .ref b2, .ref b3, .ref b4, .ref b5, .ref b6]), (a0, cI d 36 K), (a2, cI d 5 S), (b6, cI d 360 (dF G3))]) (st' := [.int (b2i (csl (K (nb (i / 10) w)) (S 1)))]) (As := [.int (nI (nb (i / 10) w))]) (st := []) X (ct_X6_canBe l d m0 a0 a1 a2 a4 a6 a8 a9 b1 b2 b3 b4 b5 b6 K S tn ap rn im (nb (i / 10) w) (hnb)) wd_891 wd_888 wd_890 wd_31 wd_58 hd_X6_canBe rfl ⟨(Nat.le_of_ble_eq_true rfl), (Nat.le_of_ble_eq_true rfl)⟩ rfl rfl dX6_shakes_111 ⟨(Nat.le_of_ble_eq_true rfl), (Nat.le_of_ble_eq_true rfl)⟩ rfl rfl (Nat.le_of_ble_eq_true rfl) [0, 1, 2] [3] rfl rfl rfl rfl rfl (by decide) rfl [1, 2, 3, 0] rfl rfl rfl rfl ?_
                              refine g_ifB_ne X 120 dX6_shakes_114 (by decide) (fun c114_11 => ?_) (fun c114_11 => ?_)
                              · have hcs := c114_11
                                have hcle := cst_le (K (nb (i / 10) w)) w
                                have htl := tg_lt (K := K) hnb hwl
                                have hsb := sb_le (K := K) i w
                                have at_156 : ∀ (_ : True), g 0 0 [(m0, cO 6 [.ref a0, .ref a1, .ref a2, .int (nI tn), .ref a4, .int (nI ap), .ref a6, .int (nI rn), .ref a8, .ref a9, .int im, .ref b1, .ref b2, .ref b3, .ref b4, .ref b5, .ref b6]), (a0, cI d 36 K), (a2, cI d 5 S), (b6, cI d 360 (dF G3))] [(0, .ref m0), (1, .int (nI j)), (2, .int u), (3, .int (nI i)), (4, .int (nI (i / 10))), (5, .int (nI (i % 10 / 2))), (6, .int (nI w)), (7, .int (nI (nb (i / 10) w)))] 156 [.int (nI (sb K i w))] := by
                                  intro _
                                  refine g_istore (lv' := [(8, .int (nI (sb K i w))), (0, .ref m0), (1, .int (nI j)), (2, .int u), (3, .int (nI i)), (4, .int (nI (i / 10))), (5, .int (nI (i % 10 / 2))), (6, .int (nI w)), (7, .int (nI (nb (i / 10) w)))]) X dX6_shakes_156 (by decide) rfl ?_
                                  refine g_bipush (v := 10) X dX6_shakes_158 (by decide) ?_
                                  refine g_iload X dX6_shakes_160 8 rfl ?_
                                  refine g_imul X dX6_shakes_162 ?_
                                  refine g_tope (y := nI (10 * (nb (i / 10) w))) (nI_mulN _ _) ?_
                                  refine g_iconst (v := 2) X dX6_shakes_163 (by decide) ?_
                                  refine g_iload X dX6_shakes_164 7 rfl ?_
                                  refine g_imul X dX6_shakes_166 ?_
                                  refine g_tope (y := nI (2 * w)) (nI_mulN _ _) ?_
                                  refine g_iadd X dX6_shakes_167 ?_
                                  refine g_tope (y := nI ((10 * (nb (i / 10) w)) + (2 * w))) (nI_add _ _) ?_
                                  refine g_iload X dX6_shakes_168 0 rfl ?_
                                  refine g_ifN_eq (a := (sb K i w)) X rfl (by omega) 177 dX6_shakes_170 (by decide) (fun c170_12 => ?_) (fun c170_12 => ?_)
                                  · refine g_iconst (v := 0) X dX6_shakes_177 (by decide) ?_
                                    refine g_iadd X dX6_shakes_178 ?_
                                    refine g_tope (y := nI (((10 * (nb (i / 10) w)) + (2 * w)) + 0)) (nI_add _ _) ?_
                                    refine g_tope (y := nI (tg K i w)) (by show nI (10 * nb (i / 10) w + 2 * w + 0) = nI (10 * nb (i / 10) w + 2 * w + sb K i w); congr 1; omega) ?_
                                    refine g_istore (lv' := [(9, .int (nI (tg K i w))), (8, .int (nI (sb K i w))), (0, .ref m0), (1, .int (nI j)), (2, .int u), (3, .int (nI i)), (4, .int (nI (i / 10))), (5, .int (nI (i % 10 / 2))), (6, .int (nI w)), (7, .int (nI (nb (i / 10) w)))]) X dX6_shakes_179 (by decide) rfl ?_
                                    refine g_aload_n X dX6_shakes_181 rfl 2 rfl ?_
                                    refine g_get (C := RX6) (T := TX6) (N := 17) (ci := 6) (v := .ref b6) X rfl inT6 16 (by decide) wd_812 rfl dX6_shakes_182 0 rfl rfl ?_
                                    refine g_iload_n X dX6_shakes_185 rfl 5 rfl ?_
                                    refine g_iaload_N (k := i) X rfl dX6_shakes_186 3 rfl (by first | assumption | omega) (by omega) ?_
                                    refine g_tope (y := nI (G3 i)) (dI_t hqf) ?_
                                    refine g_aload_n X dX6_shakes_187 rfl 2 rfl ?_
                                    refine g_iload X dX6_shakes_188 9 rfl ?_
                                    refine g_iload X dX6_shakes_190 8 rfl ?_
                                    refine g_dV (ci := 6) (q0 := 0) (n := 2) (wr := [(a2, cI d 5 S), (b6, cI d 360 (dF G3))]) (ws' := [(m0, cO 6 [.ref a0, .ref a1, .ref a2, .int (nI tn), .ref a4, .int (nI ap), .ref a6, .int (nI rn), .ref a8, .ref a9, .int im, .ref b1, .ref b2, .ref b3, .ref b4, .ref b5, .ref b6]), (a0, cI d 36 K), (a2, cI d 5 S), (b6, cI d 360 (dF G3))]) (st' := [.int (nI (cst (K (nb (i / 10) w)) w)), .int (nI (G3 i))]) (As := [.int (nI (nb (i / 10) w)), .int (nI w)]) (st := [.int (nI (G3 i))]) X (ct_X6_daysTo l d m0 a0 a1 a2 a4 a6 a8 a9 b1 b2 b3 b4 b5 b6 K tn ap rn im (nb (i / 10) w) w (hnb) (hwl)) wd_911 wd_908 wd_910 wd_35 wd_58 hd_X6_daysTo rfl ⟨(Nat.le_of_ble_eq_true rfl), (Nat.le_of_ble_eq_true rfl)⟩ rfl rfl dX6_shakes_192 ⟨(Nat.le_of_ble_eq_true rfl), (Nat.le_of_ble_eq_true rfl)⟩ rfl rfl (Nat.le_of_ble_eq_true rfl) [0, 1] [2, 3] rfl rfl rfl rfl rfl (by decide) rfl [2, 3, 0, 1] rfl rfl rfl rfl ?_
                                    refine g_iadd X dX6_shakes_195 ?_
                                    refine g_tope (y := nI ((G3 i) + (cst (K (nb (i / 10) w)) w))) (nI_add _ _) ?_
                                    refine g_istore (lv' := [(10, .int (nI ((G3 i) + (cst (K (nb (i / 10) w)) w)))), (9, .int (nI (tg K i w))), (8, .int (nI (sb K i w))), (0, .ref m0), (1, .int (nI j)), (2, .int u), (3, .int (nI i)), (4, .int (nI (i / 10))), (5, .int (nI (i % 10 / 2))), (6, .int (nI w)), (7, .int (nI (nb (i / 10) w)))]) X dX6_shakes_196 (by decide) rfl ?_
                                    refine g_aload_n X dX6_shakes_198 rfl 3 rfl ?_
                                    refine g_get (C := RX6) (T := TX6) (N := 17) (ci := 6) (v := .ref b6) X rfl inT6 16 (by decide) wd_812 rfl dX6_shakes_199 0 rfl rfl ?_
                                    refine g_iload X dX6_shakes_202 1 rfl ?_
                                    refine g_iaload_N (k := (tg K i w)) X rfl dX6_shakes_204 3 rfl (by first | assumption | omega) (by omega) ?_
                                    refine g_bipush (v := (-9)) X dX6_shakes_205 (by decide) ?_
                                    refine g_icmp_eq X 225 dX6_shakes_207 (by decide) (fun c207_13 => ?_) (fun c207_13 => ?_)
                                    · have hv : G3 i + tct K i w < G3 (tg K i w) := by have h3 := dI_m9.mp c207_13; show G3 i + cst _ _ < _; omega
                                      refine g_aload_n X dX6_shakes_225 rfl 3 rfl ?_
                                      refine g_get (C := RX6) (T := TX6) (N := 17) (ci := 6) (v := .ref b6) X rfl inT6 16 (by decide) wd_812 rfl dX6_shakes_226 0 rfl rfl ?_
                                      refine g_iload X dX6_shakes_229 1 rfl ?_
                                      refine g_iload X dX6_shakes_231 0 rfl ?_
                                      refine g_iastore_N (k := (tg K i w)) (ws' := [(m0, cO 6 [.ref a0, .ref a1, .ref a2, .int (nI tn), .ref a4, .int (nI ap), .ref a6, .int (nI rn), .ref a8, .ref a9, .int im, .ref b1, .ref b2, .ref b3, .ref b4, .ref b5, .ref b6]), (a0, cI d 36 K), (a2, cI d 5 S), (b6, cI d 360 (upd (dF G3) (tg K i w) (nI ((G3 i) + (cst (K (nb (i / 10) w)) w)))))]) X rfl dX6_shakes_233 3 rfl (by first | assumption | omega) (by omega) rfl ?_
                                      refine g_eq (ws' := [(m0, cO 6 [.ref a0, .ref a1, .ref a2, .int (nI tn), .ref a4, .int (nI ap), .ref a6, .int (nI rn), .ref a8, .ref a9, .int im, .ref b1, .ref b2, .ref b3, .ref b4, .ref b5, .ref b6]), (a0, cI d 36 K), (a2, cI d 5 S), (b6, cI d 360 (dF (put G3 (tg K i w) (G3 i + tct K i w))))]) (ws_cons (rfl) (ws_cons (rfl) (ws_cons (rfl) (ws_cons (cI_eq (dR_u (by show G3 i + cst _ _ < _; omega))) (rfl))))) rfl ?_
                                      refine g_iconst (v := 1) X dX6_shakes_234 (by decide) ?_
                                      refine g_istore_n (lv' := [(2, .int 1), (10, .int (nI ((G3 i) + (cst (K (nb (i / 10) w)) w)))), (9, .int (nI (tg K i w))), (8, .int (nI (sb K i w))), (0, .ref m0), (1, .int (nI j)), (3, .int (nI i)), (4, .int (nI (i / 10))), (5, .int (nI (i % 10 / 2))), (6, .int (nI w)), (7, .int (nI (nb (i / 10) w)))]) X dX6_shakes_235 rfl (by decide) rfl ?_
                                      refine g_iinc (v := nI (w + 1)) (lv' := [(6, .int (nI (w + 1))), (2, .int 1), (10, .int (nI ((G3 i) + (cst (K (nb (i / 10) w)) w)))), (9, .int (nI (tg K i w))), (8, .int (nI (sb K i w))), (0, .ref m0), (1, .int (nI j)), (3, .int (nI i)), (4, .int (nI (i / 10))), (5, .int (nI (i % 10 / 2))), (7, .int (nI (nb (i / 10) w)))]) X dX6_shakes_236 9 rfl (nI_inc _) (by decide) rfl ?_
                                      refine g_goto X 75 dX6_shakes_239 (by decide) ?_
                                      refine g_lv (lv' := [(0, .ref m0), (1, .int (nI j)), (2, .int 1), (3, .int (nI i)), (4, .int (nI (i / 10))), (5, .int (nI (i % 10 / 2))), (6, .int (nI (w + 1)))]) X [5, 6, 1, 7, 8, 9, 0] rfl ?_
                                      exact ih_75 (w + 1) 1 (put G3 (tg K i w) (G3 i + tct K i w)) (by first | assumption | omega) ((rT_s hr3 (by omega) (by omega) ⟨hnb, hcs⟩ hqf hv).1) (fun h => absurd h (by decide)) (fun _ => Nat.lt_of_lt_of_le (rT_s hr3 (by omega) (by omega) ⟨hnb, hcs⟩ hqf hv).2 (if e : u = 0 then (by rw [(hq3 e).1]; exact Nat.le_refl _) else Nat.le_of_lt (hs3 e))) (by omega)
                                    · have htf : G3 (tg K i w) < 1000000 := Decidable.not_not.mp (fun z => c207_13 (dI_m9.mpr z))
                                      refine g_aload_n X dX6_shakes_210 rfl 3 rfl ?_
                                      refine g_get (C := RX6) (T := TX6) (N := 17) (ci := 6) (v := .ref b6) X rfl inT6 16 (by decide) wd_812 rfl dX6_shakes_211 0 rfl rfl ?_
                                      refine g_iload X dX6_shakes_214 1 rfl ?_
                                      refine g_iaload_N (k := (tg K i w)) X rfl dX6_shakes_216 3 rfl (by first | assumption | omega) (by omega) ?_
                                      refine g_tope (y := nI (G3 (tg K i w))) (dI_t htf) ?_
                                      refine g_iload X dX6_shakes_217 0 rfl ?_
                                      refine g_icmpN_gt (a := (G3 (tg K i w))) (b := ((G3 i) + (cst (K (nb (i / 10) w)) w))) X rfl rfl (by omega) (by omega) 225 dX6_shakes_219 (by decide) (fun c219_14 => ?_) (fun c219_14 => ?_)
                                      · have hv : G3 i + tct K i w < G3 (tg K i w) := c219_14
                                        refine g_aload_n X dX6_shakes_225 rfl 3 rfl ?_
                                        refine g_get (C := RX6) (T := TX6) (N := 17) (ci := 6) (v := .ref b6) X rfl inT6 16 (by decide) wd_812 rfl dX6_shakes_226 0 rfl rfl ?_
                                        refine g_iload X dX6_shakes_229 1 rfl ?_
                                        refine g_iload X dX6_shakes_231 0 rfl ?_
                                        refine g_iastore_N (k := (tg K i w)) (ws' := [(m0, cO 6 [.ref a0, .ref a1, .ref a2, .int (nI tn), .ref a4, .int (nI ap), .ref a6, .int (nI rn), .ref a8, .ref a9, .int im, .ref b1, .ref b2, .ref b3, .ref b4, .ref b5, .ref b6]), (a0, cI d 36 K), (a2, cI d 5 S), (b6, cI d 360 (upd (dF G3) (tg K i w) (nI ((G3 i) + (cst (K (nb (i / 10) w)) w)))))]) X rfl dX6_shakes_233 3 rfl (by first | assumption | omega) (by omega) rfl ?_
                                        refine g_eq (ws' := [(m0, cO 6 [.ref a0, .ref a1, .ref a2, .int (nI tn), .ref a4, .int (nI ap), .ref a6, .int (nI rn), .ref a8, .ref a9, .int im, .ref b1, .ref b2, .ref b3, .ref b4, .ref b5, .ref b6]), (a0, cI d 36 K), (a2, cI d 5 S), (b6, cI d 360 (dF (put G3 (tg K i w) (G3 i + tct K i w))))]) (ws_cons (rfl) (ws_cons (rfl) (ws_cons (rfl) (ws_cons (cI_eq (dR_u (by show G3 i + cst _ _ < _; omega))) (rfl))))) rfl ?_
                                        refine g_iconst (v := 1) X dX6_shakes_234 (by decide) ?_
                                        refine g_istore_n (lv' := [(2, .int 1), (10, .int (nI ((G3 i) + (cst (K (nb (i / 10) w)) w)))), (9, .int (nI (tg K i w))), (8, .int (nI (sb K i w))), (0, .ref m0), (1, .int (nI j)), (3, .int (nI i)), (4, .int (nI (i / 10))), (5, .int (nI (i % 10 / 2))), (6, .int (nI w)), (7, .int (nI (nb (i / 10) w)))]) X dX6_shakes_235 rfl (by decide) rfl ?_
                                        refine g_iinc (v := nI (w + 1)) (lv' := [(6, .int (nI (w + 1))), (2, .int 1), (10, .int (nI ((G3 i) + (cst (K (nb (i / 10) w)) w)))), (9, .int (nI (tg K i w))), (8, .int (nI (sb K i w))), (0, .ref m0), (1, .int (nI j)), (3, .int (nI i)), (4, .int (nI (i / 10))), (5, .int (nI (i % 10 / 2))), (7, .int (nI (nb (i / 10) w)))]) X dX6_shakes_236 9 rfl (nI_inc _) (by decide) rfl ?_
                                        refine g_goto X 75 dX6_shakes_239 (by decide) ?_
                                        refine g_lv (lv' := [(0, .ref m0), (1, .int (nI j)), (2, .int 1), (3, .int (nI i)), (4, .int (nI (i / 10))), (5, .int (nI (i % 10 / 2))), (6, .int (nI (w + 1)))]) X [5, 6, 1, 7, 8, 9, 0] rfl ?_
                                        exact ih_75 (w + 1) 1 (put G3 (tg K i w) (G3 i + tct K i w)) (by first | assumption | omega) ((rT_s hr3 (by omega) (by omega) ⟨hnb, hcs⟩ hqf hv).1) (fun h => absurd h (by decide)) (fun _ => Nat.lt_of_lt_of_le (rT_s hr3 (by omega) (by omega) ⟨hnb, hcs⟩ hqf hv).2 (if e : u = 0 then (by rw [(hq3 e).1]; exact Nat.le_refl _) else Nat.le_of_lt (hs3 e))) (by omega)
                                      · refine g_goto X 236 dX6_shakes_222 (by decide) ?_
                                        refine g_iinc (v := nI (w + 1)) (lv' := [(6, .int (nI (w + 1))), (10, .int (nI ((G3 i) + (cst (K (nb (i / 10) w)) w)))), (9, .int (nI (tg K i w))), (8, .int (nI (sb K i w))), (0, .ref m0), (1, .int (nI j)), (2, .int u), (3, .int (nI i)), (4, .int (nI (i / 10))), (5, .int (nI (i % 10 / 2))), (7, .int (nI (nb (i / 10) w)))]) X dX6_shakes_236 9 rfl (nI_inc _) (by decide) rfl ?_
                                        refine g_goto X 75 dX6_shakes_239 (by decide) ?_
                                        refine g_lv (lv' := [(0, .ref m0), (1, .int (nI j)), (2, .int u), (3, .int (nI i)), (4, .int (nI (i / 10))), (5, .int (nI (i % 10 / 2))), (6, .int (nI (w + 1)))]) X [4, 5, 6, 7, 8, 9, 0] rfl ?_
                                        exact ih_75 (w + 1) u G3 (by first | assumption | omega) (hr3) (fun h => ⟨(hq3 h).1, (hq3 h).2.1, tcw_s (hq3 h).2.2 (fun e => Nat.not_lt.mp c219_14)⟩) (hs3) (by omega)
                                  · refine g_iconst (v := 1) X dX6_shakes_173 (by decide) ?_
                                    refine g_goto X 178 dX6_shakes_174 (by decide) ?_
                                    refine g_iadd X dX6_shakes_178 ?_
                                    refine g_tope (y := nI (((10 * (nb (i / 10) w)) + (2 * w)) + 1)) (nI_add _ _) ?_
                                    refine g_tope (y := nI (tg K i w)) (by show nI (10 * nb (i / 10) w + 2 * w + 1) = nI (10 * nb (i / 10) w + 2 * w + sb K i w); congr 1; omega) ?_
                                    refine g_istore (lv' := [(9, .int (nI (tg K i w))), (8, .int (nI (sb K i w))), (0, .ref m0), (1, .int (nI j)), (2, .int u), (3, .int (nI i)), (4, .int (nI (i / 10))), (5, .int (nI (i % 10 / 2))), (6, .int (nI w)), (7, .int (nI (nb (i / 10) w)))]) X dX6_shakes_179 (by decide) rfl ?_
                                    refine g_aload_n X dX6_shakes_181 rfl 2 rfl ?_
                                    refine g_get (C := RX6) (T := TX6) (N := 17) (ci := 6) (v := .ref b6) X rfl inT6 16 (by decide) wd_812 rfl dX6_shakes_182 0 rfl rfl ?_
                                    refine g_iload_n X dX6_shakes_185 rfl 5 rfl ?_
                                    refine g_iaload_N (k := i) X rfl dX6_shakes_186 3 rfl (by first | assumption | omega) (by omega) ?_
                                    refine g_tope (y := nI (G3 i)) (dI_t hqf) ?_
                                    refine g_aload_n X dX6_shakes_187 rfl 2 rfl ?_
                                    refine g_iload X dX6_shakes_188 9 rfl ?_
                                    refine g_iload X dX6_shakes_190 8 rfl ?_
                                    refine g_dV (ci := 6) (q0 := 0) (n := 2) (wr := [(a2, cI d 5 S), (b6, cI d 360 (dF G3))]) (ws' := [(m0, cO 6 [.ref a0, .ref a1, .ref a2, .int (nI tn), .ref a4, .int (nI ap), .ref a6, .int (nI rn), .ref a8, .ref a9, .int im, .ref b1, .ref b2, .ref b3, .ref b4, .ref b5, .ref b6]), (a0, cI d 36 K), (a2, cI d 5 S), (b6, cI d 360 (dF G3))]) (st' := [.int (nI (cst (K (nb (i / 10) w)) w)), .int (nI (G3 i))]) (As := [.int (nI (nb (i / 10) w)), .int (nI w)]) (st := [.int (nI (G3 i))]) X (ct_X6_daysTo l d m0 a0 a1 a2 a4 a6 a8 a9 b1 b2 b3 b4 b5 b6 K tn ap rn im (nb (i / 10) w) w (hnb) (hwl)) wd_911 wd_908 wd_910 wd_35 wd_58 hd_X6_daysTo rfl ⟨(Nat.le_of_ble_eq_true rfl), (Nat.le_of_ble_eq_true rfl)⟩ rfl rfl dX6_shakes_192 ⟨(Nat.le_of_ble_eq_true rfl), (Nat.le_of_ble_eq_true rfl)⟩ rfl rfl (Nat.le_of_ble_eq_true rfl) [0, 1] [2, 3] rfl rfl rfl rfl rfl (by decide) rfl [2, 3, 0, 1] rfl rfl rfl rfl ?_
                                    refine g_iadd X dX6_shakes_195 ?_
                                    refine g_tope (y := nI ((G3 i) + (cst (K (nb (i / 10) w)) w))) (nI_add _ _) ?_
                                    refine g_istore (lv' := [(10, .int (nI ((G3 i) + (cst (K (nb (i / 10) w)) w)))), (9, .int (nI (tg K i w))), (8, .int (nI (sb K i w))), (0, .ref m0), (1, .int (nI j)), (2, .int u), (3, .int (nI i)), (4, .int (nI (i / 10))), (5, .int (nI (i % 10 / 2))), (6, .int (nI w)), (7, .int (nI (nb (i / 10) w)))]) X dX6_shakes_196 (by decide) rfl ?_
                                    refine g_aload_n X dX6_shakes_198 rfl 3 rfl ?_
                                    refine g_get (C := RX6) (T := TX6) (N := 17) (ci := 6) (v := .ref b6) X rfl inT6 16 (by decide) wd_812 rfl dX6_shakes_199 0 rfl rfl ?_
                                    refine g_iload X dX6_shakes_202 1 rfl ?_
                                    refine g_iaload_N (k := (tg K i w)) X rfl dX6_shakes_204 3 rfl (by first | assumption | omega) (by omega) ?_
                                    refine g_bipush (v := (-9)) X dX6_shakes_205 (by decide) ?_
                                    refine g_icmp_eq X 225 dX6_shakes_207 (by decide) (fun c207_15 => ?_) (fun c207_15 => ?_)
                                    · have hv : G3 i + tct K i w < G3 (tg K i w) := by have h3 := dI_m9.mp c207_15; show G3 i + cst _ _ < _; omega
                                      refine g_aload_n X dX6_shakes_225 rfl 3 rfl ?_
                                      refine g_get (C := RX6) (T := TX6) (N := 17) (ci := 6) (v := .ref b6) X rfl inT6 16 (by decide) wd_812 rfl dX6_shakes_226 0 rfl rfl ?_
                                      refine g_iload X dX6_shakes_229 1 rfl ?_
                                      refine g_iload X dX6_shakes_231 0 rfl ?_
                                      refine g_iastore_N (k := (tg K i w)) (ws' := [(m0, cO 6 [.ref a0, .ref a1, .ref a2, .int (nI tn), .ref a4, .int (nI ap), .ref a6, .int (nI rn), .ref a8, .ref a9, .int im, .ref b1, .ref b2, .ref b3, .ref b4, .ref b5, .ref b6]), (a0, cI d 36 K), (a2, cI d 5 S), (b6, cI d 360 (upd (dF G3) (tg K i w) (nI ((G3 i) + (cst (K (nb (i / 10) w)) w)))))]) X rfl dX6_shakes_233 3 rfl (by first | assumption | omega) (by omega) rfl ?_
                                      refine g_eq (ws' := [(m0, cO 6 [.ref a0, .ref a1, .ref a2, .int (nI tn), .ref a4, .int (nI ap), .ref a6, .int (nI rn), .ref a8, .ref a9, .int im, .ref b1, .ref b2, .ref b3, .ref b4, .ref b5, .ref b6]), (a0, cI d 36 K), (a2, cI d 5 S), (b6, cI d 360 (dF (put G3 (tg K i w) (G3 i + tct K i w))))]) (ws_cons (rfl) (ws_cons (rfl) (ws_cons (rfl) (ws_cons (cI_eq (dR_u (by show G3 i + cst _ _ < _; omega))) (rfl))))) rfl ?_
                                      refine g_iconst (v := 1) X dX6_shakes_234 (by decide) ?_
                                      refine g_istore_n (lv' := [(2, .int 1), (10, .int (nI ((G3 i) + (cst (K (nb (i / 10) w)) w)))), (9, .int (nI (tg K i w))), (8, .int (nI (sb K i w))), (0, .ref m0), (1, .int (nI j)), (3, .int (nI i)), (4, .int (nI (i / 10))), (5, .int (nI (i % 10 / 2))), (6, .int (nI w)), (7, .int (nI (nb (i / 10) w)))]) X dX6_shakes_235 rfl (by decide) rfl ?_
                                      refine g_iinc (v := nI (w + 1)) (lv' := [(6, .int (nI (w + 1))), (2, .int 1), (10, .int (nI ((G3 i) + (cst (K (nb (i / 10) w)) w)))), (9, .int (nI (tg K i w))), (8, .int (nI (sb K i w))), (0, .ref m0), (1, .int (nI j)), (3, .int (nI i)), (4, .int (nI (i / 10))), (5, .int (nI (i % 10 / 2))), (7, .int (nI (nb (i / 10) w)))]) X dX6_shakes_236 9 rfl (nI_inc _) (by decide) rfl ?_
                                      refine g_goto X 75 dX6_shakes_239 (by decide) ?_
                                      refine g_lv (lv' := [(0, .ref m0), (1, .int (nI j)), (2, .int 1), (3, .int (nI i)), (4, .int (nI (i / 10))), (5, .int (nI (i % 10 / 2))), (6, .int (nI (w + 1)))]) X [5, 6, 1, 7, 8, 9, 0] rfl ?_
                                      exact ih_75 (w + 1) 1 (put G3 (tg K i w) (G3 i + tct K i w)) (by first | assumption | omega) ((rT_s hr3 (by omega) (by omega) ⟨hnb, hcs⟩ hqf hv).1) (fun h => absurd h (by decide)) (fun _ => Nat.lt_of_lt_of_le (rT_s hr3 (by omega) (by omega) ⟨hnb, hcs⟩ hqf hv).2 (if e : u = 0 then (by rw [(hq3 e).1]; exact Nat.le_refl _) else Nat.le_of_lt (hs3 e))) (by omega)
                                    · have htf : G3 (tg K i w) < 1000000 := Decidable.not_not.mp (fun z => c207_15 (dI_m9.mpr z))
                                      refine g_aload_n X dX6_shakes_210 rfl 3 rfl ?_
                                      refine g_get (C := RX6) (T := TX6) (N := 17) (ci := 6) (v := .ref b6) X rfl inT6 16 (by decide) wd_812 rfl dX6_shakes_211 0 rfl rfl ?_
                                      refine g_iload X dX6_shakes_214 1 rfl ?_
                                      refine g_iaload_N (k := (tg K i w)) X rfl dX6_shakes_216 3 rfl (by first | assumption | omega) (by omega) ?_
                                      refine g_tope (y := nI (G3 (tg K i w))) (dI_t htf) ?_
                                      refine g_iload X dX6_shakes_217 0 rfl ?_
                                      refine g_icmpN_gt (a := (G3 (tg K i w))) (b := ((G3 i) + (cst (K (nb (i / 10) w)) w))) X rfl rfl (by omega) (by omega) 225 dX6_shakes_219 (by decide) (fun c219_16 => ?_) (fun c219_16 => ?_)
                                      · have hv : G3 i + tct K i w < G3 (tg K i w) := c219_16
                                        refine g_aload_n X dX6_shakes_225 rfl 3 rfl ?_
                                        refine g_get (C := RX6) (T := TX6) (N := 17) (ci := 6) (v := .ref b6) X rfl inT6 16 (by decide) wd_812 rfl dX6_shakes_226 0 rfl rfl ?_
                                        refine g_iload X dX6_shakes_229 1 rfl ?_
                                        refine g_iload X dX6_shakes_231 0 rfl ?_
                                        refine g_iastore_N (k := (tg K i w)) (ws' := [(m0, cO 6 [.ref a0, .ref a1, .ref a2, .int (nI tn), .ref a4, .int (nI ap), .ref a6, .int (nI rn), .ref a8, .ref a9, .int im, .ref b1, .ref b2, .ref b3, .ref b4, .ref b5, .ref b6]), (a0, cI d 36 K), (a2, cI d 5 S), (b6, cI d 360 (upd (dF G3) (tg K i w) (nI ((G3 i) + (cst (K (nb (i / 10) w)) w)))))]) X rfl dX6_shakes_233 3 rfl (by first | assumption | omega) (by omega) rfl ?_
                                        refine g_eq (ws' := [(m0, cO 6 [.ref a0, .ref a1, .ref a2, .int (nI tn), .ref a4, .int (nI ap), .ref a6, .int (nI rn), .ref a8, .ref a9, .int im, .ref b1, .ref b2, .ref b3, .ref b4, .ref b5, .ref b6]), (a0, cI d 36 K), (a2, cI d 5 S), (b6, cI d 360 (dF (put G3 (tg K i w) (G3 i + tct K i w))))]) (ws_cons (rfl) (ws_cons (rfl) (ws_cons (rfl) (ws_cons (cI_eq (dR_u (by show G3 i + cst _ _ < _; omega))) (rfl))))) rfl ?_
                                        refine g_iconst (v := 1) X dX6_shakes_234 (by decide) ?_
                                        refine g_istore_n (lv' := [(2, .int 1), (10, .int (nI ((G3 i) + (cst (K (nb (i / 10) w)) w)))), (9, .int (nI (tg K i w))), (8, .int (nI (sb K i w))), (0, .ref m0), (1, .int (nI j)), (3, .int (nI i)), (4, .int (nI (i / 10))), (5, .int (nI (i % 10 / 2))), (6, .int (nI w)), (7, .int (nI (nb (i / 10) w)))]) X dX6_shakes_235 rfl (by decide) rfl ?_
                                        refine g_iinc (v := nI (w + 1)) (lv' := [(6, .int (nI (w + 1))), (2, .int 1), (10, .int (nI ((G3 i) + (cst (K (nb (i / 10) w)) w)))), (9, .int (nI (tg K i w))), (8, .int (nI (sb K i w))), (0, .ref m0), (1, .int (nI j)), (3, .int (nI i)), (4, .int (nI (i / 10))), (5, .int (nI (i % 10 / 2))), (7, .int (nI (nb (i / 10) w)))]) X dX6_shakes_236 9 rfl (nI_inc _) (by decide) rfl ?_
                                        refine g_goto X 75 dX6_shakes_239 (by decide) ?_
                                        refine g_lv (lv' := [(0, .ref m0), (1, .int (nI j)), (2, .int 1), (3, .int (nI i)), (4, .int (nI (i / 10))), (5, .int (nI (i % 10 / 2))), (6, .int (nI (w + 1)))]) X [5, 6, 1, 7, 8, 9, 0] rfl ?_
                                        exact ih_75 (w + 1) 1 (put G3 (tg K i w) (G3 i + tct K i w)) (by first | assumption | omega) ((rT_s hr3 (by omega) (by omega) ⟨hnb, hcs⟩ hqf hv).1) (fun h => absurd h (by decide)) (fun _ => Nat.lt_of_lt_of_le (rT_s hr3 (by omega) (by omega) ⟨hnb, hcs⟩ hqf hv).2 (if e : u = 0 then (by rw [(hq3 e).1]; exact Nat.le_refl _) else Nat.le_of_lt (hs3 e))) (by omega)
                                      · refine g_goto X 236 dX6_shakes_222 (by decide) ?_
                                        refine g_iinc (v := nI (w + 1)) (lv' := [(6, .int (nI (w + 1))), (10, .int (nI ((G3 i) + (cst (K (nb (i / 10) w)) w)))), (9, .int (nI (tg K i w))), (8, .int (nI (sb K i w))), (0, .ref m0), (1, .int (nI j)), (2, .int u), (3, .int (nI i)), (4, .int (nI (i / 10))), (5, .int (nI (i % 10 / 2))), (7, .int (nI (nb (i / 10) w)))]) X dX6_shakes_236 9 rfl (nI_inc _) (by decide) rfl ?_
                                        refine g_goto X 75 dX6_shakes_239 (by decide) ?_
                                        refine g_lv (lv' := [(0, .ref m0), (1, .int (nI j)), (2, .int u), (3, .int (nI i)), (4, .int (nI (i / 10))), (5, .int (nI (i % 10 / 2))), (6, .int (nI (w + 1)))]) X [4, 5, 6, 7, 8, 9, 0] rfl ?_
                                        exact ih_75 (w + 1) u G3 (by first | assumption | omega) (hr3) (fun h => ⟨(hq3 h).1, (hq3 h).2.1, tcw_s (hq3 h).2.2 (fun e => Nat.not_lt.mp c219_16)⟩) (hs3) (by omega)
                                refine g_iload_n X dX6_shakes_120 rfl 4 rfl ?_
                                refine g_iconst (v := 2) X dX6_shakes_121 (by decide) ?_
                                refine g_irem X dX6_shakes_122 (by decide) ?_
                                refine g_tope (y := nI (i % 2)) (nI_rem (by omega) (by decide) (by decide)) ?_
                                refine g_iconst (v := 1) X dX6_shakes_123 (by decide) ?_
                                refine g_icmpN_eq (a := (i % 2)) (b := 1) X rfl rfl (by omega) (by omega) 151 dX6_shakes_124 (by decide) (fun c124_17 => ?_) (fun c124_17 => ?_)
                                · refine g_iconst (v := 1) X dX6_shakes_151 (by decide) ?_
                                  refine g_goto X 156 dX6_shakes_152 (by decide) ?_
                                  refine g_lv (lv' := [(0, .ref m0), (1, .int (nI j)), (2, .int u), (3, .int (nI i)), (4, .int (nI (i / 10))), (5, .int (nI (i % 10 / 2))), (6, .int (nI w)), (7, .int (nI (nb (i / 10) w)))]) X [1, 2, 3, 4, 5, 6, 7, 0] rfl ?_
                                  refine g_tope (y := (nI (sb K i w))) ((congrArg nI (sb_1 (K := K) (i := i) (w := w) (Or.inl c124_17)).symm)) ?_
                                  exact at_156 trivial
                                · refine g_aload_n X dX6_shakes_127 rfl 1 rfl ?_
                                  refine g_get (C := RX6) (T := TX6) (N := 17) (ci := 6) (v := .ref a0) X rfl inT6 0 (by decide) wd_796 rfl dX6_shakes_128 0 rfl rfl ?_
                                  refine g_iload X dX6_shakes_131 5 rfl ?_
                                  refine g_iaload_N (k := (i / 10)) X rfl dX6_shakes_133 1 rfl (by first | assumption | omega) (by omega) ?_
                                  refine g_iconst (v := 3) X dX6_shakes_134 (by decide) ?_
                                  refine g_icmp_ne X 155 dX6_shakes_135 (by decide) (fun c135_18 => ?_) (fun c135_18 => ?_)
                                  · refine g_iconst (v := 0) X dX6_shakes_155 (by decide) ?_
                                    refine g_lv (lv' := [(0, .ref m0), (1, .int (nI j)), (2, .int u), (3, .int (nI i)), (4, .int (nI (i / 10))), (5, .int (nI (i % 10 / 2))), (6, .int (nI w)), (7, .int (nI (nb (i / 10) w)))]) X [1, 2, 3, 4, 5, 6, 7, 0] rfl ?_
                                    refine g_tope (y := (nI (sb K i w))) ((congrArg nI (sb_0 (K := K) (i := i) (w := w) (fun z => z.elim c124_17 (fun y => c135_18 y.1))).symm)) ?_
                                    exact at_156 trivial
                                  · refine g_iload X dX6_shakes_138 6 rfl ?_
                                    refine g_iconst (v := 4) X dX6_shakes_140 (by decide) ?_
                                    refine g_icmpN_ge (a := (i % 10 / 2)) (b := 4) X rfl rfl (by omega) (by omega) 155 dX6_shakes_141 (by decide) (fun c141_19 => ?_) (fun c141_19 => ?_)
                                    · refine g_iconst (v := 0) X dX6_shakes_155 (by decide) ?_
                                      refine g_lv (lv' := [(0, .ref m0), (1, .int (nI j)), (2, .int u), (3, .int (nI i)), (4, .int (nI (i / 10))), (5, .int (nI (i % 10 / 2))), (6, .int (nI w)), (7, .int (nI (nb (i / 10) w)))]) X [1, 2, 3, 4, 5, 6, 7, 0] rfl ?_
                                      refine g_tope (y := (nI (sb K i w))) ((congrArg nI (sb_0 (K := K) (i := i) (w := w) (fun z => z.elim c124_17 (fun y => absurd y.2.1 (by omega)))).symm)) ?_
                                      exact at_156 trivial
                                    · refine g_iload X dX6_shakes_144 6 rfl ?_
                                      refine g_iload X dX6_shakes_146 7 rfl ?_
                                      refine g_icmpN_eq (a := (i % 10 / 2)) (b := w) X rfl rfl (by omega) (by omega) 155 dX6_shakes_148 (by decide) (fun c148_20 => ?_) (fun c148_20 => ?_)
                                      · refine g_iconst (v := 0) X dX6_shakes_155 (by decide) ?_
                                        refine g_lv (lv' := [(0, .ref m0), (1, .int (nI j)), (2, .int u), (3, .int (nI i)), (4, .int (nI (i / 10))), (5, .int (nI (i % 10 / 2))), (6, .int (nI w)), (7, .int (nI (nb (i / 10) w)))]) X [1, 2, 3, 4, 5, 6, 7, 0] rfl ?_
                                        refine g_tope (y := (nI (sb K i w))) ((congrArg nI (sb_0 (K := K) (i := i) (w := w) (fun z => z.elim c124_17 (fun y => y.2.2 c148_20))).symm)) ?_
                                        exact at_156 trivial
                                      · refine g_iconst (v := 1) X dX6_shakes_151 (by decide) ?_
                                        refine g_goto X 156 dX6_shakes_152 (by decide) ?_
                                        refine g_lv (lv' := [(0, .ref m0), (1, .int (nI j)), (2, .int u), (3, .int (nI i)), (4, .int (nI (i / 10))), (5, .int (nI (i % 10 / 2))), (6, .int (nI w)), (7, .int (nI (nb (i / 10) w)))]) X [1, 2, 3, 4, 5, 6, 7, 0] rfl ?_
                                        refine g_tope (y := (nI (sb K i w))) ((congrArg nI (sb_1 (K := K) (i := i) (w := w) (Or.inr ⟨c135_18, by omega, c148_20⟩)).symm)) ?_
                                        exact at_156 trivial
                              · refine g_goto X 236 dX6_shakes_117 (by decide) ?_
                                refine g_iinc (v := nI (w + 1)) (lv' := [(6, .int (nI (w + 1))), (7, .int (nI (nb (i / 10) w))), (0, .ref m0), (1, .int (nI j)), (2, .int u), (3, .int (nI i)), (4, .int (nI (i / 10))), (5, .int (nI (i % 10 / 2)))]) X dX6_shakes_236 7 rfl (nI_inc _) (by decide) rfl ?_
                                refine g_goto X 75 dX6_shakes_239 (by decide) ?_
                                refine g_lv (lv' := [(0, .ref m0), (1, .int (nI j)), (2, .int u), (3, .int (nI i)), (4, .int (nI (i / 10))), (5, .int (nI (i % 10 / 2))), (6, .int (nI (w + 1)))]) X [2, 3, 4, 5, 6, 7, 0] rfl ?_
                                exact ih_75 (w + 1) u G3 (by first | assumption | omega) (hr3) (fun h => ⟨(hq3 h).1, (hq3 h).2.1, tcw_s (hq3 h).2.2 (fun e => absurd e.2 c114_11)⟩) (hs3) (by omega)
                    refine g_lv (lv' := [(0, .ref m0), (1, .int (nI j)), (2, .int z), (3, .int (nI i)), (4, .int (nI (i / 10))), (5, .int (nI ((i % 10) / 2))), (6, .int 0)]) X [3, 4, 5, 6, 2, 1, 0] rfl ?_
                    exact g_eq (ws' := [(m0, cO 6 [.ref a0, .ref a1, .ref a2, .int (nI tn), .ref a4, .int (nI ap), .ref a6, .int (nI rn), .ref a8, .ref a9, .int im, .ref b1, .ref b2, .ref b3, .ref b4, .ref b5, .ref b6]), (a0, cI d 36 K), (a2, cI d 5 S), (b6, cI d 360 (dF G2))]) (lv' := [(0, .ref m0), (1, .int (nI j)), (2, .int z), (3, .int (nI i)), (4, .int (nI (i / 10))), (5, .int (nI (i % 10 / 2))), (6, .int (nI 0))]) (rfl) (lv_cons (rfl) (lv_cons (rfl) (lv_cons (rfl) (lv_cons (rfl) (lv_cons (rfl) (lv_cons (vI (by rfl)) (lv_cons (vI (by rfl)) (rfl)))))))) (at_75 _ 0 z G2 (by first | assumption | omega) (hr2) (fun h => ⟨(hq2 h).1, (hq2 h).2, tcw_0⟩) (hs2) (Nat.lt_succ_self _))
              refine g_lv (lv' := [(0, .ref m0), (1, .int (nI j)), (2, .int 0), (3, .int 0)]) X [2, 3, 1, 0] rfl ?_
              exact g_eq (ws' := [(m0, cO 6 [.ref a0, .ref a1, .ref a2, .int (nI tn), .ref a4, .int (nI ap), .ref a6, .int (nI rn), .ref a8, .ref a9, .int im, .ref b1, .ref b2, .ref b3, .ref b4, .ref b5, .ref b6]), (a0, cI d 36 K), (a2, cI d 5 S), (b6, cI d 360 (dF G))]) (lv' := [(0, .ref m0), (1, .int (nI j)), (2, .int 0), (3, .int (nI 0))]) (rfl) (lv_cons (rfl) (lv_cons (rfl) (lv_cons (rfl) (lv_cons (vI (by rfl)) (rfl))))) (at_51 _ 0 0 G (by first | assumption | omega) (hr) (fun _ => ⟨rfl, tcq_0⟩) (fun h => absurd rfl h) (Nat.lt_succ_self _))
        refine g_lv (lv' := [(0, .ref m0), (1, .int (nI j)), (2, .int 1)]) X [1, 2, 0] rfl ?_
        exact at_43 _ 1 (ini (10 * jh + 8)) (rT_0 hjh e0 hcj) (fun h => absurd h (by decide)) (Nat.lt_succ_self _)
      · refine g_aload_n X dX6_shakes_9 rfl 0 rfl ?_
        refine g_get (C := RX6) (T := TX6) (N := 17) (ci := 6) (v := .ref b6) X rfl inT6 16 (by decide) wd_812 rfl dX6_shakes_10 0 rfl rfl ?_
        refine g_iload_n X dX6_shakes_13 rfl 2 rfl ?_
        refine g_bipush (v := (-9)) X dX6_shakes_14 (by decide) ?_
        refine g_iastore_N (k := i) (ws' := [(m0, cO 6 [.ref a0, .ref a1, .ref a2, .int (nI tn), .ref a4, .int (nI ap), .ref a6, .int (nI rn), .ref a8, .ref a9, .int im, .ref b1, .ref b2, .ref b3, .ref b4, .ref b5, .ref b6]), (a0, cI d 36 K), (a2, cI d 5 S), (b6, cI d 360 (upd (emF U i) i (-9)))]) X rfl dX6_shakes_16 3 rfl (by first | assumption | omega) (by omega) rfl ?_
        refine g_iinc (v := nI (i + 1)) (lv' := [(2, .int (nI (i + 1))), (0, .ref m0), (1, .int (nI j))]) X dX6_shakes_17 2 rfl (nI_inc _) (by decide) rfl ?_
        refine g_goto X 2 dX6_shakes_20 (by decide) ?_
        refine g_lv (lv' := [(0, .ref m0), (1, .int (nI j)), (2, .int (nI (i + 1)))]) X [1, 2, 0] rfl ?_
        exact g_eq (ws' := [(m0, cO 6 [.ref a0, .ref a1, .ref a2, .int (nI tn), .ref a4, .int (nI ap), .ref a6, .int (nI rn), .ref a8, .ref a9, .int im, .ref b1, .ref b2, .ref b3, .ref b4, .ref b5, .ref b6]), (a0, cI d 36 K), (a2, cI d 5 S), (b6, cI d 360 (emF U (i + 1)))]) (lv' := [(0, .ref m0), (1, .int (nI j)), (2, .int (nI (i + 1)))]) (ws_cons (rfl) (ws_cons (rfl) (ws_cons (rfl) (ws_cons (cI_eq (emF_s)) (rfl))))) (rfl) (ih_2 (i + 1) (by first | assumption | omega) (by omega))
  refine g_lv (lv' := [(0, .ref m0), (1, .int (nI j)), (2, .int 0)]) X [1, 2, 0] rfl ?_
  exact g_eq (ws' := [(m0, cO 6 [.ref a0, .ref a1, .ref a2, .int (nI tn), .ref a4, .int (nI ap), .ref a6, .int (nI rn), .ref a8, .ref a9, .int im, .ref b1, .ref b2, .ref b3, .ref b4, .ref b5, .ref b6]), (a0, cI d 36 K), (a2, cI d 5 S), (b6, cI d 360 (emF U 0))]) (lv' := [(0, .ref m0), (1, .int (nI j)), (2, .int (nI 0))]) (ws_cons (rfl) (ws_cons (rfl) (ws_cons (rfl) (ws_cons (cI_eq (emF_0)) (rfl))))) (lv_cons (rfl) (lv_cons (rfl) (lv_cons (vI (by rfl)) (rfl)))) (at_2 _ 0 (by first | assumption | omega) (Nat.lt_succ_self _))
set_option maxHeartbeats 4000000 in
set_option maxRecDepth 20000 in
theorem ct_X6_shake (l : Launch) (d : KD) (m0 a0 a1 a2 a4 a6 a8 a9 b1 b2 b3 b4 b5 b6 : Nat) (K S Rf U : Nat → Int32) (tn ap rn : Nat) (im : Int32) (x : Int32) (hh : cbe K S (S 0)) : Ct l d yX6_shake cX6_shake 2 (some .int) { frames := 2, cells := 0, slots := 0, locals := 52 } [.ref m0, .int x] [(m0, cO 6 [.ref a0, .ref a1, .ref a2, .int (nI tn), .ref a4, .int (nI ap), .ref a6, .int (nI rn), .ref a8, .ref a9, .int im, .ref b1, .ref b2, .ref b3, .ref b4, .ref b5, .ref b6]), (a0, cI d 36 K), (a2, cI d 5 S), (a9, cI d 7 (rf7 Rf)), (b6, cI d 360 U)] 0 0 (fun r wo => ∃ (U' : Nat → Int32), r = some (.int ((sp_shake K S x).1)) ∧ wo = [(m0, cO 6 [.ref a0, .ref a1, .ref a2, .int (nI tn), .ref a4, .int (nI ap), .ref a6, .int (nI rn), .ref a8, .ref a9, .int im, .ref b1, .ref b2, .ref b3, .ref b4, .ref b5, .ref b6]), (a0, cI d 36 K), (a2, cI d 5 S), (a9, cI d 7 (rf7 (bmp Rf (sp_shake K S x).2))), (b6, cI d 360 U')]) := by
  refine ct_of (own := RX6) (ini := false) (by decide +kernel) rfl (fun h => by cases h) (Nat.le_of_ble_eq_true rfl) ?_
  intro g X
  show g 0 0 [(m0, cO 6 [.ref a0, .ref a1, .ref a2, .int (nI tn), .ref a4, .int (nI ap), .ref a6, .int (nI rn), .ref a8, .ref a9, .int im, .ref b1, .ref b2, .ref b3, .ref b4, .ref b5, .ref b6]), (a0, cI d 36 K), (a2, cI d 5 S), (a9, cI d 7 (rf7 Rf)), (b6, cI d 360 U)] [(0, .ref m0), (1, .int x)] 0 []
  refine g_iload_n X dX6_shake_0 rfl 1 rfl ?_
  refine g_dS (n := 1) (wr := [(m0, cO 6 [.ref a0, .ref a1, .ref a2, .int (nI tn), .ref a4, .int (nI ap), .ref a6, .int (nI rn), .ref a8, .ref a9, .int im, .ref b1, .ref b2, .ref b3, .ref b4, .ref b5, .ref b6]), (a0, cI d 36 K), (a2, cI d 5 S), (a9, cI d 7 (rf7 Rf)), (b6, cI d 360 U)]) (ws' := [(m0, cO 6 [.ref a0, .ref a1, .ref a2, .int (nI tn), .ref a4, .int (nI ap), .ref a6, .int (nI rn), .ref a8, .ref a9, .int im, .ref b1, .ref b2, .ref b3, .ref b4, .ref b5, .ref b6]), (a0, cI d 36 K), (a2, cI d 5 S), (a9, cI d 7 (rf7 Rf)), (b6, cI d 360 U)]) (st' := [.int (b2i (sq x))]) (As := [.int x]) (st := []) X (ct_X6_isSquare l d x) wd_884 wd_882 wd_883 wd_58 hd_X6_isSquare ⟨(Nat.le_of_ble_eq_true rfl), (Nat.le_of_ble_eq_true rfl)⟩ rfl rfl dX6_shake_1 ⟨(Nat.le_of_ble_eq_true rfl), (Nat.le_of_ble_eq_true rfl)⟩ rfl rfl (Nat.le_of_ble_eq_true rfl) [] [0, 1, 2, 3, 4] rfl rfl rfl rfl rfl (by decide) [0, 1, 2, 3, 4] rfl rfl rfl rfl ?_
  refine g_ifB_eq X 15 dX6_shake_4 (by decide) (fun c4_1 => ?_) (fun c4_1 => ?_)
  · refine g_aload_n X dX6_shake_15 rfl 0 rfl ?_
    refine g_iconst (v := (-1)) X dX6_shake_16 (by decide) ?_
    refine g_dV (ci := 6) (q0 := 0) (n := 1) (wr := [(a0, cI d 36 K), (a2, cI d 5 S), (b6, cI d 360 U)]) (ws' := [(m0, cO 6 [.ref a0, .ref a1, .ref a2, .int (nI tn), .ref a4, .int (nI ap), .ref a6, .int (nI rn), .ref a8, .ref a9, .int im, .ref b1, .ref b2, .ref b3, .ref b4, .ref b5, .ref b6]), (a0, cI d 36 K), (a2, cI d 5 S), (a9, cI d 7 (rf7 (bmp Rf 1))), (b6, cI d 360 U)]) (st' := [.int (-1)]) (As := [.int (-1)]) (st := []) X (ct_X6_no_1 l d m0 a0 a1 a2 a4 a6 a8 a9 b1 b2 b3 b4 b5 b6 Rf tn ap rn im) wd_855 wd_852 wd_854 wd_25 wd_58 hd_X6_no rfl ⟨(Nat.le_of_ble_eq_true rfl), (Nat.le_of_ble_eq_true rfl)⟩ rfl rfl dX6_shake_17 ⟨(Nat.le_of_ble_eq_true rfl), (Nat.le_of_ble_eq_true rfl)⟩ rfl rfl (Nat.le_of_ble_eq_true rfl) [0, 3] [1, 2, 4] rfl rfl rfl rfl rfl (by decide) rfl [3, 0, 1, 4, 2] rfl rfl rfl rfl ?_
    have e_ : sp_shake K S x = ((-1), 1) := if_pos c4_1
    exact g_end X (gE_i dX6_shake_20 (rfl) (Nat.le_of_ble_eq_true rfl) (Nat.le_of_ble_eq_true rfl) ⟨U, congrArg (fun z => some (Value.int z)) (by rw [e_]), ws_cons (rfl) (ws_cons (rfl) (ws_cons (rfl) (ws_cons (cI_eq (by first | (rw [e_]; done) | (rw [e_]; rfl) | (rw [e_]; simp only [ix, ↓reduceIte]; done) | simp [e_, *])) (ws_cons (rfl) (rfl)))))⟩)
  · obtain ⟨j_x, hj_x, rfl⟩ := sq_nat c4_1
    have hcl_j_x : (nI j_x).toNatClampNeg = j_x := nI_clamp (by omega)
    refine g_aload_n X dX6_shake_7 rfl 0 rfl ?_
    refine g_iload_n X dX6_shake_8 rfl 1 rfl ?_
    refine g_callV (ci := 6) (q0 := 0) (n := 1) (wr := [(a9, cI d 7 (rf7 Rf))]) (As := [.int (nI j_x)]) (st := []) X (ct_X6_shakes l d m0 a0 a1 a2 a4 a6 a8 a9 b1 b2 b3 b4 b5 b6 K S U tn ap rn im j_x (by first | assumption | omega) (by first | assumption | omega)) wd_971 wd_968 wd_970 wd_42 wd_58 hd_X6_shakes rfl ⟨(Nat.le_of_ble_eq_true rfl), (Nat.le_of_ble_eq_true rfl)⟩ rfl rfl dX6_shake_9 ⟨(Nat.le_of_ble_eq_true rfl), (Nat.le_of_ble_eq_true rfl)⟩ rfl rfl (Nat.le_of_ble_eq_true rfl) [0, 1, 2, 4] [3] rfl rfl rfl rfl rfl (by decide) rfl (fun r_ wo_ hp_ => ?_)
    obtain ⟨U_3, rfl, rfl⟩ := hp_
    show g 0 0 [(a9, cI d 7 (rf7 Rf)), (m0, cO 6 [.ref a0, .ref a1, .ref a2, .int (nI tn), .ref a4, .int (nI ap), .ref a6, .int (nI rn), .ref a8, .ref a9, .int im, .ref b1, .ref b2, .ref b3, .ref b4, .ref b5, .ref b6]), (a0, cI d 36 K), (a2, cI d 5 S), (b6, cI d 360 U_3)] [(0, .ref m0), (1, .int (nI j_x))] 12 [.int (dI (shk K S j_x))]
    refine g_ws (ws' := [(m0, cO 6 [.ref a0, .ref a1, .ref a2, .int (nI tn), .ref a4, .int (nI ap), .ref a6, .int (nI rn), .ref a8, .ref a9, .int im, .ref b1, .ref b2, .ref b3, .ref b4, .ref b5, .ref b6]), (a0, cI d 36 K), (a2, cI d 5 S), (a9, cI d 7 (rf7 Rf)), (b6, cI d 360 U_3)]) X [1, 2, 3, 0, 4] rfl rfl rfl ?_
    refine g_goto X 20 dX6_shake_12 (by decide) ?_
    have e_ : sp_shake K S (nI j_x) = (dI (shk K S j_x), 0) := shake_2 hj_x
    exact g_end X (gE_i dX6_shake_20 (rfl) (Nat.le_of_ble_eq_true rfl) (Nat.le_of_ble_eq_true rfl) ⟨U_3, congrArg (fun z => some (Value.int z)) (by rw [e_]), ws_cons (rfl) (ws_cons (rfl) (ws_cons (rfl) (ws_cons (cI_eq (by first | (rw [e_]; done) | (rw [e_]; rfl) | (rw [e_]; simp only [ix, hcl_j_x, ↓reduceIte]; done) | simp [e_, *])) (ws_cons (rfl) (rfl)))))⟩)
set_option maxHeartbeats 4000000 in
set_option maxRecDepth 20000 in
theorem ct_X6_led (l : Launch) (d : KD) (m0 a0 a1 a2 a4 a6 a8 a9 b1 b2 b3 b4 b5 b6 : Nat) (K S Rf H U : Nat → Int32) (tn ap rn : Nat) (im : Int32) (x : Int32) (hh : cbe K S (S 0)) : Ct l d yX6_led cX6_led 3 (some .int) { frames := 3, cells := 0, slots := 0, locals := 69 } [.ref m0, .int x] [(m0, cO 6 [.ref a0, .ref a1, .ref a2, .int (nI tn), .ref a4, .int (nI ap), .ref a6, .int (nI rn), .ref a8, .ref a9, .int im, .ref b1, .ref b2, .ref b3, .ref b4, .ref b5, .ref b6]), (a0, cI d 36 K), (a2, cI d 5 S), (a9, cI d 7 (rf7 Rf)), (b5, cI d 36 H), (b6, cI d 360 U)] 0 0 (fun r wo => ∃ (H' : Nat → Int32), ∃ (U' : Nat → Int32), r = some (.int ((sp_led K S x).1)) ∧ wo = [(m0, cO 6 [.ref a0, .ref a1, .ref a2, .int (nI tn), .ref a4, .int (nI ap), .ref a6, .int (nI rn), .ref a8, .ref a9, .int im, .ref b1, .ref b2, .ref b3, .ref b4, .ref b5, .ref b6]), (a0, cI d 36 K), (a2, cI d 5 S), (a9, cI d 7 (rf7 (bmp Rf (sp_led K S x).2))), (b5, cI d 36 H'), (b6, cI d 360 U')]) := by
  refine ct_of (own := RX6) (ini := false) (by decide +kernel) rfl (fun h => by cases h) (Nat.le_of_ble_eq_true rfl) ?_
  intro g X
  show g 0 0 [(m0, cO 6 [.ref a0, .ref a1, .ref a2, .int (nI tn), .ref a4, .int (nI ap), .ref a6, .int (nI rn), .ref a8, .ref a9, .int im, .ref b1, .ref b2, .ref b3, .ref b4, .ref b5, .ref b6]), (a0, cI d 36 K), (a2, cI d 5 S), (a9, cI d 7 (rf7 Rf)), (b5, cI d 36 H), (b6, cI d 360 U)] [(0, .ref m0), (1, .int x)] 0 []
  refine g_iload_n X dX6_led_0 rfl 1 rfl ?_
  refine g_dS (n := 1) (wr := [(m0, cO 6 [.ref a0, .ref a1, .ref a2, .int (nI tn), .ref a4, .int (nI ap), .ref a6, .int (nI rn), .ref a8, .ref a9, .int im, .ref b1, .ref b2, .ref b3, .ref b4, .ref b5, .ref b6]), (a0, cI d 36 K), (a2, cI d 5 S), (a9, cI d 7 (rf7 Rf)), (b5, cI d 36 H), (b6, cI d 360 U)]) (ws' := [(m0, cO 6 [.ref a0, .ref a1, .ref a2, .int (nI tn), .ref a4, .int (nI ap), .ref a6, .int (nI rn), .ref a8, .ref a9, .int im, .ref b1, .ref b2, .ref b3, .ref b4, .ref b5, .ref b6]), (a0, cI d 36 K), (a2, cI d 5 S), (a9, cI d 7 (rf7 Rf)), (b5, cI d 36 H), (b6, cI d 360 U)]) (st' := [.int (b2i (sq x))]) (As := [.int x]) (st := []) X (ct_X6_isSquare l d x) wd_884 wd_882 wd_883 wd_58 hd_X6_isSquare ⟨(Nat.le_of_ble_eq_true rfl), (Nat.le_of_ble_eq_true rfl)⟩ rfl rfl dX6_led_1 ⟨(Nat.le_of_ble_eq_true rfl), (Nat.le_of_ble_eq_true rfl)⟩ rfl rfl (Nat.le_of_ble_eq_true rfl) [] [0, 1, 2, 3, 4, 5] rfl rfl rfl rfl rfl (by decide) [0, 1, 2, 3, 4, 5] rfl rfl rfl rfl ?_
  refine g_ifB_ne X 13 dX6_led_4 (by decide) (fun c4_1 => ?_) (fun c4_1 => ?_)
  · obtain ⟨j_x, hj_x, rfl⟩ := sq_nat c4_1
    have hcl_j_x : (nI j_x).toNatClampNeg = j_x := nI_clamp (by omega)
    refine g_aload_n X dX6_led_13 rfl 0 rfl ?_
    refine g_iload_n X dX6_led_14 rfl 1 rfl ?_
    refine g_callV (ci := 6) (q0 := 0) (n := 1) (wr := [(a9, cI d 7 (rf7 Rf)), (b5, cI d 36 H)]) (As := [.int (nI j_x)]) (st := []) X (ct_X6_shakes l d m0 a0 a1 a2 a4 a6 a8 a9 b1 b2 b3 b4 b5 b6 K S U tn ap rn im j_x (by first | assumption | omega) (by first | exact hh | exact hh.1)) wd_971 wd_968 wd_970 wd_42 wd_58 hd_X6_shakes rfl ⟨(Nat.le_of_ble_eq_true rfl), (Nat.le_of_ble_eq_true rfl)⟩ rfl rfl dX6_led_15 ⟨(Nat.le_of_ble_eq_true rfl), (Nat.le_of_ble_eq_true rfl)⟩ rfl rfl (Nat.le_of_ble_eq_true rfl) [0, 1, 2, 5] [3, 4] rfl rfl rfl rfl rfl (by decide) rfl (fun r_ wo_ hp_ => ?_)
    obtain ⟨U_2, rfl, rfl⟩ := hp_
    show g 0 0 [(a9, cI d 7 (rf7 Rf)), (b5, cI d 36 H), (m0, cO 6 [.ref a0, .ref a1, .ref a2, .int (nI tn), .ref a4, .int (nI ap), .ref a6, .int (nI rn), .ref a8, .ref a9, .int im, .ref b1, .ref b2, .ref b3, .ref b4, .ref b5, .ref b6]), (a0, cI d 36 K), (a2, cI d 5 S), (b6, cI d 360 U_2)] [(0, .ref m0), (1, .int (nI j_x))] 18 [.int (dI (shk K S j_x))]
    refine g_ws (ws' := [(m0, cO 6 [.ref a0, .ref a1, .ref a2, .int (nI tn), .ref a4, .int (nI ap), .ref a6, .int (nI rn), .ref a8, .ref a9, .int im, .ref b1, .ref b2, .ref b3, .ref b4, .ref b5, .ref b6]), (a0, cI d 36 K), (a2, cI d 5 S), (a9, cI d 7 (rf7 Rf)), (b5, cI d 36 H), (b6, cI d 360 U_2)]) X [2, 3, 4, 0, 1, 5] rfl rfl rfl ?_
    refine g_istore_n (lv' := [(2, .int (dI (shk K S j_x))), (0, .ref m0), (1, .int (nI j_x))]) X dX6_led_18 rfl (by decide) rfl ?_
    refine g_aload_n X dX6_led_19 rfl 1 rfl ?_
    refine g_dV (ci := 6) (q0 := 0) (n := 0) (wr := [(a9, cI d 7 (rf7 Rf)), (b6, cI d 360 U_2)]) (ws' := [(m0, cO 6 [.ref a0, .ref a1, .ref a2, .int (nI tn), .ref a4, .int (nI ap), .ref a6, .int (nI rn), .ref a8, .ref a9, .int im, .ref b1, .ref b2, .ref b3, .ref b4, .ref b5, .ref b6]), (a0, cI d 36 K), (a2, cI d 5 S), (a9, cI d 7 (rf7 Rf)), (b5, cI d 36 (dF (dsI K S (S 0)))), (b6, cI d 360 U_2)]) (st' := []) (As := []) (st := []) X (ct_X6_fromHome l d m0 a0 a1 a2 a4 a6 a8 a9 b1 b2 b3 b4 b5 b6 K S H tn ap rn im (by first | exact hh | exact hh.1)) wd_900 wd_897 wd_899 wd_33 wd_58 hd_X6_fromHome rfl ⟨(Nat.le_of_ble_eq_true rfl), (Nat.le_of_ble_eq_true rfl)⟩ rfl rfl dX6_led_20 ⟨(Nat.le_of_ble_eq_true rfl), (Nat.le_of_ble_eq_true rfl)⟩ rfl rfl (Nat.le_of_ble_eq_true rfl) [0, 1, 2, 4] [3, 5] rfl rfl rfl rfl rfl (by decide) rfl [2, 3, 4, 0, 5, 1] rfl rfl rfl rfl ?_
    refine g_iload_n X dX6_led_23 rfl 0 rfl ?_
    refine g_bipush (v := (-9)) X dX6_led_24 (by decide) ?_
    refine g_icmp_ne X 34 dX6_led_26 (by decide) (fun c26_3 => ?_) (fun c26_3 => ?_)
    · refine g_iload_n X dX6_led_34 rfl 0 rfl ?_
      refine g_aload_n X dX6_led_35 rfl 1 rfl ?_
      refine g_get (C := RX6) (T := TX6) (N := 17) (ci := 6) (v := .ref b5) X rfl inT6 15 (by decide) wd_811 rfl dX6_led_36 0 rfl rfl ?_
      refine g_iload_n X dX6_led_39 rfl 2 rfl ?_
      refine g_iaload_N (k := j_x) X rfl dX6_led_40 4 rfl (by first | assumption | omega) (by omega) ?_
      refine g_isub X dX6_led_41 ?_
      have e_ : sp_led K S (nI j_x) = ((dI (shk K S j_x)) - (dI ((dsI K S (S 0)) j_x)), 0) := led_3 hj_x c26_3
      exact g_end X (gE_i dX6_led_42 (rfl) (Nat.le_of_ble_eq_true rfl) (Nat.le_of_ble_eq_true rfl) ⟨(dF (dsI K S (S 0))), U_2, congrArg (fun z => some (Value.int z)) (by rw [e_]), ws_cons (rfl) (ws_cons (rfl) (ws_cons (rfl) (ws_cons (cI_eq (by first | (rw [e_]; done) | (rw [e_]; rfl) | (rw [e_]; simp only [ix, hcl_j_x, ↓reduceIte]; done) | simp [e_, *])) (ws_cons (rfl) (ws_cons (rfl) (rfl))))))⟩)
    · refine g_bipush (v := (-9)) X dX6_led_29 (by decide) ?_
      refine g_goto X 42 dX6_led_31 (by decide) ?_
      have e_ : sp_led K S (nI j_x) = ((-9), 0) := led_2 hj_x c26_3
      exact g_end X (gE_i dX6_led_42 (rfl) (Nat.le_of_ble_eq_true rfl) (Nat.le_of_ble_eq_true rfl) ⟨(dF (dsI K S (S 0))), U_2, congrArg (fun z => some (Value.int z)) (by rw [e_]), ws_cons (rfl) (ws_cons (rfl) (ws_cons (rfl) (ws_cons (cI_eq (by first | (rw [e_]; done) | (rw [e_]; rfl) | (rw [e_]; simp only [ix, hcl_j_x, ↓reduceIte]; done) | simp [e_, *])) (ws_cons (rfl) (ws_cons (rfl) (rfl))))))⟩)
  · refine g_aload_n X dX6_led_7 rfl 0 rfl ?_
    refine g_iconst (v := (-1)) X dX6_led_8 (by decide) ?_
    refine g_dV (ci := 6) (q0 := 0) (n := 1) (wr := [(a0, cI d 36 K), (a2, cI d 5 S), (b5, cI d 36 H), (b6, cI d 360 U)]) (ws' := [(m0, cO 6 [.ref a0, .ref a1, .ref a2, .int (nI tn), .ref a4, .int (nI ap), .ref a6, .int (nI rn), .ref a8, .ref a9, .int im, .ref b1, .ref b2, .ref b3, .ref b4, .ref b5, .ref b6]), (a0, cI d 36 K), (a2, cI d 5 S), (a9, cI d 7 (rf7 (bmp Rf 1))), (b5, cI d 36 H), (b6, cI d 360 U)]) (st' := [.int (-1)]) (As := [.int (-1)]) (st := []) X (ct_X6_no_1 l d m0 a0 a1 a2 a4 a6 a8 a9 b1 b2 b3 b4 b5 b6 Rf tn ap rn im) wd_855 wd_852 wd_854 wd_25 wd_58 hd_X6_no rfl ⟨(Nat.le_of_ble_eq_true rfl), (Nat.le_of_ble_eq_true rfl)⟩ rfl rfl dX6_led_9 ⟨(Nat.le_of_ble_eq_true rfl), (Nat.le_of_ble_eq_true rfl)⟩ rfl rfl (Nat.le_of_ble_eq_true rfl) [0, 3] [1, 2, 4, 5] rfl rfl rfl rfl rfl (by decide) rfl [4, 0, 1, 5, 2, 3] rfl rfl rfl rfl ?_
    have e_ : sp_led K S x = ((-1), 1) := if_pos (by assumption)
    exact g_end X (gE_i dX6_led_12 (rfl) (Nat.le_of_ble_eq_true rfl) (Nat.le_of_ble_eq_true rfl) ⟨H, U, congrArg (fun z => some (Value.int z)) (by rw [e_]), ws_cons (rfl) (ws_cons (rfl) (ws_cons (rfl) (ws_cons (cI_eq (by first | (rw [e_]; done) | (rw [e_]; rfl) | (rw [e_]; simp only [ix, ↓reduceIte]; done) | simp [e_, *])) (ws_cons (rfl) (ws_cons (rfl) (rfl))))))⟩)
