theorem hd_J0_charAt_5068e : yJ0_charAt_5068e.cls = "java/lang/String" ∧ yJ0_charAt_5068e.cls ≠ "java/lang/invoke/MethodHandle" ∧ yJ0_charAt_5068e.cls ≠ "java/lang/invoke/VarHandle" ∧ (parseMethodDescriptor yJ0_charAt_5068e.desc).map (fun d => d.parameters.length) = some 1 := by decide +kernel
theorem hd_J0_isEmpty_aae02 : yJ0_isEmpty_aae02.cls = "java/lang/String" ∧ yJ0_isEmpty_aae02.cls ≠ "java/lang/invoke/MethodHandle" ∧ yJ0_isEmpty_aae02.cls ≠ "java/lang/invoke/VarHandle" ∧ (parseMethodDescriptor yJ0_isEmpty_aae02.desc).map (fun d => d.parameters.length) = some 0 := by decide +kernel
theorem hd_X4_formBehind : yX4_formBehind.cls ≠ "java/lang/invoke/MethodHandle" ∧ yX4_formBehind.cls ≠ "java/lang/invoke/VarHandle" ∧ (parseMethodDescriptor yX4_formBehind.desc).map (fun d => d.parameters.length) = some 1 := by decide +kernel
theorem hd_X4_letterAt : yX4_letterAt.cls = "HeWreckedHimself$Text" ∧ yX4_letterAt.cls ≠ "java/lang/invoke/MethodHandle" ∧ yX4_letterAt.cls ≠ "java/lang/invoke/VarHandle" ∧ (parseMethodDescriptor yX4_letterAt.desc).map (fun d => d.parameters.length) = some 1 := by decide +kernel
theorem hd_X4_suitsForm : yX4_suitsForm.cls ≠ "java/lang/invoke/MethodHandle" ∧ yX4_suitsForm.cls ≠ "java/lang/invoke/VarHandle" ∧ (parseMethodDescriptor yX4_suitsForm.desc).map (fun d => d.parameters.length) = some 2 := by decide +kernel
set_option maxHeartbeats 4000000 in
set_option maxRecDepth 20000 in
theorem ct_X4_faultOfForm (l : Launch) (d : KD) (e0 e1 tn : Nat) (A : Nat → Nat) (htn : tn ≤ 96) (hA : ∀ q, A q < 256) : Ct l d yX4_faultOfForm cX4_faultOfForm 4 (some .int) { frames := 5, cells := 0, slots := 0, locals := 112 } [.ref e0] [(e0, cO 4 [.ref e1, .int (nI tn)]), (e1, cI d 96 (nF A))] 0 0 (fun r wo => r = some (.int (fof A tn)) ∧ wo = [(e0, cO 4 [.ref e1, .int (nI tn)]), (e1, cI d 96 (nF A))]) := by
  refine ct_of (own := RX4) (ini := false) (by decide +kernel) rfl (fun h => by cases h) (Nat.le_of_ble_eq_true rfl) ?_
  intro g X
  show g 0 0 [(e0, cO 4 [.ref e1, .int (nI tn)]), (e1, cI d 96 (nF A))] [(0, .ref e0)] 0 []
  refine g_iconst (v := 0) X dX4_faultOfForm_0 (by decide) ?_
  refine g_istore_n (lv' := [(1, .int 0), (0, .ref e0)]) X dX4_faultOfForm_1 rfl (by decide) rfl ?_
  have at_2 : ∀ (n_ : Nat) (p : Nat) (k : Nat) (hp : p ≤ 96) (hk : 96 ≤ p + k) (hs : fofF A tn (k + 1) p = fofF A tn 97 0), (97 - p) < n_ → g 0 0 [(e0, cO 4 [.ref e1, .int (nI tn)]), (e1, cI d 96 (nF A))] [(0, .ref e0), (1, .int (nI p))] 2 [] := by
    intro n_
    induction n_ with
    | zero => intro p k hp hk hs hn_; exact absurd hn_ (Nat.not_lt_zero _)
    | succ n_ ih_2 =>
      intro p k hp hk hs hn_2
      have hf := strL_0 (fbi (ltA A tn p)) (fbi_le _)
      refine g_aload_n X dX4_faultOfForm_2 rfl 0 rfl ?_
      refine g_iload_n X dX4_faultOfForm_3 rfl 1 rfl ?_
      refine g_dV (ci := 4) (q0 := 0) (n := 1) (wr := []) (ws' := [(e0, cO 4 [.ref e1, .int (nI tn)]), (e1, cI d 96 (nF A))]) (st' := [.int (ltA A tn p)]) (As := [.int (nI p)]) (st := []) X (ct_X4_letterAt l d e0 e1 tn A p (by first | assumption | omega) (by have := strL_le (fbi (ltA A tn p)); omega)) wd_208 wd_205 wd_207 wd_1 wd_54 hd_X4_letterAt rfl ⟨(Nat.le_of_ble_eq_true rfl), (Nat.le_of_ble_eq_true rfl)⟩ rfl rfl dX4_faultOfForm_4 ⟨(Nat.le_of_ble_eq_true rfl), (Nat.le_of_ble_eq_true rfl)⟩ rfl rfl (Nat.le_of_ble_eq_true rfl) [0, 1] [] rfl rfl rfl rfl rfl (by decide) rfl [0, 1] rfl rfl rfl rfl ?_
      refine g_dS (n := 1) (wr := [(e0, cO 4 [.ref e1, .int (nI tn)]), (e1, cI d 96 (nF A))]) (ws' := [(e0, cO 4 [.ref e1, .int (nI tn)]), (e1, cI d 96 (nF A))]) (st' := [.ref (kS d (fbi (ltA A tn p)))]) (As := [.int (ltA A tn p)]) (st := []) X (ct_X4_formBehind l d (ltA A tn p)) wd_211 wd_209 wd_210 wd_54 hd_X4_formBehind ⟨(Nat.le_of_ble_eq_true rfl), (Nat.le_of_ble_eq_true rfl)⟩ rfl rfl dX4_faultOfForm_7 ⟨(Nat.le_of_ble_eq_true rfl), (Nat.le_of_ble_eq_true rfl)⟩ rfl rfl (Nat.le_of_ble_eq_true rfl) [] [0, 1] rfl rfl rfl rfl rfl (by decide) [0, 1] rfl rfl rfl rfl ?_
      refine g_astore_n (lv' := [(2, .ref (kS d (fbi (ltA A tn p)))), (0, .ref e0), (1, .int (nI p))]) X dX4_faultOfForm_10 rfl (by decide) rfl ?_
      refine g_aload_n X dX4_faultOfForm_11 rfl 0 rfl ?_
      refine g_dVS (n := 0) (st' := [.int (b2i (strL.getD (fbi (ltA A tn p)) 0 = 0))]) (As := []) (st := []) X (fbi (ltA A tn p)) (fbi_le _) (ct_J0_isEmpty_aae02 l d (fbi (ltA A tn p)) (fbi_le _)) wd_222 wd_219 wd_220 wd_221 wd_59 hd_J0_isEmpty_aae02 ⟨(Nat.le_of_ble_eq_true rfl), (Nat.le_of_ble_eq_true rfl)⟩ rfl rfl dX4_faultOfForm_12 ⟨(Nat.le_of_ble_eq_true rfl), (Nat.le_of_ble_eq_true rfl)⟩ rfl rfl (Nat.le_of_ble_eq_true rfl) [0, 1] rfl rfl rfl ?_
      refine g_ifB_eq X 24 dX4_faultOfForm_15 (by decide) (fun c15_1 => ?_) (fun c15_1 => ?_)
      · have hf6 : ¬ fbi (ltA A tn p) = 6 := fun e => c15_1 (hf.mpr e)
        refine g_iinc (v := nI (p + 1)) (lv' := [(1, .int (nI (p + 1))), (2, .ref (kS d (fbi (ltA A tn p)))), (0, .ref e0)]) X dX4_faultOfForm_24 2 rfl (nI_inc _) (by decide) rfl ?_
        refine g_iconst (v := 0) X dX4_faultOfForm_27 (by decide) ?_
        refine g_istore_n (lv' := [(3, .int 0), (1, .int (nI (p + 1))), (2, .ref (kS d (fbi (ltA A tn p)))), (0, .ref e0)]) X dX4_faultOfForm_28 rfl (by decide) rfl ?_
        have at_29 : ∀ (n_ : Nat) (i : Nat) (hi : i ≤ strL.getD (fbi (ltA A tn p)) 0) (hs2 : ifF A tn (fbi (ltA A tn p)) (p + 1) (strL.getD (fbi (ltA A tn p)) 0 - i) i = ifS A tn (fbi (ltA A tn p)) (p + 1)), (strL.getD (fbi (ltA A tn p)) 0 - i) < n_ → g 0 0 [(e0, cO 4 [.ref e1, .int (nI tn)]), (e1, cI d 96 (nF A))] [(0, .ref e0), (1, .int (nI (p + 1 + i))), (2, .ref (kS d (fbi (ltA A tn p)))), (3, .int (nI i))] 29 [] := by
          intro n_
          induction n_ with
          | zero => intro i hi hs2 hn_; exact absurd hn_ (Nat.not_lt_zero _)
          | succ n_ ih_29 =>
            intro i hi hs2 hn_29
            refine g_iload_n X dX4_faultOfForm_29 rfl 3 rfl ?_
            refine g_aload_n X dX4_faultOfForm_30 rfl 2 rfl ?_
            refine g_dVS (n := 0) (st' := [.int (nI (strL.getD (fbi (ltA A tn p)) 0)), .int (nI i)]) (As := []) (st := [.int (nI i)]) X (fbi (ltA A tn p)) (fbi_le _) (ct_J0_length_8abf5 l d (fbi (ltA A tn p)) (fbi_le _)) wd_226 wd_223 wd_224 wd_225 wd_59 hd_J0_length_8abf5 ⟨(Nat.le_of_ble_eq_true rfl), (Nat.le_of_ble_eq_true rfl)⟩ rfl rfl dX4_faultOfForm_31 ⟨(Nat.le_of_ble_eq_true rfl), (Nat.le_of_ble_eq_true rfl)⟩ rfl rfl (Nat.le_of_ble_eq_true rfl) [0, 1] rfl rfl rfl ?_
            refine g_icmpN_ge (a := i) (b := (strL.getD (fbi (ltA A tn p)) 0)) X rfl rfl (by have := strL_le (fbi (ltA A tn p)); omega) (by have := strL_le (fbi (ltA A tn p)); omega) 68 dX4_faultOfForm_34 (by decide) (fun c34_2 => ?_) (fun c34_2 => ?_)
            · refine g_iload_n X dX4_faultOfForm_68 rfl 1 rfl ?_
              refine g_aload_n X dX4_faultOfForm_69 rfl 0 rfl ?_
              refine g_get (C := RX4) (T := TX4) (N := 2) (ci := 4) (v := .int (nI tn)) X rfl inT4 1 (by decide) wd_99 rfl dX4_faultOfForm_70 0 rfl rfl ?_
              refine g_icmpN_lt (a := (p + 1 + i)) (b := tn) X rfl rfl (by have := strL_le (fbi (ltA A tn p)); omega) (by have := strL_le (fbi (ltA A tn p)); omega) 2 dX4_faultOfForm_73 (by decide) (fun c73_3 => ?_) (fun c73_3 => ?_)
              · refine g_lv (lv' := [(0, .ref e0), (1, .int (nI (p + 1 + i)))]) X [0, 1] rfl ?_
                exact ih_2 (p + 1 + i) (k - 1) (by first | assumption | omega) (by first | assumption | omega) ((fofF_k (by omega) (by omega) hf6 (ifS_none (by omega) hs2) (by omega)).trans hs) (by omega)
              · refine g_iconst (v := 0) X dX4_faultOfForm_76 (by decide) ?_
                exact g_end X (gE_i dX4_faultOfForm_77 (rfl) (Nat.le_of_ble_eq_true rfl) (Nat.le_of_ble_eq_true rfl) ⟨congrArg (fun z => some (Value.int z)) (fof_3 (i := i) hs hf6 (ifS_none (i := i) (by omega) hs2) (by omega) (by omega)), rfl⟩)
            · refine g_aload_n X dX4_faultOfForm_37 rfl 2 rfl ?_
              refine g_iload_n X dX4_faultOfForm_38 rfl 3 rfl ?_
              refine g_dVS (n := 1) (st' := [.int (stc (fbi (ltA A tn p)) i)]) (As := [.int (nI i)]) (st := []) X (fbi (ltA A tn p)) (fbi_le _) (ct_J0_charAt_5068e l d (fbi (ltA A tn p)) i (fbi_le _) (by first | assumption | omega)) wd_236 wd_233 wd_234 wd_235 wd_59 hd_J0_charAt_5068e ⟨(Nat.le_of_ble_eq_true rfl), (Nat.le_of_ble_eq_true rfl)⟩ rfl rfl dX4_faultOfForm_39 ⟨(Nat.le_of_ble_eq_true rfl), (Nat.le_of_ble_eq_true rfl)⟩ rfl rfl (Nat.le_of_ble_eq_true rfl) [0, 1] rfl rfl rfl ?_
              refine g_aload_n X dX4_faultOfForm_42 rfl 0 rfl ?_
              refine g_iload_n X dX4_faultOfForm_43 rfl 1 rfl ?_
              refine g_dV (ci := 4) (q0 := 0) (n := 1) (wr := []) (ws' := [(e0, cO 4 [.ref e1, .int (nI tn)]), (e1, cI d 96 (nF A))]) (st' := [.int (ltA A tn (p + 1 + i)), .int (stc (fbi (ltA A tn p)) i)]) (As := [.int (nI (p + 1 + i))]) (st := [.int (stc (fbi (ltA A tn p)) i)]) X (ct_X4_letterAt l d e0 e1 tn A (p + 1 + i) (by first | assumption | omega) (by have := strL_le (fbi (ltA A tn p)); omega)) wd_208 wd_205 wd_207 wd_1 wd_54 hd_X4_letterAt rfl ⟨(Nat.le_of_ble_eq_true rfl), (Nat.le_of_ble_eq_true rfl)⟩ rfl rfl dX4_faultOfForm_44 ⟨(Nat.le_of_ble_eq_true rfl), (Nat.le_of_ble_eq_true rfl)⟩ rfl rfl (Nat.le_of_ble_eq_true rfl) [0, 1] [] rfl rfl rfl rfl rfl (by decide) rfl [0, 1] rfl rfl rfl rfl ?_
              refine g_dS (n := 2) (wr := [(e0, cO 4 [.ref e1, .int (nI tn)]), (e1, cI d 96 (nF A))]) (ws' := [(e0, cO 4 [.ref e1, .int (nI tn)]), (e1, cI d 96 (nF A))]) (st' := [.int (b2i (sut (stc (fbi (ltA A tn p)) i) (ltA A tn (p + 1 + i))))]) (As := [.int (stc (fbi (ltA A tn p)) i), .int (ltA A tn (p + 1 + i))]) (st := []) X (ct_X4_suitsForm l d (stc (fbi (ltA A tn p)) i) (ltA A tn (p + 1 + i)) (ltA_lt hA)) wd_273 wd_271 wd_272 wd_54 hd_X4_suitsForm ⟨(Nat.le_of_ble_eq_true rfl), (Nat.le_of_ble_eq_true rfl)⟩ rfl rfl dX4_faultOfForm_47 ⟨(Nat.le_of_ble_eq_true rfl), (Nat.le_of_ble_eq_true rfl)⟩ rfl rfl (Nat.le_of_ble_eq_true rfl) [] [0, 1] rfl rfl rfl rfl rfl (by decide) [0, 1] rfl rfl rfl rfl ?_
              refine g_ifB_ne X 59 dX4_faultOfForm_50 (by decide) (fun c50_4 => ?_) (fun c50_4 => ?_)
              · refine g_iinc (v := nI (p + 1 + i + 1)) (lv' := [(1, .int (nI (p + 1 + i + 1))), (0, .ref e0), (2, .ref (kS d (fbi (ltA A tn p)))), (3, .int (nI i))]) X dX4_faultOfForm_59 1 rfl (nI_inc _) (by decide) rfl ?_
                refine g_iinc (v := nI (i + 1)) (lv' := [(3, .int (nI (i + 1))), (1, .int (nI (p + 1 + i + 1))), (0, .ref e0), (2, .ref (kS d (fbi (ltA A tn p))))]) X dX4_faultOfForm_62 3 rfl (nI_inc _) (by decide) rfl ?_
                refine g_goto X 29 dX4_faultOfForm_65 (by decide) ?_
                refine g_lv (lv' := [(0, .ref e0), (1, .int (nI (p + 1 + i + 1))), (2, .ref (kS d (fbi (ltA A tn p)))), (3, .int (nI (i + 1)))]) X [2, 1, 3, 0] rfl ?_
                exact g_eq (ws' := [(e0, cO 4 [.ref e1, .int (nI tn)]), (e1, cI d 96 (nF A))]) (lv' := [(0, .ref e0), (1, .int (nI (p + 1 + (i + 1)))), (2, .ref (kS d (fbi (ltA A tn p)))), (3, .int (nI (i + 1)))]) (rfl) (lv_cons (rfl) (lv_cons (vI (by rfl)) (lv_cons (rfl) (lv_cons (rfl) (rfl))))) (ih_29 (i + 1) (by first | assumption | omega) ((ifF_y (by omega) (by assumption)).trans hs2) (by omega))
              · refine g_sipush (v := (-1000)) X dX4_faultOfForm_53 (by decide) ?_
                refine g_iload_n X dX4_faultOfForm_56 rfl 1 rfl ?_
                refine g_isub X dX4_faultOfForm_57 ?_
                exact g_end X (gE_i dX4_faultOfForm_58 (rfl) (Nat.le_of_ble_eq_true rfl) (Nat.le_of_ble_eq_true rfl) ⟨congrArg (fun z => some (Value.int z)) (fof_2 hs hf6 (ifS_some (by omega) hs2 (by assumption))), rfl⟩)
        refine g_lv (lv' := [(0, .ref e0), (1, .int (nI (p + 1))), (2, .ref (kS d (fbi (ltA A tn p)))), (3, .int 0)]) X [3, 1, 2, 0] rfl ?_
        exact g_eq (ws' := [(e0, cO 4 [.ref e1, .int (nI tn)]), (e1, cI d 96 (nF A))]) (lv' := [(0, .ref e0), (1, .int (nI (p + 1 + 0))), (2, .ref (kS d (fbi (ltA A tn p)))), (3, .int (nI 0))]) (rfl) (lv_cons (rfl) (lv_cons (vI (by rfl)) (lv_cons (rfl) (lv_cons (vI (by rfl)) (rfl))))) (at_29 _ 0 (by first | assumption | omega) (rfl) (Nat.lt_succ_self _))
      · refine g_sipush (v := (-1000)) X dX4_faultOfForm_18 (by decide) ?_
        refine g_iload_n X dX4_faultOfForm_21 rfl 2 rfl ?_
        refine g_isub X dX4_faultOfForm_22 ?_
        exact g_end X (gE_i dX4_faultOfForm_23 (rfl) (Nat.le_of_ble_eq_true rfl) (Nat.le_of_ble_eq_true rfl) ⟨congrArg (fun z => some (Value.int z)) (fof_1 hs (hf.mp (by assumption))), rfl⟩)
  refine g_lv (lv' := [(0, .ref e0), (1, .int 0)]) X [1, 0] rfl ?_
  exact g_eq (ws' := [(e0, cO 4 [.ref e1, .int (nI tn)]), (e1, cI d 96 (nF A))]) (lv' := [(0, .ref e0), (1, .int (nI 0))]) (rfl) (lv_cons (rfl) (lv_cons (vI (by rfl)) (rfl))) (at_2 _ 0 96 (by first | assumption | omega) (by first | assumption | omega) (rfl) (Nat.lt_succ_self _))
