theorem hd_X6_weight : yX6_weight.cls = "HeWreckedHimselfModel" ∧ yX6_weight.cls ≠ "java/lang/invoke/MethodHandle" ∧ yX6_weight.cls ≠ "java/lang/invoke/VarHandle" ∧ (parseMethodDescriptor yX6_weight.desc).map (fun d => d.parameters.length) = some 0 := by decide +kernel
set_option maxHeartbeats 4000000 in
set_option maxRecDepth 20000 in
theorem ct_X6_judge (l : Launch) (d : KD) (m0 a0 a1 a2 a4 a6 a8 a9 b1 b2 b3 b4 b5 b6 : Nat) (K S Rf : Nat → Int32) (Rw : Nat → Nat) (tn ap rn : Nat) (im : Int32) (x : Int32) (hrn : rn ≤ 16) (hR : ∀ q, Rw q < 100) (hh : sq (S 0)) : Ct l d yX6_judge cX6_judge 9 (some .int) { frames := 1, cells := 0, slots := 0, locals := 22 } [.ref m0, .int x] [(m0, cO 6 [.ref a0, .ref a1, .ref a2, .int (nI tn), .ref a4, .int (nI ap), .ref a6, .int (nI rn), .ref a8, .ref a9, .int im, .ref b1, .ref b2, .ref b3, .ref b4, .ref b5, .ref b6]), (a0, cI d 36 K), (a2, cI d 5 S), (a8, cI d 16 (nF Rw)), (a9, cI d 7 (rf7 Rf))] 0 0 (fun r wo => r = some (.int ((sp_judge K S Rw rn x).1)) ∧ wo = [(m0, cO 6 [.ref a0, .ref a1, .ref a2, .int (nI tn), .ref a4, .int (nI ap), .ref a6, .int (nI rn), .ref a8, .ref a9, .int im, .ref b1, .ref b2, .ref b3, .ref b4, .ref b5, .ref b6]), (a0, cI d 36 K), (a2, cI d 5 S), (a8, cI d 16 (nF Rw)), (a9, cI d 7 (rf7 (bmp Rf (sp_judge K S Rw rn x).2)))]) := by
  refine ct_of (own := RX6) (ini := false) (by decide +kernel) rfl (fun h => by cases h) (Nat.le_of_ble_eq_true rfl) ?_
  intro g X
  show g 0 0 [(m0, cO 6 [.ref a0, .ref a1, .ref a2, .int (nI tn), .ref a4, .int (nI ap), .ref a6, .int (nI rn), .ref a8, .ref a9, .int im, .ref b1, .ref b2, .ref b3, .ref b4, .ref b5, .ref b6]), (a0, cI d 36 K), (a2, cI d 5 S), (a8, cI d 16 (nF Rw)), (a9, cI d 7 (rf7 Rf))] [(0, .ref m0), (1, .int x)] 0 []
  refine g_iload_n X dX6_judge_0 rfl 1 rfl ?_
  refine g_iconst (v := 0) X dX6_judge_1 (by decide) ?_
  refine g_iconst (v := 3) X dX6_judge_2 (by decide) ?_
  refine g_dS (n := 3) (wr := [(m0, cO 6 [.ref a0, .ref a1, .ref a2, .int (nI tn), .ref a4, .int (nI ap), .ref a6, .int (nI rn), .ref a8, .ref a9, .int im, .ref b1, .ref b2, .ref b3, .ref b4, .ref b5, .ref b6]), (a0, cI d 36 K), (a2, cI d 5 S), (a8, cI d 16 (nF Rw)), (a9, cI d 7 (rf7 Rf))]) (ws' := [(m0, cO 6 [.ref a0, .ref a1, .ref a2, .int (nI tn), .ref a4, .int (nI ap), .ref a6, .int (nI rn), .ref a8, .ref a9, .int im, .ref b1, .ref b2, .ref b3, .ref b4, .ref b5, .ref b6]), (a0, cI d 36 K), (a2, cI d 5 S), (a8, cI d 16 (nF Rw)), (a9, cI d 7 (rf7 Rf))]) (st' := [.int (b2i (wit x 0 3))]) (As := [.int x, .int 0, .int 3]) (st := []) X (ct_X6_within l d x 0 3) wd_887 wd_885 wd_886 wd_58 hd_X6_within ⟨(Nat.le_of_ble_eq_true rfl), (Nat.le_of_ble_eq_true rfl)⟩ rfl rfl dX6_judge_3 ⟨(Nat.le_of_ble_eq_true rfl), (Nat.le_of_ble_eq_true rfl)⟩ rfl rfl (Nat.le_of_ble_eq_true rfl) [] [0, 1, 2, 3, 4] rfl rfl rfl rfl rfl (by decide) [0, 1, 2, 3, 4] rfl rfl rfl rfl ?_
  refine g_ifB_ne X 16 dX6_judge_6 (by decide) (fun c6_1 => ?_) (fun c6_1 => ?_)
  · have ho := c6_1
    refine g_aload_n X dX6_judge_16 rfl 0 rfl ?_
    refine g_get (C := RX6) (T := TX6) (N := 17) (ci := 6) (v := .ref a2) X rfl inT6 2 (by decide) wd_798 rfl dX6_judge_17 0 rfl rfl ?_
    refine g_iconst (v := 0) X dX6_judge_20 (by decide) ?_
    refine g_iaload_N (k := 0) X rfl dX6_judge_21 2 rfl (by first | assumption | omega) (by omega) ?_
    obtain ⟨hm, hhm, ehm⟩ := sq_nat hh
    have hix : ix (S 0) = hm := by rw [ehm]; exact nI_clamp (by omega)
    refine g_tope (y := nI hm) (ehm) ?_
    refine g_istore_n (lv' := [(2, .int (nI hm)), (0, .ref m0), (1, .int x)]) X dX6_judge_22 rfl (by decide) rfl ?_
    refine g_iconst (v := 0) X dX6_judge_23 (by decide) ?_
    refine g_istore_n (lv' := [(3, .int 0), (2, .int (nI hm)), (0, .ref m0), (1, .int x)]) X dX6_judge_24 rfl (by decide) rfl ?_
    refine g_bipush (v := (-9)) X dX6_judge_25 (by decide) ?_
    refine g_istore (lv' := [(4, .int (-9)), (3, .int 0), (2, .int (nI hm)), (0, .ref m0), (1, .int x)]) X dX6_judge_27 (by decide) rfl ?_
    refine g_iconst (v := 0) X dX6_judge_29 (by decide) ?_
    refine g_istore (lv' := [(5, .int 0), (4, .int (-9)), (3, .int 0), (2, .int (nI hm)), (0, .ref m0), (1, .int x)]) X dX6_judge_30 (by decide) rfl ?_
    refine g_bipush (v := (-9)) X dX6_judge_32 (by decide) ?_
    refine g_istore (lv' := [(6, .int (-9)), (5, .int 0), (4, .int (-9)), (3, .int 0), (2, .int (nI hm)), (0, .ref m0), (1, .int x)]) X dX6_judge_34 (by decide) rfl ?_
    refine g_iconst (v := 0) X dX6_judge_36 (by decide) ?_
    refine g_istore (lv' := [(7, .int 0), (6, .int (-9)), (5, .int 0), (4, .int (-9)), (3, .int 0), (2, .int (nI hm)), (0, .ref m0), (1, .int x)]) X dX6_judge_37 (by decide) rfl ?_
    have at_39 : ∀ (n_ : Nat) (i : Nat) (q cb : Nat) (dy sh wr : Int32) (hi : i ≤ rn) (hq : q < 36) (hc : cb = 99 ∨ cb < 4) (hsh : sh = 0 ∨ sh = 1) (hJ : jIn K S Rw rn i q dy sh cb wr), (17 - i) < n_ → g 0 0 [(m0, cO 6 [.ref a0, .ref a1, .ref a2, .int (nI tn), .ref a4, .int (nI ap), .ref a6, .int (nI rn), .ref a8, .ref a9, .int im, .ref b1, .ref b2, .ref b3, .ref b4, .ref b5, .ref b6]), (a0, cI d 36 K), (a2, cI d 5 S), (a8, cI d 16 (nF Rw)), (a9, cI d 7 (rf7 Rf))] [(0, .ref m0), (1, .int x), (2, .int (nI q)), (3, .int dy), (4, .int (cbI cb)), (5, .int sh), (6, .int wr), (7, .int (nI i))] 39 [] := by
      intro n_
      induction n_ with
      | zero => intro i q cb dy sh wr hi hq hc hsh hJ hn_; exact absurd hn_ (Nat.not_lt_zero _)
      | succ n_ ih_39 =>
        intro i q cb dy sh wr hi hq hc hsh hJ hn_39
        have hRi := hR i
        refine g_iload X dX6_judge_39 7 rfl ?_
        refine g_aload_n X dX6_judge_41 rfl 0 rfl ?_
        refine g_get (C := RX6) (T := TX6) (N := 17) (ci := 6) (v := .int (nI rn)) X rfl inT6 7 (by decide) wd_803 rfl dX6_judge_42 0 rfl rfl ?_
        refine g_icmpN_ge (a := i) (b := rn) X rfl rfl (by omega) (by omega) 173 dX6_judge_45 (by decide) (fun c45_2 => ?_) (fun c45_2 => ?_)
        · obtain ⟨p, hp, hwp⟩ := jIn_e hJ hrn (fun z => absurd z.1 (by omega))
          refine g_iload_n X dX6_judge_173 rfl 1 rfl ?_
          refine g_if_ne X 182 dX6_judge_174 (by decide) (fun c174_3 => ?_) (fun c174_3 => ?_)
          · refine g_iload_n X dX6_judge_182 rfl 1 rfl ?_
            refine g_iconst (v := 1) X dX6_judge_183 (by decide) ?_
            refine g_icmp_ne X 191 dX6_judge_184 (by decide) (fun c184_4 => ?_) (fun c184_4 => ?_)
            · refine g_iload_n X dX6_judge_191 rfl 1 rfl ?_
              refine g_iconst (v := 2) X dX6_judge_192 (by decide) ?_
              refine g_icmp_ne X 200 dX6_judge_193 (by decide) (fun c193_5 => ?_) (fun c193_5 => ?_)
              · refine g_iload X dX6_judge_200 5 rfl ?_
                refine g_if_eq X 209 dX6_judge_202 (by decide) (fun c202_6 => ?_) (fun c202_6 => ?_)
                · refine g_iconst (v := 0) X dX6_judge_209 (by decide) ?_
                  have e_ : sp_judge K S Rw rn x = (0, 0) := (judge_5 ho hp c174_3 c184_4 c193_5).trans (by rw [c202_6])
                  exact g_end X (gE_i dX6_judge_210 (rfl) (Nat.le_of_ble_eq_true rfl) (Nat.le_of_ble_eq_true rfl) ⟨congrArg (fun z => some (Value.int z)) (by rw [e_]), ws_cons (rfl) (ws_cons (rfl) (ws_cons (rfl) (ws_cons (rfl) (ws_cons (cI_eq (by first | (rw [e_]; done) | (rw [e_]; rfl) | (rw [e_]; simp only [ix, ↓reduceIte]; done) | simp [e_, *])) (rfl)))))⟩)
                · refine g_iconst (v := 1) X dX6_judge_205 (by decide) ?_
                  refine g_goto X 210 dX6_judge_206 (by decide) ?_
                  have e_ : sp_judge K S Rw rn x = (1, 0) := (judge_5 ho hp c174_3 c184_4 c193_5).trans (by rw [hsh.elim (fun z => absurd z c202_6) id])
                  exact g_end X (gE_i dX6_judge_210 (rfl) (Nat.le_of_ble_eq_true rfl) (Nat.le_of_ble_eq_true rfl) ⟨congrArg (fun z => some (Value.int z)) (by rw [e_]), ws_cons (rfl) (ws_cons (rfl) (ws_cons (rfl) (ws_cons (rfl) (ws_cons (cI_eq (by first | (rw [e_]; done) | (rw [e_]; rfl) | (rw [e_]; simp only [ix, ↓reduceIte]; done) | simp [e_, *])) (rfl)))))⟩)
              · refine g_iload_n X dX6_judge_196 rfl 3 rfl ?_
                refine g_goto X 210 dX6_judge_197 (by decide) ?_
                have e_ : sp_judge K S Rw rn x = (dy, 0) := judge_4 ho hp c174_3 c184_4 c193_5
                exact g_end X (gE_i dX6_judge_210 (rfl) (Nat.le_of_ble_eq_true rfl) (Nat.le_of_ble_eq_true rfl) ⟨congrArg (fun z => some (Value.int z)) (by rw [e_]), ws_cons (rfl) (ws_cons (rfl) (ws_cons (rfl) (ws_cons (rfl) (ws_cons (cI_eq (by first | (rw [e_]; done) | (rw [e_]; rfl) | (rw [e_]; simp only [ix, ↓reduceIte]; done) | simp [e_, *])) (rfl)))))⟩)
            · refine g_iload_n X dX6_judge_187 rfl 2 rfl ?_
              refine g_goto X 210 dX6_judge_188 (by decide) ?_
              have e_ : sp_judge K S Rw rn x = (nI q, 0) := judge_3 ho hp c174_3 c184_4
              exact g_end X (gE_i dX6_judge_210 (rfl) (Nat.le_of_ble_eq_true rfl) (Nat.le_of_ble_eq_true rfl) ⟨congrArg (fun z => some (Value.int z)) (by rw [e_]), ws_cons (rfl) (ws_cons (rfl) (ws_cons (rfl) (ws_cons (rfl) (ws_cons (cI_eq (by first | (rw [e_]; done) | (rw [e_]; rfl) | (rw [e_]; simp only [ix, ↓reduceIte]; done) | simp [e_, *])) (rfl)))))⟩)
          · refine g_iload X dX6_judge_177 6 rfl ?_
            refine g_goto X 210 dX6_judge_179 (by decide) ?_
            have e_ : sp_judge K S Rw rn x = (wr, 0) := judge_2 ho hp hwp c174_3
            exact g_end X (gE_i dX6_judge_210 (rfl) (Nat.le_of_ble_eq_true rfl) (Nat.le_of_ble_eq_true rfl) ⟨congrArg (fun z => some (Value.int z)) (by rw [e_]), ws_cons (rfl) (ws_cons (rfl) (ws_cons (rfl) (ws_cons (rfl) (ws_cons (cI_eq (by first | (rw [e_]; done) | (rw [e_]; rfl) | (rw [e_]; simp only [ix, ↓reduceIte]; done) | simp [e_, *])) (rfl)))))⟩)
        · refine g_iload X dX6_judge_48 6 rfl ?_
          refine g_bipush (v := (-9)) X dX6_judge_50 (by decide) ?_
          refine g_icmp_ne X 173 dX6_judge_52 (by decide) (fun c52_12 => ?_) (fun c52_12 => ?_)
          · obtain ⟨p, hp, hwp⟩ := jIn_e hJ hrn (fun z => c52_12 z.2)
            refine g_iload_n X dX6_judge_173 rfl 1 rfl ?_
            refine g_if_ne X 182 dX6_judge_174 (by decide) (fun c174_13 => ?_) (fun c174_13 => ?_)
            · refine g_iload_n X dX6_judge_182 rfl 1 rfl ?_
              refine g_iconst (v := 1) X dX6_judge_183 (by decide) ?_
              refine g_icmp_ne X 191 dX6_judge_184 (by decide) (fun c184_14 => ?_) (fun c184_14 => ?_)
              · refine g_iload_n X dX6_judge_191 rfl 1 rfl ?_
                refine g_iconst (v := 2) X dX6_judge_192 (by decide) ?_
                refine g_icmp_ne X 200 dX6_judge_193 (by decide) (fun c193_15 => ?_) (fun c193_15 => ?_)
                · refine g_iload X dX6_judge_200 5 rfl ?_
                  refine g_if_eq X 209 dX6_judge_202 (by decide) (fun c202_16 => ?_) (fun c202_16 => ?_)
                  · refine g_iconst (v := 0) X dX6_judge_209 (by decide) ?_
                    have e_ : sp_judge K S Rw rn x = (0, 0) := (judge_5 ho hp c174_13 c184_14 c193_15).trans (by rw [c202_16])
                    exact g_end X (gE_i dX6_judge_210 (rfl) (Nat.le_of_ble_eq_true rfl) (Nat.le_of_ble_eq_true rfl) ⟨congrArg (fun z => some (Value.int z)) (by rw [e_]), ws_cons (rfl) (ws_cons (rfl) (ws_cons (rfl) (ws_cons (rfl) (ws_cons (cI_eq (by first | (rw [e_]; done) | (rw [e_]; rfl) | (rw [e_]; simp only [ix, ↓reduceIte]; done) | simp [e_, *])) (rfl)))))⟩)
                  · refine g_iconst (v := 1) X dX6_judge_205 (by decide) ?_
                    refine g_goto X 210 dX6_judge_206 (by decide) ?_
                    have e_ : sp_judge K S Rw rn x = (1, 0) := (judge_5 ho hp c174_13 c184_14 c193_15).trans (by rw [hsh.elim (fun z => absurd z c202_16) id])
                    exact g_end X (gE_i dX6_judge_210 (rfl) (Nat.le_of_ble_eq_true rfl) (Nat.le_of_ble_eq_true rfl) ⟨congrArg (fun z => some (Value.int z)) (by rw [e_]), ws_cons (rfl) (ws_cons (rfl) (ws_cons (rfl) (ws_cons (rfl) (ws_cons (cI_eq (by first | (rw [e_]; done) | (rw [e_]; rfl) | (rw [e_]; simp only [ix, ↓reduceIte]; done) | simp [e_, *])) (rfl)))))⟩)
                · refine g_iload_n X dX6_judge_196 rfl 3 rfl ?_
                  refine g_goto X 210 dX6_judge_197 (by decide) ?_
                  have e_ : sp_judge K S Rw rn x = (dy, 0) := judge_4 ho hp c174_13 c184_14 c193_15
                  exact g_end X (gE_i dX6_judge_210 (rfl) (Nat.le_of_ble_eq_true rfl) (Nat.le_of_ble_eq_true rfl) ⟨congrArg (fun z => some (Value.int z)) (by rw [e_]), ws_cons (rfl) (ws_cons (rfl) (ws_cons (rfl) (ws_cons (rfl) (ws_cons (cI_eq (by first | (rw [e_]; done) | (rw [e_]; rfl) | (rw [e_]; simp only [ix, ↓reduceIte]; done) | simp [e_, *])) (rfl)))))⟩)
              · refine g_iload_n X dX6_judge_187 rfl 2 rfl ?_
                refine g_goto X 210 dX6_judge_188 (by decide) ?_
                have e_ : sp_judge K S Rw rn x = (nI q, 0) := judge_3 ho hp c174_13 c184_14
                exact g_end X (gE_i dX6_judge_210 (rfl) (Nat.le_of_ble_eq_true rfl) (Nat.le_of_ble_eq_true rfl) ⟨congrArg (fun z => some (Value.int z)) (by rw [e_]), ws_cons (rfl) (ws_cons (rfl) (ws_cons (rfl) (ws_cons (rfl) (ws_cons (cI_eq (by first | (rw [e_]; done) | (rw [e_]; rfl) | (rw [e_]; simp only [ix, ↓reduceIte]; done) | simp [e_, *])) (rfl)))))⟩)
            · refine g_iload X dX6_judge_177 6 rfl ?_
              refine g_goto X 210 dX6_judge_179 (by decide) ?_
              have e_ : sp_judge K S Rw rn x = (wr, 0) := judge_2 ho hp hwp c174_13
              exact g_end X (gE_i dX6_judge_210 (rfl) (Nat.le_of_ble_eq_true rfl) (Nat.le_of_ble_eq_true rfl) ⟨congrArg (fun z => some (Value.int z)) (by rw [e_]), ws_cons (rfl) (ws_cons (rfl) (ws_cons (rfl) (ws_cons (rfl) (ws_cons (cI_eq (by first | (rw [e_]; done) | (rw [e_]; rfl) | (rw [e_]; simp only [ix, ↓reduceIte]; done) | simp [e_, *])) (rfl)))))⟩)
          · have hs := jIn_w hJ c52_12 hrn (by omega)
            refine g_aload_n X dX6_judge_55 rfl 0 rfl ?_
            refine g_get (C := RX6) (T := TX6) (N := 17) (ci := 6) (v := .ref a8) X rfl inT6 8 (by decide) wd_804 rfl dX6_judge_56 0 rfl rfl ?_
            refine g_iload X dX6_judge_59 7 rfl ?_
            refine g_iaload_N (k := i) X rfl dX6_judge_61 3 rfl (by first | assumption | omega) (by omega) ?_
            refine g_iconst (v := 4) X dX6_judge_62 (by decide) ?_
            refine g_icmpN_ge (a := (Rw i)) (b := 4) X rfl rfl (by omega) (by omega) 80 dX6_judge_63 (by decide) (fun c63_22 => ?_) (fun c63_22 => ?_)
            · refine g_bipush (v := (-9)) X dX6_judge_80 (by decide) ?_
              refine g_tope (y := besM (nb q (Rw i))) ((besM_f (by rw [nb_w (by omega)]; omega)).symm) ?_
              refine g_istore (lv' := [(8, .int (besM (nb q (Rw i)))), (0, .ref m0), (1, .int x), (2, .int (nI q)), (3, .int dy), (4, .int (cbI cb)), (5, .int sh), (6, .int wr), (7, .int (nI i))]) X dX6_judge_82 (by decide) rfl ?_
              refine g_iload X dX6_judge_84 0 rfl ?_
              refine g_bipush (v := (-9)) X dX6_judge_86 (by decide) ?_
              refine g_icmp_eq X 100 dX6_judge_88 (by decide) (fun c88_23 => ?_) (fun c88_23 => ?_)
              · refine g_iload X dX6_judge_100 8 rfl ?_
                refine g_istore (lv' := [(6, .int (nI i)), (8, .int (besM (nb q (Rw i)))), (0, .ref m0), (1, .int x), (2, .int (nI q)), (3, .int dy), (4, .int (cbI cb)), (5, .int sh), (7, .int (nI i))]) X dX6_judge_102 (by decide) rfl ?_
                refine g_goto X 167 dX6_judge_104 (by decide) ?_
                refine g_iinc (v := nI (i + 1)) (lv' := [(7, .int (nI (i + 1))), (6, .int (nI i)), (8, .int (besM (nb q (Rw i)))), (0, .ref m0), (1, .int x), (2, .int (nI q)), (3, .int dy), (4, .int (cbI cb)), (5, .int sh)]) X dX6_judge_167 8 rfl (nI_inc _) (by decide) rfl ?_
                refine g_goto X 39 dX6_judge_170 (by decide) ?_
                refine g_lv (lv' := [(0, .ref m0), (1, .int x), (2, .int (nI q)), (3, .int dy), (4, .int (cbI cb)), (5, .int sh), (6, .int (nI i)), (7, .int (nI (i + 1)))]) X [3, 4, 5, 6, 7, 8, 1, 0] rfl ?_
                exact ih_39 (i + 1) q cb dy sh (nI i) (by first | assumption | omega) (by first | assumption | omega) (by first | assumption | omega) (by first | assumption | omega) (jIn_n hs (by omega) (stp_f (fun z => besM_m9.mp c88_23 z.1))) (by omega)
              · have hnb : nb q (Rw i) < 36 := Decidable.not_not.mp (fun z => c88_23 (besM_m9.mpr z))
                refine g_eq (lv' := [(8, .int (nI (nb q (Rw i)))), (0, .ref m0), (1, .int x), (2, .int (nI q)), (3, .int dy), (4, .int (cbI cb)), (5, .int sh), (6, .int wr), (7, .int (nI i))]) rfl (lv_cons (vI (besM_t hnb)) (lv_cons (rfl) (lv_cons (rfl) (lv_cons (rfl) (lv_cons (rfl) (lv_cons (rfl) (lv_cons (rfl) (lv_cons (rfl) (lv_cons (rfl) (rfl)))))))))) ?_
                refine g_aload_n X dX6_judge_91 rfl 1 rfl ?_
                refine g_iload X dX6_judge_92 0 rfl ?_
                refine g_dV (ci := 6) (q0 := 0) (n := 1) (wr := [(a8, cI d 16 (nF Rw)), (a9, cI d 7 (rf7 Rf))]) (ws' := [(m0, cO 6 [.ref a0, .ref a1, .ref a2, .int (nI tn), .ref a4, .int (nI ap), .ref a6, .int (nI rn), .ref a8, .ref a9, .int im, .ref b1, .ref b2, .ref b3, .ref b4, .ref b5, .ref b6]), (a0, cI d 36 K), (a2, cI d 5 S), (a8, cI d 16 (nF Rw)), (a9, cI d 7 (rf7 Rf))]) (st' := [.int (b2i (csl (K (nb q (Rw i))) (S 1)))]) (As := [.int (nI (nb q (Rw i)))]) (st := []) X (ct_X6_canBe l d m0 a0 a1 a2 a4 a6 a8 a9 b1 b2 b3 b4 b5 b6 K S tn ap rn im (nb q (Rw i)) (hnb)) wd_891 wd_888 wd_890 wd_31 wd_58 hd_X6_canBe rfl ⟨(Nat.le_of_ble_eq_true rfl), (Nat.le_of_ble_eq_true rfl)⟩ rfl rfl dX6_judge_94 ⟨(Nat.le_of_ble_eq_true rfl), (Nat.le_of_ble_eq_true rfl)⟩ rfl rfl (Nat.le_of_ble_eq_true rfl) [0, 1, 2] [3, 4] rfl rfl rfl rfl rfl (by decide) rfl [2, 3, 4, 0, 1] rfl rfl rfl rfl ?_
                refine g_ifB_ne X 107 dX6_judge_97 (by decide) (fun c97_24 => ?_) (fun c97_24 => ?_)
                · refine g_aload_n X dX6_judge_107 rfl 1 rfl ?_
                  refine g_get (C := RX6) (T := TX6) (N := 17) (ci := 6) (v := .ref a0) X rfl inT6 0 (by decide) wd_796 rfl dX6_judge_108 0 rfl rfl ?_
                  refine g_iload_n X dX6_judge_111 rfl 3 rfl ?_
                  refine g_iaload_N (k := q) X rfl dX6_judge_112 1 rfl (by first | assumption | omega) (by omega) ?_
                  refine g_iconst (v := 3) X dX6_judge_113 (by decide) ?_
                  refine g_icmp_ne X 139 dX6_judge_114 (by decide) (fun c114_25 => ?_) (fun c114_25 => ?_)
                  · refine g_iload_n X dX6_judge_139 rfl 4 rfl ?_
                    refine g_aload_n X dX6_judge_140 rfl 1 rfl ?_
                    refine g_iload X dX6_judge_141 0 rfl ?_
                    refine g_aload_n X dX6_judge_143 rfl 1 rfl ?_
                    refine g_get (C := RX6) (T := TX6) (N := 17) (ci := 6) (v := .ref a8) X rfl inT6 8 (by decide) wd_804 rfl dX6_judge_144 0 rfl rfl ?_
                    refine g_iload X dX6_judge_147 8 rfl ?_
                    refine g_iaload_N (k := i) X rfl dX6_judge_149 3 rfl (by first | assumption | omega) (by omega) ?_
                    refine g_dV (ci := 6) (q0 := 0) (n := 2) (wr := [(a2, cI d 5 S), (a8, cI d 16 (nF Rw)), (a9, cI d 7 (rf7 Rf))]) (ws' := [(m0, cO 6 [.ref a0, .ref a1, .ref a2, .int (nI tn), .ref a4, .int (nI ap), .ref a6, .int (nI rn), .ref a8, .ref a9, .int im, .ref b1, .ref b2, .ref b3, .ref b4, .ref b5, .ref b6]), (a0, cI d 36 K), (a2, cI d 5 S), (a8, cI d 16 (nF Rw)), (a9, cI d 7 (rf7 Rf))]) (st' := [.int (nI (cst (K (nb q (Rw i))) (Rw i))), .int dy]) (As := [.int (nI (nb q (Rw i))), .int (nI (Rw i))]) (st := [.int dy]) X (ct_X6_daysTo l d m0 a0 a1 a2 a4 a6 a8 a9 b1 b2 b3 b4 b5 b6 K tn ap rn im (nb q (Rw i)) (Rw i) (hnb) (nb_lt4 hnb)) wd_911 wd_908 wd_910 wd_35 wd_58 hd_X6_daysTo rfl ⟨(Nat.le_of_ble_eq_true rfl), (Nat.le_of_ble_eq_true rfl)⟩ rfl rfl dX6_judge_150 ⟨(Nat.le_of_ble_eq_true rfl), (Nat.le_of_ble_eq_true rfl)⟩ rfl rfl (Nat.le_of_ble_eq_true rfl) [0, 1] [2, 3, 4] rfl rfl rfl rfl rfl (by decide) rfl [3, 4, 0, 1, 2] rfl rfl rfl rfl ?_
                    refine g_iadd X dX6_judge_153 ?_
                    refine g_istore_n (lv' := [(3, .int (dy + (nI (cst (K (nb q (Rw i))) (Rw i))))), (8, .int (nI (nb q (Rw i)))), (0, .ref m0), (1, .int x), (2, .int (nI q)), (4, .int (cbI cb)), (5, .int sh), (6, .int wr), (7, .int (nI i))]) X dX6_judge_154 rfl (by decide) rfl ?_
                    refine g_aload_n X dX6_judge_155 rfl 2 rfl ?_
                    refine g_get (C := RX6) (T := TX6) (N := 17) (ci := 6) (v := .ref a8) X rfl inT6 8 (by decide) wd_804 rfl dX6_judge_156 0 rfl rfl ?_
                    refine g_iload X dX6_judge_159 8 rfl ?_
                    refine g_iaload_N (k := i) X rfl dX6_judge_161 3 rfl (by first | assumption | omega) (by omega) ?_
                    refine g_istore (lv' := [(4, .int (nI (Rw i))), (3, .int (dy + (nI (cst (K (nb q (Rw i))) (Rw i))))), (8, .int (nI (nb q (Rw i)))), (0, .ref m0), (1, .int x), (2, .int (nI q)), (5, .int sh), (6, .int wr), (7, .int (nI i))]) X dX6_judge_162 (by decide) rfl ?_
                    refine g_iload X dX6_judge_164 2 rfl ?_
                    refine g_istore_n (lv' := [(2, .int (nI (nb q (Rw i)))), (4, .int (nI (Rw i))), (3, .int (dy + (nI (cst (K (nb q (Rw i))) (Rw i))))), (8, .int (nI (nb q (Rw i)))), (0, .ref m0), (1, .int x), (5, .int sh), (6, .int wr), (7, .int (nI i))]) X dX6_judge_166 rfl (by decide) rfl ?_
                    refine g_iinc (v := nI (i + 1)) (lv' := [(7, .int (nI (i + 1))), (2, .int (nI (nb q (Rw i)))), (4, .int (nI (Rw i))), (3, .int (dy + (nI (cst (K (nb q (Rw i))) (Rw i))))), (8, .int (nI (nb q (Rw i)))), (0, .ref m0), (1, .int x), (5, .int sh), (6, .int wr)]) X dX6_judge_167 8 rfl (nI_inc _) (by decide) rfl ?_
                    refine g_goto X 39 dX6_judge_170 (by decide) ?_
                    refine g_lv (lv' := [(0, .ref m0), (1, .int x), (2, .int (nI (nb q (Rw i)))), (3, .int (dy + (nI (cst (K (nb q (Rw i))) (Rw i))))), (4, .int (nI (Rw i))), (5, .int sh), (6, .int wr), (7, .int (nI (i + 1)))]) X [5, 6, 1, 3, 2, 7, 8, 0] rfl ?_
                    exact g_eq (ws' := [(m0, cO 6 [.ref a0, .ref a1, .ref a2, .int (nI tn), .ref a4, .int (nI ap), .ref a6, .int (nI rn), .ref a8, .ref a9, .int im, .ref b1, .ref b2, .ref b3, .ref b4, .ref b5, .ref b6]), (a0, cI d 36 K), (a2, cI d 5 S), (a8, cI d 16 (nF Rw)), (a9, cI d 7 (rf7 Rf))]) (lv' := [(0, .ref m0), (1, .int x), (2, .int (nI (nb q (Rw i)))), (3, .int (dy + stp K S q (Rw i))), (4, .int (cbI (Rw i))), (5, .int (if ¬ cb = 99 ∧ ¬ cb = Rw i ∧ K q = 3 then 1 else sh)), (6, .int (-9)), (7, .int (nI (i + 1)))]) (rfl) (lv_cons (rfl) (lv_cons (rfl) (lv_cons (rfl) (lv_cons (vI (congrArg (fun z => dy + z) (stp_t hnb c97_24).symm)) (lv_cons (vI ((cbI_t (nb_lt4 hnb)).symm)) (lv_cons (vI ((if_neg (fun z => c114_25 z.2.2)).symm)) (lv_cons (vI (c52_12)) (lv_cons (rfl) (rfl))))))))) (ih_39 (i + 1) (nb q (Rw i)) (Rw i) (dy + stp K S q (Rw i)) (if ¬ cb = 99 ∧ ¬ cb = Rw i ∧ K q = 3 then 1 else sh) (-9) (by first | assumption | omega) (hnb) (Or.inr (nb_lt4 hnb)) (by split; exact Or.inr rfl; exact hsh) (jIn_y hs (by omega) hrn hnb c97_24) (by omega))
                  · refine g_iload X dX6_judge_117 5 rfl ?_
                    refine g_bipush (v := (-9)) X dX6_judge_119 (by decide) ?_
                    refine g_icmp_eq X 139 dX6_judge_121 (by decide) (fun c121_26 => ?_) (fun c121_26 => ?_)
                    · refine g_iload_n X dX6_judge_139 rfl 4 rfl ?_
                      refine g_aload_n X dX6_judge_140 rfl 1 rfl ?_
                      refine g_iload X dX6_judge_141 0 rfl ?_
                      refine g_aload_n X dX6_judge_143 rfl 1 rfl ?_
                      refine g_get (C := RX6) (T := TX6) (N := 17) (ci := 6) (v := .ref a8) X rfl inT6 8 (by decide) wd_804 rfl dX6_judge_144 0 rfl rfl ?_
                      refine g_iload X dX6_judge_147 8 rfl ?_
                      refine g_iaload_N (k := i) X rfl dX6_judge_149 3 rfl (by first | assumption | omega) (by omega) ?_
                      refine g_dV (ci := 6) (q0 := 0) (n := 2) (wr := [(a2, cI d 5 S), (a8, cI d 16 (nF Rw)), (a9, cI d 7 (rf7 Rf))]) (ws' := [(m0, cO 6 [.ref a0, .ref a1, .ref a2, .int (nI tn), .ref a4, .int (nI ap), .ref a6, .int (nI rn), .ref a8, .ref a9, .int im, .ref b1, .ref b2, .ref b3, .ref b4, .ref b5, .ref b6]), (a0, cI d 36 K), (a2, cI d 5 S), (a8, cI d 16 (nF Rw)), (a9, cI d 7 (rf7 Rf))]) (st' := [.int (nI (cst (K (nb q (Rw i))) (Rw i))), .int dy]) (As := [.int (nI (nb q (Rw i))), .int (nI (Rw i))]) (st := [.int dy]) X (ct_X6_daysTo l d m0 a0 a1 a2 a4 a6 a8 a9 b1 b2 b3 b4 b5 b6 K tn ap rn im (nb q (Rw i)) (Rw i) (hnb) (nb_lt4 hnb)) wd_911 wd_908 wd_910 wd_35 wd_58 hd_X6_daysTo rfl ⟨(Nat.le_of_ble_eq_true rfl), (Nat.le_of_ble_eq_true rfl)⟩ rfl rfl dX6_judge_150 ⟨(Nat.le_of_ble_eq_true rfl), (Nat.le_of_ble_eq_true rfl)⟩ rfl rfl (Nat.le_of_ble_eq_true rfl) [0, 1] [2, 3, 4] rfl rfl rfl rfl rfl (by decide) rfl [3, 4, 0, 1, 2] rfl rfl rfl rfl ?_
                      refine g_iadd X dX6_judge_153 ?_
                      refine g_istore_n (lv' := [(3, .int (dy + (nI (cst (K (nb q (Rw i))) (Rw i))))), (8, .int (nI (nb q (Rw i)))), (0, .ref m0), (1, .int x), (2, .int (nI q)), (4, .int (cbI cb)), (5, .int sh), (6, .int wr), (7, .int (nI i))]) X dX6_judge_154 rfl (by decide) rfl ?_
                      refine g_aload_n X dX6_judge_155 rfl 2 rfl ?_
                      refine g_get (C := RX6) (T := TX6) (N := 17) (ci := 6) (v := .ref a8) X rfl inT6 8 (by decide) wd_804 rfl dX6_judge_156 0 rfl rfl ?_
                      refine g_iload X dX6_judge_159 8 rfl ?_
                      refine g_iaload_N (k := i) X rfl dX6_judge_161 3 rfl (by first | assumption | omega) (by omega) ?_
                      refine g_istore (lv' := [(4, .int (nI (Rw i))), (3, .int (dy + (nI (cst (K (nb q (Rw i))) (Rw i))))), (8, .int (nI (nb q (Rw i)))), (0, .ref m0), (1, .int x), (2, .int (nI q)), (5, .int sh), (6, .int wr), (7, .int (nI i))]) X dX6_judge_162 (by decide) rfl ?_
                      refine g_iload X dX6_judge_164 2 rfl ?_
                      refine g_istore_n (lv' := [(2, .int (nI (nb q (Rw i)))), (4, .int (nI (Rw i))), (3, .int (dy + (nI (cst (K (nb q (Rw i))) (Rw i))))), (8, .int (nI (nb q (Rw i)))), (0, .ref m0), (1, .int x), (5, .int sh), (6, .int wr), (7, .int (nI i))]) X dX6_judge_166 rfl (by decide) rfl ?_
                      refine g_iinc (v := nI (i + 1)) (lv' := [(7, .int (nI (i + 1))), (2, .int (nI (nb q (Rw i)))), (4, .int (nI (Rw i))), (3, .int (dy + (nI (cst (K (nb q (Rw i))) (Rw i))))), (8, .int (nI (nb q (Rw i)))), (0, .ref m0), (1, .int x), (5, .int sh), (6, .int wr)]) X dX6_judge_167 8 rfl (nI_inc _) (by decide) rfl ?_
                      refine g_goto X 39 dX6_judge_170 (by decide) ?_
                      refine g_lv (lv' := [(0, .ref m0), (1, .int x), (2, .int (nI (nb q (Rw i)))), (3, .int (dy + (nI (cst (K (nb q (Rw i))) (Rw i))))), (4, .int (nI (Rw i))), (5, .int sh), (6, .int wr), (7, .int (nI (i + 1)))]) X [5, 6, 1, 3, 2, 7, 8, 0] rfl ?_
                      exact g_eq (ws' := [(m0, cO 6 [.ref a0, .ref a1, .ref a2, .int (nI tn), .ref a4, .int (nI ap), .ref a6, .int (nI rn), .ref a8, .ref a9, .int im, .ref b1, .ref b2, .ref b3, .ref b4, .ref b5, .ref b6]), (a0, cI d 36 K), (a2, cI d 5 S), (a8, cI d 16 (nF Rw)), (a9, cI d 7 (rf7 Rf))]) (lv' := [(0, .ref m0), (1, .int x), (2, .int (nI (nb q (Rw i)))), (3, .int (dy + stp K S q (Rw i))), (4, .int (cbI (Rw i))), (5, .int (if ¬ cb = 99 ∧ ¬ cb = Rw i ∧ K q = 3 then 1 else sh)), (6, .int (-9)), (7, .int (nI (i + 1)))]) (rfl) (lv_cons (rfl) (lv_cons (rfl) (lv_cons (rfl) (lv_cons (vI (congrArg (fun z => dy + z) (stp_t hnb c97_24).symm)) (lv_cons (vI ((cbI_t (nb_lt4 hnb)).symm)) (lv_cons (vI ((if_neg (fun z => z.1 (cbI_9 hc c121_26))).symm)) (lv_cons (vI (c52_12)) (lv_cons (rfl) (rfl))))))))) (ih_39 (i + 1) (nb q (Rw i)) (Rw i) (dy + stp K S q (Rw i)) (if ¬ cb = 99 ∧ ¬ cb = Rw i ∧ K q = 3 then 1 else sh) (-9) (by first | assumption | omega) (hnb) (Or.inr (nb_lt4 hnb)) (by split; exact Or.inr rfl; exact hsh) (jIn_y hs (by omega) hrn hnb c97_24) (by omega))
                    · have hcn : ¬ cb = 99 := fun e => c121_26 (by rw [e]; rfl)
                      refine g_eq (lv' := [(8, .int (nI (nb q (Rw i)))), (0, .ref m0), (1, .int x), (2, .int (nI q)), (3, .int dy), (4, .int (nI cb)), (5, .int sh), (6, .int wr), (7, .int (nI i))]) rfl (lv_cons (rfl) (lv_cons (rfl) (lv_cons (rfl) (lv_cons (rfl) (lv_cons (rfl) (lv_cons (vI (if_neg hcn)) (lv_cons (rfl) (lv_cons (rfl) (lv_cons (rfl) (rfl)))))))))) ?_
                      refine g_iload X dX6_judge_124 5 rfl ?_
                      refine g_aload_n X dX6_judge_126 rfl 1 rfl ?_
                      refine g_get (C := RX6) (T := TX6) (N := 17) (ci := 6) (v := .ref a8) X rfl inT6 8 (by decide) wd_804 rfl dX6_judge_127 0 rfl rfl ?_
                      refine g_iload X dX6_judge_130 8 rfl ?_
                      refine g_iaload_N (k := i) X rfl dX6_judge_132 3 rfl (by first | assumption | omega) (by omega) ?_
                      refine g_icmpN_eq (a := cb) (b := (Rw i)) X rfl rfl (by omega) (by omega) 139 dX6_judge_133 (by decide) (fun c133_27 => ?_) (fun c133_27 => ?_)
                      · refine g_iload_n X dX6_judge_139 rfl 4 rfl ?_
                        refine g_aload_n X dX6_judge_140 rfl 1 rfl ?_
                        refine g_iload X dX6_judge_141 0 rfl ?_
                        refine g_aload_n X dX6_judge_143 rfl 1 rfl ?_
                        refine g_get (C := RX6) (T := TX6) (N := 17) (ci := 6) (v := .ref a8) X rfl inT6 8 (by decide) wd_804 rfl dX6_judge_144 0 rfl rfl ?_
                        refine g_iload X dX6_judge_147 8 rfl ?_
                        refine g_iaload_N (k := i) X rfl dX6_judge_149 3 rfl (by first | assumption | omega) (by omega) ?_
                        refine g_dV (ci := 6) (q0 := 0) (n := 2) (wr := [(a2, cI d 5 S), (a8, cI d 16 (nF Rw)), (a9, cI d 7 (rf7 Rf))]) (ws' := [(m0, cO 6 [.ref a0, .ref a1, .ref a2, .int (nI tn), .ref a4, .int (nI ap), .ref a6, .int (nI rn), .ref a8, .ref a9, .int im, .ref b1, .ref b2, .ref b3, .ref b4, .ref b5, .ref b6]), (a0, cI d 36 K), (a2, cI d 5 S), (a8, cI d 16 (nF Rw)), (a9, cI d 7 (rf7 Rf))]) (st' := [.int (nI (cst (K (nb q (Rw i))) (Rw i))), .int dy]) (As := [.int (nI (nb q (Rw i))), .int (nI (Rw i))]) (st := [.int dy]) X (ct_X6_daysTo l d m0 a0 a1 a2 a4 a6 a8 a9 b1 b2 b3 b4 b5 b6 K tn ap rn im (nb q (Rw i)) (Rw i) (hnb) (nb_lt4 hnb)) wd_911 wd_908 wd_910 wd_35 wd_58 hd_X6_daysTo rfl ⟨(Nat.le_of_ble_eq_true rfl), (Nat.le_of_ble_eq_true rfl)⟩ rfl rfl dX6_judge_150 ⟨(Nat.le_of_ble_eq_true rfl), (Nat.le_of_ble_eq_true rfl)⟩ rfl rfl (Nat.le_of_ble_eq_true rfl) [0, 1] [2, 3, 4] rfl rfl rfl rfl rfl (by decide) rfl [3, 4, 0, 1, 2] rfl rfl rfl rfl ?_
                        refine g_iadd X dX6_judge_153 ?_
                        refine g_istore_n (lv' := [(3, .int (dy + (nI (cst (K (nb q (Rw i))) (Rw i))))), (8, .int (nI (nb q (Rw i)))), (0, .ref m0), (1, .int x), (2, .int (nI q)), (4, .int (nI cb)), (5, .int sh), (6, .int wr), (7, .int (nI i))]) X dX6_judge_154 rfl (by decide) rfl ?_
                        refine g_aload_n X dX6_judge_155 rfl 2 rfl ?_
                        refine g_get (C := RX6) (T := TX6) (N := 17) (ci := 6) (v := .ref a8) X rfl inT6 8 (by decide) wd_804 rfl dX6_judge_156 0 rfl rfl ?_
                        refine g_iload X dX6_judge_159 8 rfl ?_
                        refine g_iaload_N (k := i) X rfl dX6_judge_161 3 rfl (by first | assumption | omega) (by omega) ?_
                        refine g_istore (lv' := [(4, .int (nI (Rw i))), (3, .int (dy + (nI (cst (K (nb q (Rw i))) (Rw i))))), (8, .int (nI (nb q (Rw i)))), (0, .ref m0), (1, .int x), (2, .int (nI q)), (5, .int sh), (6, .int wr), (7, .int (nI i))]) X dX6_judge_162 (by decide) rfl ?_
                        refine g_iload X dX6_judge_164 2 rfl ?_
                        refine g_istore_n (lv' := [(2, .int (nI (nb q (Rw i)))), (4, .int (nI (Rw i))), (3, .int (dy + (nI (cst (K (nb q (Rw i))) (Rw i))))), (8, .int (nI (nb q (Rw i)))), (0, .ref m0), (1, .int x), (5, .int sh), (6, .int wr), (7, .int (nI i))]) X dX6_judge_166 rfl (by decide) rfl ?_
                        refine g_iinc (v := nI (i + 1)) (lv' := [(7, .int (nI (i + 1))), (2, .int (nI (nb q (Rw i)))), (4, .int (nI (Rw i))), (3, .int (dy + (nI (cst (K (nb q (Rw i))) (Rw i))))), (8, .int (nI (nb q (Rw i)))), (0, .ref m0), (1, .int x), (5, .int sh), (6, .int wr)]) X dX6_judge_167 8 rfl (nI_inc _) (by decide) rfl ?_
                        refine g_goto X 39 dX6_judge_170 (by decide) ?_
                        refine g_lv (lv' := [(0, .ref m0), (1, .int x), (2, .int (nI (nb q (Rw i)))), (3, .int (dy + (nI (cst (K (nb q (Rw i))) (Rw i))))), (4, .int (nI (Rw i))), (5, .int sh), (6, .int wr), (7, .int (nI (i + 1)))]) X [5, 6, 1, 3, 2, 7, 8, 0] rfl ?_
                        exact g_eq (ws' := [(m0, cO 6 [.ref a0, .ref a1, .ref a2, .int (nI tn), .ref a4, .int (nI ap), .ref a6, .int (nI rn), .ref a8, .ref a9, .int im, .ref b1, .ref b2, .ref b3, .ref b4, .ref b5, .ref b6]), (a0, cI d 36 K), (a2, cI d 5 S), (a8, cI d 16 (nF Rw)), (a9, cI d 7 (rf7 Rf))]) (lv' := [(0, .ref m0), (1, .int x), (2, .int (nI (nb q (Rw i)))), (3, .int (dy + stp K S q (Rw i))), (4, .int (cbI (Rw i))), (5, .int (if ¬ cb = 99 ∧ ¬ cb = Rw i ∧ K q = 3 then 1 else sh)), (6, .int (-9)), (7, .int (nI (i + 1)))]) (rfl) (lv_cons (rfl) (lv_cons (rfl) (lv_cons (rfl) (lv_cons (vI (congrArg (fun z => dy + z) (stp_t hnb c97_24).symm)) (lv_cons (vI ((cbI_t (nb_lt4 hnb)).symm)) (lv_cons (vI ((if_neg (fun z => z.2.1 c133_27)).symm)) (lv_cons (vI (c52_12)) (lv_cons (rfl) (rfl))))))))) (ih_39 (i + 1) (nb q (Rw i)) (Rw i) (dy + stp K S q (Rw i)) (if ¬ cb = 99 ∧ ¬ cb = Rw i ∧ K q = 3 then 1 else sh) (-9) (by first | assumption | omega) (hnb) (Or.inr (nb_lt4 hnb)) (by split; exact Or.inr rfl; exact hsh) (jIn_y hs (by omega) hrn hnb c97_24) (by omega))
                      · refine g_iconst (v := 1) X dX6_judge_136 (by decide) ?_
                        refine g_istore (lv' := [(5, .int 1), (8, .int (nI (nb q (Rw i)))), (0, .ref m0), (1, .int x), (2, .int (nI q)), (3, .int dy), (4, .int (nI cb)), (6, .int wr), (7, .int (nI i))]) X dX6_judge_137 (by decide) rfl ?_
                        refine g_iload_n X dX6_judge_139 rfl 5 rfl ?_
                        refine g_aload_n X dX6_judge_140 rfl 2 rfl ?_
                        refine g_iload X dX6_judge_141 1 rfl ?_
                        refine g_aload_n X dX6_judge_143 rfl 2 rfl ?_
                        refine g_get (C := RX6) (T := TX6) (N := 17) (ci := 6) (v := .ref a8) X rfl inT6 8 (by decide) wd_804 rfl dX6_judge_144 0 rfl rfl ?_
                        refine g_iload X dX6_judge_147 8 rfl ?_
                        refine g_iaload_N (k := i) X rfl dX6_judge_149 3 rfl (by first | assumption | omega) (by omega) ?_
                        refine g_dV (ci := 6) (q0 := 0) (n := 2) (wr := [(a2, cI d 5 S), (a8, cI d 16 (nF Rw)), (a9, cI d 7 (rf7 Rf))]) (ws' := [(m0, cO 6 [.ref a0, .ref a1, .ref a2, .int (nI tn), .ref a4, .int (nI ap), .ref a6, .int (nI rn), .ref a8, .ref a9, .int im, .ref b1, .ref b2, .ref b3, .ref b4, .ref b5, .ref b6]), (a0, cI d 36 K), (a2, cI d 5 S), (a8, cI d 16 (nF Rw)), (a9, cI d 7 (rf7 Rf))]) (st' := [.int (nI (cst (K (nb q (Rw i))) (Rw i))), .int dy]) (As := [.int (nI (nb q (Rw i))), .int (nI (Rw i))]) (st := [.int dy]) X (ct_X6_daysTo l d m0 a0 a1 a2 a4 a6 a8 a9 b1 b2 b3 b4 b5 b6 K tn ap rn im (nb q (Rw i)) (Rw i) (hnb) (nb_lt4 hnb)) wd_911 wd_908 wd_910 wd_35 wd_58 hd_X6_daysTo rfl ⟨(Nat.le_of_ble_eq_true rfl), (Nat.le_of_ble_eq_true rfl)⟩ rfl rfl dX6_judge_150 ⟨(Nat.le_of_ble_eq_true rfl), (Nat.le_of_ble_eq_true rfl)⟩ rfl rfl (Nat.le_of_ble_eq_true rfl) [0, 1] [2, 3, 4] rfl rfl rfl rfl rfl (by decide) rfl [3, 4, 0, 1, 2] rfl rfl rfl rfl ?_
                        refine g_iadd X dX6_judge_153 ?_
                        refine g_istore_n (lv' := [(3, .int (dy + (nI (cst (K (nb q (Rw i))) (Rw i))))), (5, .int 1), (8, .int (nI (nb q (Rw i)))), (0, .ref m0), (1, .int x), (2, .int (nI q)), (4, .int (nI cb)), (6, .int wr), (7, .int (nI i))]) X dX6_judge_154 rfl (by decide) rfl ?_
                        refine g_aload_n X dX6_judge_155 rfl 3 rfl ?_
                        refine g_get (C := RX6) (T := TX6) (N := 17) (ci := 6) (v := .ref a8) X rfl inT6 8 (by decide) wd_804 rfl dX6_judge_156 0 rfl rfl ?_
                        refine g_iload X dX6_judge_159 8 rfl ?_
                        refine g_iaload_N (k := i) X rfl dX6_judge_161 3 rfl (by first | assumption | omega) (by omega) ?_
                        refine g_istore (lv' := [(4, .int (nI (Rw i))), (3, .int (dy + (nI (cst (K (nb q (Rw i))) (Rw i))))), (5, .int 1), (8, .int (nI (nb q (Rw i)))), (0, .ref m0), (1, .int x), (2, .int (nI q)), (6, .int wr), (7, .int (nI i))]) X dX6_judge_162 (by decide) rfl ?_
                        refine g_iload X dX6_judge_164 3 rfl ?_
                        refine g_istore_n (lv' := [(2, .int (nI (nb q (Rw i)))), (4, .int (nI (Rw i))), (3, .int (dy + (nI (cst (K (nb q (Rw i))) (Rw i))))), (5, .int 1), (8, .int (nI (nb q (Rw i)))), (0, .ref m0), (1, .int x), (6, .int wr), (7, .int (nI i))]) X dX6_judge_166 rfl (by decide) rfl ?_
                        refine g_iinc (v := nI (i + 1)) (lv' := [(7, .int (nI (i + 1))), (2, .int (nI (nb q (Rw i)))), (4, .int (nI (Rw i))), (3, .int (dy + (nI (cst (K (nb q (Rw i))) (Rw i))))), (5, .int 1), (8, .int (nI (nb q (Rw i)))), (0, .ref m0), (1, .int x), (6, .int wr)]) X dX6_judge_167 8 rfl (nI_inc _) (by decide) rfl ?_
                        refine g_goto X 39 dX6_judge_170 (by decide) ?_
                        refine g_lv (lv' := [(0, .ref m0), (1, .int x), (2, .int (nI (nb q (Rw i)))), (3, .int (dy + (nI (cst (K (nb q (Rw i))) (Rw i))))), (4, .int (nI (Rw i))), (5, .int 1), (6, .int wr), (7, .int (nI (i + 1)))]) X [6, 7, 1, 3, 2, 4, 8, 0] rfl ?_
                        exact g_eq (ws' := [(m0, cO 6 [.ref a0, .ref a1, .ref a2, .int (nI tn), .ref a4, .int (nI ap), .ref a6, .int (nI rn), .ref a8, .ref a9, .int im, .ref b1, .ref b2, .ref b3, .ref b4, .ref b5, .ref b6]), (a0, cI d 36 K), (a2, cI d 5 S), (a8, cI d 16 (nF Rw)), (a9, cI d 7 (rf7 Rf))]) (lv' := [(0, .ref m0), (1, .int x), (2, .int (nI (nb q (Rw i)))), (3, .int (dy + stp K S q (Rw i))), (4, .int (cbI (Rw i))), (5, .int (if ¬ cb = 99 ∧ ¬ cb = Rw i ∧ K q = 3 then 1 else sh)), (6, .int (-9)), (7, .int (nI (i + 1)))]) (rfl) (lv_cons (rfl) (lv_cons (rfl) (lv_cons (rfl) (lv_cons (vI (congrArg (fun z => dy + z) (stp_t hnb c97_24).symm)) (lv_cons (vI ((cbI_t (nb_lt4 hnb)).symm)) (lv_cons (vI ((if_pos ⟨hcn, c133_27, c114_25⟩).symm)) (lv_cons (vI (c52_12)) (lv_cons (rfl) (rfl))))))))) (ih_39 (i + 1) (nb q (Rw i)) (Rw i) (dy + stp K S q (Rw i)) (if ¬ cb = 99 ∧ ¬ cb = Rw i ∧ K q = 3 then 1 else sh) (-9) (by first | assumption | omega) (hnb) (Or.inr (nb_lt4 hnb)) (by split; exact Or.inr rfl; exact hsh) (jIn_y hs (by omega) hrn hnb c97_24) (by omega))
                · refine g_iload X dX6_judge_100 8 rfl ?_
                  refine g_istore (lv' := [(6, .int (nI i)), (8, .int (nI (nb q (Rw i)))), (0, .ref m0), (1, .int x), (2, .int (nI q)), (3, .int dy), (4, .int (cbI cb)), (5, .int sh), (7, .int (nI i))]) X dX6_judge_102 (by decide) rfl ?_
                  refine g_goto X 167 dX6_judge_104 (by decide) ?_
                  refine g_iinc (v := nI (i + 1)) (lv' := [(7, .int (nI (i + 1))), (6, .int (nI i)), (8, .int (nI (nb q (Rw i)))), (0, .ref m0), (1, .int x), (2, .int (nI q)), (3, .int dy), (4, .int (cbI cb)), (5, .int sh)]) X dX6_judge_167 8 rfl (nI_inc _) (by decide) rfl ?_
                  refine g_goto X 39 dX6_judge_170 (by decide) ?_
                  refine g_lv (lv' := [(0, .ref m0), (1, .int x), (2, .int (nI q)), (3, .int dy), (4, .int (cbI cb)), (5, .int sh), (6, .int (nI i)), (7, .int (nI (i + 1)))]) X [3, 4, 5, 6, 7, 8, 1, 0] rfl ?_
                  exact ih_39 (i + 1) q cb dy sh (nI i) (by first | assumption | omega) (by first | assumption | omega) (by first | assumption | omega) (by first | assumption | omega) (jIn_n hs (by omega) (stp_f (fun z => c97_24 z.2))) (by omega)
            · refine g_iload_n X dX6_judge_66 rfl 2 rfl ?_
              refine g_aload_n X dX6_judge_67 rfl 0 rfl ?_
              refine g_get (C := RX6) (T := TX6) (N := 17) (ci := 6) (v := .ref a8) X rfl inT6 8 (by decide) wd_804 rfl dX6_judge_68 0 rfl rfl ?_
              refine g_iload X dX6_judge_71 7 rfl ?_
              refine g_iaload_N (k := i) X rfl dX6_judge_73 3 rfl (by first | assumption | omega) (by omega) ?_
              refine g_dS (n := 2) (wr := [(m0, cO 6 [.ref a0, .ref a1, .ref a2, .int (nI tn), .ref a4, .int (nI ap), .ref a6, .int (nI rn), .ref a8, .ref a9, .int im, .ref b1, .ref b2, .ref b3, .ref b4, .ref b5, .ref b6]), (a0, cI d 36 K), (a2, cI d 5 S), (a8, cI d 16 (nF Rw)), (a9, cI d 7 (rf7 Rf))]) (ws' := [(m0, cO 6 [.ref a0, .ref a1, .ref a2, .int (nI tn), .ref a4, .int (nI ap), .ref a6, .int (nI rn), .ref a8, .ref a9, .int im, .ref b1, .ref b2, .ref b3, .ref b4, .ref b5, .ref b6]), (a0, cI d 36 K), (a2, cI d 5 S), (a8, cI d 16 (nF Rw)), (a9, cI d 7 (rf7 Rf))]) (st' := [.int (besM (nb q (Rw i)))]) (As := [.int (nI q), .int (nI (Rw i))]) (st := []) X (ct_X6_beside l d q (Rw i) (hq) (by omega)) wd_907 wd_905 wd_906 wd_58 hd_X6_beside ⟨(Nat.le_of_ble_eq_true rfl), (Nat.le_of_ble_eq_true rfl)⟩ rfl rfl dX6_judge_74 ⟨(Nat.le_of_ble_eq_true rfl), (Nat.le_of_ble_eq_true rfl)⟩ rfl rfl (Nat.le_of_ble_eq_true rfl) [] [0, 1, 2, 3, 4] rfl rfl rfl rfl rfl (by decide) [0, 1, 2, 3, 4] rfl rfl rfl rfl ?_
              refine g_goto X 82 dX6_judge_77 (by decide) ?_
              refine g_tope (y := besM (nb q (Rw i))) (rfl) ?_
              refine g_istore (lv' := [(8, .int (besM (nb q (Rw i)))), (0, .ref m0), (1, .int x), (2, .int (nI q)), (3, .int dy), (4, .int (cbI cb)), (5, .int sh), (6, .int wr), (7, .int (nI i))]) X dX6_judge_82 (by decide) rfl ?_
              refine g_iload X dX6_judge_84 0 rfl ?_
              refine g_bipush (v := (-9)) X dX6_judge_86 (by decide) ?_
              refine g_icmp_eq X 100 dX6_judge_88 (by decide) (fun c88_28 => ?_) (fun c88_28 => ?_)
              · refine g_iload X dX6_judge_100 8 rfl ?_
                refine g_istore (lv' := [(6, .int (nI i)), (8, .int (besM (nb q (Rw i)))), (0, .ref m0), (1, .int x), (2, .int (nI q)), (3, .int dy), (4, .int (cbI cb)), (5, .int sh), (7, .int (nI i))]) X dX6_judge_102 (by decide) rfl ?_
                refine g_goto X 167 dX6_judge_104 (by decide) ?_
                refine g_iinc (v := nI (i + 1)) (lv' := [(7, .int (nI (i + 1))), (6, .int (nI i)), (8, .int (besM (nb q (Rw i)))), (0, .ref m0), (1, .int x), (2, .int (nI q)), (3, .int dy), (4, .int (cbI cb)), (5, .int sh)]) X dX6_judge_167 8 rfl (nI_inc _) (by decide) rfl ?_
                refine g_goto X 39 dX6_judge_170 (by decide) ?_
                refine g_lv (lv' := [(0, .ref m0), (1, .int x), (2, .int (nI q)), (3, .int dy), (4, .int (cbI cb)), (5, .int sh), (6, .int (nI i)), (7, .int (nI (i + 1)))]) X [3, 4, 5, 6, 7, 8, 1, 0] rfl ?_
                exact ih_39 (i + 1) q cb dy sh (nI i) (by first | assumption | omega) (by first | assumption | omega) (by first | assumption | omega) (by first | assumption | omega) (jIn_n hs (by omega) (stp_f (fun z => besM_m9.mp c88_28 z.1))) (by omega)
              · have hnb : nb q (Rw i) < 36 := Decidable.not_not.mp (fun z => c88_28 (besM_m9.mpr z))
                refine g_eq (lv' := [(8, .int (nI (nb q (Rw i)))), (0, .ref m0), (1, .int x), (2, .int (nI q)), (3, .int dy), (4, .int (cbI cb)), (5, .int sh), (6, .int wr), (7, .int (nI i))]) rfl (lv_cons (vI (besM_t hnb)) (lv_cons (rfl) (lv_cons (rfl) (lv_cons (rfl) (lv_cons (rfl) (lv_cons (rfl) (lv_cons (rfl) (lv_cons (rfl) (lv_cons (rfl) (rfl)))))))))) ?_
                refine g_aload_n X dX6_judge_91 rfl 1 rfl ?_
                refine g_iload X dX6_judge_92 0 rfl ?_
                refine g_dV (ci := 6) (q0 := 0) (n := 1) (wr := [(a8, cI d 16 (nF Rw)), (a9, cI d 7 (rf7 Rf))]) (ws' := [(m0, cO 6 [.ref a0, .ref a1, .ref a2, .int (nI tn), .ref a4, .int (nI ap), .ref a6, .int (nI rn), .ref a8, .ref a9, .int im, .ref b1, .ref b2, .ref b3, .ref b4, .ref b5, .ref b6]), (a0, cI d 36 K), (a2, cI d 5 S), (a8, cI d 16 (nF Rw)), (a9, cI d 7 (rf7 Rf))]) (st' := [.int (b2i (csl (K (nb q (Rw i))) (S 1)))]) (As := [.int (nI (nb q (Rw i)))]) (st := []) X (ct_X6_canBe l d m0 a0 a1 a2 a4 a6 a8 a9 b1 b2 b3 b4 b5 b6 K S tn ap rn im (nb q (Rw i)) (hnb)) wd_891 wd_888 wd_890 wd_31 wd_58 hd_X6_canBe rfl ⟨(Nat.le_of_ble_eq_true rfl), (Nat.le_of_ble_eq_true rfl)⟩ rfl rfl dX6_judge_94 ⟨(Nat.le_of_ble_eq_true rfl), (Nat.le_of_ble_eq_true rfl)⟩ rfl rfl (Nat.le_of_ble_eq_true rfl) [0, 1, 2] [3, 4] rfl rfl rfl rfl rfl (by decide) rfl [2, 3, 4, 0, 1] rfl rfl rfl rfl ?_
                refine g_ifB_ne X 107 dX6_judge_97 (by decide) (fun c97_29 => ?_) (fun c97_29 => ?_)
                · refine g_aload_n X dX6_judge_107 rfl 1 rfl ?_
                  refine g_get (C := RX6) (T := TX6) (N := 17) (ci := 6) (v := .ref a0) X rfl inT6 0 (by decide) wd_796 rfl dX6_judge_108 0 rfl rfl ?_
                  refine g_iload_n X dX6_judge_111 rfl 3 rfl ?_
                  refine g_iaload_N (k := q) X rfl dX6_judge_112 1 rfl (by first | assumption | omega) (by omega) ?_
                  refine g_iconst (v := 3) X dX6_judge_113 (by decide) ?_
                  refine g_icmp_ne X 139 dX6_judge_114 (by decide) (fun c114_30 => ?_) (fun c114_30 => ?_)
                  · refine g_iload_n X dX6_judge_139 rfl 4 rfl ?_
                    refine g_aload_n X dX6_judge_140 rfl 1 rfl ?_
                    refine g_iload X dX6_judge_141 0 rfl ?_
                    refine g_aload_n X dX6_judge_143 rfl 1 rfl ?_
                    refine g_get (C := RX6) (T := TX6) (N := 17) (ci := 6) (v := .ref a8) X rfl inT6 8 (by decide) wd_804 rfl dX6_judge_144 0 rfl rfl ?_
                    refine g_iload X dX6_judge_147 8 rfl ?_
                    refine g_iaload_N (k := i) X rfl dX6_judge_149 3 rfl (by first | assumption | omega) (by omega) ?_
                    refine g_dV (ci := 6) (q0 := 0) (n := 2) (wr := [(a2, cI d 5 S), (a8, cI d 16 (nF Rw)), (a9, cI d 7 (rf7 Rf))]) (ws' := [(m0, cO 6 [.ref a0, .ref a1, .ref a2, .int (nI tn), .ref a4, .int (nI ap), .ref a6, .int (nI rn), .ref a8, .ref a9, .int im, .ref b1, .ref b2, .ref b3, .ref b4, .ref b5, .ref b6]), (a0, cI d 36 K), (a2, cI d 5 S), (a8, cI d 16 (nF Rw)), (a9, cI d 7 (rf7 Rf))]) (st' := [.int (nI (cst (K (nb q (Rw i))) (Rw i))), .int dy]) (As := [.int (nI (nb q (Rw i))), .int (nI (Rw i))]) (st := [.int dy]) X (ct_X6_daysTo l d m0 a0 a1 a2 a4 a6 a8 a9 b1 b2 b3 b4 b5 b6 K tn ap rn im (nb q (Rw i)) (Rw i) (hnb) (nb_lt4 hnb)) wd_911 wd_908 wd_910 wd_35 wd_58 hd_X6_daysTo rfl ⟨(Nat.le_of_ble_eq_true rfl), (Nat.le_of_ble_eq_true rfl)⟩ rfl rfl dX6_judge_150 ⟨(Nat.le_of_ble_eq_true rfl), (Nat.le_of_ble_eq_true rfl)⟩ rfl rfl (Nat.le_of_ble_eq_true rfl) [0, 1] [2, 3, 4] rfl rfl rfl rfl rfl (by decide) rfl [3, 4, 0, 1, 2] rfl rfl rfl rfl ?_
                    refine g_iadd X dX6_judge_153 ?_
                    refine g_istore_n (lv' := [(3, .int (dy + (nI (cst (K (nb q (Rw i))) (Rw i))))), (8, .int (nI (nb q (Rw i)))), (0, .ref m0), (1, .int x), (2, .int (nI q)), (4, .int (cbI cb)), (5, .int sh), (6, .int wr), (7, .int (nI i))]) X dX6_judge_154 rfl (by decide) rfl ?_
                    refine g_aload_n X dX6_judge_155 rfl 2 rfl ?_
                    refine g_get (C := RX6) (T := TX6) (N := 17) (ci := 6) (v := .ref a8) X rfl inT6 8 (by decide) wd_804 rfl dX6_judge_156 0 rfl rfl ?_
                    refine g_iload X dX6_judge_159 8 rfl ?_
                    refine g_iaload_N (k := i) X rfl dX6_judge_161 3 rfl (by first | assumption | omega) (by omega) ?_
                    refine g_istore (lv' := [(4, .int (nI (Rw i))), (3, .int (dy + (nI (cst (K (nb q (Rw i))) (Rw i))))), (8, .int (nI (nb q (Rw i)))), (0, .ref m0), (1, .int x), (2, .int (nI q)), (5, .int sh), (6, .int wr), (7, .int (nI i))]) X dX6_judge_162 (by decide) rfl ?_
                    refine g_iload X dX6_judge_164 2 rfl ?_
                    refine g_istore_n (lv' := [(2, .int (nI (nb q (Rw i)))), (4, .int (nI (Rw i))), (3, .int (dy + (nI (cst (K (nb q (Rw i))) (Rw i))))), (8, .int (nI (nb q (Rw i)))), (0, .ref m0), (1, .int x), (5, .int sh), (6, .int wr), (7, .int (nI i))]) X dX6_judge_166 rfl (by decide) rfl ?_
                    refine g_iinc (v := nI (i + 1)) (lv' := [(7, .int (nI (i + 1))), (2, .int (nI (nb q (Rw i)))), (4, .int (nI (Rw i))), (3, .int (dy + (nI (cst (K (nb q (Rw i))) (Rw i))))), (8, .int (nI (nb q (Rw i)))), (0, .ref m0), (1, .int x), (5, .int sh), (6, .int wr)]) X dX6_judge_167 8 rfl (nI_inc _) (by decide) rfl ?_
                    refine g_goto X 39 dX6_judge_170 (by decide) ?_
                    refine g_lv (lv' := [(0, .ref m0), (1, .int x), (2, .int (nI (nb q (Rw i)))), (3, .int (dy + (nI (cst (K (nb q (Rw i))) (Rw i))))), (4, .int (nI (Rw i))), (5, .int sh), (6, .int wr), (7, .int (nI (i + 1)))]) X [5, 6, 1, 3, 2, 7, 8, 0] rfl ?_
                    exact g_eq (ws' := [(m0, cO 6 [.ref a0, .ref a1, .ref a2, .int (nI tn), .ref a4, .int (nI ap), .ref a6, .int (nI rn), .ref a8, .ref a9, .int im, .ref b1, .ref b2, .ref b3, .ref b4, .ref b5, .ref b6]), (a0, cI d 36 K), (a2, cI d 5 S), (a8, cI d 16 (nF Rw)), (a9, cI d 7 (rf7 Rf))]) (lv' := [(0, .ref m0), (1, .int x), (2, .int (nI (nb q (Rw i)))), (3, .int (dy + stp K S q (Rw i))), (4, .int (cbI (Rw i))), (5, .int (if ¬ cb = 99 ∧ ¬ cb = Rw i ∧ K q = 3 then 1 else sh)), (6, .int (-9)), (7, .int (nI (i + 1)))]) (rfl) (lv_cons (rfl) (lv_cons (rfl) (lv_cons (rfl) (lv_cons (vI (congrArg (fun z => dy + z) (stp_t hnb c97_29).symm)) (lv_cons (vI ((cbI_t (nb_lt4 hnb)).symm)) (lv_cons (vI ((if_neg (fun z => c114_30 z.2.2)).symm)) (lv_cons (vI (c52_12)) (lv_cons (rfl) (rfl))))))))) (ih_39 (i + 1) (nb q (Rw i)) (Rw i) (dy + stp K S q (Rw i)) (if ¬ cb = 99 ∧ ¬ cb = Rw i ∧ K q = 3 then 1 else sh) (-9) (by first | assumption | omega) (hnb) (Or.inr (nb_lt4 hnb)) (by split; exact Or.inr rfl; exact hsh) (jIn_y hs (by omega) hrn hnb c97_29) (by omega))
                  · refine g_iload X dX6_judge_117 5 rfl ?_
                    refine g_bipush (v := (-9)) X dX6_judge_119 (by decide) ?_
                    refine g_icmp_eq X 139 dX6_judge_121 (by decide) (fun c121_31 => ?_) (fun c121_31 => ?_)
                    · refine g_iload_n X dX6_judge_139 rfl 4 rfl ?_
                      refine g_aload_n X dX6_judge_140 rfl 1 rfl ?_
                      refine g_iload X dX6_judge_141 0 rfl ?_
                      refine g_aload_n X dX6_judge_143 rfl 1 rfl ?_
                      refine g_get (C := RX6) (T := TX6) (N := 17) (ci := 6) (v := .ref a8) X rfl inT6 8 (by decide) wd_804 rfl dX6_judge_144 0 rfl rfl ?_
                      refine g_iload X dX6_judge_147 8 rfl ?_
                      refine g_iaload_N (k := i) X rfl dX6_judge_149 3 rfl (by first | assumption | omega) (by omega) ?_
                      refine g_dV (ci := 6) (q0 := 0) (n := 2) (wr := [(a2, cI d 5 S), (a8, cI d 16 (nF Rw)), (a9, cI d 7 (rf7 Rf))]) (ws' := [(m0, cO 6 [.ref a0, .ref a1, .ref a2, .int (nI tn), .ref a4, .int (nI ap), .ref a6, .int (nI rn), .ref a8, .ref a9, .int im, .ref b1, .ref b2, .ref b3, .ref b4, .ref b5, .ref b6]), (a0, cI d 36 K), (a2, cI d 5 S), (a8, cI d 16 (nF Rw)), (a9, cI d 7 (rf7 Rf))]) (st' := [.int (nI (cst (K (nb q (Rw i))) (Rw i))), .int dy]) (As := [.int (nI (nb q (Rw i))), .int (nI (Rw i))]) (st := [.int dy]) X (ct_X6_daysTo l d m0 a0 a1 a2 a4 a6 a8 a9 b1 b2 b3 b4 b5 b6 K tn ap rn im (nb q (Rw i)) (Rw i) (hnb) (nb_lt4 hnb)) wd_911 wd_908 wd_910 wd_35 wd_58 hd_X6_daysTo rfl ⟨(Nat.le_of_ble_eq_true rfl), (Nat.le_of_ble_eq_true rfl)⟩ rfl rfl dX6_judge_150 ⟨(Nat.le_of_ble_eq_true rfl), (Nat.le_of_ble_eq_true rfl)⟩ rfl rfl (Nat.le_of_ble_eq_true rfl) [0, 1] [2, 3, 4] rfl rfl rfl rfl rfl (by decide) rfl [3, 4, 0, 1, 2] rfl rfl rfl rfl ?_
                      refine g_iadd X dX6_judge_153 ?_
                      refine g_istore_n (lv' := [(3, .int (dy + (nI (cst (K (nb q (Rw i))) (Rw i))))), (8, .int (nI (nb q (Rw i)))), (0, .ref m0), (1, .int x), (2, .int (nI q)), (4, .int (cbI cb)), (5, .int sh), (6, .int wr), (7, .int (nI i))]) X dX6_judge_154 rfl (by decide) rfl ?_
                      refine g_aload_n X dX6_judge_155 rfl 2 rfl ?_
                      refine g_get (C := RX6) (T := TX6) (N := 17) (ci := 6) (v := .ref a8) X rfl inT6 8 (by decide) wd_804 rfl dX6_judge_156 0 rfl rfl ?_
                      refine g_iload X dX6_judge_159 8 rfl ?_
                      refine g_iaload_N (k := i) X rfl dX6_judge_161 3 rfl (by first | assumption | omega) (by omega) ?_
                      refine g_istore (lv' := [(4, .int (nI (Rw i))), (3, .int (dy + (nI (cst (K (nb q (Rw i))) (Rw i))))), (8, .int (nI (nb q (Rw i)))), (0, .ref m0), (1, .int x), (2, .int (nI q)), (5, .int sh), (6, .int wr), (7, .int (nI i))]) X dX6_judge_162 (by decide) rfl ?_
                      refine g_iload X dX6_judge_164 2 rfl ?_
                      refine g_istore_n (lv' := [(2, .int (nI (nb q (Rw i)))), (4, .int (nI (Rw i))), (3, .int (dy + (nI (cst (K (nb q (Rw i))) (Rw i))))), (8, .int (nI (nb q (Rw i)))), (0, .ref m0), (1, .int x), (5, .int sh), (6, .int wr), (7, .int (nI i))]) X dX6_judge_166 rfl (by decide) rfl ?_
                      refine g_iinc (v := nI (i + 1)) (lv' := [(7, .int (nI (i + 1))), (2, .int (nI (nb q (Rw i)))), (4, .int (nI (Rw i))), (3, .int (dy + (nI (cst (K (nb q (Rw i))) (Rw i))))), (8, .int (nI (nb q (Rw i)))), (0, .ref m0), (1, .int x), (5, .int sh), (6, .int wr)]) X dX6_judge_167 8 rfl (nI_inc _) (by decide) rfl ?_
                      refine g_goto X 39 dX6_judge_170 (by decide) ?_
                      refine g_lv (lv' := [(0, .ref m0), (1, .int x), (2, .int (nI (nb q (Rw i)))), (3, .int (dy + (nI (cst (K (nb q (Rw i))) (Rw i))))), (4, .int (nI (Rw i))), (5, .int sh), (6, .int wr), (7, .int (nI (i + 1)))]) X [5, 6, 1, 3, 2, 7, 8, 0] rfl ?_
                      exact g_eq (ws' := [(m0, cO 6 [.ref a0, .ref a1, .ref a2, .int (nI tn), .ref a4, .int (nI ap), .ref a6, .int (nI rn), .ref a8, .ref a9, .int im, .ref b1, .ref b2, .ref b3, .ref b4, .ref b5, .ref b6]), (a0, cI d 36 K), (a2, cI d 5 S), (a8, cI d 16 (nF Rw)), (a9, cI d 7 (rf7 Rf))]) (lv' := [(0, .ref m0), (1, .int x), (2, .int (nI (nb q (Rw i)))), (3, .int (dy + stp K S q (Rw i))), (4, .int (cbI (Rw i))), (5, .int (if ¬ cb = 99 ∧ ¬ cb = Rw i ∧ K q = 3 then 1 else sh)), (6, .int (-9)), (7, .int (nI (i + 1)))]) (rfl) (lv_cons (rfl) (lv_cons (rfl) (lv_cons (rfl) (lv_cons (vI (congrArg (fun z => dy + z) (stp_t hnb c97_29).symm)) (lv_cons (vI ((cbI_t (nb_lt4 hnb)).symm)) (lv_cons (vI ((if_neg (fun z => z.1 (cbI_9 hc c121_31))).symm)) (lv_cons (vI (c52_12)) (lv_cons (rfl) (rfl))))))))) (ih_39 (i + 1) (nb q (Rw i)) (Rw i) (dy + stp K S q (Rw i)) (if ¬ cb = 99 ∧ ¬ cb = Rw i ∧ K q = 3 then 1 else sh) (-9) (by first | assumption | omega) (hnb) (Or.inr (nb_lt4 hnb)) (by split; exact Or.inr rfl; exact hsh) (jIn_y hs (by omega) hrn hnb c97_29) (by omega))
                    · have hcn : ¬ cb = 99 := fun e => c121_31 (by rw [e]; rfl)
                      refine g_eq (lv' := [(8, .int (nI (nb q (Rw i)))), (0, .ref m0), (1, .int x), (2, .int (nI q)), (3, .int dy), (4, .int (nI cb)), (5, .int sh), (6, .int wr), (7, .int (nI i))]) rfl (lv_cons (rfl) (lv_cons (rfl) (lv_cons (rfl) (lv_cons (rfl) (lv_cons (rfl) (lv_cons (vI (if_neg hcn)) (lv_cons (rfl) (lv_cons (rfl) (lv_cons (rfl) (rfl)))))))))) ?_
                      refine g_iload X dX6_judge_124 5 rfl ?_
                      refine g_aload_n X dX6_judge_126 rfl 1 rfl ?_
                      refine g_get (C := RX6) (T := TX6) (N := 17) (ci := 6) (v := .ref a8) X rfl inT6 8 (by decide) wd_804 rfl dX6_judge_127 0 rfl rfl ?_
                      refine g_iload X dX6_judge_130 8 rfl ?_
                      refine g_iaload_N (k := i) X rfl dX6_judge_132 3 rfl (by first | assumption | omega) (by omega) ?_
                      refine g_icmpN_eq (a := cb) (b := (Rw i)) X rfl rfl (by omega) (by omega) 139 dX6_judge_133 (by decide) (fun c133_32 => ?_) (fun c133_32 => ?_)
                      · refine g_iload_n X dX6_judge_139 rfl 4 rfl ?_
                        refine g_aload_n X dX6_judge_140 rfl 1 rfl ?_
                        refine g_iload X dX6_judge_141 0 rfl ?_
                        refine g_aload_n X dX6_judge_143 rfl 1 rfl ?_
                        refine g_get (C := RX6) (T := TX6) (N := 17) (ci := 6) (v := .ref a8) X rfl inT6 8 (by decide) wd_804 rfl dX6_judge_144 0 rfl rfl ?_
                        refine g_iload X dX6_judge_147 8 rfl ?_
                        refine g_iaload_N (k := i) X rfl dX6_judge_149 3 rfl (by first | assumption | omega) (by omega) ?_
                        refine g_dV (ci := 6) (q0 := 0) (n := 2) (wr := [(a2, cI d 5 S), (a8, cI d 16 (nF Rw)), (a9, cI d 7 (rf7 Rf))]) (ws' := [(m0, cO 6 [.ref a0, .ref a1, .ref a2, .int (nI tn), .ref a4, .int (nI ap), .ref a6, .int (nI rn), .ref a8, .ref a9, .int im, .ref b1, .ref b2, .ref b3, .ref b4, .ref b5, .ref b6]), (a0, cI d 36 K), (a2, cI d 5 S), (a8, cI d 16 (nF Rw)), (a9, cI d 7 (rf7 Rf))]) (st' := [.int (nI (cst (K (nb q (Rw i))) (Rw i))), .int dy]) (As := [.int (nI (nb q (Rw i))), .int (nI (Rw i))]) (st := [.int dy]) X (ct_X6_daysTo l d m0 a0 a1 a2 a4 a6 a8 a9 b1 b2 b3 b4 b5 b6 K tn ap rn im (nb q (Rw i)) (Rw i) (hnb) (nb_lt4 hnb)) wd_911 wd_908 wd_910 wd_35 wd_58 hd_X6_daysTo rfl ⟨(Nat.le_of_ble_eq_true rfl), (Nat.le_of_ble_eq_true rfl)⟩ rfl rfl dX6_judge_150 ⟨(Nat.le_of_ble_eq_true rfl), (Nat.le_of_ble_eq_true rfl)⟩ rfl rfl (Nat.le_of_ble_eq_true rfl) [0, 1] [2, 3, 4] rfl rfl rfl rfl rfl (by decide) rfl [3, 4, 0, 1, 2] rfl rfl rfl rfl ?_
                        refine g_iadd X dX6_judge_153 ?_
                        refine g_istore_n (lv' := [(3, .int (dy + (nI (cst (K (nb q (Rw i))) (Rw i))))), (8, .int (nI (nb q (Rw i)))), (0, .ref m0), (1, .int x), (2, .int (nI q)), (4, .int (nI cb)), (5, .int sh), (6, .int wr), (7, .int (nI i))]) X dX6_judge_154 rfl (by decide) rfl ?_
                        refine g_aload_n X dX6_judge_155 rfl 2 rfl ?_
                        refine g_get (C := RX6) (T := TX6) (N := 17) (ci := 6) (v := .ref a8) X rfl inT6 8 (by decide) wd_804 rfl dX6_judge_156 0 rfl rfl ?_
                        refine g_iload X dX6_judge_159 8 rfl ?_
                        refine g_iaload_N (k := i) X rfl dX6_judge_161 3 rfl (by first | assumption | omega) (by omega) ?_
                        refine g_istore (lv' := [(4, .int (nI (Rw i))), (3, .int (dy + (nI (cst (K (nb q (Rw i))) (Rw i))))), (8, .int (nI (nb q (Rw i)))), (0, .ref m0), (1, .int x), (2, .int (nI q)), (5, .int sh), (6, .int wr), (7, .int (nI i))]) X dX6_judge_162 (by decide) rfl ?_
                        refine g_iload X dX6_judge_164 2 rfl ?_
                        refine g_istore_n (lv' := [(2, .int (nI (nb q (Rw i)))), (4, .int (nI (Rw i))), (3, .int (dy + (nI (cst (K (nb q (Rw i))) (Rw i))))), (8, .int (nI (nb q (Rw i)))), (0, .ref m0), (1, .int x), (5, .int sh), (6, .int wr), (7, .int (nI i))]) X dX6_judge_166 rfl (by decide) rfl ?_
                        refine g_iinc (v := nI (i + 1)) (lv' := [(7, .int (nI (i + 1))), (2, .int (nI (nb q (Rw i)))), (4, .int (nI (Rw i))), (3, .int (dy + (nI (cst (K (nb q (Rw i))) (Rw i))))), (8, .int (nI (nb q (Rw i)))), (0, .ref m0), (1, .int x), (5, .int sh), (6, .int wr)]) X dX6_judge_167 8 rfl (nI_inc _) (by decide) rfl ?_
                        refine g_goto X 39 dX6_judge_170 (by decide) ?_
                        refine g_lv (lv' := [(0, .ref m0), (1, .int x), (2, .int (nI (nb q (Rw i)))), (3, .int (dy + (nI (cst (K (nb q (Rw i))) (Rw i))))), (4, .int (nI (Rw i))), (5, .int sh), (6, .int wr), (7, .int (nI (i + 1)))]) X [5, 6, 1, 3, 2, 7, 8, 0] rfl ?_
                        exact g_eq (ws' := [(m0, cO 6 [.ref a0, .ref a1, .ref a2, .int (nI tn), .ref a4, .int (nI ap), .ref a6, .int (nI rn), .ref a8, .ref a9, .int im, .ref b1, .ref b2, .ref b3, .ref b4, .ref b5, .ref b6]), (a0, cI d 36 K), (a2, cI d 5 S), (a8, cI d 16 (nF Rw)), (a9, cI d 7 (rf7 Rf))]) (lv' := [(0, .ref m0), (1, .int x), (2, .int (nI (nb q (Rw i)))), (3, .int (dy + stp K S q (Rw i))), (4, .int (cbI (Rw i))), (5, .int (if ¬ cb = 99 ∧ ¬ cb = Rw i ∧ K q = 3 then 1 else sh)), (6, .int (-9)), (7, .int (nI (i + 1)))]) (rfl) (lv_cons (rfl) (lv_cons (rfl) (lv_cons (rfl) (lv_cons (vI (congrArg (fun z => dy + z) (stp_t hnb c97_29).symm)) (lv_cons (vI ((cbI_t (nb_lt4 hnb)).symm)) (lv_cons (vI ((if_neg (fun z => z.2.1 c133_32)).symm)) (lv_cons (vI (c52_12)) (lv_cons (rfl) (rfl))))))))) (ih_39 (i + 1) (nb q (Rw i)) (Rw i) (dy + stp K S q (Rw i)) (if ¬ cb = 99 ∧ ¬ cb = Rw i ∧ K q = 3 then 1 else sh) (-9) (by first | assumption | omega) (hnb) (Or.inr (nb_lt4 hnb)) (by split; exact Or.inr rfl; exact hsh) (jIn_y hs (by omega) hrn hnb c97_29) (by omega))
                      · refine g_iconst (v := 1) X dX6_judge_136 (by decide) ?_
                        refine g_istore (lv' := [(5, .int 1), (8, .int (nI (nb q (Rw i)))), (0, .ref m0), (1, .int x), (2, .int (nI q)), (3, .int dy), (4, .int (nI cb)), (6, .int wr), (7, .int (nI i))]) X dX6_judge_137 (by decide) rfl ?_
                        refine g_iload_n X dX6_judge_139 rfl 5 rfl ?_
                        refine g_aload_n X dX6_judge_140 rfl 2 rfl ?_
                        refine g_iload X dX6_judge_141 1 rfl ?_
                        refine g_aload_n X dX6_judge_143 rfl 2 rfl ?_
                        refine g_get (C := RX6) (T := TX6) (N := 17) (ci := 6) (v := .ref a8) X rfl inT6 8 (by decide) wd_804 rfl dX6_judge_144 0 rfl rfl ?_
                        refine g_iload X dX6_judge_147 8 rfl ?_
                        refine g_iaload_N (k := i) X rfl dX6_judge_149 3 rfl (by first | assumption | omega) (by omega) ?_
                        refine g_dV (ci := 6) (q0 := 0) (n := 2) (wr := [(a2, cI d 5 S), (a8, cI d 16 (nF Rw)), (a9, cI d 7 (rf7 Rf))]) (ws' := [(m0, cO 6 [.ref a0, .ref a1, .ref a2, .int (nI tn), .ref a4, .int (nI ap), .ref a6, .int (nI rn), .ref a8, .ref a9, .int im, .ref b1, .ref b2, .ref b3, .ref b4, .ref b5, .ref b6]), (a0, cI d 36 K), (a2, cI d 5 S), (a8, cI d 16 (nF Rw)), (a9, cI d 7 (rf7 Rf))]) (st' := [.int (nI (cst (K (nb q (Rw i))) (Rw i))), .int dy]) (As := [.int (nI (nb q (Rw i))), .int (nI (Rw i))]) (st := [.int dy]) X (ct_X6_daysTo l d m0 a0 a1 a2 a4 a6 a8 a9 b1 b2 b3 b4 b5 b6 K tn ap rn im (nb q (Rw i)) (Rw i) (hnb) (nb_lt4 hnb)) wd_911 wd_908 wd_910 wd_35 wd_58 hd_X6_daysTo rfl ⟨(Nat.le_of_ble_eq_true rfl), (Nat.le_of_ble_eq_true rfl)⟩ rfl rfl dX6_judge_150 ⟨(Nat.le_of_ble_eq_true rfl), (Nat.le_of_ble_eq_true rfl)⟩ rfl rfl (Nat.le_of_ble_eq_true rfl) [0, 1] [2, 3, 4] rfl rfl rfl rfl rfl (by decide) rfl [3, 4, 0, 1, 2] rfl rfl rfl rfl ?_
                        refine g_iadd X dX6_judge_153 ?_
                        refine g_istore_n (lv' := [(3, .int (dy + (nI (cst (K (nb q (Rw i))) (Rw i))))), (5, .int 1), (8, .int (nI (nb q (Rw i)))), (0, .ref m0), (1, .int x), (2, .int (nI q)), (4, .int (nI cb)), (6, .int wr), (7, .int (nI i))]) X dX6_judge_154 rfl (by decide) rfl ?_
                        refine g_aload_n X dX6_judge_155 rfl 3 rfl ?_
                        refine g_get (C := RX6) (T := TX6) (N := 17) (ci := 6) (v := .ref a8) X rfl inT6 8 (by decide) wd_804 rfl dX6_judge_156 0 rfl rfl ?_
                        refine g_iload X dX6_judge_159 8 rfl ?_
                        refine g_iaload_N (k := i) X rfl dX6_judge_161 3 rfl (by first | assumption | omega) (by omega) ?_
                        refine g_istore (lv' := [(4, .int (nI (Rw i))), (3, .int (dy + (nI (cst (K (nb q (Rw i))) (Rw i))))), (5, .int 1), (8, .int (nI (nb q (Rw i)))), (0, .ref m0), (1, .int x), (2, .int (nI q)), (6, .int wr), (7, .int (nI i))]) X dX6_judge_162 (by decide) rfl ?_
                        refine g_iload X dX6_judge_164 3 rfl ?_
                        refine g_istore_n (lv' := [(2, .int (nI (nb q (Rw i)))), (4, .int (nI (Rw i))), (3, .int (dy + (nI (cst (K (nb q (Rw i))) (Rw i))))), (5, .int 1), (8, .int (nI (nb q (Rw i)))), (0, .ref m0), (1, .int x), (6, .int wr), (7, .int (nI i))]) X dX6_judge_166 rfl (by decide) rfl ?_
                        refine g_iinc (v := nI (i + 1)) (lv' := [(7, .int (nI (i + 1))), (2, .int (nI (nb q (Rw i)))), (4, .int (nI (Rw i))), (3, .int (dy + (nI (cst (K (nb q (Rw i))) (Rw i))))), (5, .int 1), (8, .int (nI (nb q (Rw i)))), (0, .ref m0), (1, .int x), (6, .int wr)]) X dX6_judge_167 8 rfl (nI_inc _) (by decide) rfl ?_
                        refine g_goto X 39 dX6_judge_170 (by decide) ?_
                        refine g_lv (lv' := [(0, .ref m0), (1, .int x), (2, .int (nI (nb q (Rw i)))), (3, .int (dy + (nI (cst (K (nb q (Rw i))) (Rw i))))), (4, .int (nI (Rw i))), (5, .int 1), (6, .int wr), (7, .int (nI (i + 1)))]) X [6, 7, 1, 3, 2, 4, 8, 0] rfl ?_
                        exact g_eq (ws' := [(m0, cO 6 [.ref a0, .ref a1, .ref a2, .int (nI tn), .ref a4, .int (nI ap), .ref a6, .int (nI rn), .ref a8, .ref a9, .int im, .ref b1, .ref b2, .ref b3, .ref b4, .ref b5, .ref b6]), (a0, cI d 36 K), (a2, cI d 5 S), (a8, cI d 16 (nF Rw)), (a9, cI d 7 (rf7 Rf))]) (lv' := [(0, .ref m0), (1, .int x), (2, .int (nI (nb q (Rw i)))), (3, .int (dy + stp K S q (Rw i))), (4, .int (cbI (Rw i))), (5, .int (if ¬ cb = 99 ∧ ¬ cb = Rw i ∧ K q = 3 then 1 else sh)), (6, .int (-9)), (7, .int (nI (i + 1)))]) (rfl) (lv_cons (rfl) (lv_cons (rfl) (lv_cons (rfl) (lv_cons (vI (congrArg (fun z => dy + z) (stp_t hnb c97_29).symm)) (lv_cons (vI ((cbI_t (nb_lt4 hnb)).symm)) (lv_cons (vI ((if_pos ⟨hcn, c133_32, c114_30⟩).symm)) (lv_cons (vI (c52_12)) (lv_cons (rfl) (rfl))))))))) (ih_39 (i + 1) (nb q (Rw i)) (Rw i) (dy + stp K S q (Rw i)) (if ¬ cb = 99 ∧ ¬ cb = Rw i ∧ K q = 3 then 1 else sh) (-9) (by first | assumption | omega) (hnb) (Or.inr (nb_lt4 hnb)) (by split; exact Or.inr rfl; exact hsh) (jIn_y hs (by omega) hrn hnb c97_29) (by omega))
                · refine g_iload X dX6_judge_100 8 rfl ?_
                  refine g_istore (lv' := [(6, .int (nI i)), (8, .int (nI (nb q (Rw i)))), (0, .ref m0), (1, .int x), (2, .int (nI q)), (3, .int dy), (4, .int (cbI cb)), (5, .int sh), (7, .int (nI i))]) X dX6_judge_102 (by decide) rfl ?_
                  refine g_goto X 167 dX6_judge_104 (by decide) ?_
                  refine g_iinc (v := nI (i + 1)) (lv' := [(7, .int (nI (i + 1))), (6, .int (nI i)), (8, .int (nI (nb q (Rw i)))), (0, .ref m0), (1, .int x), (2, .int (nI q)), (3, .int dy), (4, .int (cbI cb)), (5, .int sh)]) X dX6_judge_167 8 rfl (nI_inc _) (by decide) rfl ?_
                  refine g_goto X 39 dX6_judge_170 (by decide) ?_
                  refine g_lv (lv' := [(0, .ref m0), (1, .int x), (2, .int (nI q)), (3, .int dy), (4, .int (cbI cb)), (5, .int sh), (6, .int (nI i)), (7, .int (nI (i + 1)))]) X [3, 4, 5, 6, 7, 8, 1, 0] rfl ?_
                  exact ih_39 (i + 1) q cb dy sh (nI i) (by first | assumption | omega) (by first | assumption | omega) (by first | assumption | omega) (by first | assumption | omega) (jIn_n hs (by omega) (stp_f (fun z => c97_29 z.2))) (by omega)
    refine g_lv (lv' := [(0, .ref m0), (1, .int x), (2, .int (nI hm)), (3, .int 0), (4, .int (-9)), (5, .int 0), (6, .int (-9)), (7, .int 0)]) X [6, 7, 5, 4, 3, 2, 1, 0] rfl ?_
    exact g_eq (ws' := [(m0, cO 6 [.ref a0, .ref a1, .ref a2, .int (nI tn), .ref a4, .int (nI ap), .ref a6, .int (nI rn), .ref a8, .ref a9, .int im, .ref b1, .ref b2, .ref b3, .ref b4, .ref b5, .ref b6]), (a0, cI d 36 K), (a2, cI d 5 S), (a8, cI d 16 (nF Rw)), (a9, cI d 7 (rf7 Rf))]) (lv' := [(0, .ref m0), (1, .int x), (2, .int (nI hm)), (3, .int 0), (4, .int (cbI 99)), (5, .int 0), (6, .int (-9)), (7, .int (nI 0))]) (rfl) (lv_cons (rfl) (lv_cons (rfl) (lv_cons (rfl) (lv_cons (rfl) (lv_cons (vI (by rfl)) (lv_cons (rfl) (lv_cons (rfl) (lv_cons (vI (by rfl)) (rfl))))))))) (at_39 _ 0 hm 99 0 0 (-9) (by first | assumption | omega) (by first | assumption | omega) (Or.inl rfl) (Or.inl rfl) (Or.inl ⟨rfl, by unfold jgs; rw [hix]⟩) (Nat.lt_succ_self _))
  · refine g_aload_n X dX6_judge_9 rfl 0 rfl ?_
    refine g_bipush (v := (-2)) X dX6_judge_10 (by decide) ?_
    refine g_dV (ci := 6) (q0 := 0) (n := 1) (wr := [(a0, cI d 36 K), (a2, cI d 5 S), (a8, cI d 16 (nF Rw))]) (ws' := [(m0, cO 6 [.ref a0, .ref a1, .ref a2, .int (nI tn), .ref a4, .int (nI ap), .ref a6, .int (nI rn), .ref a8, .ref a9, .int im, .ref b1, .ref b2, .ref b3, .ref b4, .ref b5, .ref b6]), (a0, cI d 36 K), (a2, cI d 5 S), (a8, cI d 16 (nF Rw)), (a9, cI d 7 (rf7 (bmp Rf 2)))]) (st' := [.int (-2)]) (As := [.int (-2)]) (st := []) X (ct_X6_no_2 l d m0 a0 a1 a2 a4 a6 a8 a9 b1 b2 b3 b4 b5 b6 Rf tn ap rn im) wd_855 wd_852 wd_854 wd_25 wd_58 hd_X6_no rfl ⟨(Nat.le_of_ble_eq_true rfl), (Nat.le_of_ble_eq_true rfl)⟩ rfl rfl dX6_judge_12 ⟨(Nat.le_of_ble_eq_true rfl), (Nat.le_of_ble_eq_true rfl)⟩ rfl rfl (Nat.le_of_ble_eq_true rfl) [0, 4] [1, 2, 3] rfl rfl rfl rfl rfl (by decide) rfl [3, 0, 1, 2, 4] rfl rfl rfl rfl ?_
    have e_ : sp_judge K S Rw rn x = ((-2), 2) := judge_1 (by assumption)
    exact g_end X (gE_i dX6_judge_15 (rfl) (Nat.le_of_ble_eq_true rfl) (Nat.le_of_ble_eq_true rfl) ⟨congrArg (fun z => some (Value.int z)) (by rw [e_]), ws_cons (rfl) (ws_cons (rfl) (ws_cons (rfl) (ws_cons (rfl) (ws_cons (cI_eq (by first | (rw [e_]; done) | (rw [e_]; rfl) | (rw [e_]; simp only [ix, ↓reduceIte]; done) | simp [e_, *])) (rfl)))))⟩)
set_option maxHeartbeats 4000000 in
set_option maxRecDepth 20000 in
theorem ct_X6_fits (l : Launch) (d : KD) (m0 a0 a1 a2 a4 a6 a8 a9 b1 b2 b3 b4 b5 b6 : Nat) (K L S Rf H : Nat → Int32) (Rw : Nat → Nat) (tn ap rn : Nat) (im : Int32) (x : Int32) (hrn : rn ≤ 16) (hR : ∀ q, Rw q < 100) (hh : sq (S 0)) (hL : ∀ q, lk9 (L q)) : Ct l d yX6_fits cX6_fits 8 (some .int) { frames := 4, cells := 0, slots := 0, locals := 91 } [.ref m0, .int x] [(m0, cO 6 [.ref a0, .ref a1, .ref a2, .int (nI tn), .ref a4, .int (nI ap), .ref a6, .int (nI rn), .ref a8, .ref a9, .int im, .ref b1, .ref b2, .ref b3, .ref b4, .ref b5, .ref b6]), (a0, cI d 36 K), (a1, cI d 36 L), (a2, cI d 5 S), (a8, cI d 16 (nF Rw)), (a9, cI d 7 (rf7 Rf)), (b5, cI d 36 H)] 0 0 (fun r wo => ∃ (H' : Nat → Int32), r = some (.int ((sp_fits (sg K (dsI K S (S 0))) L Rw rn x).1)) ∧ wo = [(m0, cO 6 [.ref a0, .ref a1, .ref a2, .int (nI tn), .ref a4, .int (nI ap), .ref a6, .int (nI rn), .ref a8, .ref a9, .int im, .ref b1, .ref b2, .ref b3, .ref b4, .ref b5, .ref b6]), (a0, cI d 36 K), (a1, cI d 36 L), (a2, cI d 5 S), (a8, cI d 16 (nF Rw)), (a9, cI d 7 (rf7 (bmp Rf (sp_fits (sg K (dsI K S (S 0))) L Rw rn x).2))), (b5, cI d 36 H')]) := by
  refine ct_of (own := RX6) (ini := false) (by decide +kernel) rfl (fun h => by cases h) (Nat.le_of_ble_eq_true rfl) ?_
  intro g X
  show g 0 0 [(m0, cO 6 [.ref a0, .ref a1, .ref a2, .int (nI tn), .ref a4, .int (nI ap), .ref a6, .int (nI rn), .ref a8, .ref a9, .int im, .ref b1, .ref b2, .ref b3, .ref b4, .ref b5, .ref b6]), (a0, cI d 36 K), (a1, cI d 36 L), (a2, cI d 5 S), (a8, cI d 16 (nF Rw)), (a9, cI d 7 (rf7 Rf)), (b5, cI d 36 H)] [(0, .ref m0), (1, .int x)] 0 []
  refine g_iload_n X dX6_fits_0 rfl 1 rfl ?_
  refine g_iconst (v := 0) X dX6_fits_1 (by decide) ?_
  refine g_iconst (v := 1) X dX6_fits_2 (by decide) ?_
  refine g_dS (n := 3) (wr := [(m0, cO 6 [.ref a0, .ref a1, .ref a2, .int (nI tn), .ref a4, .int (nI ap), .ref a6, .int (nI rn), .ref a8, .ref a9, .int im, .ref b1, .ref b2, .ref b3, .ref b4, .ref b5, .ref b6]), (a0, cI d 36 K), (a1, cI d 36 L), (a2, cI d 5 S), (a8, cI d 16 (nF Rw)), (a9, cI d 7 (rf7 Rf)), (b5, cI d 36 H)]) (ws' := [(m0, cO 6 [.ref a0, .ref a1, .ref a2, .int (nI tn), .ref a4, .int (nI ap), .ref a6, .int (nI rn), .ref a8, .ref a9, .int im, .ref b1, .ref b2, .ref b3, .ref b4, .ref b5, .ref b6]), (a0, cI d 36 K), (a1, cI d 36 L), (a2, cI d 5 S), (a8, cI d 16 (nF Rw)), (a9, cI d 7 (rf7 Rf)), (b5, cI d 36 H)]) (st' := [.int (b2i (x = 0 ∨ x = 1))]) (As := [.int x, .int 0, .int 1]) (st := []) X (ct_X6_within_2 l d x) wd_887 wd_885 wd_886 wd_58 hd_X6_within ⟨(Nat.le_of_ble_eq_true rfl), (Nat.le_of_ble_eq_true rfl)⟩ rfl rfl dX6_fits_3 ⟨(Nat.le_of_ble_eq_true rfl), (Nat.le_of_ble_eq_true rfl)⟩ rfl rfl (Nat.le_of_ble_eq_true rfl) [] [0, 1, 2, 3, 4, 5, 6] rfl rfl rfl rfl rfl (by decide) [0, 1, 2, 3, 4, 5, 6] rfl rfl rfl rfl ?_
  refine g_ifB_ne X 16 dX6_fits_6 (by decide) (fun c6_1 => ?_) (fun c6_1 => ?_)
  · have ho := c6_1
    have at_33 : ∀ (n_ : Nat) (i : Nat) (hi : 2 * i ≤ rn + 1), (20 - i) < n_ → g 0 0 [(m0, cO 6 [.ref a0, .ref a1, .ref a2, .int (nI tn), .ref a4, .int (nI ap), .ref a6, .int (nI rn), .ref a8, .ref a9, .int im, .ref b1, .ref b2, .ref b3, .ref b4, .ref b5, .ref b6]), (a0, cI d 36 K), (a1, cI d 36 L), (a2, cI d 5 S), (a8, cI d 16 (nF Rw)), (a9, cI d 7 (rf7 Rf)), (b5, cI d 36 H)] [(0, .ref m0), (1, .int x), (2, .int (b2i (so6 Rw rn i))), (3, .int (nI (2 * i)))] 33 [] := by
      intro n_
      induction n_ with
      | zero => intro i hi hn_; exact absurd hn_ (Nat.not_lt_zero _)
      | succ n_ ih_33 =>
        intro i hi hn_33
        have hRi := hR (2 * i)
        refine g_iload_n X dX6_fits_33 rfl 3 rfl ?_
        refine g_aload_n X dX6_fits_34 rfl 0 rfl ?_
        refine g_get (C := RX6) (T := TX6) (N := 17) (ci := 6) (v := .int (nI rn)) X rfl inT6 7 (by decide) wd_803 rfl dX6_fits_35 0 rfl rfl ?_
        refine g_icmpN_ge (a := (2 * i)) (b := rn) X rfl rfl (by omega) (by omega) 59 dX6_fits_38 (by decide) (fun c38_2 => ?_) (fun c38_2 => ?_)
        · refine g_iload_n X dX6_fits_59 rfl 2 rfl ?_
          refine g_ifB_ne X 70 dX6_fits_60 (by decide) (fun c60_3 => ?_) (fun c60_3 => ?_)
          · have hts := so6_e (by omega) c60_3
            refine g_aload_n X dX6_fits_70 rfl 0 rfl ?_
            refine g_dV (ci := 6) (q0 := 0) (n := 0) (wr := [(a1, cI d 36 L), (a8, cI d 16 (nF Rw)), (a9, cI d 7 (rf7 Rf))]) (ws' := [(m0, cO 6 [.ref a0, .ref a1, .ref a2, .int (nI tn), .ref a4, .int (nI ap), .ref a6, .int (nI rn), .ref a8, .ref a9, .int im, .ref b1, .ref b2, .ref b3, .ref b4, .ref b5, .ref b6]), (a0, cI d 36 K), (a1, cI d 36 L), (a2, cI d 5 S), (a8, cI d 16 (nF Rw)), (a9, cI d 7 (rf7 Rf)), (b5, cI d 36 (dF (dsI K S (S 0))))]) (st' := []) (As := []) (st := []) X (ct_X6_fromHome l d m0 a0 a1 a2 a4 a6 a8 a9 b1 b2 b3 b4 b5 b6 K S H tn ap rn im (by first | assumption | omega)) wd_900 wd_897 wd_899 wd_33 wd_58 hd_X6_fromHome rfl ⟨(Nat.le_of_ble_eq_true rfl), (Nat.le_of_ble_eq_true rfl)⟩ rfl rfl dX6_fits_71 ⟨(Nat.le_of_ble_eq_true rfl), (Nat.le_of_ble_eq_true rfl)⟩ rfl rfl (Nat.le_of_ble_eq_true rfl) [0, 1, 3, 6] [2, 4, 5] rfl rfl rfl rfl rfl (by decide) rfl [3, 4, 0, 5, 1, 2, 6] rfl rfl rfl rfl ?_
            refine g_iconst (v := 0) X dX6_fits_74 (by decide) ?_
            refine g_istore_n (lv' := [(3, .int 0), (0, .ref m0), (1, .int x), (2, .int (b2i (so6 Rw rn i)))]) X dX6_fits_75 rfl (by decide) rfl ?_
            refine g_bipush (v := (-9)) X dX6_fits_76 (by decide) ?_
            refine g_istore (lv' := [(4, .int (-9)), (3, .int 0), (0, .ref m0), (1, .int x), (2, .int (b2i (so6 Rw rn i)))]) X dX6_fits_78 (by decide) rfl ?_
            refine g_bipush (v := 35) X dX6_fits_80 (by decide) ?_
            refine g_istore (lv' := [(5, .int 35), (4, .int (-9)), (3, .int 0), (0, .ref m0), (1, .int x), (2, .int (b2i (so6 Rw rn i)))]) X dX6_fits_82 (by decide) rfl ?_
            have at_84 : ∀ (n_ : Nat) (k : Nat) (hk : k ≤ 36), (36 - k) < n_ → g 0 0 [(m0, cO 6 [.ref a0, .ref a1, .ref a2, .int (nI tn), .ref a4, .int (nI ap), .ref a6, .int (nI rn), .ref a8, .ref a9, .int im, .ref b1, .ref b2, .ref b3, .ref b4, .ref b5, .ref b6]), (a0, cI d 36 K), (a1, cI d 36 L), (a2, cI d 5 S), (a8, cI d 16 (nF Rw)), (a9, cI d 7 (rf7 Rf)), (b5, cI d 36 (dF (dsI K S (S 0))))] [(0, .ref m0), (1, .int x), (3, .int (nI ((fiS (sg K (dsI K S (S 0))) L Rw rn k).2))), (4, .int (besM (fiS (sg K (dsI K S (S 0))) L Rw rn k).1)), (5, .int (nI (36 - k) - 1))] 84 [] := by
              intro n_
              induction n_ with
              | zero => intro k hk hn_; exact absurd hn_ (Nat.not_lt_zero _)
              | succ n_ ih_84 =>
                intro k hk hn_84
                refine g_iload X dX6_fits_84 4 rfl ?_
                refine g_if_lt X 174 dX6_fits_86 (by decide) (fun c86_4 => ?_) (fun c86_4 => ?_)
                · obtain rfl : k = 36 := dn_lt hk c86_4
                  refine g_iload_n X dX6_fits_174 rfl 1 rfl ?_
                  refine g_if_ne X 182 dX6_fits_175 (by decide) (fun c175_5 => ?_) (fun c175_5 => ?_)
                  · refine g_iload X dX6_fits_182 3 rfl ?_
                    have e_ : sp_fits (sg K (dsI K S (S 0))) L Rw rn x = (besM (fiS (sg K (dsI K S (S 0))) L Rw rn 36).1, 0) := fits_4 ho hts c175_5
                    exact g_end X (gE_i dX6_fits_184 (rfl) (Nat.le_of_ble_eq_true rfl) (Nat.le_of_ble_eq_true rfl) ⟨(dF (dsI K S (S 0))), congrArg (fun z => some (Value.int z)) (by rw [e_]), ws_cons (rfl) (ws_cons (rfl) (ws_cons (rfl) (ws_cons (rfl) (ws_cons (rfl) (ws_cons (cI_eq (by first | (rw [e_]; done) | (rw [e_]; rfl) | (rw [e_]; simp only [ix, ↓reduceIte]; done) | simp [e_, *])) (ws_cons (rfl) (rfl)))))))⟩)
                  · refine g_iload_n X dX6_fits_178 rfl 2 rfl ?_
                    refine g_goto X 184 dX6_fits_179 (by decide) ?_
                    have e_ : sp_fits (sg K (dsI K S (S 0))) L Rw rn x = (nI ((fiS (sg K (dsI K S (S 0))) L Rw rn 36).2), 0) := fits_3 ho hts c175_5
                    exact g_end X (gE_i dX6_fits_184 (rfl) (Nat.le_of_ble_eq_true rfl) (Nat.le_of_ble_eq_true rfl) ⟨(dF (dsI K S (S 0))), congrArg (fun z => some (Value.int z)) (by rw [e_]), ws_cons (rfl) (ws_cons (rfl) (ws_cons (rfl) (ws_cons (rfl) (ws_cons (rfl) (ws_cons (cI_eq (by first | (rw [e_]; done) | (rw [e_]; rfl) | (rw [e_]; simp only [ix, ↓reduceIte]; done) | simp [e_, *])) (ws_cons (rfl) (rfl)))))))⟩)
                · have hk36 := dn_ge hk c86_4
                  refine g_eq (lv' := [(0, .ref m0), (1, .int x), (3, .int (nI ((fiS (sg K (dsI K S (S 0))) L Rw rn k).2))), (4, .int (besM (fiS (sg K (dsI K S (S 0))) L Rw rn k).1)), (5, .int (nI (35 - k)))]) rfl (lv_cons (rfl) (lv_cons (rfl) (lv_cons (rfl) (lv_cons (rfl) (lv_cons (vI (dn_1 hk36)) (rfl)))))) ?_
                  have at_109 : ∀ (n_ : Nat) (i : Nat) (hi2 : 2 * i ≤ rn + 1), (20 - i) < n_ → g 0 0 [(m0, cO 6 [.ref a0, .ref a1, .ref a2, .int (nI tn), .ref a4, .int (nI ap), .ref a6, .int (nI rn), .ref a8, .ref a9, .int im, .ref b1, .ref b2, .ref b3, .ref b4, .ref b5, .ref b6]), (a0, cI d 36 K), (a1, cI d 36 L), (a2, cI d 5 S), (a8, cI d 16 (nF Rw)), (a9, cI d 7 (rf7 Rf)), (b5, cI d 36 (dF (dsI K S (S 0))))] [(0, .ref m0), (1, .int x), (3, .int (nI ((fiS (sg K (dsI K S (S 0))) L Rw rn k).2))), (4, .int (besM (fiS (sg K (dsI K S (S 0))) L Rw rn k).1)), (5, .int (nI (35 - k))), (6, .int (b2i (0 < L (35 - k) ∧ tsk (sg K (dsI K S (S 0))) Rw (35 - k) i))), (7, .int (nI (2 * i)))] 109 [] := by
                    intro n_
                    induction n_ with
                    | zero => intro i hi2 hn_; exact absurd hn_ (Nat.not_lt_zero _)
                    | succ n_ ih_109 =>
                      intro i hi2 hn_109
                      refine g_iload X dX6_fits_109 6 rfl ?_
                      refine g_aload_n X dX6_fits_111 rfl 0 rfl ?_
                      refine g_get (C := RX6) (T := TX6) (N := 17) (ci := 6) (v := .int (nI rn)) X rfl inT6 7 (by decide) wd_803 rfl dX6_fits_112 0 rfl rfl ?_
                      refine g_icmpN_ge (a := (2 * i)) (b := rn) X rfl rfl (by omega) (by omega) 153 dX6_fits_115 (by decide) (fun c115_8 => ?_) (fun c115_8 => ?_)
                      · refine g_iload X dX6_fits_153 5 rfl ?_
                        refine g_ifB_ne X 161 dX6_fits_155 (by decide) (fun c155_9 => ?_) (fun c155_9 => ?_)
                        · refine g_iinc (v := nI ((fiS (sg K (dsI K S (S 0))) L Rw rn k).2 + 1)) (lv' := [(3, .int (nI ((fiS (sg K (dsI K S (S 0))) L Rw rn k).2 + 1))), (0, .ref m0), (1, .int x), (4, .int (besM (fiS (sg K (dsI K S (S 0))) L Rw rn k).1)), (5, .int (nI (35 - k))), (6, .int (b2i (0 < L (35 - k) ∧ tsk (sg K (dsI K S (S 0))) Rw (35 - k) i))), (7, .int (nI (2 * i)))]) X dX6_fits_161 2 rfl (nI_inc _) (by decide) rfl ?_
                          refine g_iload X dX6_fits_164 4 rfl ?_
                          refine g_istore (lv' := [(4, .int (nI (35 - k))), (3, .int (nI ((fiS (sg K (dsI K S (S 0))) L Rw rn k).2 + 1))), (0, .ref m0), (1, .int x), (5, .int (nI (35 - k))), (6, .int (b2i (0 < L (35 - k) ∧ tsk (sg K (dsI K S (S 0))) Rw (35 - k) i))), (7, .int (nI (2 * i)))]) X dX6_fits_166 (by decide) rfl ?_
                          refine g_iinc (v := (nI (35 - k)) + (-1)) (lv' := [(5, .int ((nI (35 - k)) + (-1))), (4, .int (nI (35 - k))), (3, .int (nI ((fiS (sg K (dsI K S (S 0))) L Rw rn k).2 + 1))), (0, .ref m0), (1, .int x), (6, .int (b2i (0 < L (35 - k) ∧ tsk (sg K (dsI K S (S 0))) Rw (35 - k) i))), (7, .int (nI (2 * i)))]) X dX6_fits_168 4 rfl (by rfl) (by decide) rfl ?_
                          refine g_goto X 84 dX6_fits_171 (by decide) ?_
                          refine g_lv (lv' := [(0, .ref m0), (1, .int x), (3, .int (nI ((fiS (sg K (dsI K S (S 0))) L Rw rn k).2 + 1))), (4, .int (nI (35 - k))), (5, .int ((nI (35 - k)) + (-1)))]) X [3, 4, 2, 1, 0] rfl ?_
                          exact g_eq (ws' := [(m0, cO 6 [.ref a0, .ref a1, .ref a2, .int (nI tn), .ref a4, .int (nI ap), .ref a6, .int (nI rn), .ref a8, .ref a9, .int im, .ref b1, .ref b2, .ref b3, .ref b4, .ref b5, .ref b6]), (a0, cI d 36 K), (a1, cI d 36 L), (a2, cI d 5 S), (a8, cI d 16 (nF Rw)), (a9, cI d 7 (rf7 Rf)), (b5, cI d 36 (dF (dsI K S (S 0))))]) (lv' := [(0, .ref m0), (1, .int x), (3, .int (nI ((fiS (sg K (dsI K S (S 0))) L Rw rn (k + 1)).2))), (4, .int (besM (fiS (sg K (dsI K S (S 0))) L Rw rn (k + 1)).1)), (5, .int (nI (36 - (k + 1)) - 1))]) (rfl) (lv_cons (rfl) (lv_cons (rfl) (lv_cons (vI (congrArg nI (congrArg Prod.snd (fiS_y ⟨(lk9_p (hL _)).mp c155_9.1, tsk_e hts.1 (by omega) c155_9.2⟩)).symm)) (lv_cons (vI ((besM_t (by omega)).symm.trans (congrArg besM (congrArg Prod.fst (fiS_y ⟨(lk9_p (hL _)).mp c155_9.1, tsk_e hts.1 (by omega) c155_9.2⟩)).symm))) (lv_cons (vI (dn_s hk36)) (rfl)))))) (ih_84 (k + 1) (by first | assumption | omega) (by omega))
                        · refine g_goto X 168 dX6_fits_158 (by decide) ?_
                          refine g_iinc (v := (nI (35 - k)) + (-1)) (lv' := [(5, .int ((nI (35 - k)) + (-1))), (0, .ref m0), (1, .int x), (3, .int (nI ((fiS (sg K (dsI K S (S 0))) L Rw rn k).2))), (4, .int (besM (fiS (sg K (dsI K S (S 0))) L Rw rn k).1)), (6, .int (b2i (0 < L (35 - k) ∧ tsk (sg K (dsI K S (S 0))) Rw (35 - k) i))), (7, .int (nI (2 * i)))]) X dX6_fits_168 4 rfl (by rfl) (by decide) rfl ?_
                          refine g_goto X 84 dX6_fits_171 (by decide) ?_
                          refine g_lv (lv' := [(0, .ref m0), (1, .int x), (3, .int (nI ((fiS (sg K (dsI K S (S 0))) L Rw rn k).2))), (4, .int (besM (fiS (sg K (dsI K S (S 0))) L Rw rn k).1)), (5, .int ((nI (35 - k)) + (-1)))]) X [1, 2, 3, 4, 0] rfl ?_
                          exact g_eq (ws' := [(m0, cO 6 [.ref a0, .ref a1, .ref a2, .int (nI tn), .ref a4, .int (nI ap), .ref a6, .int (nI rn), .ref a8, .ref a9, .int im, .ref b1, .ref b2, .ref b3, .ref b4, .ref b5, .ref b6]), (a0, cI d 36 K), (a1, cI d 36 L), (a2, cI d 5 S), (a8, cI d 16 (nF Rw)), (a9, cI d 7 (rf7 Rf)), (b5, cI d 36 (dF (dsI K S (S 0))))]) (lv' := [(0, .ref m0), (1, .int x), (3, .int (nI ((fiS (sg K (dsI K S (S 0))) L Rw rn (k + 1)).2))), (4, .int (besM (fiS (sg K (dsI K S (S 0))) L Rw rn (k + 1)).1)), (5, .int (nI (36 - (k + 1)) - 1))]) (rfl) (lv_cons (rfl) (lv_cons (rfl) (lv_cons (vI (congrArg nI (congrArg Prod.snd (fiS_n (fun z => c155_9 ⟨(lk9_p (hL _)).mpr z.1, tsk_o hts.1 (by omega) z.2⟩))).symm)) (lv_cons (vI (congrArg besM (congrArg Prod.fst (fiS_n (fun z => c155_9 ⟨(lk9_p (hL _)).mpr z.1, tsk_o hts.1 (by omega) z.2⟩))).symm)) (lv_cons (vI (dn_s hk36)) (rfl)))))) (ih_84 (k + 1) (by first | assumption | omega) (by omega))
                      · refine g_iload X dX6_fits_118 5 rfl ?_
                        refine g_ifB_eq X 153 dX6_fits_120 (by decide) (fun c120_10 => ?_) (fun c120_10 => ?_)
                        · refine g_iload X dX6_fits_153 5 rfl ?_
                          refine g_ifB_ne X 161 dX6_fits_155 (by decide) (fun c155_11 => ?_) (fun c155_11 => ?_)
                          · refine g_iinc (v := nI ((fiS (sg K (dsI K S (S 0))) L Rw rn k).2 + 1)) (lv' := [(3, .int (nI ((fiS (sg K (dsI K S (S 0))) L Rw rn k).2 + 1))), (0, .ref m0), (1, .int x), (4, .int (besM (fiS (sg K (dsI K S (S 0))) L Rw rn k).1)), (5, .int (nI (35 - k))), (6, .int (b2i (0 < L (35 - k) ∧ tsk (sg K (dsI K S (S 0))) Rw (35 - k) i))), (7, .int (nI (2 * i)))]) X dX6_fits_161 2 rfl (nI_inc _) (by decide) rfl ?_
                            refine g_iload X dX6_fits_164 4 rfl ?_
                            refine g_istore (lv' := [(4, .int (nI (35 - k))), (3, .int (nI ((fiS (sg K (dsI K S (S 0))) L Rw rn k).2 + 1))), (0, .ref m0), (1, .int x), (5, .int (nI (35 - k))), (6, .int (b2i (0 < L (35 - k) ∧ tsk (sg K (dsI K S (S 0))) Rw (35 - k) i))), (7, .int (nI (2 * i)))]) X dX6_fits_166 (by decide) rfl ?_
                            refine g_iinc (v := (nI (35 - k)) + (-1)) (lv' := [(5, .int ((nI (35 - k)) + (-1))), (4, .int (nI (35 - k))), (3, .int (nI ((fiS (sg K (dsI K S (S 0))) L Rw rn k).2 + 1))), (0, .ref m0), (1, .int x), (6, .int (b2i (0 < L (35 - k) ∧ tsk (sg K (dsI K S (S 0))) Rw (35 - k) i))), (7, .int (nI (2 * i)))]) X dX6_fits_168 4 rfl (by rfl) (by decide) rfl ?_
                            refine g_goto X 84 dX6_fits_171 (by decide) ?_
                            refine g_lv (lv' := [(0, .ref m0), (1, .int x), (3, .int (nI ((fiS (sg K (dsI K S (S 0))) L Rw rn k).2 + 1))), (4, .int (nI (35 - k))), (5, .int ((nI (35 - k)) + (-1)))]) X [3, 4, 2, 1, 0] rfl ?_
                            exact g_eq (ws' := [(m0, cO 6 [.ref a0, .ref a1, .ref a2, .int (nI tn), .ref a4, .int (nI ap), .ref a6, .int (nI rn), .ref a8, .ref a9, .int im, .ref b1, .ref b2, .ref b3, .ref b4, .ref b5, .ref b6]), (a0, cI d 36 K), (a1, cI d 36 L), (a2, cI d 5 S), (a8, cI d 16 (nF Rw)), (a9, cI d 7 (rf7 Rf)), (b5, cI d 36 (dF (dsI K S (S 0))))]) (lv' := [(0, .ref m0), (1, .int x), (3, .int (nI ((fiS (sg K (dsI K S (S 0))) L Rw rn (k + 1)).2))), (4, .int (besM (fiS (sg K (dsI K S (S 0))) L Rw rn (k + 1)).1)), (5, .int (nI (36 - (k + 1)) - 1))]) (rfl) (lv_cons (rfl) (lv_cons (rfl) (lv_cons (vI (congrArg nI (congrArg Prod.snd (fiS_y (absurd c155_11 c120_10))).symm)) (lv_cons (vI ((besM_t (by omega)).symm.trans (congrArg besM (congrArg Prod.fst (fiS_y (absurd c155_11 c120_10))).symm))) (lv_cons (vI (dn_s hk36)) (rfl)))))) (ih_84 (k + 1) (by first | assumption | omega) (by omega))
                          · refine g_goto X 168 dX6_fits_158 (by decide) ?_
                            refine g_iinc (v := (nI (35 - k)) + (-1)) (lv' := [(5, .int ((nI (35 - k)) + (-1))), (0, .ref m0), (1, .int x), (3, .int (nI ((fiS (sg K (dsI K S (S 0))) L Rw rn k).2))), (4, .int (besM (fiS (sg K (dsI K S (S 0))) L Rw rn k).1)), (6, .int (b2i (0 < L (35 - k) ∧ tsk (sg K (dsI K S (S 0))) Rw (35 - k) i))), (7, .int (nI (2 * i)))]) X dX6_fits_168 4 rfl (by rfl) (by decide) rfl ?_
                            refine g_goto X 84 dX6_fits_171 (by decide) ?_
                            refine g_lv (lv' := [(0, .ref m0), (1, .int x), (3, .int (nI ((fiS (sg K (dsI K S (S 0))) L Rw rn k).2))), (4, .int (besM (fiS (sg K (dsI K S (S 0))) L Rw rn k).1)), (5, .int ((nI (35 - k)) + (-1)))]) X [1, 2, 3, 4, 0] rfl ?_
                            exact g_eq (ws' := [(m0, cO 6 [.ref a0, .ref a1, .ref a2, .int (nI tn), .ref a4, .int (nI ap), .ref a6, .int (nI rn), .ref a8, .ref a9, .int im, .ref b1, .ref b2, .ref b3, .ref b4, .ref b5, .ref b6]), (a0, cI d 36 K), (a1, cI d 36 L), (a2, cI d 5 S), (a8, cI d 16 (nF Rw)), (a9, cI d 7 (rf7 Rf)), (b5, cI d 36 (dF (dsI K S (S 0))))]) (lv' := [(0, .ref m0), (1, .int x), (3, .int (nI ((fiS (sg K (dsI K S (S 0))) L Rw rn (k + 1)).2))), (4, .int (besM (fiS (sg K (dsI K S (S 0))) L Rw rn (k + 1)).1)), (5, .int (nI (36 - (k + 1)) - 1))]) (rfl) (lv_cons (rfl) (lv_cons (rfl) (lv_cons (vI (congrArg nI (congrArg Prod.snd (fiS_n (fun z => c155_11 ⟨(lk9_p (hL _)).mpr z.1, tsk_o hts.1 (by omega) z.2⟩))).symm)) (lv_cons (vI (congrArg besM (congrArg Prod.fst (fiS_n (fun z => c155_11 ⟨(lk9_p (hL _)).mpr z.1, tsk_o hts.1 (by omega) z.2⟩))).symm)) (lv_cons (vI (dn_s hk36)) (rfl)))))) (ih_84 (k + 1) (by first | assumption | omega) (by omega))
                        · refine g_aload_n X dX6_fits_123 rfl 0 rfl ?_
                          refine g_aload_n X dX6_fits_124 rfl 0 rfl ?_
                          refine g_get (C := RX6) (T := TX6) (N := 17) (ci := 6) (v := .ref a8) X rfl inT6 8 (by decide) wd_804 rfl dX6_fits_125 0 rfl rfl ?_
                          refine g_iload X dX6_fits_128 6 rfl ?_
                          refine g_iaload_N (k := (2 * i)) X rfl dX6_fits_130 4 rfl (by first | assumption | omega) (by omega) ?_
                          refine g_aload_n X dX6_fits_131 rfl 0 rfl ?_
                          refine g_get (C := RX6) (T := TX6) (N := 17) (ci := 6) (v := .ref a8) X rfl inT6 8 (by decide) wd_804 rfl dX6_fits_132 0 rfl rfl ?_
                          refine g_iload X dX6_fits_135 6 rfl ?_
                          refine g_iconst (v := 1) X dX6_fits_137 (by decide) ?_
                          refine g_iadd X dX6_fits_138 ?_
                          refine g_tope (y := nI ((2 * i) + 1)) (nI_add _ _) ?_
                          refine g_iaload_N (k := ((2 * i) + 1)) X rfl dX6_fits_139 4 rfl (by first | assumption | omega) (by omega) ?_
                          refine g_iload X dX6_fits_140 4 rfl ?_
                          refine g_dV (ci := 6) (q0 := 0) (n := 3) (wr := [(a1, cI d 36 L), (a2, cI d 5 S), (a8, cI d 16 (nF Rw)), (a9, cI d 7 (rf7 Rf))]) (ws' := [(m0, cO 6 [.ref a0, .ref a1, .ref a2, .int (nI tn), .ref a4, .int (nI ap), .ref a6, .int (nI rn), .ref a8, .ref a9, .int im, .ref b1, .ref b2, .ref b3, .ref b4, .ref b5, .ref b6]), (a0, cI d 36 K), (a1, cI d 36 L), (a2, cI d 5 S), (a8, cI d 16 (nF Rw)), (a9, cI d 7 (rf7 Rf)), (b5, cI d 36 (dF (dsI K S (S 0))))]) (st' := [.int (b2i (tru (sg K (dsI K S (S 0))) (Rw (2 * i)) (nI (Rw ((2 * i) + 1))) (35 - k)))]) (As := [.int (nI (Rw (2 * i))), .int (nI (Rw ((2 * i) + 1))), .int (nI (35 - k))]) (st := []) X (ct_X6_isTrue l d m0 a0 a1 a2 a4 a6 a8 a9 b1 b2 b3 b4 b5 b6 K tn ap rn im (Rw (2 * i)) (35 - k) (dsI K S (S 0)) (nI (Rw ((2 * i) + 1))) (hts.2 i (by omega)) (by omega)) wd_915 wd_912 wd_914 wd_36 wd_58 hd_X6_isTrue rfl ⟨(Nat.le_of_ble_eq_true rfl), (Nat.le_of_ble_eq_true rfl)⟩ rfl rfl dX6_fits_142 ⟨(Nat.le_of_ble_eq_true rfl), (Nat.le_of_ble_eq_true rfl)⟩ rfl rfl (Nat.le_of_ble_eq_true rfl) [0, 1, 6] [2, 3, 4, 5] rfl rfl rfl rfl rfl (by decide) rfl [4, 5, 0, 1, 2, 3, 6] rfl rfl rfl rfl ?_
                          refine g_istore (lv' := [(6, .int (b2i (tru (sg K (dsI K S (S 0))) (Rw (2 * i)) (nI (Rw ((2 * i) + 1))) (35 - k)))), (0, .ref m0), (1, .int x), (3, .int (nI ((fiS (sg K (dsI K S (S 0))) L Rw rn k).2))), (4, .int (besM (fiS (sg K (dsI K S (S 0))) L Rw rn k).1)), (5, .int (nI (35 - k))), (7, .int (nI (2 * i)))]) X dX6_fits_145 (by decide) rfl ?_
                          refine g_iinc (v := (nI (2 * i)) + 2) (lv' := [(7, .int ((nI (2 * i)) + 2)), (6, .int (b2i (tru (sg K (dsI K S (S 0))) (Rw (2 * i)) (nI (Rw ((2 * i) + 1))) (35 - k)))), (0, .ref m0), (1, .int x), (3, .int (nI ((fiS (sg K (dsI K S (S 0))) L Rw rn k).2))), (4, .int (besM (fiS (sg K (dsI K S (S 0))) L Rw rn k).1)), (5, .int (nI (35 - k)))]) X dX6_fits_147 6 rfl (by rfl) (by decide) rfl ?_
                          refine g_goto X 109 dX6_fits_150 (by decide) ?_
                          refine g_lv (lv' := [(0, .ref m0), (1, .int x), (3, .int (nI ((fiS (sg K (dsI K S (S 0))) L Rw rn k).2))), (4, .int (besM (fiS (sg K (dsI K S (S 0))) L Rw rn k).1)), (5, .int (nI (35 - k))), (6, .int (b2i (tru (sg K (dsI K S (S 0))) (Rw (2 * i)) (nI (Rw ((2 * i) + 1))) (35 - k)))), (7, .int ((nI (2 * i)) + 2))]) X [2, 3, 4, 5, 6, 1, 0] rfl ?_
                          exact g_eq (ws' := [(m0, cO 6 [.ref a0, .ref a1, .ref a2, .int (nI tn), .ref a4, .int (nI ap), .ref a6, .int (nI rn), .ref a8, .ref a9, .int im, .ref b1, .ref b2, .ref b3, .ref b4, .ref b5, .ref b6]), (a0, cI d 36 K), (a1, cI d 36 L), (a2, cI d 5 S), (a8, cI d 16 (nF Rw)), (a9, cI d 7 (rf7 Rf)), (b5, cI d 36 (dF (dsI K S (S 0))))]) (lv' := [(0, .ref m0), (1, .int x), (3, .int (nI ((fiS (sg K (dsI K S (S 0))) L Rw rn k).2))), (4, .int (besM (fiS (sg K (dsI K S (S 0))) L Rw rn k).1)), (5, .int (nI (35 - k))), (6, .int (b2i (0 < L (35 - k) ∧ tsk (sg K (dsI K S (S 0))) Rw (35 - k) (i + 1)))), (7, .int (nI (2 * (i + 1))))]) (rfl) (lv_cons (rfl) (lv_cons (rfl) (lv_cons (rfl) (lv_cons (rfl) (lv_cons (rfl) (lv_cons (vI (b2i_c ⟨fun z => ⟨c120_10.1, tsk_s c120_10.2 z⟩, fun z => z.2 i (by omega)⟩)) (lv_cons (vI (nI_add (2 * i) 2)) (rfl)))))))) (ih_109 (i + 1) (by first | assumption | omega) (by omega))
                  refine g_aload_n X dX6_fits_89 rfl 0 rfl ?_
                  refine g_get (C := RX6) (T := TX6) (N := 17) (ci := 6) (v := .ref a1) X rfl inT6 1 (by decide) wd_797 rfl dX6_fits_90 0 rfl rfl ?_
                  refine g_iload X dX6_fits_93 4 rfl ?_
                  refine g_iaload_N (k := (35 - k)) X rfl dX6_fits_95 2 rfl (by first | assumption | omega) (by omega) ?_
                  refine g_if_le X 103 dX6_fits_96 (by decide) (fun c96_12 => ?_) (fun c96_12 => ?_)
                  · refine g_iconst (v := 0) X dX6_fits_103 (by decide) ?_
                    refine g_istore (lv' := [(6, .int 0), (0, .ref m0), (1, .int x), (3, .int (nI ((fiS (sg K (dsI K S (S 0))) L Rw rn k).2))), (4, .int (besM (fiS (sg K (dsI K S (S 0))) L Rw rn k).1)), (5, .int (nI (35 - k)))]) X dX6_fits_104 (by decide) rfl ?_
                    refine g_iconst (v := 0) X dX6_fits_106 (by decide) ?_
                    refine g_istore (lv' := [(7, .int 0), (6, .int 0), (0, .ref m0), (1, .int x), (3, .int (nI ((fiS (sg K (dsI K S (S 0))) L Rw rn k).2))), (4, .int (besM (fiS (sg K (dsI K S (S 0))) L Rw rn k).1)), (5, .int (nI (35 - k)))]) X dX6_fits_107 (by decide) rfl ?_
                    refine g_lv (lv' := [(0, .ref m0), (1, .int x), (3, .int (nI ((fiS (sg K (dsI K S (S 0))) L Rw rn k).2))), (4, .int (besM (fiS (sg K (dsI K S (S 0))) L Rw rn k).1)), (5, .int (nI (35 - k))), (6, .int 0), (7, .int 0)]) X [2, 3, 4, 5, 6, 1, 0] rfl ?_
                    exact g_eq (ws' := [(m0, cO 6 [.ref a0, .ref a1, .ref a2, .int (nI tn), .ref a4, .int (nI ap), .ref a6, .int (nI rn), .ref a8, .ref a9, .int im, .ref b1, .ref b2, .ref b3, .ref b4, .ref b5, .ref b6]), (a0, cI d 36 K), (a1, cI d 36 L), (a2, cI d 5 S), (a8, cI d 16 (nF Rw)), (a9, cI d 7 (rf7 Rf)), (b5, cI d 36 (dF (dsI K S (S 0))))]) (lv' := [(0, .ref m0), (1, .int x), (3, .int (nI ((fiS (sg K (dsI K S (S 0))) L Rw rn k).2))), (4, .int (besM (fiS (sg K (dsI K S (S 0))) L Rw rn k).1)), (5, .int (nI (35 - k))), (6, .int (b2i (0 < L (35 - k) ∧ tsk (sg K (dsI K S (S 0))) Rw (35 - k) 0))), (7, .int (nI (2 * 0)))]) (rfl) (lv_cons (rfl) (lv_cons (rfl) (lv_cons (rfl) (lv_cons (rfl) (lv_cons (rfl) (lv_cons (vI ((b2i_f (fun z => absurd z.1 (Int32.not_lt.mpr c96_12))).symm)) (lv_cons (vI (by rfl)) (rfl)))))))) (at_109 _ 0 (by first | assumption | omega) (Nat.lt_succ_self _))
                  · refine g_iconst (v := 1) X dX6_fits_99 (by decide) ?_
                    refine g_goto X 104 dX6_fits_100 (by decide) ?_
                    refine g_istore (lv' := [(6, .int 1), (0, .ref m0), (1, .int x), (3, .int (nI ((fiS (sg K (dsI K S (S 0))) L Rw rn k).2))), (4, .int (besM (fiS (sg K (dsI K S (S 0))) L Rw rn k).1)), (5, .int (nI (35 - k)))]) X dX6_fits_104 (by decide) rfl ?_
                    refine g_iconst (v := 0) X dX6_fits_106 (by decide) ?_
                    refine g_istore (lv' := [(7, .int 0), (6, .int 1), (0, .ref m0), (1, .int x), (3, .int (nI ((fiS (sg K (dsI K S (S 0))) L Rw rn k).2))), (4, .int (besM (fiS (sg K (dsI K S (S 0))) L Rw rn k).1)), (5, .int (nI (35 - k)))]) X dX6_fits_107 (by decide) rfl ?_
                    refine g_lv (lv' := [(0, .ref m0), (1, .int x), (3, .int (nI ((fiS (sg K (dsI K S (S 0))) L Rw rn k).2))), (4, .int (besM (fiS (sg K (dsI K S (S 0))) L Rw rn k).1)), (5, .int (nI (35 - k))), (6, .int 1), (7, .int 0)]) X [2, 3, 4, 5, 6, 1, 0] rfl ?_
                    exact g_eq (ws' := [(m0, cO 6 [.ref a0, .ref a1, .ref a2, .int (nI tn), .ref a4, .int (nI ap), .ref a6, .int (nI rn), .ref a8, .ref a9, .int im, .ref b1, .ref b2, .ref b3, .ref b4, .ref b5, .ref b6]), (a0, cI d 36 K), (a1, cI d 36 L), (a2, cI d 5 S), (a8, cI d 16 (nF Rw)), (a9, cI d 7 (rf7 Rf)), (b5, cI d 36 (dF (dsI K S (S 0))))]) (lv' := [(0, .ref m0), (1, .int x), (3, .int (nI ((fiS (sg K (dsI K S (S 0))) L Rw rn k).2))), (4, .int (besM (fiS (sg K (dsI K S (S 0))) L Rw rn k).1)), (5, .int (nI (35 - k))), (6, .int (b2i (0 < L (35 - k) ∧ tsk (sg K (dsI K S (S 0))) Rw (35 - k) 0))), (7, .int (nI (2 * 0)))]) (rfl) (lv_cons (rfl) (lv_cons (rfl) (lv_cons (rfl) (lv_cons (rfl) (lv_cons (rfl) (lv_cons (vI ((b2i_t ⟨Int32.not_le.mp c96_12, tsk_0⟩).symm)) (lv_cons (vI (by rfl)) (rfl)))))))) (at_109 _ 0 (by first | assumption | omega) (Nat.lt_succ_self _))
            refine g_lv (lv' := [(0, .ref m0), (1, .int x), (3, .int 0), (4, .int (-9)), (5, .int 35)]) X [3, 4, 2, 1, 0] rfl ?_
            exact g_eq (ws' := [(m0, cO 6 [.ref a0, .ref a1, .ref a2, .int (nI tn), .ref a4, .int (nI ap), .ref a6, .int (nI rn), .ref a8, .ref a9, .int im, .ref b1, .ref b2, .ref b3, .ref b4, .ref b5, .ref b6]), (a0, cI d 36 K), (a1, cI d 36 L), (a2, cI d 5 S), (a8, cI d 16 (nF Rw)), (a9, cI d 7 (rf7 Rf)), (b5, cI d 36 (dF (dsI K S (S 0))))]) (lv' := [(0, .ref m0), (1, .int x), (3, .int (nI ((fiS (sg K (dsI K S (S 0))) L Rw rn 0).2))), (4, .int (besM (fiS (sg K (dsI K S (S 0))) L Rw rn 0).1)), (5, .int (nI (36 - 0) - 1))]) (rfl) (lv_cons (rfl) (lv_cons (rfl) (lv_cons (vI (by rfl)) (lv_cons (vI (by rfl)) (lv_cons (vI (by decide)) (rfl)))))) (at_84 _ 0 (by first | assumption | omega) (Nat.lt_succ_self _))
          · have htn := c60_3
            refine g_aload_n X dX6_fits_63 rfl 0 rfl ?_
            refine g_bipush (v := (-3)) X dX6_fits_64 (by decide) ?_
            refine g_dV (ci := 6) (q0 := 0) (n := 1) (wr := [(a0, cI d 36 K), (a1, cI d 36 L), (a2, cI d 5 S), (a8, cI d 16 (nF Rw)), (b5, cI d 36 H)]) (ws' := [(m0, cO 6 [.ref a0, .ref a1, .ref a2, .int (nI tn), .ref a4, .int (nI ap), .ref a6, .int (nI rn), .ref a8, .ref a9, .int im, .ref b1, .ref b2, .ref b3, .ref b4, .ref b5, .ref b6]), (a0, cI d 36 K), (a1, cI d 36 L), (a2, cI d 5 S), (a8, cI d 16 (nF Rw)), (a9, cI d 7 (rf7 (bmp Rf 3))), (b5, cI d 36 H)]) (st' := [.int (-3)]) (As := [.int (-3)]) (st := []) X (ct_X6_no_3 l d m0 a0 a1 a2 a4 a6 a8 a9 b1 b2 b3 b4 b5 b6 Rf tn ap rn im) wd_855 wd_852 wd_854 wd_25 wd_58 hd_X6_no rfl ⟨(Nat.le_of_ble_eq_true rfl), (Nat.le_of_ble_eq_true rfl)⟩ rfl rfl dX6_fits_66 ⟨(Nat.le_of_ble_eq_true rfl), (Nat.le_of_ble_eq_true rfl)⟩ rfl rfl (Nat.le_of_ble_eq_true rfl) [0, 5] [1, 2, 3, 4, 6] rfl rfl rfl rfl rfl (by decide) rfl [5, 0, 1, 2, 3, 6, 4] rfl rfl rfl rfl ?_
            have e_ : sp_fits (sg K (dsI K S (S 0))) L Rw rn x = ((-3), 3) := fits_2 ho (fun z => htn (so6_o (by omega) z))
            exact g_end X (gE_i dX6_fits_69 (rfl) (Nat.le_of_ble_eq_true rfl) (Nat.le_of_ble_eq_true rfl) ⟨H, congrArg (fun z => some (Value.int z)) (by rw [e_]), ws_cons (rfl) (ws_cons (rfl) (ws_cons (rfl) (ws_cons (rfl) (ws_cons (rfl) (ws_cons (cI_eq (by first | (rw [e_]; done) | (rw [e_]; rfl) | (rw [e_]; simp only [ix, ↓reduceIte]; done) | simp [e_, *])) (ws_cons (rfl) (rfl)))))))⟩)
        · refine g_aload_n X dX6_fits_41 rfl 0 rfl ?_
          refine g_get (C := RX6) (T := TX6) (N := 17) (ci := 6) (v := .ref a8) X rfl inT6 8 (by decide) wd_804 rfl dX6_fits_42 0 rfl rfl ?_
          refine g_iload_n X dX6_fits_45 rfl 3 rfl ?_
          refine g_iaload_N (k := (2 * i)) X rfl dX6_fits_46 4 rfl (by first | assumption | omega) (by omega) ?_
          refine g_iconst (v := 5) X dX6_fits_47 (by decide) ?_
          refine g_icmpN_le (a := (Rw (2 * i))) (b := 5) X rfl rfl (by omega) (by omega) 53 dX6_fits_48 (by decide) (fun c48_14 => ?_) (fun c48_14 => ?_)
          · refine g_iinc (v := (nI (2 * i)) + 2) (lv' := [(3, .int ((nI (2 * i)) + 2)), (0, .ref m0), (1, .int x), (2, .int (b2i (so6 Rw rn i)))]) X dX6_fits_53 3 rfl (by rfl) (by decide) rfl ?_
            refine g_goto X 33 dX6_fits_56 (by decide) ?_
            refine g_lv (lv' := [(0, .ref m0), (1, .int x), (2, .int (b2i (so6 Rw rn i))), (3, .int ((nI (2 * i)) + 2))]) X [1, 2, 3, 0] rfl ?_
            exact g_eq (ws' := [(m0, cO 6 [.ref a0, .ref a1, .ref a2, .int (nI tn), .ref a4, .int (nI ap), .ref a6, .int (nI rn), .ref a8, .ref a9, .int im, .ref b1, .ref b2, .ref b3, .ref b4, .ref b5, .ref b6]), (a0, cI d 36 K), (a1, cI d 36 L), (a2, cI d 5 S), (a8, cI d 16 (nF Rw)), (a9, cI d 7 (rf7 Rf)), (b5, cI d 36 H)]) (lv' := [(0, .ref m0), (1, .int x), (2, .int (b2i (so6 Rw rn (i + 1)))), (3, .int (nI (2 * (i + 1))))]) (rfl) (lv_cons (rfl) (lv_cons (rfl) (lv_cons (vI (b2i_c ⟨fun z => so6_s z (by omega), fun z => ⟨z.1, fun y h => z.2 y (by omega)⟩⟩)) (lv_cons (vI (nI_add (2 * i) 2)) (rfl))))) (ih_33 (i + 1) (by first | assumption | omega) (by omega))
          · refine g_iconst (v := 0) X dX6_fits_51 (by decide) ?_
            refine g_istore_n (lv' := [(2, .int 0), (0, .ref m0), (1, .int x), (3, .int (nI (2 * i)))]) X dX6_fits_52 rfl (by decide) rfl ?_
            refine g_iinc (v := (nI (2 * i)) + 2) (lv' := [(3, .int ((nI (2 * i)) + 2)), (2, .int 0), (0, .ref m0), (1, .int x)]) X dX6_fits_53 3 rfl (by rfl) (by decide) rfl ?_
            refine g_goto X 33 dX6_fits_56 (by decide) ?_
            refine g_lv (lv' := [(0, .ref m0), (1, .int x), (2, .int 0), (3, .int ((nI (2 * i)) + 2))]) X [2, 3, 1, 0] rfl ?_
            exact g_eq (ws' := [(m0, cO 6 [.ref a0, .ref a1, .ref a2, .int (nI tn), .ref a4, .int (nI ap), .ref a6, .int (nI rn), .ref a8, .ref a9, .int im, .ref b1, .ref b2, .ref b3, .ref b4, .ref b5, .ref b6]), (a0, cI d 36 K), (a1, cI d 36 L), (a2, cI d 5 S), (a8, cI d 16 (nF Rw)), (a9, cI d 7 (rf7 Rf)), (b5, cI d 36 H)]) (lv' := [(0, .ref m0), (1, .int x), (2, .int (b2i (so6 Rw rn (i + 1)))), (3, .int (nI (2 * (i + 1))))]) (rfl) (lv_cons (rfl) (lv_cons (rfl) (lv_cons (vI ((b2i_f (fun z => absurd (z.2 i (by omega)) (by omega))).symm)) (lv_cons (vI (nI_add (2 * i) 2)) (rfl))))) (ih_33 (i + 1) (by first | assumption | omega) (by omega))
    refine g_aload_n X dX6_fits_16 rfl 0 rfl ?_
    refine g_get (C := RX6) (T := TX6) (N := 17) (ci := 6) (v := .int (nI rn)) X rfl inT6 7 (by decide) wd_803 rfl dX6_fits_17 0 rfl rfl ?_
    refine g_iconst (v := 2) X dX6_fits_20 (by decide) ?_
    refine g_irem X dX6_fits_21 (by decide) ?_
    refine g_tope (y := nI (rn % 2)) (nI_rem (by omega) (by decide) (by decide)) ?_
    refine g_ifN_ne (a := (rn % 2)) X rfl (by omega) 29 dX6_fits_22 (by decide) (fun c22_15 => ?_) (fun c22_15 => ?_)
    · refine g_iconst (v := 0) X dX6_fits_29 (by decide) ?_
      refine g_istore_n (lv' := [(2, .int 0), (0, .ref m0), (1, .int x)]) X dX6_fits_30 rfl (by decide) rfl ?_
      refine g_iconst (v := 0) X dX6_fits_31 (by decide) ?_
      refine g_istore_n (lv' := [(3, .int 0), (2, .int 0), (0, .ref m0), (1, .int x)]) X dX6_fits_32 rfl (by decide) rfl ?_
      refine g_lv (lv' := [(0, .ref m0), (1, .int x), (2, .int 0), (3, .int 0)]) X [2, 3, 1, 0] rfl ?_
      exact g_eq (ws' := [(m0, cO 6 [.ref a0, .ref a1, .ref a2, .int (nI tn), .ref a4, .int (nI ap), .ref a6, .int (nI rn), .ref a8, .ref a9, .int im, .ref b1, .ref b2, .ref b3, .ref b4, .ref b5, .ref b6]), (a0, cI d 36 K), (a1, cI d 36 L), (a2, cI d 5 S), (a8, cI d 16 (nF Rw)), (a9, cI d 7 (rf7 Rf)), (b5, cI d 36 H)]) (lv' := [(0, .ref m0), (1, .int x), (2, .int (b2i (so6 Rw rn 0))), (3, .int (nI (2 * 0)))]) (rfl) (lv_cons (rfl) (lv_cons (rfl) (lv_cons (vI ((b2i_f (fun z => c22_15 z.1)).symm)) (lv_cons (vI (by rfl)) (rfl))))) (at_33 _ 0 (by first | assumption | omega) (Nat.lt_succ_self _))
    · refine g_iconst (v := 1) X dX6_fits_25 (by decide) ?_
      refine g_goto X 30 dX6_fits_26 (by decide) ?_
      refine g_istore_n (lv' := [(2, .int 1), (0, .ref m0), (1, .int x)]) X dX6_fits_30 rfl (by decide) rfl ?_
      refine g_iconst (v := 0) X dX6_fits_31 (by decide) ?_
      refine g_istore_n (lv' := [(3, .int 0), (2, .int 1), (0, .ref m0), (1, .int x)]) X dX6_fits_32 rfl (by decide) rfl ?_
      refine g_lv (lv' := [(0, .ref m0), (1, .int x), (2, .int 1), (3, .int 0)]) X [2, 3, 1, 0] rfl ?_
      exact g_eq (ws' := [(m0, cO 6 [.ref a0, .ref a1, .ref a2, .int (nI tn), .ref a4, .int (nI ap), .ref a6, .int (nI rn), .ref a8, .ref a9, .int im, .ref b1, .ref b2, .ref b3, .ref b4, .ref b5, .ref b6]), (a0, cI d 36 K), (a1, cI d 36 L), (a2, cI d 5 S), (a8, cI d 16 (nF Rw)), (a9, cI d 7 (rf7 Rf)), (b5, cI d 36 H)]) (lv' := [(0, .ref m0), (1, .int x), (2, .int (b2i (so6 Rw rn 0))), (3, .int (nI (2 * 0)))]) (rfl) (lv_cons (rfl) (lv_cons (rfl) (lv_cons (vI ((b2i_t ⟨c22_15, fun y h => absurd h (Nat.not_lt_zero y)⟩).symm)) (lv_cons (vI (by rfl)) (rfl))))) (at_33 _ 0 (by first | assumption | omega) (Nat.lt_succ_self _))
  · refine g_aload_n X dX6_fits_9 rfl 0 rfl ?_
    refine g_bipush (v := (-2)) X dX6_fits_10 (by decide) ?_
    refine g_dV (ci := 6) (q0 := 0) (n := 1) (wr := [(a0, cI d 36 K), (a1, cI d 36 L), (a2, cI d 5 S), (a8, cI d 16 (nF Rw)), (b5, cI d 36 H)]) (ws' := [(m0, cO 6 [.ref a0, .ref a1, .ref a2, .int (nI tn), .ref a4, .int (nI ap), .ref a6, .int (nI rn), .ref a8, .ref a9, .int im, .ref b1, .ref b2, .ref b3, .ref b4, .ref b5, .ref b6]), (a0, cI d 36 K), (a1, cI d 36 L), (a2, cI d 5 S), (a8, cI d 16 (nF Rw)), (a9, cI d 7 (rf7 (bmp Rf 2))), (b5, cI d 36 H)]) (st' := [.int (-2)]) (As := [.int (-2)]) (st := []) X (ct_X6_no_2 l d m0 a0 a1 a2 a4 a6 a8 a9 b1 b2 b3 b4 b5 b6 Rf tn ap rn im) wd_855 wd_852 wd_854 wd_25 wd_58 hd_X6_no rfl ⟨(Nat.le_of_ble_eq_true rfl), (Nat.le_of_ble_eq_true rfl)⟩ rfl rfl dX6_fits_12 ⟨(Nat.le_of_ble_eq_true rfl), (Nat.le_of_ble_eq_true rfl)⟩ rfl rfl (Nat.le_of_ble_eq_true rfl) [0, 5] [1, 2, 3, 4, 6] rfl rfl rfl rfl rfl (by decide) rfl [5, 0, 1, 2, 3, 6, 4] rfl rfl rfl rfl ?_
    have e_ : sp_fits (sg K (dsI K S (S 0))) L Rw rn x = ((-2), 2) := fits_1 (by assumption)
    exact g_end X (gE_i dX6_fits_15 (rfl) (Nat.le_of_ble_eq_true rfl) (Nat.le_of_ble_eq_true rfl) ⟨H, congrArg (fun z => some (Value.int z)) (by rw [e_]), ws_cons (rfl) (ws_cons (rfl) (ws_cons (rfl) (ws_cons (rfl) (ws_cons (rfl) (ws_cons (cI_eq (by first | (rw [e_]; done) | (rw [e_]; rfl) | (rw [e_]; simp only [ix, ↓reduceIte]; done) | simp [e_, *])) (ws_cons (rfl) (rfl)))))))⟩)
set_option maxHeartbeats 4000000 in
set_option maxRecDepth 20000 in
theorem ct_X6_lots (l : Launch) (d : KD) (m0 a0 a1 a2 a4 a6 a8 a9 b1 b2 b3 b4 b5 b6 : Nat) (K L S Rf H : Nat → Int32) (tn ap rn : Nat) (im : Int32) (x z y : Int32) (hh : sq (S 0)) (hL : ∀ q, lk9 (L q)) : Ct l d yX6_lots cX6_lots 12 (some .int) { frames := 3, cells := 0, slots := 0, locals := 69 } [.ref m0, .int x, .int z, .int y] [(m0, cO 6 [.ref a0, .ref a1, .ref a2, .int (nI tn), .ref a4, .int (nI ap), .ref a6, .int (nI rn), .ref a8, .ref a9, .int im, .ref b1, .ref b2, .ref b3, .ref b4, .ref b5, .ref b6]), (a0, cI d 36 K), (a1, cI d 36 L), (a2, cI d 5 S), (a9, cI d 7 (rf7 Rf)), (b5, cI d 36 H)] 0 0 (fun r wo => ∃ (H' : Nat → Int32), r = some (.int ((sp_lots (oF (unt L (dsI K S (S 0)))) L x z y).1)) ∧ wo = [(m0, cO 6 [.ref a0, .ref a1, .ref a2, .int (nI tn), .ref a4, .int (nI ap), .ref a6, .int (nI rn), .ref a8, .ref a9, .int im, .ref b1, .ref b2, .ref b3, .ref b4, .ref b5, .ref b6]), (a0, cI d 36 K), (a1, cI d 36 L), (a2, cI d 5 S), (a9, cI d 7 (rf7 (bmp Rf (sp_lots (oF (unt L (dsI K S (S 0)))) L x z y).2))), (b5, cI d 36 H')]) := by
  refine ct_of (own := RX6) (ini := false) (by decide +kernel) rfl (fun h => by cases h) (Nat.le_of_ble_eq_true rfl) ?_
  intro g X
  show g 0 0 [(m0, cO 6 [.ref a0, .ref a1, .ref a2, .int (nI tn), .ref a4, .int (nI ap), .ref a6, .int (nI rn), .ref a8, .ref a9, .int im, .ref b1, .ref b2, .ref b3, .ref b4, .ref b5, .ref b6]), (a0, cI d 36 K), (a1, cI d 36 L), (a2, cI d 5 S), (a9, cI d 7 (rf7 Rf)), (b5, cI d 36 H)] [(0, .ref m0), (1, .int x), (2, .int z), (3, .int y)] 0 []
  refine g_iload_n X dX6_lots_0 rfl 1 rfl ?_
  refine g_iconst (v := 1) X dX6_lots_1 (by decide) ?_
  refine g_icmp_ge X 12 dX6_lots_2 (by decide) (fun c2_1 => ?_) (fun c2_1 => ?_)
  · have h1x := c2_1
    refine g_iload_n X dX6_lots_12 rfl 1 rfl ?_
    refine g_bipush (v := 20) X dX6_lots_13 (by decide) ?_
    refine g_icmp_le X 25 dX6_lots_15 (by decide) (fun c15_2 => ?_) (fun c15_2 => ?_)
    · have h20 := c15_2
      obtain ⟨j_x, hj1, hj_x, rfl⟩ := i1_20 (Int32.not_lt.mpr h1x) c15_2
      have hcl_j_x : (nI j_x).toNatClampNeg = j_x := nI_clamp (by omega)
      refine g_iload_n X dX6_lots_25 rfl 3 rfl ?_
      refine g_iconst (v := 0) X dX6_lots_26 (by decide) ?_
      refine g_iconst (v := 1) X dX6_lots_27 (by decide) ?_
      refine g_dS (n := 3) (wr := [(m0, cO 6 [.ref a0, .ref a1, .ref a2, .int (nI tn), .ref a4, .int (nI ap), .ref a6, .int (nI rn), .ref a8, .ref a9, .int im, .ref b1, .ref b2, .ref b3, .ref b4, .ref b5, .ref b6]), (a0, cI d 36 K), (a1, cI d 36 L), (a2, cI d 5 S), (a9, cI d 7 (rf7 Rf)), (b5, cI d 36 H)]) (ws' := [(m0, cO 6 [.ref a0, .ref a1, .ref a2, .int (nI tn), .ref a4, .int (nI ap), .ref a6, .int (nI rn), .ref a8, .ref a9, .int im, .ref b1, .ref b2, .ref b3, .ref b4, .ref b5, .ref b6]), (a0, cI d 36 K), (a1, cI d 36 L), (a2, cI d 5 S), (a9, cI d 7 (rf7 Rf)), (b5, cI d 36 H)]) (st' := [.int (b2i (y = 0 ∨ y = 1))]) (As := [.int y, .int 0, .int 1]) (st := []) X (ct_X6_within_2 l d y) wd_887 wd_885 wd_886 wd_58 hd_X6_within ⟨(Nat.le_of_ble_eq_true rfl), (Nat.le_of_ble_eq_true rfl)⟩ rfl rfl dX6_lots_28 ⟨(Nat.le_of_ble_eq_true rfl), (Nat.le_of_ble_eq_true rfl)⟩ rfl rfl (Nat.le_of_ble_eq_true rfl) [] [0, 1, 2, 3, 4, 5] rfl rfl rfl rfl rfl (by decide) [0, 1, 2, 3, 4, 5] rfl rfl rfl rfl ?_
      refine g_ifB_ne X 41 dX6_lots_31 (by decide) (fun c31_3 => ?_) (fun c31_3 => ?_)
      · have ho := c31_3
        refine g_aload_n X dX6_lots_41 rfl 0 rfl ?_
        refine g_dV (ci := 6) (q0 := 0) (n := 0) (wr := [(a0, cI d 36 K), (a2, cI d 5 S), (a9, cI d 7 (rf7 Rf)), (b5, cI d 36 H)]) (ws' := [(m0, cO 6 [.ref a0, .ref a1, .ref a2, .int (nI tn), .ref a4, .int (nI ap), .ref a6, .int (nI rn), .ref a8, .ref a9, .int im, .ref b1, .ref b2, .ref b3, .ref b4, .ref b5, .ref b6]), (a0, cI d 36 K), (a1, cI d 36 L), (a2, cI d 5 S), (a9, cI d 7 (rf7 Rf)), (b5, cI d 36 H)]) (st' := [.int (smI L 36)]) (As := []) (st := []) X (ct_X6_weight l d m0 a0 a1 a2 a4 a6 a8 a9 b1 b2 b3 b4 b5 b6 L tn ap rn im) wd_1086 wd_1083 wd_1085 wd_50 wd_58 hd_X6_weight rfl ⟨(Nat.le_of_ble_eq_true rfl), (Nat.le_of_ble_eq_true rfl)⟩ rfl rfl dX6_lots_42 ⟨(Nat.le_of_ble_eq_true rfl), (Nat.le_of_ble_eq_true rfl)⟩ rfl rfl (Nat.le_of_ble_eq_true rfl) [0, 2] [1, 3, 4, 5] rfl rfl rfl rfl rfl (by decide) rfl [4, 0, 5, 1, 2, 3] rfl rfl rfl rfl ?_
        refine g_istore (lv' := [(4, .int (smI L 36)), (0, .ref m0), (1, .int (nI j_x)), (2, .int z), (3, .int y)]) X dX6_lots_45 (by decide) rfl ?_
        refine g_iload X dX6_lots_47 0 rfl ?_
        refine g_if_ne X 59 dX6_lots_49 (by decide) (fun c49_4 => ?_) (fun c49_4 => ?_)
        · have hw0 := c49_4
          have hsw := smI_v hL 36
          have hwb := lkN_b hL 36
          have hwp : 0 < smG (lkN L) 36 := Nat.pos_of_ne_zero (fun z => hw0 (by rw [hsw, z]; rfl))
          have hpos : 0 < smI L 36 := by rw [hsw]; exact nI_lt hwp (by omega)
          refine g_aload_n X dX6_lots_59 rfl 1 rfl ?_
          refine g_dV (ci := 6) (q0 := 0) (n := 0) (wr := [(a1, cI d 36 L), (a9, cI d 7 (rf7 Rf))]) (ws' := [(m0, cO 6 [.ref a0, .ref a1, .ref a2, .int (nI tn), .ref a4, .int (nI ap), .ref a6, .int (nI rn), .ref a8, .ref a9, .int im, .ref b1, .ref b2, .ref b3, .ref b4, .ref b5, .ref b6]), (a0, cI d 36 K), (a1, cI d 36 L), (a2, cI d 5 S), (a9, cI d 7 (rf7 Rf)), (b5, cI d 36 (dF (dsI K S (S 0))))]) (st' := []) (As := []) (st := []) X (ct_X6_fromHome l d m0 a0 a1 a2 a4 a6 a8 a9 b1 b2 b3 b4 b5 b6 K S H tn ap rn im (by first | assumption | omega)) wd_900 wd_897 wd_899 wd_33 wd_58 hd_X6_fromHome rfl ⟨(Nat.le_of_ble_eq_true rfl), (Nat.le_of_ble_eq_true rfl)⟩ rfl rfl dX6_lots_60 ⟨(Nat.le_of_ble_eq_true rfl), (Nat.le_of_ble_eq_true rfl)⟩ rfl rfl (Nat.le_of_ble_eq_true rfl) [0, 1, 3, 5] [2, 4] rfl rfl rfl rfl rfl (by decide) rfl [2, 3, 0, 4, 1, 5] rfl rfl rfl rfl ?_
          refine g_iload_n X dX6_lots_63 rfl 3 rfl ?_
          refine g_istore (lv' := [(5, .int z), (4, .int (smI L 36)), (0, .ref m0), (1, .int (nI j_x)), (2, .int z), (3, .int y)]) X dX6_lots_64 (by decide) rfl ?_
          refine g_iconst (v := 0) X dX6_lots_66 (by decide) ?_
          refine g_istore (lv' := [(6, .int 0), (5, .int z), (4, .int (smI L 36)), (0, .ref m0), (1, .int (nI j_x)), (2, .int z), (3, .int y)]) X dX6_lots_67 (by decide) rfl ?_
          refine g_iconst (v := 0) X dX6_lots_69 (by decide) ?_
          refine g_istore (lv' := [(7, .int 0), (6, .int 0), (5, .int z), (4, .int (smI L 36)), (0, .ref m0), (1, .int (nI j_x)), (2, .int z), (3, .int y)]) X dX6_lots_70 (by decide) rfl ?_
          refine g_iconst (v := 0) X dX6_lots_72 (by decide) ?_
          refine g_istore (lv' := [(8, .int 0), (7, .int 0), (6, .int 0), (5, .int z), (4, .int (smI L 36)), (0, .ref m0), (1, .int (nI j_x)), (2, .int z), (3, .int y)]) X dX6_lots_73 (by decide) rfl ?_
          have at_75 : ∀ (n_ : Nat) (n : Nat) (hn : n ≤ j_x), (j_x - n) < n_ → g 0 0 [(m0, cO 6 [.ref a0, .ref a1, .ref a2, .int (nI tn), .ref a4, .int (nI ap), .ref a6, .int (nI rn), .ref a8, .ref a9, .int im, .ref b1, .ref b2, .ref b3, .ref b4, .ref b5, .ref b6]), (a0, cI d 36 K), (a1, cI d 36 L), (a2, cI d 5 S), (a9, cI d 7 (rf7 Rf)), (b5, cI d 36 (dF (dsI K S (S 0))))] [(0, .ref m0), (1, .int (nI j_x)), (2, .int z), (3, .int y), (4, .int (smI L 36)), (5, .int ((ltF (oF (unt L (dsI K S (S 0)))) L z n).1)), (6, .int ((ltF (oF (unt L (dsI K S (S 0)))) L z n).2.1)), (7, .int ((ltF (oF (unt L (dsI K S (S 0)))) L z n).2.2)), (8, .int (nI n))] 75 [] := by
            intro n_
            induction n_ with
            | zero => intro n hn hn_; exact absurd hn_ (Nat.not_lt_zero _)
            | succ n_ ih_75 =>
              intro n hn hn_75
              refine g_iload X dX6_lots_75 8 rfl ?_
              refine g_iload_n X dX6_lots_77 rfl 1 rfl ?_
              refine g_icmpN_ge (a := n) (b := j_x) X rfl rfl (by omega) (by omega) 179 dX6_lots_78 (by decide) (fun c78_5 => ?_) (fun c78_5 => ?_)
              · obtain rfl : j_x = n := by omega
                refine g_iload_n X dX6_lots_179 rfl 3 rfl ?_
                refine g_if_ne X 188 dX6_lots_180 (by decide) (fun c180_6 => ?_) (fun c180_6 => ?_)
                · refine g_iload X dX6_lots_188 7 rfl ?_
                  have e_ : sp_lots (oF (unt L (dsI K S (S 0)))) L (nI j_x) z y = ((ltF (oF (unt L (dsI K S (S 0)))) L z j_x).2.2, 0) := lots_6 h1x h20 ho hpos c180_6 hcl_j_x
                  exact g_end X (gE_i dX6_lots_190 (rfl) (Nat.le_of_ble_eq_true rfl) (Nat.le_of_ble_eq_true rfl) ⟨(dF (dsI K S (S 0))), congrArg (fun z => some (Value.int z)) (by rw [e_]), ws_cons (rfl) (ws_cons (rfl) (ws_cons (rfl) (ws_cons (rfl) (ws_cons (cI_eq (by first | (rw [e_]; done) | (rw [e_]; rfl) | (rw [e_]; simp only [ix, hcl_j_x, ↓reduceIte]; done) | simp [e_, *])) (ws_cons (rfl) (rfl))))))⟩)
                · refine g_iload X dX6_lots_183 6 rfl ?_
                  refine g_goto X 190 dX6_lots_185 (by decide) ?_
                  have e_ : sp_lots (oF (unt L (dsI K S (S 0)))) L (nI j_x) z y = ((ltF (oF (unt L (dsI K S (S 0)))) L z j_x).2.1, 0) := lots_5 h1x h20 ho hpos c180_6 hcl_j_x
                  exact g_end X (gE_i dX6_lots_190 (rfl) (Nat.le_of_ble_eq_true rfl) (Nat.le_of_ble_eq_true rfl) ⟨(dF (dsI K S (S 0))), congrArg (fun z => some (Value.int z)) (by rw [e_]), ws_cons (rfl) (ws_cons (rfl) (ws_cons (rfl) (ws_cons (rfl) (ws_cons (cI_eq (by first | (rw [e_]; done) | (rw [e_]; rfl) | (rw [e_]; simp only [ix, hcl_j_x, ↓reduceIte]; done) | simp [e_, *])) (ws_cons (rfl) (rfl))))))⟩)
              · refine g_iload X dX6_lots_81 5 rfl ?_
                refine g_ldc (v := 1664525) X wd_1087 dX6_lots_83 ?_
                refine g_imul X dX6_lots_85 ?_
                refine g_ldc (v := 1013904223) X wd_1088 dX6_lots_86 ?_
                refine g_iadd X dX6_lots_88 ?_
                refine g_istore (lv' := [(5, .int ((((ltF (oF (unt L (dsI K S (S 0)))) L z n).1) * 1664525) + 1013904223)), (0, .ref m0), (1, .int (nI j_x)), (2, .int z), (3, .int y), (4, .int (smI L 36)), (6, .int ((ltF (oF (unt L (dsI K S (S 0)))) L z n).2.1)), (7, .int ((ltF (oF (unt L (dsI K S (S 0)))) L z n).2.2)), (8, .int (nI n))]) X dX6_lots_89 (by decide) rfl ?_
                refine g_iload X dX6_lots_91 0 rfl ?_
                refine g_ldc (v := 2147483647) X wd_1089 dX6_lots_93 ?_
                refine g_iand X dX6_lots_95 ?_
                refine g_sipush (v := 256) X dX6_lots_96 (by decide) ?_
                refine g_idiv X dX6_lots_99 (by decide) ?_
                refine g_iload X dX6_lots_100 5 rfl ?_
                refine g_irem X dX6_lots_102 (fun h => absurd (h ▸ hpos) (by decide)) ?_
                obtain ⟨v0, ha0, ea0⟩ := lt_d (ltF (oF (unt L (dsI K S (S 0)))) L z n).1 (w := smG (lkN L) 36) hwp (by omega)
                refine g_tope (y := nI v0) ((by rw [← hsw] at ea0; exact ea0)) ?_
                refine g_istore (lv' := [(9, .int (nI v0)), (5, .int ((((ltF (oF (unt L (dsI K S (S 0)))) L z n).1) * 1664525) + 1013904223)), (0, .ref m0), (1, .int (nI j_x)), (2, .int z), (3, .int y), (4, .int (smI L 36)), (6, .int ((ltF (oF (unt L (dsI K S (S 0)))) L z n).2.1)), (7, .int ((ltF (oF (unt L (dsI K S (S 0)))) L z n).2.2)), (8, .int (nI n))]) X dX6_lots_103 (by decide) rfl ?_
                refine g_iconst (v := 0) X dX6_lots_105 (by decide) ?_
                refine g_istore (lv' := [(10, .int 0), (9, .int (nI v0)), (5, .int ((((ltF (oF (unt L (dsI K S (S 0)))) L z n).1) * 1664525) + 1013904223)), (0, .ref m0), (1, .int (nI j_x)), (2, .int z), (3, .int y), (4, .int (smI L 36)), (6, .int ((ltF (oF (unt L (dsI K S (S 0)))) L z n).2.1)), (7, .int ((ltF (oF (unt L (dsI K S (S 0)))) L z n).2.2)), (8, .int (nI n))]) X dX6_lots_106 (by decide) rfl ?_
                have at_108 : ∀ (n_ : Nat) (q : Nat) (a : Nat) (hq : q ≤ 36) (ha : a + smG (lkN L) q < smG (lkN L) 36) (hsd : sdF L (36 - q) q (nI a) = sdF L 36 0 (nI v0)), (36 - q) < n_ → g 0 0 [(m0, cO 6 [.ref a0, .ref a1, .ref a2, .int (nI tn), .ref a4, .int (nI ap), .ref a6, .int (nI rn), .ref a8, .ref a9, .int im, .ref b1, .ref b2, .ref b3, .ref b4, .ref b5, .ref b6]), (a0, cI d 36 K), (a1, cI d 36 L), (a2, cI d 5 S), (a9, cI d 7 (rf7 Rf)), (b5, cI d 36 (dF (dsI K S (S 0))))] [(0, .ref m0), (1, .int (nI j_x)), (2, .int z), (3, .int y), (4, .int (smI L 36)), (5, .int ((ltF (oF (unt L (dsI K S (S 0)))) L z n).1 * 1664525 + 1013904223)), (6, .int ((ltF (oF (unt L (dsI K S (S 0)))) L z n).2.1)), (7, .int ((ltF (oF (unt L (dsI K S (S 0)))) L z n).2.2)), (8, .int (nI n)), (9, .int (nI a)), (10, .int (nI q))] 108 [] := by
                  intro n_
                  induction n_ with
                  | zero => intro q a hq ha hsd hn_; exact absurd hn_ (Nat.not_lt_zero _)
                  | succ n_ ih_108 =>
                    intro q a hq ha hsd hn_108
                    have hq36 : q < 36 := by rcases Nat.lt_or_ge q 36 with h | h; exact h; exact absurd ha (by rw [show q = 36 by omega]; omega)
                    have h9q := lk9_n (hL q)
                    refine g_iload X dX6_lots_108 9 rfl ?_
                    refine g_aload_n X dX6_lots_110 rfl 0 rfl ?_
                    refine g_get (C := RX6) (T := TX6) (N := 17) (ci := 6) (v := .ref a1) X rfl inT6 1 (by decide) wd_797 rfl dX6_lots_111 0 rfl rfl ?_
                    refine g_iload X dX6_lots_114 10 rfl ?_
                    refine g_iaload_N (k := q) X rfl dX6_lots_116 2 rfl (by first | assumption | omega) (by omega) ?_
                    refine g_tope (y := nI ((L q).toNatClampNeg)) ((lk9_n (hL q)).1) ?_
                    refine g_icmpN_lt (a := a) (b := ((L q).toNatClampNeg)) X rfl rfl (by omega) (by omega) 138 dX6_lots_117 (by decide) (fun c117_9 => ?_) (fun c117_9 => ?_)
                    · have hlt : a < (L q).toNatClampNeg := c117_9
                      have hsq : sdF L 36 0 (ltD (ltF (oF (unt L (dsI K S (S 0)))) L z n).1 (smI L 36)) = nI q := by rw [hsw, ea0, ← hsd]; exact sd_at hL hq36 hlt
                      refine g_aload_n X dX6_lots_138 rfl 0 rfl ?_
                      refine g_iload X dX6_lots_139 10 rfl ?_
                      refine g_dV (ci := 6) (q0 := 0) (n := 1) (wr := [(a0, cI d 36 K), (a2, cI d 5 S), (a9, cI d 7 (rf7 Rf))]) (ws' := [(m0, cO 6 [.ref a0, .ref a1, .ref a2, .int (nI tn), .ref a4, .int (nI ap), .ref a6, .int (nI rn), .ref a8, .ref a9, .int im, .ref b1, .ref b2, .ref b3, .ref b4, .ref b5, .ref b6]), (a0, cI d 36 K), (a1, cI d 36 L), (a2, cI d 5 S), (a9, cI d 7 (rf7 Rf)), (b5, cI d 36 (dF (dsI K S (S 0))))]) (st' := [.int (fdA L (dsI K S (S 0)) q)]) (As := [.int (nI q)]) (st := []) X (ct_X6_foundAt l d m0 a0 a1 a2 a4 a6 a8 a9 b1 b2 b3 b4 b5 b6 L tn ap rn im q (dsI K S (S 0)) (hq36) (fun q => dsI_b)) wd_1004 wd_1001 wd_1003 wd_46 wd_58 hd_X6_foundAt rfl ⟨(Nat.le_of_ble_eq_true rfl), (Nat.le_of_ble_eq_true rfl)⟩ rfl rfl dX6_lots_141 ⟨(Nat.le_of_ble_eq_true rfl), (Nat.le_of_ble_eq_true rfl)⟩ rfl rfl (Nat.le_of_ble_eq_true rfl) [0, 2, 5] [1, 3, 4] rfl rfl rfl rfl rfl (by decide) rfl [3, 0, 4, 1, 2, 5] rfl rfl rfl rfl ?_
                      refine g_tope (y := ltW (oF (unt L (dsI K S (S 0)))) L (ltF (oF (unt L (dsI K S (S 0)))) L z n).1) (lt_w hL hq36 (lk_ne hL hlt) hsq) ?_
                      refine g_istore (lv' := [(11, .int (ltW (oF (unt L (dsI K S (S 0)))) L (ltF (oF (unt L (dsI K S (S 0)))) L z n).1)), (0, .ref m0), (1, .int (nI j_x)), (2, .int z), (3, .int y), (4, .int (smI L 36)), (5, .int ((ltF (oF (unt L (dsI K S (S 0)))) L z n).1 * 1664525 + 1013904223)), (6, .int ((ltF (oF (unt L (dsI K S (S 0)))) L z n).2.1)), (7, .int ((ltF (oF (unt L (dsI K S (S 0)))) L z n).2.2)), (8, .int (nI n)), (9, .int (nI a)), (10, .int (nI q))]) X dX6_lots_144 (by decide) rfl ?_
                      refine g_iload X dX6_lots_146 0 rfl ?_
                      refine g_bipush (v := (-9)) X dX6_lots_148 (by decide) ?_
                      refine g_icmp_ne X 157 dX6_lots_150 (by decide) (fun c150_10 => ?_) (fun c150_10 => ?_)
                      · refine g_iload X dX6_lots_157 7 rfl ?_
                        refine g_iload X dX6_lots_159 0 rfl ?_
                        refine g_iadd X dX6_lots_161 ?_
                        refine g_istore (lv' := [(6, .int (((ltF (oF (unt L (dsI K S (S 0)))) L z n).2.1) + (ltW (oF (unt L (dsI K S (S 0)))) L (ltF (oF (unt L (dsI K S (S 0)))) L z n).1))), (11, .int (ltW (oF (unt L (dsI K S (S 0)))) L (ltF (oF (unt L (dsI K S (S 0)))) L z n).1)), (0, .ref m0), (1, .int (nI j_x)), (2, .int z), (3, .int y), (4, .int (smI L 36)), (5, .int ((ltF (oF (unt L (dsI K S (S 0)))) L z n).1 * 1664525 + 1013904223)), (7, .int ((ltF (oF (unt L (dsI K S (S 0)))) L z n).2.2)), (8, .int (nI n)), (9, .int (nI a)), (10, .int (nI q))]) X dX6_lots_162 (by decide) rfl ?_
                        refine g_iload X dX6_lots_164 8 rfl ?_
                        refine g_iload X dX6_lots_166 1 rfl ?_
                        refine g_mmax X wd_992 wd_291 wd_63 wd_292 (Nat.le_of_ble_eq_true rfl) (Nat.le_of_ble_eq_true rfl) (Nat.le_of_ble_eq_true rfl) (Nat.le_of_ble_eq_true rfl) dX6_lots_168 ?_
                        refine g_istore (lv' := [(7, .int (mx ((ltF (oF (unt L (dsI K S (S 0)))) L z n).2.2) (ltW (oF (unt L (dsI K S (S 0)))) L (ltF (oF (unt L (dsI K S (S 0)))) L z n).1))), (6, .int (((ltF (oF (unt L (dsI K S (S 0)))) L z n).2.1) + (ltW (oF (unt L (dsI K S (S 0)))) L (ltF (oF (unt L (dsI K S (S 0)))) L z n).1))), (11, .int (ltW (oF (unt L (dsI K S (S 0)))) L (ltF (oF (unt L (dsI K S (S 0)))) L z n).1)), (0, .ref m0), (1, .int (nI j_x)), (2, .int z), (3, .int y), (4, .int (smI L 36)), (5, .int ((ltF (oF (unt L (dsI K S (S 0)))) L z n).1 * 1664525 + 1013904223)), (8, .int (nI n)), (9, .int (nI a)), (10, .int (nI q))]) X dX6_lots_171 (by decide) rfl ?_
                        refine g_iinc (v := nI (n + 1)) (lv' := [(8, .int (nI (n + 1))), (7, .int (mx ((ltF (oF (unt L (dsI K S (S 0)))) L z n).2.2) (ltW (oF (unt L (dsI K S (S 0)))) L (ltF (oF (unt L (dsI K S (S 0)))) L z n).1))), (6, .int (((ltF (oF (unt L (dsI K S (S 0)))) L z n).2.1) + (ltW (oF (unt L (dsI K S (S 0)))) L (ltF (oF (unt L (dsI K S (S 0)))) L z n).1))), (11, .int (ltW (oF (unt L (dsI K S (S 0)))) L (ltF (oF (unt L (dsI K S (S 0)))) L z n).1)), (0, .ref m0), (1, .int (nI j_x)), (2, .int z), (3, .int y), (4, .int (smI L 36)), (5, .int ((ltF (oF (unt L (dsI K S (S 0)))) L z n).1 * 1664525 + 1013904223)), (9, .int (nI a)), (10, .int (nI q))]) X dX6_lots_173 9 rfl (nI_inc _) (by decide) rfl ?_
                        refine g_goto X 75 dX6_lots_176 (by decide) ?_
                        refine g_lv (lv' := [(0, .ref m0), (1, .int (nI j_x)), (2, .int z), (3, .int y), (4, .int (smI L 36)), (5, .int ((ltF (oF (unt L (dsI K S (S 0)))) L z n).1 * 1664525 + 1013904223)), (6, .int (((ltF (oF (unt L (dsI K S (S 0)))) L z n).2.1) + (ltW (oF (unt L (dsI K S (S 0)))) L (ltF (oF (unt L (dsI K S (S 0)))) L z n).1))), (7, .int (mx ((ltF (oF (unt L (dsI K S (S 0)))) L z n).2.2) (ltW (oF (unt L (dsI K S (S 0)))) L (ltF (oF (unt L (dsI K S (S 0)))) L z n).1))), (8, .int (nI (n + 1)))]) X [4, 5, 6, 7, 8, 9, 2, 1, 0] rfl ?_
                        exact g_eq (ws' := [(m0, cO 6 [.ref a0, .ref a1, .ref a2, .int (nI tn), .ref a4, .int (nI ap), .ref a6, .int (nI rn), .ref a8, .ref a9, .int im, .ref b1, .ref b2, .ref b3, .ref b4, .ref b5, .ref b6]), (a0, cI d 36 K), (a1, cI d 36 L), (a2, cI d 5 S), (a9, cI d 7 (rf7 Rf)), (b5, cI d 36 (dF (dsI K S (S 0))))]) (lv' := [(0, .ref m0), (1, .int (nI j_x)), (2, .int z), (3, .int y), (4, .int (smI L 36)), (5, .int ((ltF (oF (unt L (dsI K S (S 0)))) L z (n + 1)).1)), (6, .int ((ltF (oF (unt L (dsI K S (S 0)))) L z (n + 1)).2.1)), (7, .int ((ltF (oF (unt L (dsI K S (S 0)))) L z (n + 1)).2.2)), (8, .int (nI (n + 1)))]) (rfl) (lv_cons (rfl) (lv_cons (rfl) (lv_cons (rfl) (lv_cons (rfl) (lv_cons (rfl) (lv_cons (vI (ltF_5)) (lv_cons (vI (ltF_6n c150_10)) (lv_cons (vI (ltF_7n c150_10)) (lv_cons (rfl) (rfl)))))))))) (ih_75 (n + 1) (by first | assumption | omega) (by omega))
                      · refine g_bipush (v := 99) X dX6_lots_153 (by decide) ?_
                        refine g_istore (lv' := [(11, .int 99), (0, .ref m0), (1, .int (nI j_x)), (2, .int z), (3, .int y), (4, .int (smI L 36)), (5, .int ((ltF (oF (unt L (dsI K S (S 0)))) L z n).1 * 1664525 + 1013904223)), (6, .int ((ltF (oF (unt L (dsI K S (S 0)))) L z n).2.1)), (7, .int ((ltF (oF (unt L (dsI K S (S 0)))) L z n).2.2)), (8, .int (nI n)), (9, .int (nI a)), (10, .int (nI q))]) X dX6_lots_155 (by decide) rfl ?_
                        refine g_iload X dX6_lots_157 7 rfl ?_
                        refine g_iload X dX6_lots_159 0 rfl ?_
                        refine g_iadd X dX6_lots_161 ?_
                        refine g_istore (lv' := [(6, .int (((ltF (oF (unt L (dsI K S (S 0)))) L z n).2.1) + 99)), (11, .int 99), (0, .ref m0), (1, .int (nI j_x)), (2, .int z), (3, .int y), (4, .int (smI L 36)), (5, .int ((ltF (oF (unt L (dsI K S (S 0)))) L z n).1 * 1664525 + 1013904223)), (7, .int ((ltF (oF (unt L (dsI K S (S 0)))) L z n).2.2)), (8, .int (nI n)), (9, .int (nI a)), (10, .int (nI q))]) X dX6_lots_162 (by decide) rfl ?_
                        refine g_iload X dX6_lots_164 8 rfl ?_
                        refine g_iload X dX6_lots_166 1 rfl ?_
                        refine g_mmax X wd_992 wd_291 wd_63 wd_292 (Nat.le_of_ble_eq_true rfl) (Nat.le_of_ble_eq_true rfl) (Nat.le_of_ble_eq_true rfl) (Nat.le_of_ble_eq_true rfl) dX6_lots_168 ?_
                        refine g_istore (lv' := [(7, .int (mx ((ltF (oF (unt L (dsI K S (S 0)))) L z n).2.2) 99)), (6, .int (((ltF (oF (unt L (dsI K S (S 0)))) L z n).2.1) + 99)), (11, .int 99), (0, .ref m0), (1, .int (nI j_x)), (2, .int z), (3, .int y), (4, .int (smI L 36)), (5, .int ((ltF (oF (unt L (dsI K S (S 0)))) L z n).1 * 1664525 + 1013904223)), (8, .int (nI n)), (9, .int (nI a)), (10, .int (nI q))]) X dX6_lots_171 (by decide) rfl ?_
                        refine g_iinc (v := nI (n + 1)) (lv' := [(8, .int (nI (n + 1))), (7, .int (mx ((ltF (oF (unt L (dsI K S (S 0)))) L z n).2.2) 99)), (6, .int (((ltF (oF (unt L (dsI K S (S 0)))) L z n).2.1) + 99)), (11, .int 99), (0, .ref m0), (1, .int (nI j_x)), (2, .int z), (3, .int y), (4, .int (smI L 36)), (5, .int ((ltF (oF (unt L (dsI K S (S 0)))) L z n).1 * 1664525 + 1013904223)), (9, .int (nI a)), (10, .int (nI q))]) X dX6_lots_173 9 rfl (nI_inc _) (by decide) rfl ?_
                        refine g_goto X 75 dX6_lots_176 (by decide) ?_
                        refine g_lv (lv' := [(0, .ref m0), (1, .int (nI j_x)), (2, .int z), (3, .int y), (4, .int (smI L 36)), (5, .int ((ltF (oF (unt L (dsI K S (S 0)))) L z n).1 * 1664525 + 1013904223)), (6, .int (((ltF (oF (unt L (dsI K S (S 0)))) L z n).2.1) + 99)), (7, .int (mx ((ltF (oF (unt L (dsI K S (S 0)))) L z n).2.2) 99)), (8, .int (nI (n + 1)))]) X [4, 5, 6, 7, 8, 9, 2, 1, 0] rfl ?_
                        exact g_eq (ws' := [(m0, cO 6 [.ref a0, .ref a1, .ref a2, .int (nI tn), .ref a4, .int (nI ap), .ref a6, .int (nI rn), .ref a8, .ref a9, .int im, .ref b1, .ref b2, .ref b3, .ref b4, .ref b5, .ref b6]), (a0, cI d 36 K), (a1, cI d 36 L), (a2, cI d 5 S), (a9, cI d 7 (rf7 Rf)), (b5, cI d 36 (dF (dsI K S (S 0))))]) (lv' := [(0, .ref m0), (1, .int (nI j_x)), (2, .int z), (3, .int y), (4, .int (smI L 36)), (5, .int ((ltF (oF (unt L (dsI K S (S 0)))) L z (n + 1)).1)), (6, .int ((ltF (oF (unt L (dsI K S (S 0)))) L z (n + 1)).2.1)), (7, .int ((ltF (oF (unt L (dsI K S (S 0)))) L z (n + 1)).2.2)), (8, .int (nI (n + 1)))]) (rfl) (lv_cons (rfl) (lv_cons (rfl) (lv_cons (rfl) (lv_cons (rfl) (lv_cons (rfl) (lv_cons (vI (ltF_5)) (lv_cons (vI (ltF_6y c150_10)) (lv_cons (vI (ltF_7y c150_10)) (lv_cons (rfl) (rfl)))))))))) (ih_75 (n + 1) (by first | assumption | omega) (by omega))
                    · have hnl : ¬ a < (L q).toNatClampNeg := c117_9
                      refine g_iload X dX6_lots_120 9 rfl ?_
                      refine g_aload_n X dX6_lots_122 rfl 0 rfl ?_
                      refine g_get (C := RX6) (T := TX6) (N := 17) (ci := 6) (v := .ref a1) X rfl inT6 1 (by decide) wd_797 rfl dX6_lots_123 0 rfl rfl ?_
                      refine g_iload X dX6_lots_126 10 rfl ?_
                      refine g_iaload_N (k := q) X rfl dX6_lots_128 2 rfl (by first | assumption | omega) (by omega) ?_
                      refine g_tope (y := nI ((L q).toNatClampNeg)) ((lk9_n (hL q)).1) ?_
                      refine g_isub X dX6_lots_129 ?_
                      refine g_tope (y := nI (a - (L q).toNatClampNeg)) (pk_sub (by omega)) ?_
                      refine g_istore (lv' := [(9, .int (nI (a - (L q).toNatClampNeg))), (0, .ref m0), (1, .int (nI j_x)), (2, .int z), (3, .int y), (4, .int (smI L 36)), (5, .int ((ltF (oF (unt L (dsI K S (S 0)))) L z n).1 * 1664525 + 1013904223)), (6, .int ((ltF (oF (unt L (dsI K S (S 0)))) L z n).2.1)), (7, .int ((ltF (oF (unt L (dsI K S (S 0)))) L z n).2.2)), (8, .int (nI n)), (10, .int (nI q))]) X dX6_lots_130 (by decide) rfl ?_
                      refine g_iinc (v := nI (q + 1)) (lv' := [(10, .int (nI (q + 1))), (9, .int (nI (a - (L q).toNatClampNeg))), (0, .ref m0), (1, .int (nI j_x)), (2, .int z), (3, .int y), (4, .int (smI L 36)), (5, .int ((ltF (oF (unt L (dsI K S (S 0)))) L z n).1 * 1664525 + 1013904223)), (6, .int ((ltF (oF (unt L (dsI K S (S 0)))) L z n).2.1)), (7, .int ((ltF (oF (unt L (dsI K S (S 0)))) L z n).2.2)), (8, .int (nI n))]) X dX6_lots_132 10 rfl (nI_inc _) (by decide) rfl ?_
                      refine g_goto X 108 dX6_lots_135 (by decide) ?_
                      refine g_lv (lv' := [(0, .ref m0), (1, .int (nI j_x)), (2, .int z), (3, .int y), (4, .int (smI L 36)), (5, .int ((ltF (oF (unt L (dsI K S (S 0)))) L z n).1 * 1664525 + 1013904223)), (6, .int ((ltF (oF (unt L (dsI K S (S 0)))) L z n).2.1)), (7, .int ((ltF (oF (unt L (dsI K S (S 0)))) L z n).2.2)), (8, .int (nI n)), (9, .int (nI (a - (L q).toNatClampNeg))), (10, .int (nI (q + 1)))]) X [2, 3, 4, 5, 6, 7, 8, 9, 10, 1, 0] rfl ?_
                      exact ih_108 (q + 1) (a - (L q).toNatClampNeg) (by first | assumption | omega) (by show a - (L q).toNatClampNeg + (smG (lkN L) q + (L q).toNatClampNeg) < _; omega) ((sd_go hL hq36 hnl (by omega)).trans hsd) (by omega)
                refine g_lv (lv' := [(0, .ref m0), (1, .int (nI j_x)), (2, .int z), (3, .int y), (4, .int (smI L 36)), (5, .int ((((ltF (oF (unt L (dsI K S (S 0)))) L z n).1) * 1664525) + 1013904223)), (6, .int ((ltF (oF (unt L (dsI K S (S 0)))) L z n).2.1)), (7, .int ((ltF (oF (unt L (dsI K S (S 0)))) L z n).2.2)), (8, .int (nI n)), (9, .int (nI v0)), (10, .int 0)]) X [3, 4, 5, 6, 7, 2, 8, 9, 10, 1, 0] rfl ?_
                exact g_eq (ws' := [(m0, cO 6 [.ref a0, .ref a1, .ref a2, .int (nI tn), .ref a4, .int (nI ap), .ref a6, .int (nI rn), .ref a8, .ref a9, .int im, .ref b1, .ref b2, .ref b3, .ref b4, .ref b5, .ref b6]), (a0, cI d 36 K), (a1, cI d 36 L), (a2, cI d 5 S), (a9, cI d 7 (rf7 Rf)), (b5, cI d 36 (dF (dsI K S (S 0))))]) (lv' := [(0, .ref m0), (1, .int (nI j_x)), (2, .int z), (3, .int y), (4, .int (smI L 36)), (5, .int ((ltF (oF (unt L (dsI K S (S 0)))) L z n).1 * 1664525 + 1013904223)), (6, .int ((ltF (oF (unt L (dsI K S (S 0)))) L z n).2.1)), (7, .int ((ltF (oF (unt L (dsI K S (S 0)))) L z n).2.2)), (8, .int (nI n)), (9, .int (nI v0)), (10, .int (nI 0))]) (rfl) (lv_cons (rfl) (lv_cons (rfl) (lv_cons (rfl) (lv_cons (rfl) (lv_cons (rfl) (lv_cons (vI (by rfl)) (lv_cons (rfl) (lv_cons (rfl) (lv_cons (rfl) (lv_cons (rfl) (lv_cons (vI (by rfl)) (rfl)))))))))))) (at_108 _ 0 v0 (by first | assumption | omega) (ha0) (rfl) (Nat.lt_succ_self _))
          refine g_lv (lv' := [(0, .ref m0), (1, .int (nI j_x)), (2, .int z), (3, .int y), (4, .int (smI L 36)), (5, .int z), (6, .int 0), (7, .int 0), (8, .int 0)]) X [5, 6, 7, 8, 4, 3, 2, 1, 0] rfl ?_
          exact g_eq (ws' := [(m0, cO 6 [.ref a0, .ref a1, .ref a2, .int (nI tn), .ref a4, .int (nI ap), .ref a6, .int (nI rn), .ref a8, .ref a9, .int im, .ref b1, .ref b2, .ref b3, .ref b4, .ref b5, .ref b6]), (a0, cI d 36 K), (a1, cI d 36 L), (a2, cI d 5 S), (a9, cI d 7 (rf7 Rf)), (b5, cI d 36 (dF (dsI K S (S 0))))]) (lv' := [(0, .ref m0), (1, .int (nI j_x)), (2, .int z), (3, .int y), (4, .int (smI L 36)), (5, .int ((ltF (oF (unt L (dsI K S (S 0)))) L z 0).1)), (6, .int ((ltF (oF (unt L (dsI K S (S 0)))) L z 0).2.1)), (7, .int ((ltF (oF (unt L (dsI K S (S 0)))) L z 0).2.2)), (8, .int (nI 0))]) (rfl) (lv_cons (rfl) (lv_cons (rfl) (lv_cons (rfl) (lv_cons (rfl) (lv_cons (rfl) (lv_cons (vI (by rfl)) (lv_cons (vI (by rfl)) (lv_cons (vI (by rfl)) (lv_cons (vI (by rfl)) (rfl)))))))))) (at_75 _ 0 (by first | assumption | omega) (Nat.lt_succ_self _))
        · have hw0 := c49_4
          refine g_aload_n X dX6_lots_52 rfl 1 rfl ?_
          refine g_bipush (v := (-3)) X dX6_lots_53 (by decide) ?_
          refine g_dV (ci := 6) (q0 := 0) (n := 1) (wr := [(a0, cI d 36 K), (a1, cI d 36 L), (a2, cI d 5 S), (b5, cI d 36 H)]) (ws' := [(m0, cO 6 [.ref a0, .ref a1, .ref a2, .int (nI tn), .ref a4, .int (nI ap), .ref a6, .int (nI rn), .ref a8, .ref a9, .int im, .ref b1, .ref b2, .ref b3, .ref b4, .ref b5, .ref b6]), (a0, cI d 36 K), (a1, cI d 36 L), (a2, cI d 5 S), (a9, cI d 7 (rf7 (bmp Rf 3))), (b5, cI d 36 H)]) (st' := [.int (-3)]) (As := [.int (-3)]) (st := []) X (ct_X6_no_3 l d m0 a0 a1 a2 a4 a6 a8 a9 b1 b2 b3 b4 b5 b6 Rf tn ap rn im) wd_855 wd_852 wd_854 wd_25 wd_58 hd_X6_no rfl ⟨(Nat.le_of_ble_eq_true rfl), (Nat.le_of_ble_eq_true rfl)⟩ rfl rfl dX6_lots_55 ⟨(Nat.le_of_ble_eq_true rfl), (Nat.le_of_ble_eq_true rfl)⟩ rfl rfl (Nat.le_of_ble_eq_true rfl) [0, 4] [1, 2, 3, 5] rfl rfl rfl rfl rfl (by decide) rfl [4, 0, 1, 2, 5, 3] rfl rfl rfl rfl ?_
          have e_ : sp_lots (oF (unt L (dsI K S (S 0)))) L (nI j_x) z y = ((-3), 3) := lots_4 h1x h20 ho (by rw [hw0]; decide)
          exact g_end X (gE_i dX6_lots_58 (rfl) (Nat.le_of_ble_eq_true rfl) (Nat.le_of_ble_eq_true rfl) ⟨H, congrArg (fun z => some (Value.int z)) (by rw [e_]), ws_cons (rfl) (ws_cons (rfl) (ws_cons (rfl) (ws_cons (rfl) (ws_cons (cI_eq (by first | (rw [e_]; done) | (rw [e_]; rfl) | (rw [e_]; simp only [ix, hcl_j_x, ↓reduceIte]; done) | simp [e_, *])) (ws_cons (rfl) (rfl))))))⟩)
      · have ho := c31_3
        refine g_aload_n X dX6_lots_34 rfl 0 rfl ?_
        refine g_bipush (v := (-2)) X dX6_lots_35 (by decide) ?_
        refine g_dV (ci := 6) (q0 := 0) (n := 1) (wr := [(a0, cI d 36 K), (a1, cI d 36 L), (a2, cI d 5 S), (b5, cI d 36 H)]) (ws' := [(m0, cO 6 [.ref a0, .ref a1, .ref a2, .int (nI tn), .ref a4, .int (nI ap), .ref a6, .int (nI rn), .ref a8, .ref a9, .int im, .ref b1, .ref b2, .ref b3, .ref b4, .ref b5, .ref b6]), (a0, cI d 36 K), (a1, cI d 36 L), (a2, cI d 5 S), (a9, cI d 7 (rf7 (bmp Rf 2))), (b5, cI d 36 H)]) (st' := [.int (-2)]) (As := [.int (-2)]) (st := []) X (ct_X6_no_2 l d m0 a0 a1 a2 a4 a6 a8 a9 b1 b2 b3 b4 b5 b6 Rf tn ap rn im) wd_855 wd_852 wd_854 wd_25 wd_58 hd_X6_no rfl ⟨(Nat.le_of_ble_eq_true rfl), (Nat.le_of_ble_eq_true rfl)⟩ rfl rfl dX6_lots_37 ⟨(Nat.le_of_ble_eq_true rfl), (Nat.le_of_ble_eq_true rfl)⟩ rfl rfl (Nat.le_of_ble_eq_true rfl) [0, 4] [1, 2, 3, 5] rfl rfl rfl rfl rfl (by decide) rfl [4, 0, 1, 2, 5, 3] rfl rfl rfl rfl ?_
        have e_ : sp_lots (oF (unt L (dsI K S (S 0)))) L (nI j_x) z y = ((-2), 2) := lots_3 h1x h20 ho
        exact g_end X (gE_i dX6_lots_40 (rfl) (Nat.le_of_ble_eq_true rfl) (Nat.le_of_ble_eq_true rfl) ⟨H, congrArg (fun z => some (Value.int z)) (by rw [e_]), ws_cons (rfl) (ws_cons (rfl) (ws_cons (rfl) (ws_cons (rfl) (ws_cons (cI_eq (by first | (rw [e_]; done) | (rw [e_]; rfl) | (rw [e_]; simp only [ix, hcl_j_x, ↓reduceIte]; done) | simp [e_, *])) (ws_cons (rfl) (rfl))))))⟩)
    · have h20 := c15_2
      refine g_aload_n X dX6_lots_18 rfl 0 rfl ?_
      refine g_bipush (v := (-6)) X dX6_lots_19 (by decide) ?_
      refine g_dV (ci := 6) (q0 := 0) (n := 1) (wr := [(a0, cI d 36 K), (a1, cI d 36 L), (a2, cI d 5 S), (b5, cI d 36 H)]) (ws' := [(m0, cO 6 [.ref a0, .ref a1, .ref a2, .int (nI tn), .ref a4, .int (nI ap), .ref a6, .int (nI rn), .ref a8, .ref a9, .int im, .ref b1, .ref b2, .ref b3, .ref b4, .ref b5, .ref b6]), (a0, cI d 36 K), (a1, cI d 36 L), (a2, cI d 5 S), (a9, cI d 7 (rf7 (bmp Rf 6))), (b5, cI d 36 H)]) (st' := [.int (-6)]) (As := [.int (-6)]) (st := []) X (ct_X6_no_6 l d m0 a0 a1 a2 a4 a6 a8 a9 b1 b2 b3 b4 b5 b6 Rf tn ap rn im) wd_855 wd_852 wd_854 wd_25 wd_58 hd_X6_no rfl ⟨(Nat.le_of_ble_eq_true rfl), (Nat.le_of_ble_eq_true rfl)⟩ rfl rfl dX6_lots_21 ⟨(Nat.le_of_ble_eq_true rfl), (Nat.le_of_ble_eq_true rfl)⟩ rfl rfl (Nat.le_of_ble_eq_true rfl) [0, 4] [1, 2, 3, 5] rfl rfl rfl rfl rfl (by decide) rfl [4, 0, 1, 2, 5, 3] rfl rfl rfl rfl ?_
      have e_ : sp_lots (oF (unt L (dsI K S (S 0)))) L x z y = ((-6), 6) := lots_2 h1x h20
      exact g_end X (gE_i dX6_lots_24 (rfl) (Nat.le_of_ble_eq_true rfl) (Nat.le_of_ble_eq_true rfl) ⟨H, congrArg (fun z => some (Value.int z)) (by rw [e_]), ws_cons (rfl) (ws_cons (rfl) (ws_cons (rfl) (ws_cons (rfl) (ws_cons (cI_eq (by first | (rw [e_]; done) | (rw [e_]; rfl) | (rw [e_]; simp only [ix, ↓reduceIte]; done) | simp [e_, *])) (ws_cons (rfl) (rfl))))))⟩)
  · have h1x := c2_1
    refine g_aload_n X dX6_lots_5 rfl 0 rfl ?_
    refine g_bipush (v := (-4)) X dX6_lots_6 (by decide) ?_
    refine g_dV (ci := 6) (q0 := 0) (n := 1) (wr := [(a0, cI d 36 K), (a1, cI d 36 L), (a2, cI d 5 S), (b5, cI d 36 H)]) (ws' := [(m0, cO 6 [.ref a0, .ref a1, .ref a2, .int (nI tn), .ref a4, .int (nI ap), .ref a6, .int (nI rn), .ref a8, .ref a9, .int im, .ref b1, .ref b2, .ref b3, .ref b4, .ref b5, .ref b6]), (a0, cI d 36 K), (a1, cI d 36 L), (a2, cI d 5 S), (a9, cI d 7 (rf7 (bmp Rf 4))), (b5, cI d 36 H)]) (st' := [.int (-4)]) (As := [.int (-4)]) (st := []) X (ct_X6_no_4 l d m0 a0 a1 a2 a4 a6 a8 a9 b1 b2 b3 b4 b5 b6 Rf tn ap rn im) wd_855 wd_852 wd_854 wd_25 wd_58 hd_X6_no rfl ⟨(Nat.le_of_ble_eq_true rfl), (Nat.le_of_ble_eq_true rfl)⟩ rfl rfl dX6_lots_8 ⟨(Nat.le_of_ble_eq_true rfl), (Nat.le_of_ble_eq_true rfl)⟩ rfl rfl (Nat.le_of_ble_eq_true rfl) [0, 4] [1, 2, 3, 5] rfl rfl rfl rfl rfl (by decide) rfl [4, 0, 1, 2, 5, 3] rfl rfl rfl rfl ?_
    have e_ : sp_lots (oF (unt L (dsI K S (S 0)))) L x z y = ((-4), 4) := lots_1 h1x
    exact g_end X (gE_i dX6_lots_11 (rfl) (Nat.le_of_ble_eq_true rfl) (Nat.le_of_ble_eq_true rfl) ⟨H, congrArg (fun z => some (Value.int z)) (by rw [e_]), ws_cons (rfl) (ws_cons (rfl) (ws_cons (rfl) (ws_cons (rfl) (ws_cons (cI_eq (by first | (rw [e_]; done) | (rw [e_]; rfl) | (rw [e_]; simp only [ix, ↓reduceIte]; done) | simp [e_, *])) (ws_cons (rfl) (rfl))))))⟩)
set_option maxHeartbeats 4000000 in
set_option maxRecDepth 20000 in
theorem ct_X6_count (l : Launch) (d : KD) (m0 a0 a1 a2 a4 a6 a8 a9 b1 b2 b3 b4 b5 b6 : Nat) (K L S Rf : Nat → Int32) (tn ap rn : Nat) (im : Int32) (x : Int32) : Ct l d yX6_count cX6_count 4 (some .int) { frames := 1, cells := 0, slots := 0, locals := 22 } [.ref m0, .int x] [(m0, cO 6 [.ref a0, .ref a1, .ref a2, .int (nI tn), .ref a4, .int (nI ap), .ref a6, .int (nI rn), .ref a8, .ref a9, .int im, .ref b1, .ref b2, .ref b3, .ref b4, .ref b5, .ref b6]), (a0, cI d 36 K), (a1, cI d 36 L), (a2, cI d 5 S), (a9, cI d 7 (rf7 Rf))] 0 0 (fun r wo => r = some (.int (sp_count K L S rn tn Rf x)) ∧ wo = [(m0, cO 6 [.ref a0, .ref a1, .ref a2, .int (nI tn), .ref a4, .int (nI ap), .ref a6, .int (nI rn), .ref a8, .ref a9, .int im, .ref b1, .ref b2, .ref b3, .ref b4, .ref b5, .ref b6]), (a0, cI d 36 K), (a1, cI d 36 L), (a2, cI d 5 S), (a9, cI d 7 (rf7 Rf))]) := by
  refine ct_of (own := RX6) (ini := false) (by decide +kernel) rfl (fun h => by cases h) (Nat.le_of_ble_eq_true rfl) ?_
  intro g X
  show g 0 0 [(m0, cO 6 [.ref a0, .ref a1, .ref a2, .int (nI tn), .ref a4, .int (nI ap), .ref a6, .int (nI rn), .ref a8, .ref a9, .int im, .ref b1, .ref b2, .ref b3, .ref b4, .ref b5, .ref b6]), (a0, cI d 36 K), (a1, cI d 36 L), (a2, cI d 5 S), (a9, cI d 7 (rf7 Rf))] [(0, .ref m0), (1, .int x)] 0 []
  refine g_iconst (v := 0) X dX6_count_0 (by decide) ?_
  refine g_istore_n (lv' := [(2, .int 0), (0, .ref m0), (1, .int x)]) X dX6_count_1 rfl (by decide) rfl ?_
  refine g_iload_n X dX6_count_2 rfl 2 rfl ?_
  rcases Classical.em (x = 0) with k3_1 | k3_1
  · subst k3_1
    refine g_tableIn (off := 53) X 56 dX6_count_3 (by decide) (by decide) (by decide +kernel) (by decide) ?_
    refine g_aload_n X dX6_count_56 rfl 1 rfl ?_
    refine g_dV (ci := 6) (q0 := 0) (n := 0) (wr := [(a0, cI d 36 K), (a2, cI d 5 S), (a9, cI d 7 (rf7 Rf))]) (ws' := [(m0, cO 6 [.ref a0, .ref a1, .ref a2, .int (nI tn), .ref a4, .int (nI ap), .ref a6, .int (nI rn), .ref a8, .ref a9, .int im, .ref b1, .ref b2, .ref b3, .ref b4, .ref b5, .ref b6]), (a0, cI d 36 K), (a1, cI d 36 L), (a2, cI d 5 S), (a9, cI d 7 (rf7 Rf))]) (st' := [.int (nI (cnt (fun q => 0 < L q) 36))]) (As := []) (st := []) X (ct_X6_left l d m0 a0 a1 a2 a4 a6 a8 a9 b1 b2 b3 b4 b5 b6 L tn ap rn im) wd_996 wd_993 wd_995 wd_45 wd_58 hd_X6_left rfl ⟨(Nat.le_of_ble_eq_true rfl), (Nat.le_of_ble_eq_true rfl)⟩ rfl rfl dX6_count_57 ⟨(Nat.le_of_ble_eq_true rfl), (Nat.le_of_ble_eq_true rfl)⟩ rfl rfl (Nat.le_of_ble_eq_true rfl) [0, 2] [1, 3, 4] rfl rfl rfl rfl rfl (by decide) rfl [3, 0, 4, 1, 2] rfl rfl rfl rfl ?_
    exact g_end X (gE_i dX6_count_60 (rfl) (Nat.le_of_ble_eq_true rfl) (Nat.le_of_ble_eq_true rfl) ⟨congrArg (fun z => some (Value.int z)) (by first | rfl | (unfold sp_count; simp) | (unfold sp_count; grind)), rfl⟩)
  rcases Classical.em (x = 1) with k3_2 | k3_2
  · subst k3_2
    refine g_tableIn (off := 58) X 61 dX6_count_3 (by decide) (by decide) (by decide +kernel) (by decide) ?_
    refine g_aload_n X dX6_count_61 rfl 1 rfl ?_
    refine g_dV (ci := 6) (q0 := 0) (n := 0) (wr := [(a0, cI d 36 K), (a2, cI d 5 S), (a9, cI d 7 (rf7 Rf))]) (ws' := [(m0, cO 6 [.ref a0, .ref a1, .ref a2, .int (nI tn), .ref a4, .int (nI ap), .ref a6, .int (nI rn), .ref a8, .ref a9, .int im, .ref b1, .ref b2, .ref b3, .ref b4, .ref b5, .ref b6]), (a0, cI d 36 K), (a1, cI d 36 L), (a2, cI d 5 S), (a9, cI d 7 (rf7 Rf))]) (st' := [.int (smI L 36)]) (As := []) (st := []) X (ct_X6_weight l d m0 a0 a1 a2 a4 a6 a8 a9 b1 b2 b3 b4 b5 b6 L tn ap rn im) wd_1086 wd_1083 wd_1085 wd_50 wd_58 hd_X6_weight rfl ⟨(Nat.le_of_ble_eq_true rfl), (Nat.le_of_ble_eq_true rfl)⟩ rfl rfl dX6_count_62 ⟨(Nat.le_of_ble_eq_true rfl), (Nat.le_of_ble_eq_true rfl)⟩ rfl rfl (Nat.le_of_ble_eq_true rfl) [0, 2] [1, 3, 4] rfl rfl rfl rfl rfl (by decide) rfl [3, 0, 4, 1, 2] rfl rfl rfl rfl ?_
    exact g_end X (gE_i dX6_count_65 (rfl) (Nat.le_of_ble_eq_true rfl) (Nat.le_of_ble_eq_true rfl) ⟨congrArg (fun z => some (Value.int z)) (by first | rfl | (unfold sp_count; simp) | (unfold sp_count; grind)), rfl⟩)
  rcases Classical.em (x = 2) with k3_3 | k3_3
  · subst k3_3
    refine g_tableIn (off := 63) X 66 dX6_count_3 (by decide) (by decide) (by decide +kernel) (by decide) ?_
    refine g_aload_n X dX6_count_66 rfl 1 rfl ?_
    refine g_get (C := RX6) (T := TX6) (N := 17) (ci := 6) (v := .ref a2) X rfl inT6 2 (by decide) wd_798 rfl dX6_count_67 0 rfl rfl ?_
    refine g_iload_n X dX6_count_70 rfl 2 rfl ?_
    refine g_iconst (v := 2) X dX6_count_71 (by decide) ?_
    refine g_isub X dX6_count_72 ?_
    refine g_tope (y := 0) (by decide) ?_
    refine g_iaload_N (k := 0) X rfl dX6_count_73 3 rfl (by first | assumption | omega) (by omega) ?_
    exact g_end X (gE_i dX6_count_74 (rfl) (Nat.le_of_ble_eq_true rfl) (Nat.le_of_ble_eq_true rfl) ⟨congrArg (fun z => some (Value.int z)) (by first | rfl | (unfold sp_count; simp) | (unfold sp_count; grind)), rfl⟩)
  rcases Classical.em (x = 3) with k3_4 | k3_4
  · subst k3_4
    refine g_tableIn (off := 63) X 66 dX6_count_3 (by decide) (by decide) (by decide +kernel) (by decide) ?_
    refine g_aload_n X dX6_count_66 rfl 1 rfl ?_
    refine g_get (C := RX6) (T := TX6) (N := 17) (ci := 6) (v := .ref a2) X rfl inT6 2 (by decide) wd_798 rfl dX6_count_67 0 rfl rfl ?_
    refine g_iload_n X dX6_count_70 rfl 2 rfl ?_
    refine g_iconst (v := 2) X dX6_count_71 (by decide) ?_
    refine g_isub X dX6_count_72 ?_
    refine g_tope (y := 1) (by decide) ?_
    refine g_iaload_N (k := 1) X rfl dX6_count_73 3 rfl (by first | assumption | omega) (by omega) ?_
    exact g_end X (gE_i dX6_count_74 (rfl) (Nat.le_of_ble_eq_true rfl) (Nat.le_of_ble_eq_true rfl) ⟨congrArg (fun z => some (Value.int z)) (by first | rfl | (unfold sp_count; simp) | (unfold sp_count; grind)), rfl⟩)
  rcases Classical.em (x = 4) with k3_5 | k3_5
  · subst k3_5
    refine g_tableIn (off := 63) X 66 dX6_count_3 (by decide) (by decide) (by decide +kernel) (by decide) ?_
    refine g_aload_n X dX6_count_66 rfl 1 rfl ?_
    refine g_get (C := RX6) (T := TX6) (N := 17) (ci := 6) (v := .ref a2) X rfl inT6 2 (by decide) wd_798 rfl dX6_count_67 0 rfl rfl ?_
    refine g_iload_n X dX6_count_70 rfl 2 rfl ?_
    refine g_iconst (v := 2) X dX6_count_71 (by decide) ?_
    refine g_isub X dX6_count_72 ?_
    refine g_tope (y := 2) (by decide) ?_
    refine g_iaload_N (k := 2) X rfl dX6_count_73 3 rfl (by first | assumption | omega) (by omega) ?_
    exact g_end X (gE_i dX6_count_74 (rfl) (Nat.le_of_ble_eq_true rfl) (Nat.le_of_ble_eq_true rfl) ⟨congrArg (fun z => some (Value.int z)) (by first | rfl | (unfold sp_count; simp) | (unfold sp_count; grind)), rfl⟩)
  rcases Classical.em (x = 5) with k3_6 | k3_6
  · subst k3_6
    refine g_tableIn (off := 63) X 66 dX6_count_3 (by decide) (by decide) (by decide +kernel) (by decide) ?_
    refine g_aload_n X dX6_count_66 rfl 1 rfl ?_
    refine g_get (C := RX6) (T := TX6) (N := 17) (ci := 6) (v := .ref a2) X rfl inT6 2 (by decide) wd_798 rfl dX6_count_67 0 rfl rfl ?_
    refine g_iload_n X dX6_count_70 rfl 2 rfl ?_
    refine g_iconst (v := 2) X dX6_count_71 (by decide) ?_
    refine g_isub X dX6_count_72 ?_
    refine g_tope (y := 3) (by decide) ?_
    refine g_iaload_N (k := 3) X rfl dX6_count_73 3 rfl (by first | assumption | omega) (by omega) ?_
    exact g_end X (gE_i dX6_count_74 (rfl) (Nat.le_of_ble_eq_true rfl) (Nat.le_of_ble_eq_true rfl) ⟨congrArg (fun z => some (Value.int z)) (by first | rfl | (unfold sp_count; simp) | (unfold sp_count; grind)), rfl⟩)
  rcases Classical.em (x = 6) with k3_7 | k3_7
  · subst k3_7
    refine g_tableIn (off := 63) X 66 dX6_count_3 (by decide) (by decide) (by decide +kernel) (by decide) ?_
    refine g_aload_n X dX6_count_66 rfl 1 rfl ?_
    refine g_get (C := RX6) (T := TX6) (N := 17) (ci := 6) (v := .ref a2) X rfl inT6 2 (by decide) wd_798 rfl dX6_count_67 0 rfl rfl ?_
    refine g_iload_n X dX6_count_70 rfl 2 rfl ?_
    refine g_iconst (v := 2) X dX6_count_71 (by decide) ?_
    refine g_isub X dX6_count_72 ?_
    refine g_tope (y := 4) (by decide) ?_
    refine g_iaload_N (k := 4) X rfl dX6_count_73 3 rfl (by first | assumption | omega) (by omega) ?_
    exact g_end X (gE_i dX6_count_74 (rfl) (Nat.le_of_ble_eq_true rfl) (Nat.le_of_ble_eq_true rfl) ⟨congrArg (fun z => some (Value.int z)) (by first | rfl | (unfold sp_count; simp) | (unfold sp_count; grind)), rfl⟩)
  rcases Classical.em (x = 7) with k3_8 | k3_8
  · subst k3_8
    refine g_tableIn (off := 72) X 75 dX6_count_3 (by decide) (by decide) (by decide +kernel) (by decide) ?_
    refine g_iconst (v := 0) X dX6_count_75 (by decide) ?_
    refine g_istore_n (lv' := [(3, .int 0), (2, .int 0), (0, .ref m0), (1, .int 7)]) X dX6_count_76 rfl (by decide) rfl ?_
    have at_77 : ∀ (n_ : Nat) (i : Nat) (hi : i ≤ 36), (36 - i) < n_ → g 0 0 [(m0, cO 6 [.ref a0, .ref a1, .ref a2, .int (nI tn), .ref a4, .int (nI ap), .ref a6, .int (nI rn), .ref a8, .ref a9, .int im, .ref b1, .ref b2, .ref b3, .ref b4, .ref b5, .ref b6]), (a0, cI d 36 K), (a1, cI d 36 L), (a2, cI d 5 S), (a9, cI d 7 (rf7 Rf))] [(0, .ref m0), (2, .int (nI (cnt (fun q => csl (K q) (S 1)) i))), (3, .int (nI i))] 77 [] := by
      intro n_
      induction n_ with
      | zero => intro i hi hn_; exact absurd hn_ (Nat.not_lt_zero _)
      | succ n_ ih_77 =>
        intro i hi hn_77
        refine g_iload_n X dX6_count_77 rfl 2 rfl ?_
        refine g_bipush (v := 36) X dX6_count_78 (by decide) ?_
        refine g_icmpN_ge (a := i) (b := 36) X rfl rfl (by omega) (by omega) 100 dX6_count_80 (by decide) (fun c80_9 => ?_) (fun c80_9 => ?_)
        · obtain rfl : i = 36 := by omega
          refine g_iload_n X dX6_count_100 rfl 1 rfl ?_
          exact g_end X (gE_i dX6_count_101 (rfl) (Nat.le_of_ble_eq_true rfl) (Nat.le_of_ble_eq_true rfl) ⟨congrArg (fun z => some (Value.int z)) (by first | rfl | (unfold sp_count; simp) | (unfold sp_count; grind)), rfl⟩)
        · refine g_aload_n X dX6_count_83 rfl 0 rfl ?_
          refine g_iload_n X dX6_count_84 rfl 2 rfl ?_
          refine g_dV (ci := 6) (q0 := 0) (n := 1) (wr := [(a1, cI d 36 L), (a9, cI d 7 (rf7 Rf))]) (ws' := [(m0, cO 6 [.ref a0, .ref a1, .ref a2, .int (nI tn), .ref a4, .int (nI ap), .ref a6, .int (nI rn), .ref a8, .ref a9, .int im, .ref b1, .ref b2, .ref b3, .ref b4, .ref b5, .ref b6]), (a0, cI d 36 K), (a1, cI d 36 L), (a2, cI d 5 S), (a9, cI d 7 (rf7 Rf))]) (st' := [.int (b2i (csl (K i) (S 1)))]) (As := [.int (nI i)]) (st := []) X (ct_X6_canBe l d m0 a0 a1 a2 a4 a6 a8 a9 b1 b2 b3 b4 b5 b6 K S tn ap rn im i (by first | assumption | omega)) wd_891 wd_888 wd_890 wd_31 wd_58 hd_X6_canBe rfl ⟨(Nat.le_of_ble_eq_true rfl), (Nat.le_of_ble_eq_true rfl)⟩ rfl rfl dX6_count_85 ⟨(Nat.le_of_ble_eq_true rfl), (Nat.le_of_ble_eq_true rfl)⟩ rfl rfl (Nat.le_of_ble_eq_true rfl) [0, 1, 3] [2, 4] rfl rfl rfl rfl rfl (by decide) rfl [2, 3, 0, 4, 1] rfl rfl rfl rfl ?_
          refine g_ifB_eq X 94 dX6_count_88 (by decide) (fun c88_10 => ?_) (fun c88_10 => ?_)
          · refine g_iinc (v := nI (i + 1)) (lv' := [(3, .int (nI (i + 1))), (0, .ref m0), (2, .int (nI (cnt (fun q => csl (K q) (S 1)) i)))]) X dX6_count_94 2 rfl (nI_inc _) (by decide) rfl ?_
            refine g_goto X 77 dX6_count_97 (by decide) ?_
            refine g_lv (lv' := [(0, .ref m0), (2, .int (nI (cnt (fun q => csl (K q) (S 1)) i))), (3, .int (nI (i + 1)))]) X [1, 2, 0] rfl ?_
            exact g_eq (ws' := [(m0, cO 6 [.ref a0, .ref a1, .ref a2, .int (nI tn), .ref a4, .int (nI ap), .ref a6, .int (nI rn), .ref a8, .ref a9, .int im, .ref b1, .ref b2, .ref b3, .ref b4, .ref b5, .ref b6]), (a0, cI d 36 K), (a1, cI d 36 L), (a2, cI d 5 S), (a9, cI d 7 (rf7 Rf))]) (lv' := [(0, .ref m0), (2, .int (nI (cnt (fun q => csl (K q) (S 1)) (i + 1)))), (3, .int (nI (i + 1)))]) (rfl) (lv_cons (rfl) (lv_cons (vI (by first | exact cnt_T (by assumption) | exact cnt_F (by assumption) | exact cnt_T (Int32.not_le.mp (by assumption)) | exact cnt_F (Int32.not_lt.mpr (by assumption)))) (lv_cons (rfl) (rfl)))) (ih_77 (i + 1) (by first | assumption | omega) (by omega))
          · refine g_iinc (v := nI (cnt (fun q => csl (K q) (S 1)) i + 1)) (lv' := [(2, .int (nI (cnt (fun q => csl (K q) (S 1)) i + 1))), (0, .ref m0), (3, .int (nI i))]) X dX6_count_91 1 rfl (nI_inc _) (by decide) rfl ?_
            refine g_iinc (v := nI (i + 1)) (lv' := [(3, .int (nI (i + 1))), (2, .int (nI (cnt (fun q => csl (K q) (S 1)) i + 1))), (0, .ref m0)]) X dX6_count_94 2 rfl (nI_inc _) (by decide) rfl ?_
            refine g_goto X 77 dX6_count_97 (by decide) ?_
            refine g_lv (lv' := [(0, .ref m0), (2, .int (nI (cnt (fun q => csl (K q) (S 1)) i + 1))), (3, .int (nI (i + 1)))]) X [2, 1, 0] rfl ?_
            exact g_eq (ws' := [(m0, cO 6 [.ref a0, .ref a1, .ref a2, .int (nI tn), .ref a4, .int (nI ap), .ref a6, .int (nI rn), .ref a8, .ref a9, .int im, .ref b1, .ref b2, .ref b3, .ref b4, .ref b5, .ref b6]), (a0, cI d 36 K), (a1, cI d 36 L), (a2, cI d 5 S), (a9, cI d 7 (rf7 Rf))]) (lv' := [(0, .ref m0), (2, .int (nI (cnt (fun q => csl (K q) (S 1)) (i + 1)))), (3, .int (nI (i + 1)))]) (rfl) (lv_cons (rfl) (lv_cons (vI (by first | exact cnt_T (by assumption) | exact cnt_F (by assumption) | exact cnt_T (Int32.not_le.mp (by assumption)) | exact cnt_F (Int32.not_lt.mpr (by assumption)))) (lv_cons (rfl) (rfl)))) (ih_77 (i + 1) (by first | assumption | omega) (by omega))
    refine g_lv (lv' := [(0, .ref m0), (2, .int 0), (3, .int 0)]) X [2, 1, 0] rfl ?_
    exact g_eq (ws' := [(m0, cO 6 [.ref a0, .ref a1, .ref a2, .int (nI tn), .ref a4, .int (nI ap), .ref a6, .int (nI rn), .ref a8, .ref a9, .int im, .ref b1, .ref b2, .ref b3, .ref b4, .ref b5, .ref b6]), (a0, cI d 36 K), (a1, cI d 36 L), (a2, cI d 5 S), (a9, cI d 7 (rf7 Rf))]) (lv' := [(0, .ref m0), (2, .int (nI (cnt (fun q => csl (K q) (S 1)) 0))), (3, .int (nI 0))]) (rfl) (lv_cons (rfl) (lv_cons (vI (by rfl)) (lv_cons (vI (by rfl)) (rfl)))) (at_77 _ 0 (by first | assumption | omega) (Nat.lt_succ_self _))
  rcases Classical.em (x = 8) with k3_11 | k3_11
  · subst k3_11
    refine g_tableIn (off := 99) X 102 dX6_count_3 (by decide) (by decide) (by decide +kernel) (by decide) ?_
    refine g_aload_n X dX6_count_102 rfl 1 rfl ?_
    refine g_get (C := RX6) (T := TX6) (N := 17) (ci := 6) (v := .int (nI rn)) X rfl inT6 7 (by decide) wd_803 rfl dX6_count_103 0 rfl rfl ?_
    exact g_end X (gE_i dX6_count_106 (rfl) (Nat.le_of_ble_eq_true rfl) (Nat.le_of_ble_eq_true rfl) ⟨congrArg (fun z => some (Value.int z)) (by first | rfl | (unfold sp_count; simp) | (unfold sp_count; grind)), rfl⟩)
  rcases Classical.em (x = 9) with k3_12 | k3_12
  · subst k3_12
    refine g_tableIn (off := 104) X 107 dX6_count_3 (by decide) (by decide) (by decide +kernel) (by decide) ?_
    refine g_aload_n X dX6_count_107 rfl 1 rfl ?_
    refine g_get (C := RX6) (T := TX6) (N := 17) (ci := 6) (v := .int (nI tn)) X rfl inT6 3 (by decide) wd_799 rfl dX6_count_108 0 rfl rfl ?_
    exact g_end X (gE_i dX6_count_111 (rfl) (Nat.le_of_ble_eq_true rfl) (Nat.le_of_ble_eq_true rfl) ⟨congrArg (fun z => some (Value.int z)) (by first | rfl | (unfold sp_count; simp) | (unfold sp_count; grind)), rfl⟩)
  have nt_3 : ¬ (x).toInt = 0 ∧ ¬ (x).toInt = 1 ∧ ¬ (x).toInt = 2 ∧ ¬ (x).toInt = 3 ∧ ¬ (x).toInt = 4 ∧ ¬ (x).toInt = 5 ∧ ¬ (x).toInt = 6 ∧ ¬ (x).toInt = 7 ∧ ¬ (x).toInt = 8 ∧ ¬ (x).toInt = 9 := by refine ⟨lv_neT k3_1 rfl, lv_neT k3_2 rfl, lv_neT k3_3 rfl, lv_neT k3_4 rfl, lv_neT k3_5 rfl, lv_neT k3_6 rfl, lv_neT k3_7 rfl, lv_neT k3_8 rfl, lv_neT k3_11 rfl, lv_neT k3_12 rfl⟩
  refine g_tableOut X 112 dX6_count_3 (by omega) (by decide) ?_
  refine g_iload_n X dX6_count_112 rfl 2 rfl ?_
  refine g_bipush (v := 11) X dX6_count_113 (by decide) ?_
  refine g_bipush (v := 16) X dX6_count_115 (by decide) ?_
  refine g_dS (n := 3) (wr := [(m0, cO 6 [.ref a0, .ref a1, .ref a2, .int (nI tn), .ref a4, .int (nI ap), .ref a6, .int (nI rn), .ref a8, .ref a9, .int im, .ref b1, .ref b2, .ref b3, .ref b4, .ref b5, .ref b6]), (a0, cI d 36 K), (a1, cI d 36 L), (a2, cI d 5 S), (a9, cI d 7 (rf7 Rf))]) (ws' := [(m0, cO 6 [.ref a0, .ref a1, .ref a2, .int (nI tn), .ref a4, .int (nI ap), .ref a6, .int (nI rn), .ref a8, .ref a9, .int im, .ref b1, .ref b2, .ref b3, .ref b4, .ref b5, .ref b6]), (a0, cI d 36 K), (a1, cI d 36 L), (a2, cI d 5 S), (a9, cI d 7 (rf7 Rf))]) (st' := [.int (b2i (wit x 11 16))]) (As := [.int x, .int 11, .int 16]) (st := []) X (ct_X6_within l d x 11 16) wd_887 wd_885 wd_886 wd_58 hd_X6_within ⟨(Nat.le_of_ble_eq_true rfl), (Nat.le_of_ble_eq_true rfl)⟩ rfl rfl dX6_count_117 ⟨(Nat.le_of_ble_eq_true rfl), (Nat.le_of_ble_eq_true rfl)⟩ rfl rfl (Nat.le_of_ble_eq_true rfl) [] [0, 1, 2, 3, 4] rfl rfl rfl rfl rfl (by decide) [0, 1, 2, 3, 4] rfl rfl rfl rfl ?_
  refine g_ifB_eq X 135 dX6_count_120 (by decide) (fun c120_13 => ?_) (fun c120_13 => ?_)
  · refine g_bipush (v := (-9)) X dX6_count_135 (by decide) ?_
    exact g_end X (gE_i dX6_count_137 (rfl) (Nat.le_of_ble_eq_true rfl) (Nat.le_of_ble_eq_true rfl) ⟨congrArg (fun z => some (Value.int z)) (ct_n c120_13 k3_1 k3_2 k3_3 k3_4 k3_5 k3_6 k3_7 k3_8 k3_11 k3_12), rfl⟩)
  · refine g_aload_n X dX6_count_123 rfl 1 rfl ?_
    refine g_get (C := RX6) (T := TX6) (N := 17) (ci := 6) (v := .ref a9) X rfl inT6 9 (by decide) wd_805 rfl dX6_count_124 0 rfl rfl ?_
    refine g_iload_n X dX6_count_127 rfl 2 rfl ?_
    refine g_bipush (v := 10) X dX6_count_128 (by decide) ?_
    refine g_isub X dX6_count_130 ?_
    refine g_iaload X dX6_count_131 4 rfl (ct_vp (by assumption)) ?_
    refine g_goto X 137 dX6_count_132 (by decide) ?_
    exact g_end X (gE_i dX6_count_137 (rfl) (Nat.le_of_ble_eq_true rfl) (Nat.le_of_ble_eq_true rfl) ⟨congrArg (fun z => some (Value.int z)) (ct_y c120_13), rfl⟩)
