theorem lw_lt {L i : Nat} (hL : L ≤ 2048) (hi : i ≤ 4000) (c : ¬ nI L - 4 < nI i) : i + 4 ≤ L := by
  have h1 := Int32.le_iff_toInt_le.mp (Int32.not_lt.mp c)
  have h2 : (nI L - 4).toInt = (L : Int) - 4 := pk_sub_toInt (a := L) (b := 4) (by omega) (by omega)
  rw [h2, nI_toInt (by omega)] at h1
  omega
theorem and31 (x : Int32) : ∃ j : Nat, j < 32 ∧ x &&& 31 = nI j := pk_andE x (m := 31) 5 (by decide)
theorem hd_X5_init : yX5_init.cls ≠ "java/lang/invoke/MethodHandle" ∧ yX5_init.cls ≠ "java/lang/invoke/VarHandle" ∧ (parseMethodDescriptor yX5_init.desc).map (fun d => d.parameters.length) = some 0 := by decide +kernel
theorem hd_X6_init : yX6_init.cls ≠ "java/lang/invoke/MethodHandle" ∧ yX6_init.cls ≠ "java/lang/invoke/VarHandle" ∧ (parseMethodDescriptor yX6_init.desc).map (fun d => d.parameters.length) = some 0 := by decide +kernel
set_option maxHeartbeats 4000000 in
set_option maxRecDepth 20000 in
theorem lw_go (l : Launch) (d : KD) (g : gT) (b Ls : Nat) (xs : Nat → Int32) (hLs : Ls ≤ 2048) (X : gx g l room_1 code 4 "HeWreckedHimselfLaw" false d lE (some (b, Ls, xs))) : g 0 0 [] [(0, .ref b)] 0 [] := by
  refine g_new (C := RX5) (T := TX5) (N := 11) (ci := 5) (fs := [.null, .null, .null, .int 0, .null, .null, .int 0, .null, .null, .null, .null]) X rfl inT5 tyX5_ok wd_67 wd_68 wd_52 (by decide +kernel) (Nat.le_of_ble_eq_true rfl) (Nat.le_of_ble_eq_true rfl) dL_law_0 (fun x0 => ?_)
  show g 1 11 [(x0, cO 5 [.null, .null, .null, .int 0, .null, .null, .int 0, .null, .null, .null, .null])] [(0, .ref b)] 3 [.ref x0]
  refine g_dup X dL_law_3 rfl ?_
  refine g_callI (n := 0) (wr := []) (As := []) (st := [.ref x0]) X (ct_X5_init l d x0) wd_71 wd_69 wd_70 wd_52 rfl hd_X5_init ⟨(Nat.le_of_ble_eq_true rfl), (Nat.le_of_ble_eq_true rfl)⟩ rfl rfl dL_law_4 ⟨(Nat.le_of_ble_eq_true rfl), (Nat.le_of_ble_eq_true rfl)⟩ rfl rfl (Nat.le_of_ble_eq_true rfl) [0] [] rfl rfl rfl rfl rfl (by decide) (fun r_ wo_ hp_ => ?_)
  obtain ⟨n0, n1, n2, n3, t0, t1, t2, t3, k0, k1, k2, k3, e0, e1, w1, f1, p0, r1, r2, r3, s0, s1, u0, u1, rfl, rfl⟩ := hp_
  show g 25 736 [(x0, cO 5 [.ref n0, .ref t0, .ref k0, .int 0, .ref e0, .ref w1, .int (nI 0), .ref f1, .ref p0, .ref s0, .ref u0]), (n0, cO 1 [.ref n1, .ref n2, .ref n3]), (n1, cI d 36 (fun _ => 0)), (n2, cI d 36 (fun _ => 1)), (n3, cI d 5 sS0), (t0, cO 1 [.ref t1, .ref t2, .ref t3]), (t1, cI d 36 (fun _ => 0)), (t2, cI d 36 (fun _ => 1)), (t3, cI d 5 sS0), (k0, cO 1 [.ref k1, .ref k2, .ref k3]), (k1, cI d 36 (fun _ => 0)), (k2, cI d 36 (fun _ => 1)), (k3, cI d 5 sS0), (e0, cO 4 [.ref e1, .int (nI 0)]), (e1, cI d 96 (nF (fun _ => 0))), (w1, cI d 16 (nF (fun _ => 0))), (f1, cI d 6 (fun _ => 0)), (p0, cO 0 [.ref r1, .ref r2, .ref r3]), (r1, cI d 36 (fun _ => 0)), (r2, cI d 36 (fun _ => 0)), (r3, cZ d 36 (fun _ => 0)), (s0, cO 3 [.ref s1]), (s1, cI d 216 (fun _ => 0)), (u0, cO 2 [.ref u1]), (u1, cI d 36 (fun _ => 0))] [(0, .ref b)] 7 [.ref x0]
  refine g_astore_n (lv' := [(1, .ref x0), (0, .ref b)]) X dL_law_7 rfl (by decide) rfl ?_
  refine g_new (C := RX6) (T := TX6) (N := 17) (ci := 6) (fs := [.null, .null, .null, .int 0, .null, .int 0, .null, .int 0, .null, .null, .int 0, .null, .null, .null, .null, .null, .null]) X rfl inT6 tyX6_ok wd_790 wd_791 wd_58 (by decide +kernel) (Nat.le_of_ble_eq_true rfl) (Nat.le_of_ble_eq_true rfl) dL_law_8 (fun m0 => ?_)
  show g 26 753 [(x0, cO 5 [.ref n0, .ref t0, .ref k0, .int 0, .ref e0, .ref w1, .int (nI 0), .ref f1, .ref p0, .ref s0, .ref u0]), (n0, cO 1 [.ref n1, .ref n2, .ref n3]), (n1, cI d 36 (fun _ => 0)), (n2, cI d 36 (fun _ => 1)), (n3, cI d 5 sS0), (t0, cO 1 [.ref t1, .ref t2, .ref t3]), (t1, cI d 36 (fun _ => 0)), (t2, cI d 36 (fun _ => 1)), (t3, cI d 5 sS0), (k0, cO 1 [.ref k1, .ref k2, .ref k3]), (k1, cI d 36 (fun _ => 0)), (k2, cI d 36 (fun _ => 1)), (k3, cI d 5 sS0), (e0, cO 4 [.ref e1, .int (nI 0)]), (e1, cI d 96 (nF (fun _ => 0))), (w1, cI d 16 (nF (fun _ => 0))), (f1, cI d 6 (fun _ => 0)), (p0, cO 0 [.ref r1, .ref r2, .ref r3]), (r1, cI d 36 (fun _ => 0)), (r2, cI d 36 (fun _ => 0)), (r3, cZ d 36 (fun _ => 0)), (s0, cO 3 [.ref s1]), (s1, cI d 216 (fun _ => 0)), (u0, cO 2 [.ref u1]), (u1, cI d 36 (fun _ => 0)), (m0, cO 6 [.null, .null, .null, .int 0, .null, .int 0, .null, .int 0, .null, .null, .int 0, .null, .null, .null, .null, .null, .null])] [(1, .ref x0), (0, .ref b)] 11 [.ref m0]
  refine g_dup X dL_law_11 rfl ?_
  refine g_callI (n := 0) (wr := [(x0, cO 5 [.ref n0, .ref t0, .ref k0, .int 0, .ref e0, .ref w1, .int (nI 0), .ref f1, .ref p0, .ref s0, .ref u0]), (n0, cO 1 [.ref n1, .ref n2, .ref n3]), (n1, cI d 36 (fun _ => 0)), (n2, cI d 36 (fun _ => 1)), (n3, cI d 5 sS0), (t0, cO 1 [.ref t1, .ref t2, .ref t3]), (t1, cI d 36 (fun _ => 0)), (t2, cI d 36 (fun _ => 1)), (t3, cI d 5 sS0), (k0, cO 1 [.ref k1, .ref k2, .ref k3]), (k1, cI d 36 (fun _ => 0)), (k2, cI d 36 (fun _ => 1)), (k3, cI d 5 sS0), (e0, cO 4 [.ref e1, .int (nI 0)]), (e1, cI d 96 (nF (fun _ => 0))), (w1, cI d 16 (nF (fun _ => 0))), (f1, cI d 6 (fun _ => 0)), (p0, cO 0 [.ref r1, .ref r2, .ref r3]), (r1, cI d 36 (fun _ => 0)), (r2, cI d 36 (fun _ => 0)), (r3, cZ d 36 (fun _ => 0)), (s0, cO 3 [.ref s1]), (s1, cI d 216 (fun _ => 0)), (u0, cO 2 [.ref u1]), (u1, cI d 36 (fun _ => 0))]) (As := []) (st := [.ref m0]) X (ct_X6_init l d m0) wd_794 wd_792 wd_793 wd_58 rfl hd_X6_init ⟨(Nat.le_of_ble_eq_true rfl), (Nat.le_of_ble_eq_true rfl)⟩ rfl rfl dL_law_12 ⟨(Nat.le_of_ble_eq_true rfl), (Nat.le_of_ble_eq_true rfl)⟩ rfl rfl (Nat.le_of_ble_eq_true rfl) [25] [0, 1, 2, 3, 4, 5, 6, 7, 8, 9, 10, 11, 12, 13, 14, 15, 16, 17, 18, 19, 20, 21, 22, 23, 24] rfl rfl rfl rfl rfl (by decide) (fun r_ wo_ hp_ => ?_)
  obtain ⟨a0, a1, a2, a4, a6, a8, a9, b1, b2, b3, b4, b5, b6, rfl, rfl⟩ := hp_
  show g 39 1620 [(x0, cO 5 [.ref n0, .ref t0, .ref k0, .int 0, .ref e0, .ref w1, .int (nI 0), .ref f1, .ref p0, .ref s0, .ref u0]), (n0, cO 1 [.ref n1, .ref n2, .ref n3]), (n1, cI d 36 (fun _ => 0)), (n2, cI d 36 (fun _ => 1)), (n3, cI d 5 sS0), (t0, cO 1 [.ref t1, .ref t2, .ref t3]), (t1, cI d 36 (fun _ => 0)), (t2, cI d 36 (fun _ => 1)), (t3, cI d 5 sS0), (k0, cO 1 [.ref k1, .ref k2, .ref k3]), (k1, cI d 36 (fun _ => 0)), (k2, cI d 36 (fun _ => 1)), (k3, cI d 5 sS0), (e0, cO 4 [.ref e1, .int (nI 0)]), (e1, cI d 96 (nF (fun _ => 0))), (w1, cI d 16 (nF (fun _ => 0))), (f1, cI d 6 (fun _ => 0)), (p0, cO 0 [.ref r1, .ref r2, .ref r3]), (r1, cI d 36 (fun _ => 0)), (r2, cI d 36 (fun _ => 0)), (r3, cZ d 36 (fun _ => 0)), (s0, cO 3 [.ref s1]), (s1, cI d 216 (fun _ => 0)), (u0, cO 2 [.ref u1]), (u1, cI d 36 (fun _ => 0)), (m0, cO 6 [.ref a0, .ref a1, .ref a2, .int (nI 0), .ref a4, .int (nI 0), .ref a6, .int (nI 0), .ref a8, .ref a9, .int 0, .ref b1, .ref b2, .ref b3, .ref b4, .ref b5, .ref b6]), (a0, cI d 36 (fun _ => 0)), (a1, cI d 36 (fun _ => 1)), (a2, cI d 5 sS0), (a4, cI d 96 (nF (fun _ => 0))), (a6, cI d 8 (fun _ => 0)), (a8, cI d 16 (nF (fun _ => 0))), (a9, cI d 7 (rf7 (fun _ => 0))), (b1, cI d 77 (fun _ => 0)), (b2, cI d 77 (fun _ => 0)), (b3, cI d 77 (fun _ => 0)), (b4, cI d 36 (fun _ => 0)), (b5, cI d 36 (fun _ => 0)), (b6, cI d 360 (fun _ => 0))] [(1, .ref x0), (0, .ref b)] 15 [.ref m0]
  refine g_astore_n (lv' := [(2, .ref m0), (1, .ref x0), (0, .ref b)]) X dL_law_15 rfl (by decide) rfl ?_
  refine g_iconst (v := 0) X dL_law_16 (by decide) ?_
  refine g_istore_n (lv' := [(3, .int 0), (2, .ref m0), (1, .ref x0), (0, .ref b)]) X dL_law_17 rfl (by decide) rfl ?_
  have at_18 : ∀ (n_ : Nat) (i : Nat) (K L S K2 L2 S2 K3 L3 S3 K5 L5 S5 Rf Fc Bf Zf M Uc Vr Pr Qr Fr Hr Ur : Nat → Int32) (A Rw : Nat → Nat) (tn rn ap : Nat) (im : Int32) (hi : i ≤ 2052) (hg : gd K L S) (htn : tn ≤ 96) (hrn : rn ≤ 16) (hA : ∀ q, A q < 256) (hR : ∀ q, Rw q < 100) (him : ¬ im = 0 → (K3 = K5 ∧ L3 = L5 ∧ S3 = S5) ∧ gd K3 L3 S3), (2060 - i) < n_ → g 39 1620 [(x0, cO 5 [.ref n0, .ref t0, .ref k0, .int im, .ref e0, .ref w1, .int (nI rn), .ref f1, .ref p0, .ref s0, .ref u0]), (n0, cO 1 [.ref n1, .ref n2, .ref n3]), (n1, cI d 36 K), (n2, cI d 36 L), (n3, cI d 5 S), (t0, cO 1 [.ref t1, .ref t2, .ref t3]), (t1, cI d 36 K2), (t2, cI d 36 L2), (t3, cI d 5 S2), (k0, cO 1 [.ref k1, .ref k2, .ref k3]), (k1, cI d 36 K3), (k2, cI d 36 L3), (k3, cI d 5 S3), (e0, cO 4 [.ref e1, .int (nI tn)]), (e1, cI d 96 (nF A)), (w1, cI d 16 (nF Rw)), (f1, cI d 6 Rf), (p0, cO 0 [.ref r1, .ref r2, .ref r3]), (r1, cI d 36 Fc), (r2, cI d 36 Bf), (r3, cZ d 36 Zf), (s0, cO 3 [.ref s1]), (s1, cI d 216 M), (u0, cO 2 [.ref u1]), (u1, cI d 36 Uc), (m0, cO 6 [.ref a0, .ref a1, .ref a2, .int (nI tn), .ref a4, .int (nI ap), .ref a6, .int (nI rn), .ref a8, .ref a9, .int im, .ref b1, .ref b2, .ref b3, .ref b4, .ref b5, .ref b6]), (a0, cI d 36 K), (a1, cI d 36 L), (a2, cI d 5 S), (a4, cI d 96 (nF A)), (a6, cI d 8 Vr), (a8, cI d 16 (nF Rw)), (a9, cI d 7 (rf7 Rf)), (b1, cI d 77 (kp K5 L5 S5)), (b2, cI d 77 Pr), (b3, cI d 77 Qr), (b4, cI d 36 Fr), (b5, cI d 36 Hr), (b6, cI d 360 Ur)] [(0, .ref b), (1, .ref x0), (2, .ref m0), (3, .int (nI i))] 18 [] := by
    intro n_
    induction n_ with
    | zero => intro i K L S K2 L2 S2 K3 L3 S3 K5 L5 S5 Rf Fc Bf Zf M Uc Vr Pr Qr Fr Hr Ur A Rw tn rn ap im hi hg htn hrn hA hR him hn_; exact absurd hn_ (Nat.not_lt_zero _)
    | succ n_ ih_18 =>
      intro i K L S K2 L2 S2 K3 L3 S3 K5 L5 S5 Rf Fc Bf Zf M Uc Vr Pr Qr Fr Hr Ur A Rw tn rn ap im hi hg htn hrn hA hR him hn_18
      refine g_iload_n X dL_law_18 rfl 3 rfl ?_
      refine g_aload_n X dL_law_19 rfl 0 rfl ?_
      refine g_sclen X rfl dL_law_20 ?_
      refine g_iconst (v := 4) X dL_law_21 (by decide) ?_
      refine g_isub X dL_law_22 ?_
      refine g_icmp_gt X 989 dL_law_23 (by decide) (fun c23_3 => ?_) (fun c23_3 => ?_)
      · refine g_iconst (v := 1) X dL_law_989 (by decide) ?_
        exact g_end X ⟨Nat.le_of_ble_eq_true rfl, Nat.le_of_ble_eq_true rfl, dL_law_990, rfl⟩
      · have hi4 := lw_lt hLs (by omega) c23_3
        have at_983 : ∀ (K L S K2 L2 S2 K3 L3 S3 K5 L5 S5 Rf Fc Bf Zf M Uc Vr Pr Qr Fr Hr Ur : Nat → Int32) (A Rw : Nat → Nat) (tn rn ap : Nat) (im : Int32) (hg : gd K L S) (htn : tn ≤ 96) (hrn : rn ≤ 16) (hA : ∀ q, A q < 256) (hR : ∀ q, Rw q < 100) (him : ¬ im = 0 → (K3 = K5 ∧ L3 = L5 ∧ S3 = S5) ∧ gd K3 L3 S3), g 39 1620 [(x0, cO 5 [.ref n0, .ref t0, .ref k0, .int im, .ref e0, .ref w1, .int (nI rn), .ref f1, .ref p0, .ref s0, .ref u0]), (n0, cO 1 [.ref n1, .ref n2, .ref n3]), (n1, cI d 36 K), (n2, cI d 36 L), (n3, cI d 5 S), (t0, cO 1 [.ref t1, .ref t2, .ref t3]), (t1, cI d 36 K2), (t2, cI d 36 L2), (t3, cI d 5 S2), (k0, cO 1 [.ref k1, .ref k2, .ref k3]), (k1, cI d 36 K3), (k2, cI d 36 L3), (k3, cI d 5 S3), (e0, cO 4 [.ref e1, .int (nI tn)]), (e1, cI d 96 (nF A)), (w1, cI d 16 (nF Rw)), (f1, cI d 6 Rf), (p0, cO 0 [.ref r1, .ref r2, .ref r3]), (r1, cI d 36 Fc), (r2, cI d 36 Bf), (r3, cZ d 36 Zf), (s0, cO 3 [.ref s1]), (s1, cI d 216 M), (u0, cO 2 [.ref u1]), (u1, cI d 36 Uc), (m0, cO 6 [.ref a0, .ref a1, .ref a2, .int (nI tn), .ref a4, .int (nI ap), .ref a6, .int (nI rn), .ref a8, .ref a9, .int im, .ref b1, .ref b2, .ref b3, .ref b4, .ref b5, .ref b6]), (a0, cI d 36 K), (a1, cI d 36 L), (a2, cI d 5 S), (a4, cI d 96 (nF A)), (a6, cI d 8 Vr), (a8, cI d 16 (nF Rw)), (a9, cI d 7 (rf7 Rf)), (b1, cI d 77 (kp K5 L5 S5)), (b2, cI d 77 Pr), (b3, cI d 77 Qr), (b4, cI d 36 Fr), (b5, cI d 36 Hr), (b6, cI d 360 Ur)] [(0, .ref b), (1, .ref x0), (2, .ref m0), (3, .int (nI i))] 983 [] := by
          intro K L S K2 L2 S2 K3 L3 S3 K5 L5 S5 Rf Fc Bf Zf M Uc Vr Pr Qr Fr Hr Ur A Rw tn rn ap im hg htn hrn hA hR him
          refine g_iinc (v := (nI i) + 4) (lv' := [(3, .int ((nI i) + 4)), (0, .ref b), (1, .ref x0), (2, .ref m0)]) X dL_law_983 3 rfl (by rfl) (by decide) rfl ?_
          refine g_goto X 18 dL_law_986 (by decide) ?_
          refine g_lv (lv' := [(0, .ref b), (1, .ref x0), (2, .ref m0), (3, .int ((nI i) + 4))]) X [1, 2, 3, 0] rfl ?_
          exact g_eq (ws' := [(x0, cO 5 [.ref n0, .ref t0, .ref k0, .int im, .ref e0, .ref w1, .int (nI rn), .ref f1, .ref p0, .ref s0, .ref u0]), (n0, cO 1 [.ref n1, .ref n2, .ref n3]), (n1, cI d 36 K), (n2, cI d 36 L), (n3, cI d 5 S), (t0, cO 1 [.ref t1, .ref t2, .ref t3]), (t1, cI d 36 K2), (t2, cI d 36 L2), (t3, cI d 5 S2), (k0, cO 1 [.ref k1, .ref k2, .ref k3]), (k1, cI d 36 K3), (k2, cI d 36 L3), (k3, cI d 5 S3), (e0, cO 4 [.ref e1, .int (nI tn)]), (e1, cI d 96 (nF A)), (w1, cI d 16 (nF Rw)), (f1, cI d 6 Rf), (p0, cO 0 [.ref r1, .ref r2, .ref r3]), (r1, cI d 36 Fc), (r2, cI d 36 Bf), (r3, cZ d 36 Zf), (s0, cO 3 [.ref s1]), (s1, cI d 216 M), (u0, cO 2 [.ref u1]), (u1, cI d 36 Uc), (m0, cO 6 [.ref a0, .ref a1, .ref a2, .int (nI tn), .ref a4, .int (nI ap), .ref a6, .int (nI rn), .ref a8, .ref a9, .int im, .ref b1, .ref b2, .ref b3, .ref b4, .ref b5, .ref b6]), (a0, cI d 36 K), (a1, cI d 36 L), (a2, cI d 5 S), (a4, cI d 96 (nF A)), (a6, cI d 8 Vr), (a8, cI d 16 (nF Rw)), (a9, cI d 7 (rf7 Rf)), (b1, cI d 77 (kp K5 L5 S5)), (b2, cI d 77 Pr), (b3, cI d 77 Qr), (b4, cI d 36 Fr), (b5, cI d 36 Hr), (b6, cI d 360 Ur)]) (lv' := [(0, .ref b), (1, .ref x0), (2, .ref m0), (3, .int (nI (i + 4)))]) (rfl) (lv_cons (rfl) (lv_cons (rfl) (lv_cons (rfl) (lv_cons (vI (nI_add i 4)) (rfl))))) (ih_18 (i + 4) K L S K2 L2 S2 K3 L3 S3 K5 L5 S5 Rf Fc Bf Zf M Uc Vr Pr Qr Fr Hr Ur A Rw tn rn ap im (by first | assumption | omega) (hg) (htn) (hrn) (hA) (hR) (him) (by omega))
        have at_176 := lw_case_0 l d g b Ls xs hLs X x0 n0 n1 n2 n3 t0 t1 t2 t3 k0 k1 k2 k3 e0 e1 w1 f1 p0 r1 r2 r3 s0 s1 u0 u1 m0 a0 a1 a2 a4 a6 a8 a9 b1 b2 b3 b4 b5 b6 i hi4 at_983
        have at_199 := lw_case_1 l d g b Ls xs hLs X x0 n0 n1 n2 n3 t0 t1 t2 t3 k0 k1 k2 k3 e0 e1 w1 f1 p0 r1 r2 r3 s0 s1 u0 u1 m0 a0 a1 a2 a4 a6 a8 a9 b1 b2 b3 b4 b5 b6 i hi4 at_983
        have at_212 := lw_case_2 l d g b Ls xs hLs X x0 n0 n1 n2 n3 t0 t1 t2 t3 k0 k1 k2 k3 e0 e1 w1 f1 p0 r1 r2 r3 s0 s1 u0 u1 m0 a0 a1 a2 a4 a6 a8 a9 b1 b2 b3 b4 b5 b6 i hi4 at_983
        have at_245 := lw_case_3 l d g b Ls xs hLs X x0 n0 n1 n2 n3 t0 t1 t2 t3 k0 k1 k2 k3 e0 e1 w1 f1 p0 r1 r2 r3 s0 s1 u0 u1 m0 a0 a1 a2 a4 a6 a8 a9 b1 b2 b3 b4 b5 b6 i hi4 at_983
        have at_278 := lw_case_4 l d g b Ls xs hLs X x0 n0 n1 n2 n3 t0 t1 t2 t3 k0 k1 k2 k3 e0 e1 w1 f1 p0 r1 r2 r3 s0 s1 u0 u1 m0 a0 a1 a2 a4 a6 a8 a9 b1 b2 b3 b4 b5 b6 i hi4 at_983
        have at_311 := lw_case_5 l d g b Ls xs hLs X x0 n0 n1 n2 n3 t0 t1 t2 t3 k0 k1 k2 k3 e0 e1 w1 f1 p0 r1 r2 r3 s0 s1 u0 u1 m0 a0 a1 a2 a4 a6 a8 a9 b1 b2 b3 b4 b5 b6 i hi4 at_983
        have at_344 := lw_case_6 l d g b Ls xs hLs X x0 n0 n1 n2 n3 t0 t1 t2 t3 k0 k1 k2 k3 e0 e1 w1 f1 p0 r1 r2 r3 s0 s1 u0 u1 m0 a0 a1 a2 a4 a6 a8 a9 b1 b2 b3 b4 b5 b6 i hi4 at_983
        have at_377 := lw_case_7 l d g b Ls xs hLs X x0 n0 n1 n2 n3 t0 t1 t2 t3 k0 k1 k2 k3 e0 e1 w1 f1 p0 r1 r2 r3 s0 s1 u0 u1 m0 a0 a1 a2 a4 a6 a8 a9 b1 b2 b3 b4 b5 b6 i hi4 at_983
        have at_410 := lw_case_8 l d g b Ls xs hLs X x0 n0 n1 n2 n3 t0 t1 t2 t3 k0 k1 k2 k3 e0 e1 w1 f1 p0 r1 r2 r3 s0 s1 u0 u1 m0 a0 a1 a2 a4 a6 a8 a9 b1 b2 b3 b4 b5 b6 i hi4 at_983
        have at_443 := lw_case_9 l d g b Ls xs hLs X x0 n0 n1 n2 n3 t0 t1 t2 t3 k0 k1 k2 k3 e0 e1 w1 f1 p0 r1 r2 r3 s0 s1 u0 u1 m0 a0 a1 a2 a4 a6 a8 a9 b1 b2 b3 b4 b5 b6 i hi4 at_983
        have at_466 := lw_case_10 l d g b Ls xs hLs X x0 n0 n1 n2 n3 t0 t1 t2 t3 k0 k1 k2 k3 e0 e1 w1 f1 p0 r1 r2 r3 s0 s1 u0 u1 m0 a0 a1 a2 a4 a6 a8 a9 b1 b2 b3 b4 b5 b6 i hi4 at_983
        have at_489 := lw_case_11 l d g b Ls xs hLs X x0 n0 n1 n2 n3 t0 t1 t2 t3 k0 k1 k2 k3 e0 e1 w1 f1 p0 r1 r2 r3 s0 s1 u0 u1 m0 a0 a1 a2 a4 a6 a8 a9 b1 b2 b3 b4 b5 b6 i hi4 at_983
        have at_512 := lw_case_12 l d g b Ls xs hLs X x0 n0 n1 n2 n3 t0 t1 t2 t3 k0 k1 k2 k3 e0 e1 w1 f1 p0 r1 r2 r3 s0 s1 u0 u1 m0 a0 a1 a2 a4 a6 a8 a9 b1 b2 b3 b4 b5 b6 i hi4 at_983
        have at_535 := lw_case_13 l d g b Ls xs hLs X x0 n0 n1 n2 n3 t0 t1 t2 t3 k0 k1 k2 k3 e0 e1 w1 f1 p0 r1 r2 r3 s0 s1 u0 u1 m0 a0 a1 a2 a4 a6 a8 a9 b1 b2 b3 b4 b5 b6 i hi4 at_983
        have at_558 := lw_case_14 l d g b Ls xs hLs X x0 n0 n1 n2 n3 t0 t1 t2 t3 k0 k1 k2 k3 e0 e1 w1 f1 p0 r1 r2 r3 s0 s1 u0 u1 m0 a0 a1 a2 a4 a6 a8 a9 b1 b2 b3 b4 b5 b6 i hi4 at_983
        have at_582 := lw_case_15 l d g b Ls xs hLs X x0 n0 n1 n2 n3 t0 t1 t2 t3 k0 k1 k2 k3 e0 e1 w1 f1 p0 r1 r2 r3 s0 s1 u0 u1 m0 a0 a1 a2 a4 a6 a8 a9 b1 b2 b3 b4 b5 b6 i hi4 at_983
        have at_595 := lw_case_16 l d g b Ls xs hLs X x0 n0 n1 n2 n3 t0 t1 t2 t3 k0 k1 k2 k3 e0 e1 w1 f1 p0 r1 r2 r3 s0 s1 u0 u1 m0 a0 a1 a2 a4 a6 a8 a9 b1 b2 b3 b4 b5 b6 i hi4 at_983
        have at_608 := lw_case_17 l d g b Ls xs hLs X x0 n0 n1 n2 n3 t0 t1 t2 t3 k0 k1 k2 k3 e0 e1 w1 f1 p0 r1 r2 r3 s0 s1 u0 u1 m0 a0 a1 a2 a4 a6 a8 a9 b1 b2 b3 b4 b5 b6 i hi4 at_983
        have at_631 := lw_case_18 l d g b Ls xs hLs X x0 n0 n1 n2 n3 t0 t1 t2 t3 k0 k1 k2 k3 e0 e1 w1 f1 p0 r1 r2 r3 s0 s1 u0 u1 m0 a0 a1 a2 a4 a6 a8 a9 b1 b2 b3 b4 b5 b6 i hi4 at_983
        have at_664 := lw_case_19 l d g b Ls xs hLs X x0 n0 n1 n2 n3 t0 t1 t2 t3 k0 k1 k2 k3 e0 e1 w1 f1 p0 r1 r2 r3 s0 s1 u0 u1 m0 a0 a1 a2 a4 a6 a8 a9 b1 b2 b3 b4 b5 b6 i hi4 at_983
        have at_697 := lw_case_20 l d g b Ls xs hLs X x0 n0 n1 n2 n3 t0 t1 t2 t3 k0 k1 k2 k3 e0 e1 w1 f1 p0 r1 r2 r3 s0 s1 u0 u1 m0 a0 a1 a2 a4 a6 a8 a9 b1 b2 b3 b4 b5 b6 i hi4 at_983
        have at_720 := lw_case_21 l d g b Ls xs hLs X x0 n0 n1 n2 n3 t0 t1 t2 t3 k0 k1 k2 k3 e0 e1 w1 f1 p0 r1 r2 r3 s0 s1 u0 u1 m0 a0 a1 a2 a4 a6 a8 a9 b1 b2 b3 b4 b5 b6 i hi4 at_983
        have at_763 := lw_case_22 l d g b Ls xs hLs X x0 n0 n1 n2 n3 t0 t1 t2 t3 k0 k1 k2 k3 e0 e1 w1 f1 p0 r1 r2 r3 s0 s1 u0 u1 m0 a0 a1 a2 a4 a6 a8 a9 b1 b2 b3 b4 b5 b6 i hi4 at_983
        have at_786 := lw_case_23 l d g b Ls xs hLs X x0 n0 n1 n2 n3 t0 t1 t2 t3 k0 k1 k2 k3 e0 e1 w1 f1 p0 r1 r2 r3 s0 s1 u0 u1 m0 a0 a1 a2 a4 a6 a8 a9 b1 b2 b3 b4 b5 b6 i hi4 at_983
        have at_809 := lw_case_24 l d g b Ls xs hLs X x0 n0 n1 n2 n3 t0 t1 t2 t3 k0 k1 k2 k3 e0 e1 w1 f1 p0 r1 r2 r3 s0 s1 u0 u1 m0 a0 a1 a2 a4 a6 a8 a9 b1 b2 b3 b4 b5 b6 i hi4 at_983
        have at_832 := lw_case_25 l d g b Ls xs hLs X x0 n0 n1 n2 n3 t0 t1 t2 t3 k0 k1 k2 k3 e0 e1 w1 f1 p0 r1 r2 r3 s0 s1 u0 u1 m0 a0 a1 a2 a4 a6 a8 a9 b1 b2 b3 b4 b5 b6 i hi4 at_983
        have at_855 := lw_case_26 l d g b Ls xs hLs X x0 n0 n1 n2 n3 t0 t1 t2 t3 k0 k1 k2 k3 e0 e1 w1 f1 p0 r1 r2 r3 s0 s1 u0 u1 m0 a0 a1 a2 a4 a6 a8 a9 b1 b2 b3 b4 b5 b6 i hi4 at_983
        have at_878 := lw_case_27 l d g b Ls xs hLs X x0 n0 n1 n2 n3 t0 t1 t2 t3 k0 k1 k2 k3 e0 e1 w1 f1 p0 r1 r2 r3 s0 s1 u0 u1 m0 a0 a1 a2 a4 a6 a8 a9 b1 b2 b3 b4 b5 b6 i hi4 at_983
        have at_891 := lw_case_28 l d g b Ls xs hLs X x0 n0 n1 n2 n3 t0 t1 t2 t3 k0 k1 k2 k3 e0 e1 w1 f1 p0 r1 r2 r3 s0 s1 u0 u1 m0 a0 a1 a2 a4 a6 a8 a9 b1 b2 b3 b4 b5 b6 i hi4 at_983
        have at_934 := lw_case_29 l d g b Ls xs hLs X x0 n0 n1 n2 n3 t0 t1 t2 t3 k0 k1 k2 k3 e0 e1 w1 f1 p0 r1 r2 r3 s0 s1 u0 u1 m0 a0 a1 a2 a4 a6 a8 a9 b1 b2 b3 b4 b5 b6 i hi4 at_983
        have at_947 := lw_case_30 l d g b Ls xs hLs X x0 n0 n1 n2 n3 t0 t1 t2 t3 k0 k1 k2 k3 e0 e1 w1 f1 p0 r1 r2 r3 s0 s1 u0 u1 m0 a0 a1 a2 a4 a6 a8 a9 b1 b2 b3 b4 b5 b6 i hi4 at_983
        have at_960 := lw_case_31 l d g b Ls xs hLs X x0 n0 n1 n2 n3 t0 t1 t2 t3 k0 k1 k2 k3 e0 e1 w1 f1 p0 r1 r2 r3 s0 s1 u0 u1 m0 a0 a1 a2 a4 a6 a8 a9 b1 b2 b3 b4 b5 b6 i hi4 at_983
        refine g_aload_n X dL_law_26 rfl 0 rfl ?_
        refine g_iload_n X dL_law_27 rfl 3 rfl ?_
        refine g_scld X rfl (vp_in_nI (by omega) (by omega)) dL_law_28 ?_
        refine g_bipush (v := 31) X dL_law_29 (by decide) ?_
        refine g_iand X dL_law_31 ?_
        obtain ⟨j, hj, ej⟩ := and31 (xs (nI i).toNatClampNeg)
        refine g_tope (y := nI j) (ej) ?_
        rcases Nat.decEq j 0 with k32_4 | k32_4
        rotate_left
        · subst k32_4
          refine g_tope (y := 0) (by rfl) ?_
          refine g_eq (lv' := [(0, .ref b), (1, .ref x0), (2, .ref m0), (3, .int (nI i))]) rfl (by rfl) ?_
          refine g_tableIn (off := 144) X 176 dL_law_32 (by decide) (by decide) (by decide +kernel) (by decide) ?_
          exact at_176 K L S K2 L2 S2 K3 L3 S3 K5 L5 S5 Rf Fc Bf Zf M Uc Vr Pr Qr Fr Hr Ur A Rw tn rn ap im (hg) (htn) (hrn) (hA) (hR) (him)
        rcases Nat.decEq j 1 with k32_5 | k32_5
        rotate_left
        · subst k32_5
          refine g_tope (y := 1) (by rfl) ?_
          refine g_eq (lv' := [(0, .ref b), (1, .ref x0), (2, .ref m0), (3, .int (nI i))]) rfl (by rfl) ?_
          refine g_tableIn (off := 167) X 199 dL_law_32 (by decide) (by decide) (by decide +kernel) (by decide) ?_
          exact at_199 K L S K2 L2 S2 K3 L3 S3 K5 L5 S5 Rf Fc Bf Zf M Uc Vr Pr Qr Fr Hr Ur A Rw tn rn ap im (hg) (htn) (hrn) (hA) (hR) (him)
        rcases Nat.decEq j 2 with k32_6 | k32_6
        rotate_left
        · subst k32_6
          refine g_tope (y := 2) (by rfl) ?_
          refine g_eq (lv' := [(0, .ref b), (1, .ref x0), (2, .ref m0), (3, .int (nI i))]) rfl (by rfl) ?_
          refine g_tableIn (off := 180) X 212 dL_law_32 (by decide) (by decide) (by decide +kernel) (by decide) ?_
          exact at_212 K L S K2 L2 S2 K3 L3 S3 K5 L5 S5 Rf Fc Bf Zf M Uc Vr Pr Qr Fr Hr Ur A Rw tn rn ap im (hg) (htn) (hrn) (hA) (hR) (him)
        rcases Nat.decEq j 3 with k32_7 | k32_7
        rotate_left
        · subst k32_7
          refine g_tope (y := 3) (by rfl) ?_
          refine g_eq (lv' := [(0, .ref b), (1, .ref x0), (2, .ref m0), (3, .int (nI i))]) rfl (by rfl) ?_
          refine g_tableIn (off := 213) X 245 dL_law_32 (by decide) (by decide) (by decide +kernel) (by decide) ?_
          exact at_245 K L S K2 L2 S2 K3 L3 S3 K5 L5 S5 Rf Fc Bf Zf M Uc Vr Pr Qr Fr Hr Ur A Rw tn rn ap im (hg) (htn) (hrn) (hA) (hR) (him)
        rcases Nat.decEq j 4 with k32_8 | k32_8
        rotate_left
        · subst k32_8
          refine g_tope (y := 4) (by rfl) ?_
          refine g_eq (lv' := [(0, .ref b), (1, .ref x0), (2, .ref m0), (3, .int (nI i))]) rfl (by rfl) ?_
          refine g_tableIn (off := 246) X 278 dL_law_32 (by decide) (by decide) (by decide +kernel) (by decide) ?_
          exact at_278 K L S K2 L2 S2 K3 L3 S3 K5 L5 S5 Rf Fc Bf Zf M Uc Vr Pr Qr Fr Hr Ur A Rw tn rn ap im (hg) (htn) (hrn) (hA) (hR) (him)
        rcases Nat.decEq j 5 with k32_9 | k32_9
        rotate_left
        · subst k32_9
          refine g_tope (y := 5) (by rfl) ?_
          refine g_eq (lv' := [(0, .ref b), (1, .ref x0), (2, .ref m0), (3, .int (nI i))]) rfl (by rfl) ?_
          refine g_tableIn (off := 279) X 311 dL_law_32 (by decide) (by decide) (by decide +kernel) (by decide) ?_
          exact at_311 K L S K2 L2 S2 K3 L3 S3 K5 L5 S5 Rf Fc Bf Zf M Uc Vr Pr Qr Fr Hr Ur A Rw tn rn ap im (hg) (htn) (hrn) (hA) (hR) (him)
        rcases Nat.decEq j 6 with k32_10 | k32_10
        rotate_left
        · subst k32_10
          refine g_tope (y := 6) (by rfl) ?_
          refine g_eq (lv' := [(0, .ref b), (1, .ref x0), (2, .ref m0), (3, .int (nI i))]) rfl (by rfl) ?_
          refine g_tableIn (off := 312) X 344 dL_law_32 (by decide) (by decide) (by decide +kernel) (by decide) ?_
          exact at_344 K L S K2 L2 S2 K3 L3 S3 K5 L5 S5 Rf Fc Bf Zf M Uc Vr Pr Qr Fr Hr Ur A Rw tn rn ap im (hg) (htn) (hrn) (hA) (hR) (him)
        rcases Nat.decEq j 7 with k32_11 | k32_11
        rotate_left
        · subst k32_11
          refine g_tope (y := 7) (by rfl) ?_
          refine g_eq (lv' := [(0, .ref b), (1, .ref x0), (2, .ref m0), (3, .int (nI i))]) rfl (by rfl) ?_
          refine g_tableIn (off := 345) X 377 dL_law_32 (by decide) (by decide) (by decide +kernel) (by decide) ?_
          exact at_377 K L S K2 L2 S2 K3 L3 S3 K5 L5 S5 Rf Fc Bf Zf M Uc Vr Pr Qr Fr Hr Ur A Rw tn rn ap im (hg) (htn) (hrn) (hA) (hR) (him)
        rcases Nat.decEq j 8 with k32_12 | k32_12
        rotate_left
        · subst k32_12
          refine g_tope (y := 8) (by rfl) ?_
          refine g_eq (lv' := [(0, .ref b), (1, .ref x0), (2, .ref m0), (3, .int (nI i))]) rfl (by rfl) ?_
          refine g_tableIn (off := 378) X 410 dL_law_32 (by decide) (by decide) (by decide +kernel) (by decide) ?_
          exact at_410 K L S K2 L2 S2 K3 L3 S3 K5 L5 S5 Rf Fc Bf Zf M Uc Vr Pr Qr Fr Hr Ur A Rw tn rn ap im (hg) (htn) (hrn) (hA) (hR) (him)
        rcases Nat.decEq j 9 with k32_13 | k32_13
        rotate_left
        · subst k32_13
          refine g_tope (y := 9) (by rfl) ?_
          refine g_eq (lv' := [(0, .ref b), (1, .ref x0), (2, .ref m0), (3, .int (nI i))]) rfl (by rfl) ?_
          refine g_tableIn (off := 411) X 443 dL_law_32 (by decide) (by decide) (by decide +kernel) (by decide) ?_
          exact at_443 K L S K2 L2 S2 K3 L3 S3 K5 L5 S5 Rf Fc Bf Zf M Uc Vr Pr Qr Fr Hr Ur A Rw tn rn ap im (hg) (htn) (hrn) (hA) (hR) (him)
        rcases Nat.decEq j 10 with k32_14 | k32_14
        rotate_left
        · subst k32_14
          refine g_tope (y := 10) (by rfl) ?_
          refine g_eq (lv' := [(0, .ref b), (1, .ref x0), (2, .ref m0), (3, .int (nI i))]) rfl (by rfl) ?_
          refine g_tableIn (off := 434) X 466 dL_law_32 (by decide) (by decide) (by decide +kernel) (by decide) ?_
          exact at_466 K L S K2 L2 S2 K3 L3 S3 K5 L5 S5 Rf Fc Bf Zf M Uc Vr Pr Qr Fr Hr Ur A Rw tn rn ap im (hg) (htn) (hrn) (hA) (hR) (him)
        rcases Nat.decEq j 11 with k32_15 | k32_15
        rotate_left
        · subst k32_15
          refine g_tope (y := 11) (by rfl) ?_
          refine g_eq (lv' := [(0, .ref b), (1, .ref x0), (2, .ref m0), (3, .int (nI i))]) rfl (by rfl) ?_
          refine g_tableIn (off := 457) X 489 dL_law_32 (by decide) (by decide) (by decide +kernel) (by decide) ?_
          exact at_489 K L S K2 L2 S2 K3 L3 S3 K5 L5 S5 Rf Fc Bf Zf M Uc Vr Pr Qr Fr Hr Ur A Rw tn rn ap im (hg) (htn) (hrn) (hA) (hR) (him)
        rcases Nat.decEq j 12 with k32_16 | k32_16
        rotate_left
        · subst k32_16
          refine g_tope (y := 12) (by rfl) ?_
          refine g_eq (lv' := [(0, .ref b), (1, .ref x0), (2, .ref m0), (3, .int (nI i))]) rfl (by rfl) ?_
          refine g_tableIn (off := 480) X 512 dL_law_32 (by decide) (by decide) (by decide +kernel) (by decide) ?_
          exact at_512 K L S K2 L2 S2 K3 L3 S3 K5 L5 S5 Rf Fc Bf Zf M Uc Vr Pr Qr Fr Hr Ur A Rw tn rn ap im (hg) (htn) (hrn) (hA) (hR) (him)
        rcases Nat.decEq j 13 with k32_17 | k32_17
        rotate_left
        · subst k32_17
          refine g_tope (y := 13) (by rfl) ?_
          refine g_eq (lv' := [(0, .ref b), (1, .ref x0), (2, .ref m0), (3, .int (nI i))]) rfl (by rfl) ?_
          refine g_tableIn (off := 503) X 535 dL_law_32 (by decide) (by decide) (by decide +kernel) (by decide) ?_
          exact at_535 K L S K2 L2 S2 K3 L3 S3 K5 L5 S5 Rf Fc Bf Zf M Uc Vr Pr Qr Fr Hr Ur A Rw tn rn ap im (hg) (htn) (hrn) (hA) (hR) (him)
        rcases Nat.decEq j 14 with k32_18 | k32_18
        rotate_left
        · subst k32_18
          refine g_tope (y := 14) (by rfl) ?_
          refine g_eq (lv' := [(0, .ref b), (1, .ref x0), (2, .ref m0), (3, .int (nI i))]) rfl (by rfl) ?_
          refine g_tableIn (off := 526) X 558 dL_law_32 (by decide) (by decide) (by decide +kernel) (by decide) ?_
          exact at_558 K L S K2 L2 S2 K3 L3 S3 K5 L5 S5 Rf Fc Bf Zf M Uc Vr Pr Qr Fr Hr Ur A Rw tn rn ap im (hg) (htn) (hrn) (hA) (hR) (him)
        rcases Nat.decEq j 15 with k32_19 | k32_19
        rotate_left
        · subst k32_19
          refine g_tope (y := 15) (by rfl) ?_
          refine g_eq (lv' := [(0, .ref b), (1, .ref x0), (2, .ref m0), (3, .int (nI i))]) rfl (by rfl) ?_
          refine g_tableIn (off := 550) X 582 dL_law_32 (by decide) (by decide) (by decide +kernel) (by decide) ?_
          exact at_582 K L S K2 L2 S2 K3 L3 S3 K5 L5 S5 Rf Fc Bf Zf M Uc Vr Pr Qr Fr Hr Ur A Rw tn rn ap im (hg) (htn) (hrn) (hA) (hR) (him)
        rcases Nat.decEq j 16 with k32_20 | k32_20
        rotate_left
        · subst k32_20
          refine g_tope (y := 16) (by rfl) ?_
          refine g_eq (lv' := [(0, .ref b), (1, .ref x0), (2, .ref m0), (3, .int (nI i))]) rfl (by rfl) ?_
          refine g_tableIn (off := 563) X 595 dL_law_32 (by decide) (by decide) (by decide +kernel) (by decide) ?_
          exact at_595 K L S K2 L2 S2 K3 L3 S3 K5 L5 S5 Rf Fc Bf Zf M Uc Vr Pr Qr Fr Hr Ur A Rw tn rn ap im (hg) (htn) (hrn) (hA) (hR) (him)
        rcases Nat.decEq j 17 with k32_21 | k32_21
        rotate_left
        · subst k32_21
          refine g_tope (y := 17) (by rfl) ?_
          refine g_eq (lv' := [(0, .ref b), (1, .ref x0), (2, .ref m0), (3, .int (nI i))]) rfl (by rfl) ?_
          refine g_tableIn (off := 576) X 608 dL_law_32 (by decide) (by decide) (by decide +kernel) (by decide) ?_
          exact at_608 K L S K2 L2 S2 K3 L3 S3 K5 L5 S5 Rf Fc Bf Zf M Uc Vr Pr Qr Fr Hr Ur A Rw tn rn ap im (hg) (htn) (hrn) (hA) (hR) (him)
        rcases Nat.decEq j 18 with k32_22 | k32_22
        rotate_left
        · subst k32_22
          refine g_tope (y := 18) (by rfl) ?_
          refine g_eq (lv' := [(0, .ref b), (1, .ref x0), (2, .ref m0), (3, .int (nI i))]) rfl (by rfl) ?_
          refine g_tableIn (off := 599) X 631 dL_law_32 (by decide) (by decide) (by decide +kernel) (by decide) ?_
          exact at_631 K L S K2 L2 S2 K3 L3 S3 K5 L5 S5 Rf Fc Bf Zf M Uc Vr Pr Qr Fr Hr Ur A Rw tn rn ap im (hg) (htn) (hrn) (hA) (hR) (him)
        rcases Nat.decEq j 19 with k32_23 | k32_23
        rotate_left
        · subst k32_23
          refine g_tope (y := 19) (by rfl) ?_
          refine g_eq (lv' := [(0, .ref b), (1, .ref x0), (2, .ref m0), (3, .int (nI i))]) rfl (by rfl) ?_
          refine g_tableIn (off := 632) X 664 dL_law_32 (by decide) (by decide) (by decide +kernel) (by decide) ?_
          exact at_664 K L S K2 L2 S2 K3 L3 S3 K5 L5 S5 Rf Fc Bf Zf M Uc Vr Pr Qr Fr Hr Ur A Rw tn rn ap im (hg) (htn) (hrn) (hA) (hR) (him)
        rcases Nat.decEq j 20 with k32_24 | k32_24
        rotate_left
        · subst k32_24
          refine g_tope (y := 20) (by rfl) ?_
          refine g_eq (lv' := [(0, .ref b), (1, .ref x0), (2, .ref m0), (3, .int (nI i))]) rfl (by rfl) ?_
          refine g_tableIn (off := 665) X 697 dL_law_32 (by decide) (by decide) (by decide +kernel) (by decide) ?_
          exact at_697 K L S K2 L2 S2 K3 L3 S3 K5 L5 S5 Rf Fc Bf Zf M Uc Vr Pr Qr Fr Hr Ur A Rw tn rn ap im (hg) (htn) (hrn) (hA) (hR) (him)
        rcases Nat.decEq j 21 with k32_25 | k32_25
        rotate_left
        · subst k32_25
          refine g_tope (y := 21) (by rfl) ?_
          refine g_eq (lv' := [(0, .ref b), (1, .ref x0), (2, .ref m0), (3, .int (nI i))]) rfl (by rfl) ?_
          refine g_tableIn (off := 688) X 720 dL_law_32 (by decide) (by decide) (by decide +kernel) (by decide) ?_
          exact at_720 K L S K2 L2 S2 K3 L3 S3 K5 L5 S5 Rf Fc Bf Zf M Uc Vr Pr Qr Fr Hr Ur A Rw tn rn ap im (hg) (htn) (hrn) (hA) (hR) (him)
        rcases Nat.decEq j 22 with k32_26 | k32_26
        rotate_left
        · subst k32_26
          refine g_tope (y := 22) (by rfl) ?_
          refine g_eq (lv' := [(0, .ref b), (1, .ref x0), (2, .ref m0), (3, .int (nI i))]) rfl (by rfl) ?_
          refine g_tableIn (off := 731) X 763 dL_law_32 (by decide) (by decide) (by decide +kernel) (by decide) ?_
          exact at_763 K L S K2 L2 S2 K3 L3 S3 K5 L5 S5 Rf Fc Bf Zf M Uc Vr Pr Qr Fr Hr Ur A Rw tn rn ap im (hg) (htn) (hrn) (hA) (hR) (him)
        rcases Nat.decEq j 23 with k32_27 | k32_27
        rotate_left
        · subst k32_27
          refine g_tope (y := 23) (by rfl) ?_
          refine g_eq (lv' := [(0, .ref b), (1, .ref x0), (2, .ref m0), (3, .int (nI i))]) rfl (by rfl) ?_
          refine g_tableIn (off := 754) X 786 dL_law_32 (by decide) (by decide) (by decide +kernel) (by decide) ?_
          exact at_786 K L S K2 L2 S2 K3 L3 S3 K5 L5 S5 Rf Fc Bf Zf M Uc Vr Pr Qr Fr Hr Ur A Rw tn rn ap im (hg) (htn) (hrn) (hA) (hR) (him)
        rcases Nat.decEq j 24 with k32_28 | k32_28
        rotate_left
        · subst k32_28
          refine g_tope (y := 24) (by rfl) ?_
          refine g_eq (lv' := [(0, .ref b), (1, .ref x0), (2, .ref m0), (3, .int (nI i))]) rfl (by rfl) ?_
          refine g_tableIn (off := 777) X 809 dL_law_32 (by decide) (by decide) (by decide +kernel) (by decide) ?_
          exact at_809 K L S K2 L2 S2 K3 L3 S3 K5 L5 S5 Rf Fc Bf Zf M Uc Vr Pr Qr Fr Hr Ur A Rw tn rn ap im (hg) (htn) (hrn) (hA) (hR) (him)
        rcases Nat.decEq j 25 with k32_29 | k32_29
        rotate_left
        · subst k32_29
          refine g_tope (y := 25) (by rfl) ?_
          refine g_eq (lv' := [(0, .ref b), (1, .ref x0), (2, .ref m0), (3, .int (nI i))]) rfl (by rfl) ?_
          refine g_tableIn (off := 800) X 832 dL_law_32 (by decide) (by decide) (by decide +kernel) (by decide) ?_
          exact at_832 K L S K2 L2 S2 K3 L3 S3 K5 L5 S5 Rf Fc Bf Zf M Uc Vr Pr Qr Fr Hr Ur A Rw tn rn ap im (hg) (htn) (hrn) (hA) (hR) (him)
        rcases Nat.decEq j 26 with k32_30 | k32_30
        rotate_left
        · subst k32_30
          refine g_tope (y := 26) (by rfl) ?_
          refine g_eq (lv' := [(0, .ref b), (1, .ref x0), (2, .ref m0), (3, .int (nI i))]) rfl (by rfl) ?_
          refine g_tableIn (off := 823) X 855 dL_law_32 (by decide) (by decide) (by decide +kernel) (by decide) ?_
          exact at_855 K L S K2 L2 S2 K3 L3 S3 K5 L5 S5 Rf Fc Bf Zf M Uc Vr Pr Qr Fr Hr Ur A Rw tn rn ap im (hg) (htn) (hrn) (hA) (hR) (him)
        rcases Nat.decEq j 27 with k32_31 | k32_31
        rotate_left
        · subst k32_31
          refine g_tope (y := 27) (by rfl) ?_
          refine g_eq (lv' := [(0, .ref b), (1, .ref x0), (2, .ref m0), (3, .int (nI i))]) rfl (by rfl) ?_
          refine g_tableIn (off := 846) X 878 dL_law_32 (by decide) (by decide) (by decide +kernel) (by decide) ?_
          exact at_878 K L S K2 L2 S2 K3 L3 S3 K5 L5 S5 Rf Fc Bf Zf M Uc Vr Pr Qr Fr Hr Ur A Rw tn rn ap im (hg) (htn) (hrn) (hA) (hR) (him)
        rcases Nat.decEq j 28 with k32_32 | k32_32
        rotate_left
        · subst k32_32
          refine g_tope (y := 28) (by rfl) ?_
          refine g_eq (lv' := [(0, .ref b), (1, .ref x0), (2, .ref m0), (3, .int (nI i))]) rfl (by rfl) ?_
          refine g_tableIn (off := 859) X 891 dL_law_32 (by decide) (by decide) (by decide +kernel) (by decide) ?_
          exact at_891 K L S K2 L2 S2 K3 L3 S3 K5 L5 S5 Rf Fc Bf Zf M Uc Vr Pr Qr Fr Hr Ur A Rw tn rn ap im (hg) (htn) (hrn) (hA) (hR) (him)
        rcases Nat.decEq j 29 with k32_33 | k32_33
        rotate_left
        · subst k32_33
          refine g_tope (y := 29) (by rfl) ?_
          refine g_eq (lv' := [(0, .ref b), (1, .ref x0), (2, .ref m0), (3, .int (nI i))]) rfl (by rfl) ?_
          refine g_tableIn (off := 902) X 934 dL_law_32 (by decide) (by decide) (by decide +kernel) (by decide) ?_
          exact at_934 K L S K2 L2 S2 K3 L3 S3 K5 L5 S5 Rf Fc Bf Zf M Uc Vr Pr Qr Fr Hr Ur A Rw tn rn ap im (hg) (htn) (hrn) (hA) (hR) (him)
        rcases Nat.decEq j 30 with k32_34 | k32_34
        rotate_left
        · subst k32_34
          refine g_tope (y := 30) (by rfl) ?_
          refine g_eq (lv' := [(0, .ref b), (1, .ref x0), (2, .ref m0), (3, .int (nI i))]) rfl (by rfl) ?_
          refine g_tableIn (off := 915) X 947 dL_law_32 (by decide) (by decide) (by decide +kernel) (by decide) ?_
          exact at_947 K L S K2 L2 S2 K3 L3 S3 K5 L5 S5 Rf Fc Bf Zf M Uc Vr Pr Qr Fr Hr Ur A Rw tn rn ap im (hg) (htn) (hrn) (hA) (hR) (him)
        rcases Nat.decEq j 31 with k32_35 | k32_35
        rotate_left
        · subst k32_35
          refine g_tope (y := 31) (by rfl) ?_
          refine g_eq (lv' := [(0, .ref b), (1, .ref x0), (2, .ref m0), (3, .int (nI i))]) rfl (by rfl) ?_
          refine g_tableIn (off := 928) X 960 dL_law_32 (by decide) (by decide) (by decide +kernel) (by decide) ?_
          exact at_960 K L S K2 L2 S2 K3 L3 S3 K5 L5 S5 Rf Fc Bf Zf M Uc Vr Pr Qr Fr Hr Ur A Rw tn rn ap im (hg) (htn) (hrn) (hA) (hR) (him)
        exact absurd hj (by omega)
  refine g_lv (lv' := [(0, .ref b), (1, .ref x0), (2, .ref m0), (3, .int 0)]) X [3, 2, 1, 0] rfl ?_
  exact g_eq (ws' := [(x0, cO 5 [.ref n0, .ref t0, .ref k0, .int 0, .ref e0, .ref w1, .int (nI 0), .ref f1, .ref p0, .ref s0, .ref u0]), (n0, cO 1 [.ref n1, .ref n2, .ref n3]), (n1, cI d 36 (fun _ => 0)), (n2, cI d 36 (fun _ => 1)), (n3, cI d 5 sS0), (t0, cO 1 [.ref t1, .ref t2, .ref t3]), (t1, cI d 36 (fun _ => 0)), (t2, cI d 36 (fun _ => 1)), (t3, cI d 5 sS0), (k0, cO 1 [.ref k1, .ref k2, .ref k3]), (k1, cI d 36 (fun _ => 0)), (k2, cI d 36 (fun _ => 1)), (k3, cI d 5 sS0), (e0, cO 4 [.ref e1, .int (nI 0)]), (e1, cI d 96 (nF (fun _ => 0))), (w1, cI d 16 (nF (fun _ => 0))), (f1, cI d 6 (fun _ => 0)), (p0, cO 0 [.ref r1, .ref r2, .ref r3]), (r1, cI d 36 (fun _ => 0)), (r2, cI d 36 (fun _ => 0)), (r3, cZ d 36 (fun _ => 0)), (s0, cO 3 [.ref s1]), (s1, cI d 216 (fun _ => 0)), (u0, cO 2 [.ref u1]), (u1, cI d 36 (fun _ => 0)), (m0, cO 6 [.ref a0, .ref a1, .ref a2, .int (nI 0), .ref a4, .int (nI 0), .ref a6, .int (nI 0), .ref a8, .ref a9, .int 0, .ref b1, .ref b2, .ref b3, .ref b4, .ref b5, .ref b6]), (a0, cI d 36 (fun _ => 0)), (a1, cI d 36 (fun _ => 1)), (a2, cI d 5 sS0), (a4, cI d 96 (nF (fun _ => 0))), (a6, cI d 8 (fun _ => 0)), (a8, cI d 16 (nF (fun _ => 0))), (a9, cI d 7 (rf7 (fun _ => 0))), (b1, cI d 77 (kp (fun _ => 0) (fun _ => 0) (fun _ => 0))), (b2, cI d 77 (fun _ => 0)), (b3, cI d 77 (fun _ => 0)), (b4, cI d 36 (fun _ => 0)), (b5, cI d 36 (fun _ => 0)), (b6, cI d 360 (fun _ => 0))]) (lv' := [(0, .ref b), (1, .ref x0), (2, .ref m0), (3, .int (nI 0))]) (ws_cons (rfl) (ws_cons (rfl) (ws_cons (rfl) (ws_cons (rfl) (ws_cons (rfl) (ws_cons (rfl) (ws_cons (rfl) (ws_cons (rfl) (ws_cons (rfl) (ws_cons (rfl) (ws_cons (rfl) (ws_cons (rfl) (ws_cons (rfl) (ws_cons (rfl) (ws_cons (rfl) (ws_cons (rfl) (ws_cons (rfl) (ws_cons (rfl) (ws_cons (rfl) (ws_cons (rfl) (ws_cons (rfl) (ws_cons (rfl) (ws_cons (rfl) (ws_cons (rfl) (ws_cons (rfl) (ws_cons (rfl) (ws_cons (rfl) (ws_cons (rfl) (ws_cons (rfl) (ws_cons (rfl) (ws_cons (rfl) (ws_cons (rfl) (ws_cons (rfl) (ws_cons (cI_eq (kp_zero)) (ws_cons (rfl) (ws_cons (rfl) (ws_cons (rfl) (ws_cons (rfl) (ws_cons (rfl) (rfl)))))))))))))))))))))))))))))))))))))))) (lv_cons (rfl) (lv_cons (rfl) (lv_cons (rfl) (lv_cons (vI (by rfl)) (rfl))))) (at_18 _ 0 (fun _ => 0) (fun _ => 1) sS0 (fun _ => 0) (fun _ => 1) sS0 (fun _ => 0) (fun _ => 1) sS0 (fun _ => 0) (fun _ => 0) (fun _ => 0) (fun _ => 0) (fun _ => 0) (fun _ => 0) (fun _ => 0) (fun _ => 0) (fun _ => 0) (fun _ => 0) (fun _ => 0) (fun _ => 0) (fun _ => 0) (fun _ => 0) (fun _ => 0) (fun _ => 0) (fun _ => 0) 0 0 0 0 (Nat.zero_le _) (gd_0) (Nat.zero_le _) (Nat.zero_le _) (fun _ => (by decide : (0 : Nat) < 256)) (fun _ => (by decide : (0 : Nat) < 100)) (fun h => absurd rfl h) (Nat.lt_succ_self _))
