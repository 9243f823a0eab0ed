/-! the reference's lie, pay, set: case by case -/
section RSA
variable {T : Nat → Nat → Int32} {K L S : Nat → Int32} {x y : Int32} {k j m : Nat}
theorem lie_1 (h : ¬ kd x) : sp_lie T L x y = (-2, 2) := if_pos h
theorem lie_2 (hk : k < 6) (h : ¬ sq y) : sp_lie T L (nI k) y = (-1, 1) := (if_neg (fun z => z (nI_kd hk))).trans (if_pos h)
theorem lie_3 (hk : k < 6) (hj : j < 36) : sp_lie T L (nI k) (nI j) = ((blF T L k j 41).1, 0) := by
  unfold sp_lie
  rw [if_neg (fun z => z (nI_kd hk)), if_neg (fun z => z (nI_sq hj)), show ix (nI k) = k from nI_clamp (by omega), show ix (nI j) = j from nI_clamp (by omega)]
theorem pay_1 (h : ¬ o2 x) : sp_pay K L S x = (-2, 2) := if_pos h
theorem pay_2 (h : o2 x) (hw : ¬ wrs K S < 36) : sp_pay K L S x = (-9, 0) := by unfold sp_pay wrD; rw [if_neg (fun z => z h), if_neg hw, if_pos rfl]
theorem pay_w (hw : wrs K S < 36) : wrD K S = dI (dsI K S (S 0) (wrs K S)) := if_pos hw
theorem pay_f (hw : wrs K S < 36) : dsI K S (S 0) (wrs K S) < 1000000 := (wrs_in K S).elim (fun e => absurd hw (by omega)) (fun e => e.2)
theorem pay_n (hw : wrs K S < 36) : ¬ wrD K S = -9 := by rw [pay_w hw]; exact fun z => dI_m9.mp z (pay_f hw)
theorem pay_3 (h : o2 x) (hw : wrs K S < 36) (hx : x = 0) : sp_pay K L S x = (mx 0 (S 3 + 10 * S 2 - dI (dsI K S (S 0) (wrs K S))), 0) := by
  unfold sp_pay; rw [if_neg (fun z => z h), if_neg (pay_n hw), if_pos hx, pay_w hw]
theorem pay_4 (h : o2 x) (hw : wrs K S < 36) (hx : ¬ x = 0) (c : mx 0 (S 3 + 10 * S 2 - dI (dsI K S (S 0) (wrs K S))) < S 4 * nI (cnt (fun q => 0 < L q) 36)) : sp_pay K L S x = (1, 0) := by
  unfold sp_pay; rw [if_neg (fun z => z h), if_neg (pay_n hw), if_neg hx, pay_w hw, if_pos c]
theorem pay_5 (h : o2 x) (hw : wrs K S < 36) (hx : ¬ x = 0) (c : ¬ mx 0 (S 3 + 10 * S 2 - dI (dsI K S (S 0) (wrs K S))) < S 4 * nI (cnt (fun q => 0 < L q) 36)) : sp_pay K L S x = (0, 0) := by
  unfold sp_pay; rw [if_neg (fun z => z h), if_neg (pay_n hw), if_neg hx, pay_w hw, if_neg c]
theorem le4 {x : Int32} : x < 5 ↔ x ≤ 4 := by
  rw [Int32.lt_iff_toInt_lt, Int32.le_iff_toInt_le, show (5 : Int32).toInt = 5 from rfl, show (4 : Int32).toInt = 4 from rfl]; omega
theorem wit_5 {x : Int32} (h : wit x 0 4) : ∃ n : Nat, n < 5 ∧ x = nI n := i0_5 (Int32.not_lt.mpr h.1) (le4.mpr h.2)
theorem nI_5 (h : j < 5) : 0 ≤ nI j ∧ nI j < 5 := ⟨nI_pos' (by omega), by rw [show (5 : Int32) = nI 5 from rfl]; exact nI_lt h (by omega)⟩
theorem leg_1 : ∀ j, j < 5 → ¬ j = 0 → j < 3 → leastF j = 1 ∧ greatF j = 9 := by decide
theorem leg_2 : ∀ j, j < 5 → ¬ j = 0 → ¬ j < 3 → leastF j = 0 ∧ greatF j = 99 := by decide
abbrev rgS (j : Nat) (y : Int32) : Prop := (j = 0 → sq y) ∧ ¬ y < leastF j ∧ ¬ greatF j < y
theorem rgS_0 (h : sq y) : rgS 0 y := by
  refine ⟨fun _ => h, Int32.not_lt.mpr h.1, Int32.not_lt.mpr ?_⟩
  have h2 := h.2
  rw [Int32.lt_iff_toInt_lt, show (36 : Int32).toInt = 36 from rfl] at h2
  show y ≤ 35
  rw [Int32.le_iff_toInt_le, show (35 : Int32).toInt = 35 from rfl]; omega
theorem rgS_1 (hj : j < 5) (h0 : ¬ j = 0) (h3 : j < 3) (a : ¬ y < 1) (b : ¬ 9 < y) : rgS j y := ⟨fun e => absurd e h0, by rw [(leg_1 j hj h0 h3).1]; exact a, by rw [(leg_1 j hj h0 h3).2]; exact b⟩
theorem rgS_2 (hj : j < 5) (h0 : ¬ j = 0) (h3 : ¬ j < 3) (a : ¬ y < 0) (b : ¬ 99 < y) : rgS j y := ⟨fun e => absurd e h0, by rw [(leg_2 j hj h0 h3).1]; exact a, by rw [(leg_2 j hj h0 h3).2]; exact b⟩
theorem nI_e0 (hj : j < 5) (h : nI j = 0) : j = 0 := by
  have h1 := congrArg Int32.toNatClampNeg h
  rw [nI_clamp (by omega)] at h1; exact h1
theorem set_1 (h : ¬ wit x 0 4) : sp_set K S x y = (-2, 2) := if_pos (fun z => h ⟨z.1, le4.mp z.2⟩)
theorem set_2 (h : ¬ sq y) : sp_set K S (nI 0) y = (-1, 1) := (if_neg (fun z => z (nI_5 (by omega)))).trans (if_pos ⟨rfl, h⟩)
theorem set_s (hj : j < 5) (h0 : j = 0 → sq y) : sp_set K S (nI j) y = if y < leastF j then (-4, 4) else if greatF j < y then (-6, 6) else if ¬ cbe K (upd S j y) (upd S j y 0) then (-3, 3) else (S j, 0) := by
  unfold sp_set
  rw [if_neg (fun z => z (nI_5 hj)), if_neg (fun z => z.2 (h0 (nI_e0 hj z.1))), show ix (nI j) = j from nI_clamp (by omega)]
theorem set_41 (hj : j < 5) (h0 : ¬ j = 0) (h3 : j < 3) (c : y < 1) : sp_set K S (nI j) y = (-4, 4) := (set_s hj (fun e => absurd e h0)).trans (if_pos (by rw [(leg_1 j hj h0 h3).1]; exact c))
theorem set_42 (hj : j < 5) (h0 : ¬ j = 0) (h3 : ¬ j < 3) (c : y < 0) : sp_set K S (nI j) y = (-4, 4) := (set_s hj (fun e => absurd e h0)).trans (if_pos (by rw [(leg_2 j hj h0 h3).1]; exact c))
theorem set_61 (hj : j < 5) (h0 : ¬ j = 0) (h3 : j < 3) (a : ¬ y < 1) (c : 9 < y) : sp_set K S (nI j) y = (-6, 6) := (set_s hj (fun e => absurd e h0)).trans ((if_neg (by rw [(leg_1 j hj h0 h3).1]; exact a)).trans (if_pos (by rw [(leg_1 j hj h0 h3).2]; exact c)))
theorem set_62 (hj : j < 5) (h0 : ¬ j = 0) (h3 : ¬ j < 3) (a : ¬ y < 0) (c : 99 < y) : sp_set K S (nI j) y = (-6, 6) := (set_s hj (fun e => absurd e h0)).trans ((if_neg (by rw [(leg_2 j hj h0 h3).1]; exact a)).trans (if_pos (by rw [(leg_2 j hj h0 h3).2]; exact c)))
theorem set_3 (hj : j < 5) (hr : rgS j y) (hm : m < 36) (e : upd S j y 0 = nI m) (c : ¬ csl (K m) (upd S j y 1)) : sp_set K S (nI j) y = (-3, 3) :=
  (set_s hj hr.1).trans ((if_neg hr.2.1).trans ((if_neg hr.2.2).trans (if_pos (fun z => c (by rw [e] at z; exact (cbe_N hm).mp z)))))
theorem set_0 (hj : j < 5) (hr : rgS j y) (hm : m < 36) (e : upd S j y 0 = nI m) (c : csl (K m) (upd S j y 1)) : sp_set K S (nI j) y = (S j, 0) :=
  (set_s hj hr.1).trans ((if_neg hr.2.1).trans ((if_neg hr.2.2).trans (if_neg (fun z => z (by rw [e]; exact (cbe_N hm).mpr c)))))
end RSA
