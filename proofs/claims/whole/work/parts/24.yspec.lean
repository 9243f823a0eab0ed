/-! lots, case by case -/
theorem lots_1 {U L : Nat → Int32} {x z y : Int32} (h : ¬ 1 ≤ x) : sp_lots U L x z y = (-4, 4) := if_pos (Int32.not_le.mp h)
theorem lots_2 {U L : Nat → Int32} {x z y : Int32} (h : 1 ≤ x) (h2 : ¬ x ≤ 20) : sp_lots U L x z y = (-6, 6) := (if_neg (Int32.not_lt.mpr h)).trans (if_pos (Int32.not_le.mp h2))
theorem lots_3 {U L : Nat → Int32} {x z y : Int32} (h : 1 ≤ x) (h2 : x ≤ 20) (h3 : ¬ o2 y) : sp_lots U L x z y = (-2, 2) := (if_neg (Int32.not_lt.mpr h)).trans ((if_neg (Int32.not_lt.mpr h2)).trans (if_pos h3))
theorem lots_4 {U L : Nat → Int32} {x z y : Int32} (h : 1 ≤ x) (h2 : x ≤ 20) (h3 : o2 y) (h4 : ¬ 0 < smI L 36) : sp_lots U L x z y = (-3, 3) := (if_neg (Int32.not_lt.mpr h)).trans ((if_neg (Int32.not_lt.mpr h2)).trans ((if_neg (fun z => z h3)).trans (if_pos (Int32.not_lt.mp h4))))
theorem lots_5 {U L : Nat → Int32} {x z y : Int32} {n : Nat} (h : 1 ≤ x) (h2 : x ≤ 20) (h3 : o2 y) (h4 : 0 < smI L 36) (h5 : y = 0) (hx : ix x = n) : sp_lots U L x z y = ((ltF U L z n).2.1, 0) := by
  subst hx
  exact (if_neg (Int32.not_lt.mpr h)).trans ((if_neg (Int32.not_lt.mpr h2)).trans ((if_neg (fun z => z h3)).trans ((if_neg (Int32.not_le.mpr h4)).trans (if_pos h5))))
theorem lots_6 {U L : Nat → Int32} {x z y : Int32} {n : Nat} (h : 1 ≤ x) (h2 : x ≤ 20) (h3 : o2 y) (h4 : 0 < smI L 36) (h5 : ¬ y = 0) (hx : ix x = n) : sp_lots U L x z y = ((ltF U L z n).2.2, 0) := by
  subst hx
  exact (if_neg (Int32.not_lt.mpr h)).trans ((if_neg (Int32.not_lt.mpr h2)).trans ((if_neg (fun z => z h3)).trans ((if_neg (Int32.not_le.mpr h4)).trans (if_neg h5))))
theorem judge_x {K S : Nat → Int32} {Rw : Nat → Nat} {rn i q c : Nat} {x dy sh : Int32} (hj : jgs K S Rw rn = (i, q, dy, sh, c)) (h : 0 ≤ x) (h2 : x ≤ 3) : sp_judge K S Rw rn x = if x = 0 then (if i < rn then nI i else -9, 0) else if x = 1 then (nI q, 0) else if x = 2 then (dy, 0) else (sh, 0) := by
  unfold sp_judge
  rw [hj, if_neg (fun z => z ⟨h, h2⟩)]
theorem ltF_s {U L : Nat → Int32} {z : Int32} {n : Nat} : ltF U L z (n + 1) = ((ltF U L z n).1 * 1664525 + 1013904223, (ltF U L z n).2.1 + ltV U L (ltF U L z n).1, mx (ltF U L z n).2.2 (ltV U L (ltF U L z n).1)) := by rw [ltF]
theorem ltF_5 {U L : Nat → Int32} {z : Int32} {n : Nat} : (ltF U L z n).1 * 1664525 + 1013904223 = (ltF U L z (n + 1)).1 := by rw [ltF_s]
theorem ltF_s6 {U L : Nat → Int32} {z : Int32} {n : Nat} : (ltF U L z (n + 1)).2.1 = (ltF U L z n).2.1 + ltV U L (ltF U L z n).1 := by rw [ltF_s]
theorem ltF_s7 {U L : Nat → Int32} {z : Int32} {n : Nat} : (ltF U L z (n + 1)).2.2 = mx (ltF U L z n).2.2 (ltV U L (ltF U L z n).1) := by rw [ltF_s]
theorem ltF_6y {U L : Nat → Int32} {z : Int32} {n : Nat} (h : ltW U L (ltF U L z n).1 = -9) : (ltF U L z n).2.1 + 99 = (ltF U L z (n + 1)).2.1 := by rw [ltF_s6, ltV_y h]
theorem ltF_6n {U L : Nat → Int32} {z : Int32} {n : Nat} (h : ¬ ltW U L (ltF U L z n).1 = -9) : (ltF U L z n).2.1 + ltW U L (ltF U L z n).1 = (ltF U L z (n + 1)).2.1 := by rw [ltF_s6, ltV_n h]
theorem ltF_7y {U L : Nat → Int32} {z : Int32} {n : Nat} (h : ltW U L (ltF U L z n).1 = -9) : mx (ltF U L z n).2.2 99 = (ltF U L z (n + 1)).2.2 := by rw [ltF_s7, ltV_y h]
theorem ltF_7n {U L : Nat → Int32} {z : Int32} {n : Nat} (h : ¬ ltW U L (ltF U L z n).1 = -9) : mx (ltF U L z n).2.2 (ltW U L (ltF U L z n).1) = (ltF U L z (n + 1)).2.2 := by rw [ltF_s7, ltV_n h]
