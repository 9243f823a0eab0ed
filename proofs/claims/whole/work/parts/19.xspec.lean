/-! the public methods' answers, as the class reckons them: (answer, number of the refusal; 0 none) -/
def bmp (Rf : Nat → Int32) (j : Nat) : Nat → Int32 := if j = 0 then Rf else upd Rf (j - 1) (Rf (j - 1) + 1)
theorem bmp_0 {Rf : Nat → Int32} : bmp Rf 0 = Rf := rfl
abbrev sgT (K S : Nat → Int32) : Nat → Nat → Int32 := sg K ((dsI K S (S 0)))
noncomputable def wrF (K S : Nat → Int32) (D : Nat → Nat) : Nat → Nat
  | 0 => 99
  | q + 1 => @ite _ ((D q < 1000000 ∧ bwx K S q) ∧ (wrF K S D q = 99 ∨ D q < D (wrF K S D q))) (Classical.propDecidable _) q (wrF K S D q)
theorem wrF_y {K S : Nat → Int32} {D : Nat → Nat} {q : Nat} (h1 : D q < 1000000) (h2 : bwx K S q) (h : wrF K S D q = 99 ∨ D q < D (wrF K S D q)) : wrF K S D (q + 1) = q := by
  show @ite _ _ (Classical.propDecidable _) _ _ = _
  exact if_pos ⟨⟨h1, h2⟩, h⟩
theorem wrF_n {K S : Nat → Int32} {D : Nat → Nat} {q : Nat} (h : ¬ ((D q < 1000000 ∧ bwx K S q) ∧ (wrF K S D q = 99 ∨ D q < D (wrF K S D q)))) : wrF K S D (q + 1) = wrF K S D q := by
  show @ite _ _ (Classical.propDecidable _) _ _ = _
  exact if_neg h
theorem wrF_in {K S : Nat → Int32} {D : Nat → Nat} : ∀ i, i ≤ 36 → wrF K S D i = 99 ∨ (wrF K S D i < 36 ∧ D (wrF K S D i) < 1000000)
  | 0, _ => Or.inl rfl
  | i + 1, h => by
    have ih := wrF_in (K := K) (S := S) (D := D) i (by omega)
    by_cases c : (D i < 1000000 ∧ bwx K S i) ∧ (wrF K S D i = 99 ∨ D i < D (wrF K S D i))
    · rw [wrF_y c.1.1 c.1.2 c.2]; exact Or.inr ⟨by omega, c.1.1⟩
    · rw [wrF_n c]; exact ih
noncomputable def wrs (K S : Nat → Int32) : Nat := wrF K S ((dsI K S (S 0))) 36
theorem wrs_in (K S : Nat → Int32) : wrs K S = 99 ∨ (wrs K S < 36 ∧ (dsI K S (S 0)) (wrs K S) < 1000000) := wrF_in 36 (Nat.le_refl _)
theorem wr_ite {n : Nat} {D : Nat → Nat} (h : n = 99 ∨ (n < 36 ∧ D n < 1000000)) : (if n < 36 then dI (D n) else -9) = if n < 36 then nI (D n) else -9 := by
  split
  · exact dI_t (h.elim (by omega) (fun z => z.2))
  · rfl
def lkF (L : Nat → Int32) (D : Nat → Nat) : Nat → Nat × Int32 × Int32
  | 0 => (99, 0, 1)
  | q + 1 => if (¬ L q = 0 ∧ D q < 1000000) ∧ (lkF L D q).2.1 * (dI (D q) + 1) < L q * (lkF L D q).2.2 then (q, L q, dI (D q) + 1) else lkF L D q
theorem lkF_y {L : Nat → Int32} {D : Nat → Nat} {q : Nat} (h1 : ¬ L q = 0) (h2 : D q < 1000000) (h : (lkF L D q).2.1 * (dI (D q) + 1) < L q * (lkF L D q).2.2) : lkF L D (q + 1) = (q, L q, dI (D q) + 1) := if_pos ⟨⟨h1, h2⟩, h⟩
theorem lkF_n {L : Nat → Int32} {D : Nat → Nat} {q : Nat} (h : ¬ ((¬ L q = 0 ∧ D q < 1000000) ∧ (lkF L D q).2.1 * (dI (D q) + 1) < L q * (lkF L D q).2.2)) : lkF L D (q + 1) = lkF L D q := if_neg h
def tmF (T : Nat → Nat → Int32) (L : Nat → Int32) : Nat → Nat × Int32
  | 0 => (0, slF T L 0 36)
  | k + 1 => if slF T L (k + 1) 36 < (tmF T L k).2 then (k + 1, slF T L (k + 1) 36) else tmF T L k
theorem tmF_y {T : Nat → Nat → Int32} {L : Nat → Int32} {k : Nat} (h : slF T L (k + 1) 36 < (tmF T L k).2) : tmF T L (k + 1) = (k + 1, slF T L (k + 1) 36) := if_pos h
theorem tmF_n {T : Nat → Nat → Int32} {L : Nat → Int32} {k : Nat} (h : ¬ slF T L (k + 1) 36 < (tmF T L k).2) : tmF T L (k + 1) = tmF T L k := if_neg h
def wiN (K S : Nat → Int32) (q : Nat) : Nat := cnt (fun t => nI (dsI K S (nI q) t) ≤ S 2) 36
def clF (K S : Nat → Int32) : Nat → Nat × Nat
  | 0 => (99, 0)
  | q + 1 => if csl (K q) (S 1) ∧ (clF K S q).2 < wiN K S q then (q, wiN K S q) else clF K S q
theorem clF_y {K S : Nat → Int32} {q : Nat} (h : csl (K q) (S 1)) (h2 : (clF K S q).2 < wiN K S q) : clF K S (q + 1) = (q, wiN K S q) := if_pos ⟨h, h2⟩
theorem clF_n {K S : Nat → Int32} {q : Nat} (h : ¬ (csl (K q) (S 1) ∧ (clF K S q).2 < wiN K S q)) : clF K S (q + 1) = clF K S q := if_neg h
theorem clF_le (K S : Nat → Int32) : ∀ q, (clF K S q).2 ≤ 36
  | 0 => Nat.zero_le _
  | q + 1 => by
    have ih := clF_le K S q
    have hc : wiN K S q ≤ 36 := cnt_le _ 36
    unfold clF; split
    · exact hc
    · exact ih
/-- the first way of the first such way -/
def wyC (K S : Nat → Int32) (a b w : Nat) : Prop := ¬ stp K S a w = -9 ∧ ¬ dI (dsI K S (nI (nb a w)) b) = -9 ∧ stp K S a w + dI (dsI K S (nI (nb a w)) b) = dI (dsI K S (nI a) b)
noncomputable def wyF (K S : Nat → Int32) (a b : Nat) : Nat → Nat → Int32
  | 0, _ => -9
  | f + 1, w => @ite _ (wyC K S a b w) (Classical.propDecidable _) (nI w) (wyF K S a b f (w + 1))
theorem wyF_y {K S : Nat → Int32} {a b w : Nat} (hw : w < 4) (h : wyC K S a b w) : wyF K S a b (4 - w) w = nI w := by
  rw [show 4 - w = (4 - (w + 1)) + 1 by omega]
  show @ite _ _ (Classical.propDecidable _) _ _ = _
  exact if_pos h
theorem wyF_n {K S : Nat → Int32} {a b w : Nat} (hw : w < 4) (h : ¬ wyC K S a b w) : wyF K S a b (4 - (w + 1)) (w + 1) = wyF K S a b (4 - w) w := by
  rw [show 4 - w = (4 - (w + 1)) + 1 by omega]
  show _ = @ite _ _ (Classical.propDecidable _) _ _
  exact (if_neg h).symm
abbrev ix (x : Int32) : Nat := x.toNatClampNeg
def sp_letter (n : Nat) (x : Int32) : Int32 × Nat := if x < 0 then (-4, 4) else if 255 < x ∨ 96 ≤ n then (-6, 6) else (nI (n + 1), 0)
noncomputable def sp_square (K L S : Nat → Int32) (x y : Int32) : Int32 × Nat := if ¬ sq x then (-1, 1) else if y = 0 then (K (ix x), 0) else if y = 1 then (b2i (csl (K (ix x)) (S 1)), 0) else if y = 2 then (L (ix x), 0) else (-2, 2)
def sp_turnTo (K S : Nat → Int32) (x y : Int32) : Int32 × Nat := if ¬ sq x then (-1, 1) else if ¬ kd y then (-2, 2) else if x = S 0 ∧ ¬ csl y (S 1) then (-3, 3) else (K (ix x), 0)
def sp_make (L : Nat → Int32) (x y : Int32) : Int32 × Nat := if ¬ sq x then (-1, 1) else if y < 0 then (-4, 4) else if 9 < y then (-6, 6) else (L (ix x), 0)
def sp_set (K S : Nat → Int32) (x y : Int32) : Int32 × Nat := if ¬ (0 ≤ x ∧ x < 5) then (-2, 2) else if x = 0 ∧ ¬ sq y then (-1, 1) else if y < leastF (ix x) then (-4, 4) else if greatF (ix x) < y then (-6, 6) else if ¬ cbe K (upd S (ix x) y) (upd S (ix x) y 0) then (-3, 3) else (S (ix x), 0)
def sp_learn (T : Nat → Nat → Int32) (L : Nat → Int32) (x y : Int32) : Int32 × Nat := if ¬ kd x then (-2, 2) else if y < 0 then (-4, 4) else if 99 < y then (-6, 6) else if lbs T L (ix x) y = 0 then (-3, 3) else (nI (cnt (fun q => 0 < keep T L (ix x) y q) 36), 0)
def sp_days (K S : Nat → Int32) (x y : Int32) : Int32 × Nat := if ¬ (sq x ∧ sq y) then (-1, 1) else (dI (dsI K S x (ix y)), 0)
noncomputable def sp_way (K S : Nat → Int32) (x y : Int32) : Int32 × Nat := if ¬ (sq x ∧ sq y) then (-1, 1) else if dI (dsI K S x (ix y)) ≤ 0 then (-9, 0) else (wyF K S (ix x) (ix y) 4 0, 0)
def sp_shake (K S : Nat → Int32) (x : Int32) : Int32 × Nat := if ¬ sq x then (-1, 1) else (dI (shk K S (ix x)), 0)
def sp_led (K S : Nat → Int32) (x : Int32) : Int32 × Nat := if ¬ sq x then (-1, 1) else if dI (shk K S (ix x)) = -9 ∨ dI ((dsI K S (S 0)) (ix x)) = -9 then (-9, 0) else (dI (shk K S (ix x)) - dI ((dsI K S (S 0)) (ix x)), 0)
abbrev o2 (x : Int32) : Prop := x = 0 ∨ x = 1
noncomputable def wrD (K S : Nat → Int32) : Int32 := if wrs K S < 36 then dI ((dsI K S (S 0)) (wrs K S)) else -9
noncomputable def sp_wreck (K S : Nat → Int32) (x : Int32) : Int32 × Nat := if ¬ o2 x then (-2, 2) else if x = 1 then (besM (wrs K S), 0) else (wrD K S, 0)
noncomputable def sp_pay (K L S : Nat → Int32) (x : Int32) : Int32 × Nat := if ¬ o2 x then (-2, 2) else if wrD K S = -9 then (-9, 0) else if x = 0 then (mx 0 (S 3 + 10 * S 2 - wrD K S), 0) else if mx 0 (S 3 + 10 * S 2 - wrD K S) < S 4 * nI (cnt (fun q => 0 < L q) 36) then (1, 0) else (0, 0)
def sp_found (K L S : Nat → Int32) (x : Int32) : Int32 × Nat := if ¬ sq x then (-1, 1) else if L (ix x) = 0 then (-3, 3) else (oI (unt L ((dsI K S (S 0))) (ix x)), 0)
def sp_look (L : Nat → Int32) (D : Nat → Nat) : Int32 := besM (lkF L D 36).1
def sp_tellsMost (T : Nat → Nat → Int32) (L : Nat → Int32) : Int32 := if cnt (fun q => 0 < L q) 36 = 0 then -9 else nI (tmF T L 5).1
def sp_leftBy (T : Nat → Nat → Int32) (L : Nat → Int32) (x : Int32) : Int32 × Nat := if ¬ kd x then (-2, 2) else (slF T L (ix x) 36, 0)
def sp_lie (T : Nat → Nat → Int32) (L : Nat → Int32) (x y : Int32) : Int32 × Nat := if ¬ kd x then (-2, 2) else if ¬ sq y then (-1, 1) else ((blF T L (ix x) (ix y) 41).1, 0)
def sp_known (T : Nat → Nat → Int32) (x y : Int32) : Int32 × Nat := if ¬ kd x then (-2, 2) else if ¬ sq y then (-1, 1) else (T (ix x) (ix y), 0)
noncomputable def sp_needed (T : Nat → Nat → Int32) (L : Nat → Int32) (x : Int32) : Int32 × Nat := if ¬ sq x then (-1, 1) else if L (ix x) = 0 then (-3, 3) else ((ftF T L (ix x) 64).1, 0)
def sp_rivals (K S : Nat → Int32) (x y z : Int32) : Int32 × Nat := if ¬ (sq x ∧ sq y ∧ sq z) then (-1, 1) else
  if dI (dsI K S x (ix z)) = -9 ∧ dI (dsI K S y (ix z)) = -9 then (-9, 0) else if dI (dsI K S x (ix z)) = dI (dsI K S y (ix z)) then (2, 0) else if dI (dsI K S x (ix z)) = -9 then (1, 0) else if dI (dsI K S y (ix z)) = -9 then (0, 0) else if dI (dsI K S x (ix z)) < dI (dsI K S y (ix z)) then (0, 0) else (1, 0)
def sp_hide (T : Nat → Nat → Int32) (L : Nat → Int32) (x : Int32) : Int32 × Nat := if ¬ o2 x then (-2, 2) else if (bhF T L 36).1 = -9 ∨ x = 0 then ((bhF T L 36).1, 0) else (nI (alk T L (ix (bhF T L 36).1)), 0)
def sp_close (K S : Nat → Int32) (x : Int32) : Int32 × Nat := if ¬ o2 x then (-2, 2) else if x = 0 then (besM (clF K S 36).1, 0) else (nI (clF K S 36).2, 0)
def sp_row (n : Nat) (x : Int32) : Int32 × Nat := if x < 0 then (-4, 4) else if 99 < x ∨ 16 ≤ n then (-6, 6) else (nI (n + 1), 0)
def sp_on (im : Int32) (L3 : Nat → Int32) : Int32 × Nat := if im = 0 then (-3, 3) else (nI (cnt (fun q => 0 < L3 q) 36), 0)
def sp_count (K L S : Nat → Int32) (rn tn : Nat) (Rf : Nat → Int32) (x : Int32) : Int32 := if x = 0 then nI (cnt (fun q => 0 < L q) 36) else if x = 1 then smI L 36 else if x = 2 then S 0 else if x = 3 then S 1 else if x = 4 then S 2 else if x = 5 then S 3 else if x = 6 then S 4 else if x = 7 then nI (cnt (fun q => csl (K q) (S 1)) 36) else if x = 8 then nI rn else if x = 9 then nI tn else if 0 ≤ x - 11 ∧ x - 11 < 6 then Rf (ix (x - 11)) else -9
theorem o2_ne {x : Int32} (h : o2 x) (h2 : ¬ x = 0) : x = 1 := h.elim (fun z => absurd z h2) id
theorem bhF_in {T : Nat → Nat → Int32} {L : Nat → Int32} : ∀ i, i ≤ 36 → (bhF T L i).1 = -9 ∨ ∃ j, j < 36 ∧ (bhF T L i).1 = nI j
  | 0, _ => Or.inl rfl
  | i + 1, h => by
    have ih := bhF_in (T := T) (L := L) i (by omega)
    unfold bhF
    split
    · exact Or.inr ⟨i, by omega, rfl⟩
    · exact ih
/-- the ROW: told by twos; so for a square -/
abbrev tsg (Rw : Nat → Nat) (rn : Nat) : Prop := rn % 2 = 0 ∧ ∀ i, 2 * i < rn → Rw (2 * i) < 6
abbrev tso (T : Nat → Nat → Int32) (Rw : Nat → Nat) (rn q : Nat) : Prop := ∀ i, 2 * i + 1 < rn → tru T (Rw (2 * i)) (nI (Rw (2 * i + 1))) q
noncomputable def fiF (T : Nat → Nat → Int32) (L : Nat → Int32) (Rw : Nat → Nat) (rn : Nat) : Nat → Nat × Nat
  | 0 => (99, 0)
  | q + 1 => @ite _ (¬ L q = 0 ∧ tso T Rw rn q) (Classical.propDecidable _) (if (fiF T L Rw rn q).1 = 99 then q else (fiF T L Rw rn q).1, (fiF T L Rw rn q).2 + 1) (fiF T L Rw rn q)
theorem fiF_y {T : Nat → Nat → Int32} {L : Nat → Int32} {Rw : Nat → Nat} {rn q : Nat} (h : ¬ L q = 0) (h2 : tso T Rw rn q) : fiF T L Rw rn (q + 1) = (if (fiF T L Rw rn q).1 = 99 then q else (fiF T L Rw rn q).1, (fiF T L Rw rn q).2 + 1) := by
  show @ite _ _ (Classical.propDecidable _) _ _ = _
  exact if_pos ⟨h, h2⟩
theorem fiF_n {T : Nat → Nat → Int32} {L : Nat → Int32} {Rw : Nat → Nat} {rn q : Nat} (h : ¬ (¬ L q = 0 ∧ tso T Rw rn q)) : fiF T L Rw rn (q + 1) = fiF T L Rw rn q := by
  show @ite _ _ (Classical.propDecidable _) _ _ = _
  exact if_neg h
theorem fiF_in {T : Nat → Nat → Int32} {L : Nat → Int32} {Rw : Nat → Nat} {rn : Nat} : ∀ i, i ≤ 36 → ((fiF T L Rw rn i).1 = 99 ∨ (fiF T L Rw rn i).1 < 36) ∧ (fiF T L Rw rn i).2 ≤ i
  | 0, _ => ⟨Or.inl rfl, Nat.le_refl _⟩
  | i + 1, h => by
    have ih := fiF_in (T := T) (L := L) (Rw := Rw) (rn := rn) i (by omega)
    by_cases c : ¬ L i = 0 ∧ tso T Rw rn i
    · rw [fiF_y c.1 c.2]
      refine ⟨?_, Nat.succ_le_succ ih.2⟩
      show (if _ then _ else _) = 99 ∨ (if _ then _ else _) < 36
      split
      · exact Or.inr (by omega)
      · exact ih.1
    · rw [fiF_n c]; exact ⟨ih.1, by omega⟩
noncomputable def sp_fits (T : Nat → Nat → Int32) (L : Nat → Int32) (Rw : Nat → Nat) (rn : Nat) (x : Int32) : Int32 × Nat := if ¬ o2 x then (-2, 2) else @ite _ (¬ tsg Rw rn) (Classical.propDecidable _) (-3, 3) (if x = 0 then (nI (fiF T L Rw rn 36).2, 0) else (besM (fiF T L Rw rn 36).1, 0))
/-- the ROW judged: place, square, days, shaken, the way by which one came (99: none) -/
def jgF (K S : Nat → Int32) (Rw : Nat → Nat) (rn : Nat) : Nat → Nat × Nat × Int32 × Int32 × Nat → Nat × Nat × Int32 × Int32 × Nat
  | 0, s => s
  | f + 1, s => if s.1 < rn ∧ ¬ stp K S s.2.1 (Rw s.1) = -9 then
      jgF K S Rw rn f (s.1 + 1, nb s.2.1 (Rw s.1), s.2.2.1 + stp K S s.2.1 (Rw s.1), if ¬ s.2.2.2.2 = 99 ∧ ¬ s.2.2.2.2 = Rw s.1 ∧ K s.2.1 = 3 then 1 else s.2.2.2.1, Rw s.1) else s
theorem jgF_y {K S : Nat → Int32} {Rw : Nat → Nat} {rn i q c : Nat} {dy sh : Int32} (h : i < rn) (hr : rn ≤ 16) (h2 : ¬ stp K S q (Rw i) = -9) : jgF K S Rw rn (16 - (i + 1)) (i + 1, nb q (Rw i), dy + stp K S q (Rw i), if ¬ c = 99 ∧ ¬ c = Rw i ∧ K q = 3 then 1 else sh, Rw i) = jgF K S Rw rn (16 - i) (i, q, dy, sh, c) := by
  rw [show 16 - i = (16 - (i + 1)) + 1 by omega]; exact (if_pos ⟨h, h2⟩).symm
theorem jgF_n {K S : Nat → Int32} {Rw : Nat → Nat} {rn f i q c : Nat} {dy sh : Int32} (h : ¬ (i < rn ∧ ¬ stp K S q (Rw i) = -9)) : jgF K S Rw rn f (i, q, dy, sh, c) = (i, q, dy, sh, c) := by
  cases f with
  | zero => rfl
  | succ f => exact if_neg h
def jgs (K S : Nat → Int32) (Rw : Nat → Nat) (rn : Nat) : Nat × Nat × Int32 × Int32 × Nat := jgF K S Rw rn 16 (0, ix (S 0), 0, 0, 99)
def sp_judge (K S : Nat → Int32) (Rw : Nat → Nat) (rn : Nat) (x : Int32) : Int32 × Nat := if ¬ (0 ≤ x ∧ x ≤ 3) then (-2, 2) else if x = 0 then (if (jgs K S Rw rn).1 < rn then nI (jgs K S Rw rn).1 else -9, 0) else if x = 1 then (nI (jgs K S Rw rn).2.1, 0) else if x = 2 then ((jgs K S Rw rn).2.2.1, 0) else ((jgs K S Rw rn).2.2.2.1, 0)
/-- seas by lot -/
def ltD (z w : Int32) : Int32 := ((z * 1664525 + 1013904223) &&& 2147483647) / 256 - ((z * 1664525 + 1013904223) &&& 2147483647) / 256 / w * w
def ltV (U L : Nat → Int32) (z : Int32) : Int32 :=
  let v := if sq (sdF L 36 0 (ltD z (smI L 36))) then U (ix (sdF L 36 0 (ltD z (smI L 36)))) else -9
  if v = -9 then 99 else v
def ltF (U L : Nat → Int32) (z : Int32) : Nat → Int32 × Int32 × Int32
  | 0 => (z, 0, 0)
  | n + 1 => ((ltF U L z n).1 * 1664525 + 1013904223, (ltF U L z n).2.1 + ltV U L (ltF U L z n).1, mx (ltF U L z n).2.2 (ltV U L (ltF U L z n).1))
def sp_lots (U L : Nat → Int32) (x z y : Int32) : Int32 × Nat := if x < 1 then (-4, 4) else if 20 < x then (-6, 6) else if ¬ o2 y then (-2, 2) else if smI L 36 ≤ 0 then (-3, 3) else if y = 0 then ((ltF U L z (ix x)).2.1, 0) else ((ltF U L z (ix x)).2.2, 0)
theorem i1_20 {x : Int32} (h1 : ¬ x < 1) (h2 : x ≤ 20) : ∃ n : Nat, 1 ≤ n ∧ n ≤ 20 ∧ x = nI n := by
  have h0 : (1 : Int32) ≤ x := Int32.not_lt.mp h1
  have a1 := Int32.le_iff_toInt_le.mp h0
  have a2 := Int32.le_iff_toInt_le.mp h2
  rw [show (1 : Int32).toInt = 1 from rfl] at a1
  rw [show (20 : Int32).toInt = 20 from rfl] at a2
  refine ⟨x.toInt.toNat, by omega, by omega, Int32.toInt_inj.mp ?_⟩
  rw [nI_toInt (by omega)]
  omega
/-- the greatest common divisor by remainders -/
def gcF : Nat → Int64 → Int64 → Int64
  | 0, a, _ => a
  | f + 1, a, b => if b = 0 then a else gcF f b (a - a / b * b)
theorem gcF_y {i : Nat} {a b : Int64} (hi : i < 100) (h : ¬ b = 0) : gcF (100 - (i + 1)) b (a - a / b * b) = gcF (100 - i) a b := by
  rw [show 100 - i = (100 - (i + 1)) + 1 by omega]; exact (if_neg h).symm
theorem gcF_n {f : Nat} {a b : Int64} (h : b = 0) : gcF f a b = a := by
  cases f with
  | zero => rfl
  | succ f => exact if_pos h
theorem lg0 {x : Int64} : lg_cmp x 0 = 0 ↔ x = 0 := lg_cmp_eq x 0
def sp_mean (U L : Nat → Int32) (x : Int32) : Int64 × Nat := if ¬ o2 x then (4000000000000000000 - Int32.toInt64 (-2), 2) else if wfI U L 36 = 0 then (Int32.toInt64 x, 0) else if gcF 100 (slI U L 36) (wfI U L 36) = 0 then (Int32.toInt64 x, 0) else ((if x = 0 then slI U L 36 else wfI U L 36) / gcF 100 (slI U L 36) (wfI U L 36), 0)
theorem i0_99 {x : Int32} (h1 : 0 ≤ x) (h2 : ¬ 99 < x) : ∃ n : Nat, n < 100 ∧ x = nI n := by
  have a1 := Int32.le_iff_toInt_le.mp h1
  have a2 := Int32.le_iff_toInt_le.mp (Int32.not_lt.mp h2)
  rw [show (0 : Int32).toInt = 0 from rfl] at a1
  rw [show (99 : Int32).toInt = 99 from rfl] at a2
  refine ⟨x.toInt.toNat, by omega, Int32.toInt_inj.mp ?_⟩
  rw [nI_toInt (by omega)]
  omega
theorem nF_u {G : Nat → Nat} {k v : Nat} : upd (nF G) k (nI v) = nF (fun q => if q = k then v else G q) := by
  funext q
  show (if q = k then nI v else nI (G q)) = nI (if q = k then v else G q)
  split <;> rfl
theorem kd_iff {a : Nat} (ha : a < 2147483648) : kd (nI a) ↔ a < 6 := by
  constructor
  · intro h
    have := h.2
    rw [show (6 : Int32) = nI 6 from rfl] at this
    exact (nI_ltI (by omega) (by omega)).mp this
  · exact nI_kd
def cbI (c : Nat) : Int32 := if c = 99 then -9 else nI c
theorem cbI_9 {c : Nat} (h : c = 99 ∨ c < 4) (h2 : cbI c = -9) : c = 99 := h.elim id (fun q => absurd h2 (by unfold cbI; rw [if_neg (by omega)]; exact nI_ne_m9 (by omega)))
theorem cbI_t {c : Nat} (h : c < 4) : cbI c = nI c := if_neg (by omega)
theorem nb_lt4 {q w : Nat} (h : nb q w < 36) : w < 4 := Nat.lt_of_not_le fun z => by rw [nb_w z] at h; omega
theorem upd_back {f : Nat → Int32} {k : Nat} {v : Int32} : upd (upd f k v) k (f k) = f := by
  funext q
  show (if q = k then f k else (if q = k then v else f q)) = f q
  split
  · next h => rw [h]
  · rfl
theorem i0_5 {x : Int32} (h1 : ¬ x < 0) (h2 : x < 5) : ∃ n : Nat, n < 5 ∧ x = nI n := vp_in_of (vp_in_of2 (by omega) (Int32.not_lt.mp h1) h2) (by omega)
def ltW (U L : Nat → Int32) (z : Int32) : Int32 := if sq (sdF L 36 0 (ltD z (smI L 36))) then U (ix (sdF L 36 0 (ltD z (smI L 36)))) else -9
theorem ltV_y {U L : Nat → Int32} {z : Int32} (h : ltW U L z = -9) : ltV U L z = 99 := if_pos h
theorem ltV_n {U L : Nat → Int32} {z : Int32} (h : ¬ ltW U L z = -9) : ltV U L z = ltW U L z := if_neg h
theorem i0_255 {x : Int32} (h1 : 0 ≤ x) (h2 : ¬ 255 < x) : ∃ n : Nat, n < 256 ∧ x = nI n := by
  have a1 := Int32.le_iff_toInt_le.mp h1
  have a2 := Int32.le_iff_toInt_le.mp (Int32.not_lt.mp h2)
  rw [show (0 : Int32).toInt = 0 from rfl] at a1
  rw [show (255 : Int32).toInt = 255 from rfl] at a2
  refine ⟨x.toInt.toNat, by omega, Int32.toInt_inj.mp ?_⟩
  rw [nI_toInt (by omega)]
  omega
