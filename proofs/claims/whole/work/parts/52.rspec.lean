/-! judge, fits, lots, count: how the reference goes on -/
section RSC
variable {T : Nat → Nat → Int32} {K L S : Nat → Int32} {Rw : Nat → Nat} {rn : Nat} {x : Int32}
/-- where the judging stands: under way, or wrong at a place -/
def jIn (K S : Nat → Int32) (Rw : Nat → Nat) (rn i q : Nat) (dy sh : Int32) (cb : Nat) (wr : Int32) : Prop :=
  (wr = -9 ∧ jgF K S Rw rn (16 - i) (i, q, dy, sh, cb) = jgs K S Rw rn) ∨ (∃ p, wr = nI p ∧ p < rn ∧ i = p + 1 ∧ jgs K S Rw rn = (p, q, dy, sh, cb))
theorem jIn_e {i q cb : Nat} {dy sh wr : Int32} (h : jIn K S Rw rn i q dy sh cb wr) (hr : rn ≤ 16) (hx : ¬ (i < rn ∧ wr = -9)) : ∃ p, jgs K S Rw rn = (p, q, dy, sh, cb) ∧ wr = if p < rn then nI p else -9 := by
  rcases h with ⟨e, h⟩ | ⟨p, e, hp, hi, h⟩
  · exact ⟨i, by rw [← h]; exact jgF_n (fun z => hx ⟨z.1, e⟩), by rw [if_neg (fun z => hx ⟨z, e⟩)]; exact e⟩
  · exact ⟨p, h, by rw [if_pos hp]; exact e⟩
theorem jIn_w {i q cb : Nat} {dy sh wr : Int32} (h : jIn K S Rw rn i q dy sh cb wr) (hw : wr = -9) (hr : rn ≤ 16) (hi : i < rn) : jgF K S Rw rn (16 - i) (i, q, dy, sh, cb) = jgs K S Rw rn := by
  rcases h with ⟨_, h⟩ | ⟨p, e, hp, _, _⟩
  · exact h
  · exact absurd (e.symm.trans hw) (nI_ne_m9 (by omega))
theorem jIn_n {i q cb : Nat} {dy sh : Int32} (h : jgF K S Rw rn (16 - i) (i, q, dy, sh, cb) = jgs K S Rw rn) (hi : i < rn) (hs : stp K S q (Rw i) = -9) : jIn K S Rw rn (i + 1) q dy sh cb (nI i) :=
  Or.inr ⟨i, rfl, hi, rfl, by rw [← h]; exact jgF_n (fun z => z.2 hs)⟩
theorem jIn_y {i q cb : Nat} {dy sh : Int32} (h : jgF K S Rw rn (16 - i) (i, q, dy, sh, cb) = jgs K S Rw rn) (hi : i < rn) (hr : rn ≤ 16) (hnb : nb q (Rw i) < 36) (hcs : csl (K (nb q (Rw i))) (S 1)) :
    jIn K S Rw rn (i + 1) (nb q (Rw i)) (dy + stp K S q (Rw i)) (if ¬ cb = 99 ∧ ¬ cb = Rw i ∧ K q = 3 then 1 else sh) (Rw i) (-9) :=
  Or.inl ⟨rfl, (jgF_y hi hr (by rw [stp_t hnb hcs]; exact nI_ne_m9 (by have := cst_le (K (nb q (Rw i))) (Rw i); omega))).trans h⟩
theorem judge_1 (h : ¬ wit x 0 3) : sp_judge K S Rw rn x = (-2, 2) := if_pos h
section
variable {p q cb : Nat} {dy sh wr : Int32}
theorem judge_2 (h : wit x 0 3) (hj : jgs K S Rw rn = (p, q, dy, sh, cb)) (hw : wr = if p < rn then nI p else -9) (h0 : x = 0) : sp_judge K S Rw rn x = (wr, 0) := by rw [judge_x hj h.1 h.2, if_pos h0, hw]
theorem judge_3 (h : wit x 0 3) (hj : jgs K S Rw rn = (p, q, dy, sh, cb)) (h0 : ¬ x = 0) (h1 : x = 1) : sp_judge K S Rw rn x = (nI q, 0) := by rw [judge_x hj h.1 h.2, if_neg h0, if_pos h1]
theorem judge_4 (h : wit x 0 3) (hj : jgs K S Rw rn = (p, q, dy, sh, cb)) (h0 : ¬ x = 0) (h1 : ¬ x = 1) (h2 : x = 2) : sp_judge K S Rw rn x = (dy, 0) := by rw [judge_x hj h.1 h.2, if_neg h0, if_neg h1, if_pos h2]
theorem judge_5 (h : wit x 0 3) (hj : jgs K S Rw rn = (p, q, dy, sh, cb)) (h0 : ¬ x = 0) (h1 : ¬ x = 1) (h2 : ¬ x = 2) : sp_judge K S Rw rn x = (sh, 0) := by rw [judge_x hj h.1 h.2, if_neg h0, if_neg h1, if_neg h2]
end
/-- fits: the squares from the greatest down -/
noncomputable def fiS (T : Nat → Nat → Int32) (L : Nat → Int32) (Rw : Nat → Nat) (rn : Nat) : Nat → Nat × Nat
  | 0 => (99, 0)
  | k + 1 => @ite _ (¬ L (35 - k) = 0 ∧ tso T Rw rn (35 - k)) (Classical.propDecidable _) (35 - k, (fiS T L Rw rn k).2 + 1) (fiS T L Rw rn k)
theorem fiS_y {k : Nat} (h : ¬ L (35 - k) = 0 ∧ tso T Rw rn (35 - k)) : fiS T L Rw rn (k + 1) = (35 - k, (fiS T L Rw rn k).2 + 1) := by
  show @ite _ _ (Classical.propDecidable _) _ _ = _
  exact if_pos h
theorem fiS_n {k : Nat} (h : ¬ (¬ L (35 - k) = 0 ∧ tso T Rw rn (35 - k))) : fiS T L Rw rn (k + 1) = fiS T L Rw rn k := by
  show @ite _ _ (Classical.propDecidable _) _ _ = _
  exact if_neg h
theorem fi_c : ∀ k, k ≤ 36 → fiF T L Rw rn 36 = (if (fiF T L Rw rn (36 - k)).1 = 99 then (fiS T L Rw rn k).1 else (fiF T L Rw rn (36 - k)).1, (fiF T L Rw rn (36 - k)).2 + (fiS T L Rw rn k).2)
  | 0, _ => by
    refine Prod.ext ?_ rfl
    show (fiF T L Rw rn 36).1 = if (fiF T L Rw rn 36).1 = 99 then 99 else (fiF T L Rw rn 36).1
    split
    · assumption
    · rfl
  | k + 1, h => by
    rw [fi_c k (by omega), show 36 - k = (35 - k) + 1 by omega, show 36 - (k + 1) = 35 - k by omega]
    by_cases c : ¬ L (35 - k) = 0 ∧ tso T Rw rn (35 - k)
    · rw [fiF_y c.1 c.2, fiS_y c]
      refine Prod.ext ?_ (by show _ + 1 + _ = _ + (_ + 1); omega)
      show (if (if (fiF T L Rw rn (35 - k)).1 = 99 then 35 - k else (fiF T L Rw rn (35 - k)).1) = 99 then _ else (if (fiF T L Rw rn (35 - k)).1 = 99 then 35 - k else (fiF T L Rw rn (35 - k)).1)) = if (fiF T L Rw rn (35 - k)).1 = 99 then 35 - k else (fiF T L Rw rn (35 - k)).1
      by_cases d : (fiF T L Rw rn (35 - k)).1 = 99
      · rw [if_pos d, if_neg (by omega)]
      · rw [if_neg d, if_neg d]
    · rw [fiF_n c, fiS_n c]
theorem fi_e : fiF T L Rw rn 36 = fiS T L Rw rn 36 := by
  rw [fi_c 36 (Nat.le_refl _)]
  refine Prod.ext rfl ?_
  show 0 + (fiS T L Rw rn 36).2 = _
  exact Nat.zero_add _
theorem fits_1 (h : ¬ o2 x) : sp_fits T L Rw rn x = (-2, 2) := if_pos h
theorem fits_s (h : o2 x) : sp_fits T L Rw rn x = @ite _ (¬ tsg Rw rn) (Classical.propDecidable _) (-3, 3) (if x = 0 then (nI (fiF T L Rw rn 36).2, 0) else (besM (fiF T L Rw rn 36).1, 0)) := if_neg (fun z => z h)
theorem fits_2 (h : o2 x) (c : ¬ tsg Rw rn) : sp_fits T L Rw rn x = (-3, 3) := by rw [fits_s h]; exact if_pos c
theorem fits_3 (h : o2 x) (c : tsg Rw rn) (h0 : x = 0) : sp_fits T L Rw rn x = (nI (fiS T L Rw rn 36).2, 0) := by rw [fits_s h, ← fi_e]; exact (if_neg (fun z => z c)).trans (if_pos h0)
theorem fits_4 (h : o2 x) (c : tsg Rw rn) (h0 : ¬ x = 0) : sp_fits T L Rw rn x = (besM (fiS T L Rw rn 36).1, 0) := by rw [fits_s h, ← fi_e]; exact (if_neg (fun z => z c)).trans (if_neg h0)
theorem dn_1 {k : Nat} (h : k < 36) : nI (36 - k) - 1 = nI (35 - k) := by rw [show 36 - k = (35 - k) + 1 by omega]; exact nI_pred _
theorem dn_lt {k : Nat} (h : k ≤ 36) (c : nI (36 - k) - 1 < 0) : k = 36 := by
  rcases Nat.lt_or_ge k 36 with e | e
  · rw [dn_1 e] at c; exact absurd c (nI_pos (by omega))
  · omega
theorem dn_ge {k : Nat} (h : k ≤ 36) (c : ¬ nI (36 - k) - 1 < 0) : k < 36 := by
  rcases Nat.lt_or_ge k 36 with e | e
  · exact e
  · have e2 : k = 36 := by omega
    subst e2; exact absurd (by decide) c
theorem dn_s {k : Nat} (h : k < 36) : nI (35 - k) + (-1) = nI (36 - (k + 1)) - 1 := by rw [show 36 - (k + 1) = 35 - k by omega, Int32.sub_eq_add_neg]
/-- as many of the told signs as looked at -/
abbrev tsk (T : Nat → Nat → Int32) (Rw : Nat → Nat) (q i : Nat) : Prop := ∀ y, y < i → tru T (Rw (2 * y)) (nI (Rw (2 * y + 1))) q
theorem tsk_s {q i : Nat} (h : tsk T Rw q i) (h2 : tru T (Rw (2 * i)) (nI (Rw (2 * i + 1))) q) : tsk T Rw q (i + 1) := fun y hy => by
  rcases Nat.lt_succ_iff_lt_or_eq.mp hy with e | e
  · exact h y e
  · rw [e]; exact h2
theorem tsk_e {q i : Nat} (hr : rn % 2 = 0) (hi : rn ≤ 2 * i) (h : tsk T Rw q i) : tso T Rw rn q := fun y hy => h y (by omega)
theorem tsk_o {q i : Nat} (hr : rn % 2 = 0) (hi : 2 * i ≤ rn + 1) (h : tso T Rw rn q) : tsk T Rw q i := fun y hy => h y (by omega)
theorem tsk_0 {q : Nat} : tsk T Rw q 0 := fun _ h => absurd h (Nat.not_lt_zero _)
abbrev so6 (Rw : Nat → Nat) (rn i : Nat) : Prop := rn % 2 = 0 ∧ ∀ y, y < i → Rw (2 * y) < 6
theorem so6_s {i : Nat} (h : so6 Rw rn i) (h2 : Rw (2 * i) < 6) : so6 Rw rn (i + 1) := ⟨h.1, fun y hy => by
  rcases Nat.lt_succ_iff_lt_or_eq.mp hy with e | e
  · exact h.2 y e
  · rw [e]; exact h2⟩
theorem so6_e {i : Nat} (hi : rn ≤ 2 * i) (h : so6 Rw rn i) : tsg Rw rn := ⟨h.1, fun y hy => h.2 y (by omega)⟩
theorem so6_o {i : Nat} (hi : 2 * i ≤ rn + 1) (h : tsg Rw rn) : so6 Rw rn i := ⟨h.1, fun y hy => h.2 y (by have := h.1; omega)⟩
/-- lots -/
abbrev lkN (L : Nat → Int32) : Nat → Nat := fun q => (L q).toNatClampNeg
theorem smI_v (hL : ∀ q, lk9 (L q)) : ∀ n, smI L n = nI (smG (lkN L) n)
  | 0 => rfl
  | n + 1 => by
    show smI L n + L n = nI (smG (lkN L) n + (L n).toNatClampNeg)
    rw [smI_v hL n, ← nI_add, ← (lk9_n (hL n)).1]
theorem lkN_b (hL : ∀ q, lk9 (L q)) (n : Nat) : smG (lkN L) n ≤ 9 * n := smG_le n (fun q _ => (lk9_n (hL q)).2)
theorem lt_d (z : Int32) {w : Nat} (h0 : 0 < w) (hw : w < 2 ^ 31) : ∃ a : Nat, a < w ∧ ltD z (nI w) = nI a := by
  obtain ⟨j, hj, e⟩ := pk_andE (z * 1664525 + 1013904223) (m := 2147483647) 31 (by decide)
  refine ⟨j / 256 % w, Nat.mod_lt _ h0, ?_⟩
  unfold ltD
  rw [e, show (256 : Int32) = nI 256 from rfl, pk_div hj (by omega) (by omega), pk_rem (Nat.lt_of_le_of_lt (Nat.div_le_self _ _) hj) h0 hw]
theorem sd_go (hL : ∀ q, lk9 (L q)) {a q : Nat} (hq : q < 36) (h : ¬ a < (L q).toNatClampNeg) (ha : a < 2 ^ 31) : sdF L (36 - (q + 1)) (q + 1) (nI (a - (L q).toNatClampNeg)) = sdF L (36 - q) q (nI a) := by
  have h9 := lk9_n (hL q)
  have e : nI a - L q = nI (a - (L q).toNatClampNeg) := by
    conv => lhs; rw [h9.1]
    exact pk_sub (by omega)
  rw [← sdF_b hq (by rw [e]; exact nI_pos' (by omega)), e]
theorem sd_at (hL : ∀ q, lk9 (L q)) {a q : Nat} (hq : q < 36) (h : a < (L q).toNatClampNeg) : sdF L (36 - q) q (nI a) = nI q := by
  have h9 := lk9_n (hL q)
  rw [sdF_s hq, if_pos]
  rw [h9.1]; exact pk_sneg (by omega) h
theorem lk_ne {q a : Nat} (hL : ∀ q, lk9 (L q)) (h : a < (L q).toNatClampNeg) : ¬ L q = 0 := fun z => by
  rw [z] at h; exact absurd h (Nat.not_lt_zero a)
theorem lt_w {D : Nat → Nat} {z : Int32} {q : Nat} (hL : ∀ q, lk9 (L q)) (hq : q < 36) (h0 : ¬ L q = 0) (e : sdF L 36 0 (ltD z (smI L 36)) = nI q) : fdA L D q = ltW (oF (unt L D)) L z := by
  unfold ltW
  rw [e, if_pos (nI_sq hq), show ix (nI q) = q from nI_clamp (by omega)]
  exact (unt_fd hL hq h0).symm
/-- count -/
theorem ct_in {x : Int32} (h : wit x 11 16) : ∃ j : Nat, j < 6 ∧ x = nI (j + 11) := by
  have h1 := Int32.le_iff_toInt_le.mp h.1
  have h2 := Int32.le_iff_toInt_le.mp h.2
  rw [show (11 : Int32).toInt = 11 from rfl] at h1
  rw [show (16 : Int32).toInt = 16 from rfl] at h2
  refine ⟨(x.toInt - 11).toNat, by omega, Int32.toInt_inj.mp ?_⟩
  rw [nI_toInt (by omega)]; omega
theorem ct_out {x : Int32} (h : 0 ≤ x - 11 ∧ x - 11 < 6) : wit x 11 16 := by
  obtain ⟨j, hj, e⟩ := vp_in_of (vp_in_of2 (n := 6) (by omega) h.1 h.2) (by omega)
  have e2 : x = nI (j + 11) := by rw [← nI_add, ← e]; show x = x - 11 + 11; rw [Int32.sub_add_cancel]
  rw [e2]
  exact ⟨by rw [show (11 : Int32) = nI 11 from rfl]; exact nI_le (by omega) (by omega), by rw [show (16 : Int32) = nI 16 from rfl]; exact nI_le (by omega) (by omega)⟩
theorem ct_y {Rf : Nat → Int32} {tn : Nat} (h : wit x 11 16) : rf7 Rf (x - 10).toNatClampNeg = sp_count K L S rn tn Rf x := by
  obtain ⟨j, hj, rfl⟩ := ct_in h
  have e10 : nI (j + 11) - 10 = nI (j + 1) := (pk_sub (a := j + 11) (b := 10) (by omega)).trans (by congr 1)
  have e11 : nI (j + 11) - 11 = nI j := (pk_sub (a := j + 11) (b := 11) (by omega)).trans (by congr 1)
  have ne : ∀ k, k < 11 → ¬ nI (j + 11) = nI k := fun k hk z => by have := (nI_eq (by omega) (by omega)).mp z; omega
  rw [e10, nI_clamp (by omega)]
  unfold sp_count
  rw [if_neg (show ¬ nI (j + 11) = (0 : Int32) from ne 0 (by omega)), if_neg (show ¬ nI (j + 11) = (1 : Int32) from ne 1 (by omega)), if_neg (show ¬ nI (j + 11) = (2 : Int32) from ne 2 (by omega)), if_neg (show ¬ nI (j + 11) = (3 : Int32) from ne 3 (by omega)), if_neg (show ¬ nI (j + 11) = (4 : Int32) from ne 4 (by omega)), if_neg (show ¬ nI (j + 11) = (5 : Int32) from ne 5 (by omega)), if_neg (show ¬ nI (j + 11) = (6 : Int32) from ne 6 (by omega)), if_neg (show ¬ nI (j + 11) = (7 : Int32) from ne 7 (by omega)), if_neg (show ¬ nI (j + 11) = (8 : Int32) from ne 8 (by omega)), if_neg (show ¬ nI (j + 11) = (9 : Int32) from ne 9 (by omega)), e11, if_pos ⟨nI_pos' (by omega), by rw [show (6 : Int32) = nI 6 from rfl]; exact nI_lt hj (by omega)⟩, show ix (nI j) = j from nI_clamp (by omega)]
  show (if j + 1 = 0 then 0 else Rf (j + 1 - 1)) = Rf j
  rw [if_neg (by omega)]; rfl
theorem ct_vp (h : wit x 11 16) : vp_in (x - 10) 7 := by
  obtain ⟨j, hj, rfl⟩ := ct_in h
  have e10 : nI (j + 11) - 10 = nI (j + 1) := (pk_sub (a := j + 11) (b := 10) (by omega)).trans (by congr 1)
  rw [e10]; exact vp_in_nI (by omega) (by omega)
theorem ct_n {Rf : Nat → Int32} {tn : Nat} (h : ¬ wit x 11 16) (n0 : ¬ x = 0) (n1 : ¬ x = 1) (n2 : ¬ x = 2) (n3 : ¬ x = 3) (n4 : ¬ x = 4) (n5 : ¬ x = 5) (n6 : ¬ x = 6) (n7 : ¬ x = 7) (n8 : ¬ x = 8) (n9 : ¬ x = 9) : -9 = sp_count K L S rn tn Rf x := by
  unfold sp_count
  rw [if_neg n0, if_neg n1, if_neg n2, if_neg n3, if_neg n4, if_neg n5, if_neg n6, if_neg n7, if_neg n8, if_neg n9, if_neg (fun z => h (ct_out z))]
end RSC
