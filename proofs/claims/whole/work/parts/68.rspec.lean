/-! what the law's loop keeps -/
def gd (K L S : Nat → Int32) : Prop := cbe K S (S 0) ∧ (∀ q, lk9 (L q)) ∧ S 2 ≤ 9
section GDL
variable {K L S : Nat → Int32} {x y : Int32} {T : Nat → Nat → Int32}
theorem two0 : ¬ (2 : Nat) = 0 := by decide
theorem one0 : ¬ (1 : Nat) = 0 := by decide
theorem thr0 : ¬ (3 : Nat) = 0 := by decide
theorem fou0 : ¬ (4 : Nat) = 0 := by decide
theorem six0 : ¬ (6 : Nat) = 0 := by decide
theorem gd_turnTo (h : gd K L S) : gd (if (sp_turnTo K S x y).2 = 0 then upd K (ix x) y else K) L S := by
  by_cases c : (sp_turnTo K S x y).2 = 0
  · rw [if_pos c]
    unfold sp_turnTo at c
    by_cases c1 : sq x
    · rw [if_neg (fun z => z c1)] at c
      by_cases c2 : kd y
      · rw [if_neg (fun z => z c2)] at c
        by_cases c3 : x = S 0 ∧ ¬ csl y (S 1)
        · rw [if_pos c3] at c; exact absurd c thr0
        · refine ⟨⟨h.1.1, ?_⟩, h.2⟩
          obtain ⟨a, ha, ea⟩ := sq_nat c1
          obtain ⟨m, hm, em⟩ := sq_nat h.1.1
          have h1 := h.1.2
          rw [em, nI_clamp (by omega)] at h1 ⊢
          rw [ea, show ix (nI a) = a from nI_clamp (by omega)]
          by_cases e : m = a
          · subst e
            rw [upd_at]
            exact Decidable.not_not.mp (fun z => c3 ⟨by rw [ea, em], z⟩)
          · rw [upd_ne e]; exact h1
      · rw [if_pos c2] at c; exact absurd c two0
    · rw [if_pos c1] at c; exact absurd c one0
  · rw [if_neg c]; exact h
theorem gd_make (h : gd K L S) : gd K (if (sp_make L x y).2 = 0 then upd L (ix x) y else L) S := by
  by_cases c : (sp_make L x y).2 = 0
  · rw [if_pos c]
    refine ⟨h.1, fun q => ?_, h.2.2⟩
    unfold sp_make at c
    by_cases c1 : sq x
    · rw [if_neg (fun z => z c1)] at c
      by_cases c2 : y < 0
      · rw [if_pos c2] at c; exact absurd c fou0
      · rw [if_neg c2] at c
        by_cases c3 : 9 < y
        · rw [if_pos c3] at c; exact absurd c six0
        · show lk9 (if q = ix x then y else L q)
          split
          · exact ⟨Int32.not_lt.mp c2, Int32.not_lt.mp c3⟩
          · exact h.2.1 q
    · rw [if_pos c1] at c; exact absurd c one0
  · rw [if_neg c]; exact h
theorem ix_2 (h : 0 ≤ x ∧ x < 5) (e : 2 = ix x) : ix x = 2 := e.symm
theorem gd_set (h : gd K L S) : gd K L (if (sp_set K S x y).2 = 0 then upd S (ix x) y else S) := by
  by_cases c : (sp_set K S x y).2 = 0
  · rw [if_pos c]
    unfold sp_set at c
    by_cases c1 : 0 ≤ x ∧ x < 5
    · rw [if_neg (fun z => z c1)] at c
      by_cases c2 : x = 0 ∧ ¬ sq y
      · rw [if_pos c2] at c; exact absurd c one0
      · rw [if_neg c2] at c
        by_cases c3 : y < leastF (ix x)
        · rw [if_pos c3] at c; exact absurd c fou0
        · rw [if_neg c3] at c
          by_cases c4 : greatF (ix x) < y
          · rw [if_pos c4] at c; exact absurd c six0
          · rw [if_neg c4] at c
            by_cases c5 : cbe K (upd S (ix x) y) (upd S (ix x) y 0)
            · refine ⟨c5, h.2.1, ?_⟩
              show (if 2 = ix x then y else S 2) ≤ 9
              split
              · rename_i e
                rw [← e] at c4
                exact Int32.not_lt.mp c4
              · exact h.2.2
            · rw [if_pos c5] at c; exact absurd c thr0
    · rw [if_pos c1] at c; exact absurd c two0
  · rw [if_neg c]; exact h
theorem keep_lk {k : Nat} {n : Int32} (h : ∀ q, lk9 (L q)) (q : Nat) : lk9 (keep T L k n q) := by
  unfold keep
  split
  · exact h q
  · show lk9 (if tru T k n q then L q else 0)
    split
    · exact h q
    · exact ⟨by decide, by decide⟩
theorem gd_learn (h : gd K L S) {k : Nat} {n : Int32} {P : Prop} [Decidable P] : gd K (if P then keep T L k n else L) S := by
  by_cases c : P
  · rw [if_pos c]; exact ⟨h.1, keep_lk h.2.1, h.2.2⟩
  · rw [if_neg c]; exact h
theorem gd_on {K3 L3 S3 : Nat → Int32} {im : Int32} (h : gd K L S) (h3 : ¬ im = 0 → gd K3 L3 S3) : gd (if im = 0 then K else K3) (if im = 0 then L else L3) (if im = 0 then S else S3) := by
  by_cases c : im = 0
  · rw [if_pos c, if_pos c, if_pos c]; exact h
  · rw [if_neg c, if_neg c, if_neg c]; exact h3 c
theorem p2_ok {j : Nat} {z : Int32} (hS : S 2 ≤ 9) (hz : ¬ (ptn K S j z).1 = 0) : (ptn K S j z).2 2 ≤ 9 := by
  unfold ptn at hz ⊢
  by_cases c : z < leastF j ∨ greatF j < z
  · rw [if_pos c] at hz; exact absurd rfl hz
  · rw [if_neg c]
    show (if 2 = j then z else S 2) ≤ 9
    split
    · rename_i e
      rw [← e] at c
      exact Int32.not_lt.mp (fun w => c (Or.inr w))
    · exact hS
theorem rng_lk {a i : Nat} {v : Int32} (h : ∀ q, lk9 (L q)) (hv : lk9 v) (q : Nat) : lk9 (rngF L a i v q) := by
  by_cases c : a ≤ q ∧ q < i
  · rw [show rngF L a i v q = v from if_pos c]; exact hv
  · rw [show rngF L a i v q = L q from if_neg c]; exact h q
theorem mka_lk {v : Int32} (h : ∀ q, lk9 (L q)) (hv : lk9 v) (q : Nat) : lk9 ((mka L x y v).2 q) := by
  by_cases c : rgP x y
  · rw [show mka L x y v = (1, rngF L (ix x) (ix y + 1) v) from if_pos c]; exact rng_lk h hv q
  · rw [show mka L x y v = (0, L) from if_neg c]; exact h q
theorem lk9_1 : lk9 1 := by decide
theorem tlr_gd {A : Nat → Nat} {tn p : Nat} (h : gd K L S) (h6 : ¬ fbi (ltA A tn p) = 6) (hi : ifS A tn (fbi (ltA A tn p)) (p + 1) = none) (hr : ¬ (tlr A tn T K L S p).1 = 0) : gd (tlr A tn T K L S p).2.1 (tlr A tn T K L S p).2.2.1 (tlr A tn T K L S p).2.2.2 := by
  refine ⟨tlr_cb h.1 hr, ?_⟩
  by_cases e1 : ltA A tn p = 107
  · rw [tlr_k e1]; exact h.2
  by_cases e2 : ltA A tn p = 118
  · rw [tlr_v e2]; exact h.2
  by_cases e3 : ltA A tn p = 108
  · rw [tlr_l e3]
    refine ⟨fun q => ?_, h.2.2⟩
    have hd := fm_l e3 hi
    obtain ⟨m, hm, em⟩ := dg_n (dgN_d 5 hd 4 (by decide))
    have em2 : dgA A tn (p + 5) = nI m := em
    have h9 : lk9 (dgA A tn (p + 5)) := by rw [em2]; exact ⟨nI_pos' (by omega), by rw [show (9 : Int32) = nI 9 from rfl]; exact nI_le (by omega) (by omega)⟩
    exact mka_lk h.2.1 h9 q
  by_cases e4 : ltA A tn p = 104
  · rw [tlr_h e4] at hr ⊢; exact ⟨h.2.1, p2_ok h.2.2 hr⟩
  by_cases e5 : ltA A tn p = 100
  · rw [tlr_d e5] at hr ⊢
    by_cases c : (ptn K S 1 (dgA A tn (p + 1))).1 = 0
    · rw [if_pos c] at hr; exact absurd rfl hr
    · rw [if_neg c] at hr ⊢
      exact ⟨h.2.1, p2_ok (p2_ok h.2.2 c) hr⟩
  by_cases e6 : ltA A tn p = 99
  · rw [tlr_c e6] at hr ⊢
    by_cases c : (ptn K S 3 (tdA A tn (p + 1))).1 = 0
    · rw [if_pos c] at hr; exact absurd rfl hr
    · rw [if_neg c] at hr ⊢
      exact ⟨h.2.1, p2_ok (p2_ok h.2.2 c) hr⟩
  by_cases e7 : ltA A tn p = 115
  · have e8 : tlr A tn T K L S p = ((kpo T L (ix (cdA A tn 8 (p + 1))) (tdA A tn (p + 2))).1, K, (kpo T L (ix (cdA A tn 8 (p + 1))) (tdA A tn (p + 2))).2, S) := by
      unfold tlr; rw [if_neg e1, if_neg e2, if_neg e3, if_neg e4, if_neg e5, if_neg e6, if_pos e7]
    rw [e8]; exact ⟨keep_lk h.2.1, h.2.2⟩
  · exact absurd (fbi_x e1 e2 e3 e4 e5 e6 e7) h6
theorem taF_gd {A : Nat → Nat} {tn : Nat} (ht : tn ≤ 96) : ∀ (f p n : Nat) (K L S : Nat → Int32), (p < tn → fofF A tn f p = none) → gd K L S → 0 < (taF A tn f p n K L S).1 → gd (taF A tn f p n K L S).2.1 (taF A tn f p n K L S).2.2.1 (taF A tn f p n K L S).2.2.2
  | 0, p, n, K, L, S, _, _, h => by
    have h1 : (0 : Int32) < 0 := h
    exact absurd h1 (by decide)
  | f + 1, p, n, K, L, S, hf, hg, h => by
    by_cases c : p < tn
    · obtain ⟨a1, a2, a3⟩ := fofF_i (hf c)
      by_cases r : (tlr A tn (sg K (dsI K S (S 0))) K L S p).1 = 0
      · rw [taF_f c r] at h
        have h1 : (0 : Int32) < -2000 - nI p := h
        have h2 := Int32.lt_iff_toInt_lt.mp h1
        rw [m_ne (by decide) (by decide) (by omega), show (-2000 : Int32).toInt = -2000 from rfl, show (0 : Int32).toInt = 0 from rfl] at h2
        omega
      · have e : taF A tn (f + 1) p n K L S = taF A tn f (p + 1 + strL.getD (fbi (ltA A tn p)) 0) (n + 1) (tlr A tn (sg K (dsI K S (S 0))) K L S p).2.1 (tlr A tn (sg K (dsI K S (S 0))) K L S p).2.2.1 (tlr A tn (sg K (dsI K S (S 0))) K L S p).2.2.2 := by rw [taF, if_pos c, if_neg r]
        rw [e] at h ⊢
        exact taF_gd ht f _ _ _ _ _ a3 (tlr_gd hg a1 a2 r) h
    · rw [taF_e c]; exact hg
theorem gd_sea {A : Nat → Nat} {tn : Nat} (ht : tn ≤ 96) (h : gd K L S) : gd (sp_sea A tn K L S).2.1 (sp_sea A tn K L S).2.2.1 (sp_sea A tn K L S).2.2.2 := by
  unfold sp_sea
  by_cases c : fof A tn = 0
  · rw [if_neg (fun z => z c)]
    by_cases c2 : 0 < (taF A tn 97 0 0 K L S).1
    · rw [if_pos c2]; exact taF_gd ht 97 0 0 K L S (fun _ => fof_0 c) h c2
    · rw [if_neg c2]; exact h
  · rw [if_pos c]; exact h
theorem A_letter {A : Nat → Nat} {tn : Nat} (h : ∀ q, A q < 256) : ∀ q, (if (sp_letter tn x).2 = 0 then (fun q => if q = tn then ix x else A q) else A) q < 256 := fun q => by
  by_cases c : (sp_letter tn x).2 = 0
  · rw [if_pos c]
    unfold sp_letter at c
    by_cases c1 : x < 0
    · rw [if_pos c1] at c; exact absurd c fou0
    · rw [if_neg c1] at c
      by_cases c2 : 255 < x ∨ 96 ≤ tn
      · rw [if_pos c2] at c; exact absurd c six0
      · obtain ⟨n, hn, rfl⟩ := i0_255 (Int32.not_lt.mp c1) (fun z => c2 (Or.inl z))
        show (if q = tn then ix (nI n) else A q) < 256
        split
        · rw [show ix (nI n) = n from nI_clamp (by omega)]; exact hn
        · exact h q
  · rw [if_neg c]; exact h q
theorem tn_letter {tn : Nat} (h : tn ≤ 96) : (if (sp_letter tn x).2 = 0 then tn + 1 else tn) ≤ 96 := by
  by_cases c : (sp_letter tn x).2 = 0
  · rw [if_pos c]
    unfold sp_letter at c
    by_cases c1 : x < 0
    · rw [if_pos c1] at c; exact absurd c fou0
    · rw [if_neg c1] at c
      by_cases c2 : 255 < x ∨ 96 ≤ tn
      · rw [if_pos c2] at c; exact absurd c six0
      · have : ¬ 96 ≤ tn := fun z => c2 (Or.inr z)
        omega
  · rw [if_neg c]; exact h
theorem R_row {Rw : Nat → Nat} {rn : Nat} (h : ∀ q, Rw q < 100) : ∀ q, (if (sp_row rn x).2 = 0 then (fun q => if q = rn then ix x else Rw q) else Rw) q < 100 := fun q => by
  by_cases c : (sp_row rn x).2 = 0
  · rw [if_pos c]
    unfold sp_row at c
    by_cases c1 : x < 0
    · rw [if_pos c1] at c; exact absurd c fou0
    · rw [if_neg c1] at c
      by_cases c2 : 99 < x ∨ 16 ≤ rn
      · rw [if_pos c2] at c; exact absurd c six0
      · obtain ⟨n, hn, rfl⟩ := i0_99 (Int32.not_lt.mp c1) (fun z => c2 (Or.inl z))
        show (if q = rn then ix (nI n) else Rw q) < 100
        split
        · rw [show ix (nI n) = n from nI_clamp (by omega)]; exact hn
        · exact h q
  · rw [if_neg c]; exact h q
theorem rn_row {rn : Nat} (h : rn ≤ 16) : (if (sp_row rn x).2 = 0 then rn + 1 else rn) ≤ 16 := by
  by_cases c : (sp_row rn x).2 = 0
  · rw [if_pos c]
    unfold sp_row at c
    by_cases c1 : x < 0
    · rw [if_pos c1] at c; exact absurd c fou0
    · rw [if_neg c1] at c
      by_cases c2 : 99 < x ∨ 16 ≤ rn
      · rw [if_pos c2] at c; exact absurd c six0
      · have : ¬ 16 ≤ rn := fun z => c2 (Or.inr z)
        omega
  · rw [if_neg c]; exact h
theorem kp_zero : (fun _ => (0 : Int32)) = kp (fun _ => 0) (fun _ => 0) (fun _ => 0) := by funext i; unfold kp; split; rfl; split <;> rfl
theorem gd_0 : gd (fun _ => 0) (fun _ => 1) sS0 := by
  refine ⟨by unfold cbe csl; decide, fun _ => lk9_1, by decide⟩
end GDL
/-- where the law ends -/
def lE : Nat → Nat → va_W → Nat → List Value → Prop := fun ck sk _ pc st => ck ≤ 39 ∧ sk ≤ 1620 ∧ decode code pc = .ok (.ireturn, 1) ∧ st = [.int 1]
