/-! the way: the first step of a fewest way -/
section WAY
variable {K S : Nat → Int32} {a b : Nat}
theorem dst_ub (ha : a < 36) {w : Nat} (hw : w < 4) (he : edg K S a w) (hb : b < 36) : dst K S a b ≤ cst (K (nb a w)) w + dst K S (nb a w) b := by
  have hH : cld K S (fun q => dst K S a q - cst (K (nb a w)) w) := fun q hq u hu hed => by
    have := dst_cl K S a q hq u hu hed
    show dst K S a (nb q u) - _ ≤ dst K S a q - _ + _
    omega
  have h2 : ∀ q, q < 36 → dst K S a q - cst (K (nb a w)) w ≤ ini (nb a w) q := fun q hq => by
    unfold ini; split
    · rename_i e
      have := dst_cl K S a a ha w hw he
      rw [dst_0] at this
      rw [e]; omega
    · have := dst_le K S a q; omega
  have h3 : dst K S a b - cst (K (nb a w)) w ≤ dst K S (nb a w) b := spr_up hH 36 (ini (nb a w)) (fun _ => false) h2 b hb
  omega
def mnW (K S : Nat → Int32) (a q : Nat) : Nat → Nat
  | 0 => 1000000
  | w + 1 => if edg K S a w ∧ cst (K (nb a w)) w + dst K S (nb a w) q < mnW K S a q w then cst (K (nb a w)) w + dst K S (nb a w) q else mnW K S a q w
theorem mnW_1 (q : Nat) : ∀ n, mnW K S a q n ≤ 1000000
  | 0 => Nat.le_refl _
  | n + 1 => by have := mnW_1 q n; unfold mnW; split <;> omega
theorem mnW_le (q : Nat) : ∀ n w, w < n → edg K S a w → mnW K S a q n ≤ cst (K (nb a w)) w + dst K S (nb a w) q
  | 0, w, h, _ => absurd h (Nat.not_lt_zero w)
  | n + 1, w, h, he => by
    unfold mnW
    rcases Nat.lt_succ_iff_lt_or_eq.mp h with e | e
    · have := mnW_le q n w e he
      split <;> omega
    · subst e
      split
      · exact Nat.le_refl _
      · rename_i c; exact Nat.not_lt.mp (fun z => c ⟨he, z⟩)
theorem mnW_at (q : Nat) : ∀ n, mnW K S a q n = 1000000 ∨ ∃ w, w < n ∧ edg K S a w ∧ mnW K S a q n = cst (K (nb a w)) w + dst K S (nb a w) q
  | 0 => Or.inl rfl
  | n + 1 => by
    unfold mnW
    split
    · rename_i c; exact Or.inr ⟨n, Nat.lt_succ_self n, c.1, rfl⟩
    · exact (mnW_at q n).elim Or.inl (fun ⟨w, h1, h2⟩ => Or.inr ⟨w, Nat.lt_succ_of_lt h1, h2⟩)
theorem dst_ex (hab : ¬ b = a) (hb : b < 36) (hd : dst K S a b < 1000000) : ∃ w, w < 4 ∧ edg K S a w ∧ cst (K (nb a w)) w + dst K S (nb a w) b ≤ dst K S a b := by
  have hH : cld K S (fun q => if q = a then 0 else mnW K S a q 4) := fun q hq u hu hed => by
    show (if nb q u = a then 0 else mnW K S a (nb q u) 4) ≤ (if q = a then 0 else mnW K S a q 4) + _
    by_cases e : nb q u = a
    · rw [if_pos e]; exact Nat.zero_le _
    · rw [if_neg e]
      by_cases e2 : q = a
      · subst e2
        rw [if_pos rfl]
        have := mnW_le (K := K) (S := S) (a := q) (nb q u) 4 u hu hed
        rw [dst_0] at this
        omega
      · rw [if_neg e2]
        rcases mnW_at (K := K) (S := S) (a := a) q 4 with h | ⟨w, hw, he, h⟩
        · have := mnW_1 (K := K) (S := S) (a := a) (nb q u) 4
          omega
        · have h1 := mnW_le (K := K) (S := S) (a := a) (nb q u) 4 w hw he
          have h2 := dst_cl K S (nb a w) q hq u hu hed
          omega
  have h3 := spr_up hH 36 (ini a) (fun _ => false) (fun q hq => by
    show (if q = a then 0 else mnW K S a q 4) ≤ ini a q
    unfold ini; split
    · exact Nat.le_refl _
    · exact mnW_1 q 4) b hb
  have h4 : mnW K S a b 4 ≤ dst K S a b := by
    have h5 : (if b = a then 0 else mnW K S a b 4) ≤ dst K S a b := h3
    rw [if_neg hab] at h5; exact h5
  rcases mnW_at (K := K) (S := S) (a := a) b 4 with h | ⟨w, hw, he, h⟩
  · omega
  · exact ⟨w, hw, he, by omega⟩
theorem dsI_c {j : Nat} (hj : j < 36) (hc : csl (K j) (S 1)) : dsI K S (nI j) = dst K S j := by unfold dsI; rw [if_pos ((cbe_N hj).mpr hc), nI_clamp (by omega)]
abbrev wcd (K S : Nat → Int32) (a b w : Nat) : Prop := edg K S a w ∧ dsI K S (nI (nb a w)) b < 1000000
def wvl (K S : Nat → Int32) (a b w : Nat) : Nat := dsI K S (nI (nb a w)) b + cst (K (nb a w)) w
def rwF (K S : Nat → Int32) (a b : Nat) : Nat → Nat × Nat
  | 0 => (99, 0)
  | w + 1 => if wcd K S a b w ∧ ((rwF K S a b w).1 = 99 ∨ wvl K S a b w < (rwF K S a b w).2) then (w, wvl K S a b w) else rwF K S a b w
theorem rwF_y {w : Nat} (h : wcd K S a b w) (h2 : (rwF K S a b w).1 = 99 ∨ wvl K S a b w < (rwF K S a b w).2) : rwF K S a b (w + 1) = (w, wvl K S a b w) := if_pos ⟨h, h2⟩
theorem rwF_n {w : Nat} (h : ¬ (wcd K S a b w ∧ ((rwF K S a b w).1 = 99 ∨ wvl K S a b w < (rwF K S a b w).2))) : rwF K S a b (w + 1) = rwF K S a b w := if_neg h
theorem rwF_in : ∀ w, w ≤ 4 → ((rwF K S a b w).1 = 99 ∧ ∀ u, u < w → ¬ wcd K S a b u) ∨ ((rwF K S a b w).1 < w ∧ wcd K S a b (rwF K S a b w).1 ∧ (rwF K S a b w).2 = wvl K S a b (rwF K S a b w).1 ∧ (∀ u, u < w → wcd K S a b u → wvl K S a b (rwF K S a b w).1 ≤ wvl K S a b u) ∧ ∀ u, u < (rwF K S a b w).1 → wcd K S a b u → wvl K S a b (rwF K S a b w).1 < wvl K S a b u)
  | 0, _ => Or.inl ⟨rfl, fun u h => absurd h (Nat.not_lt_zero u)⟩
  | w + 1, hw => by
    have ih := rwF_in w (by omega)
    by_cases c : wcd K S a b w ∧ ((rwF K S a b w).1 = 99 ∨ wvl K S a b w < (rwF K S a b w).2)
    · rw [rwF_y c.1 c.2]
      have hlt : ∀ u, u < w → wcd K S a b u → wvl K S a b w < wvl K S a b u := fun u hu hc => by
        rcases ih with h | h
        · exact absurd hc (h.2 u hu)
        · have h1 := h.2.2.2.1 u hu hc
          have h2 : wvl K S a b w < (rwF K S a b w).2 := c.2.elim (fun z => absurd h.1 (by omega)) id
          rw [h.2.2.1] at h2; omega
      refine Or.inr ⟨Nat.lt_succ_self w, c.1, rfl, fun u hu hc => ?_, hlt⟩
      rcases Nat.lt_succ_iff_lt_or_eq.mp hu with e | e
      · exact Nat.le_of_lt (hlt u e hc)
      · subst e; exact Nat.le_refl _
    · rw [rwF_n c]
      rcases ih with h | h
      · refine Or.inl ⟨h.1, fun u hu hc => ?_⟩
        rcases Nat.lt_succ_iff_lt_or_eq.mp hu with e | e
        · exact h.2 u e hc
        · subst e; exact c ⟨hc, Or.inl h.1⟩
      · refine Or.inr ⟨Nat.lt_succ_of_lt h.1, h.2.1, h.2.2.1, fun u hu hc => ?_, h.2.2.2.2⟩
        rcases Nat.lt_succ_iff_lt_or_eq.mp hu with e | e
        · exact h.2.2.2.1 u e hc
        · subst e
          have h3 : ¬ wvl K S a b u < (rwF K S a b u).2 := fun z => c ⟨hc, Or.inr z⟩
          rw [h.2.2.1] at h3; omega
theorem rwF_b : ∀ w, (rwF K S a b w).2 ≤ 1000003
  | 0 => Nat.zero_le _
  | w + 1 => by
    have ih := rwF_b w
    unfold rwF; split
    · rename_i c
      have h1 := c.1.2
      have h2 := cst_le (K (nb a w)) w
      show wvl K S a b w ≤ 1000003
      unfold wvl; omega
    · exact ih
theorem wy_at {f : Nat} (hf : f < 4) (h : wyC K S a b f) (h2 : ∀ u, u < f → ¬ wyC K S a b u) : wyF K S a b 4 0 = nI f := by
  have hs : ∀ n, n ≤ f → wyF K S a b (4 - n) n = wyF K S a b 4 0 := by
    intro n
    induction n with
    | zero => intro _; rfl
    | succ n ih => intro hn; exact (wyF_n (by omega) (h2 n (by omega))).trans (ih (by omega))
  rw [← hs f (Nat.le_refl _)]
  exact wyF_y hf h
theorem way_1 {x y : Int32} (h : ¬ (sq x ∧ sq y)) : sp_way K S x y = (-1, 1) := if_pos h
theorem way_2 (ha : a < 36) (hb : b < 36) (h : a = b ∨ ¬ csl (K a) (S 1)) : sp_way K S (nI a) (nI b) = (-9, 0) := by
  unfold sp_way
  rw [if_neg (fun z => z ⟨nI_sq ha, nI_sq hb⟩), show ix (nI b) = b from nI_clamp (by omega)]
  refine if_pos ?_
  by_cases c : csl (K a) (S 1)
  · have e : a = b := h.elim id (fun z => absurd c z)
    subst e
    rw [dsI_c ha c, dst_0]; decide
  · unfold dsI; rw [if_neg (fun z => c ((cbe_N ha).mp z))]; decide
theorem wyC_i (hb : b < 36) {w : Nat} (hd : dsI K S (nI a) b < 1000000) : wyC K S a b w ↔ (wcd K S a b w ∧ wvl K S a b w = dsI K S (nI a) b) := by
  have hc := cst_le (K (nb a w)) w
  constructor
  · intro h
    obtain ⟨h1, h2, h3⟩ := h
    obtain ⟨e1, e2, e3⟩ := stp_ne h1
    have h4 : dsI K S (nI (nb a w)) b < 1000000 := Decidable.not_not.mp (fun z => h2 (dI_f z))
    rw [e3, dI_t h4, dI_t hd, nI_add] at h3
    have h5 := (nI_eq (by omega) (by omega)).mp h3
    exact ⟨⟨⟨e1, e2⟩, h4⟩, by unfold wvl; omega⟩
  · intro h
    have h4 := h.1.2
    have e3 := stp_t h.1.1.1 h.1.1.2
    refine ⟨by rw [e3]; exact nI_ne_m9 (by omega), fun z => dI_m9.mp z h4, ?_⟩
    rw [e3, dI_t h4, dI_t hd, nI_add, ← h.2]
    unfold wvl; rw [Nat.add_comm]
theorem way_e (ha : a < 36) (hb : b < 36) (hc : csl (K a) (S 1)) (hab : ¬ a = b) : sp_way K S (nI a) (nI b) = (cbI (rwF K S a b 4).1, 0) := by
  have ed : dsI K S (nI a) b = dst K S a b := by rw [dsI_c ha hc]
  have eb : ∀ w, edg K S a w → dsI K S (nI (nb a w)) b = dst K S (nb a w) b := fun w he => by rw [dsI_c he.1 he.2]
  unfold sp_way
  rw [if_neg (fun z => z ⟨nI_sq ha, nI_sq hb⟩), show ix (nI b) = b from nI_clamp (by omega), show ix (nI a) = a from nI_clamp (by omega)]
  rcases rwF_in (K := K) (S := S) (a := a) (b := b) 4 (Nat.le_refl _) with h | h
  · have hd : ¬ dsI K S (nI a) b < 1000000 := fun z => by
      rw [ed] at z
      obtain ⟨w, hw, he, hv⟩ := dst_ex (fun e => hab e.symm) hb z
      exact h.2 w hw ⟨he, by rw [eb w he]; omega⟩
    rw [dI_f hd, if_pos (by decide), h.1]; rfl
  · obtain ⟨h1, h2, h3, h4, h5⟩ := h
    have hu := dst_ub ha h1 h2.1 hb
    have hb1 : dst K S (nb a (rwF K S a b 4).1) b ≤ 108 := dst_b (by rw [← eb _ h2.1]; exact h2.2)
    have hcl := cst_le (K (nb a (rwF K S a b 4).1)) (rwF K S a b 4).1
    have hcp := cst_pos (K (nb a (rwF K S a b 4).1)) (rwF K S a b 4).1
    have hd : dsI K S (nI a) b < 1000000 := by rw [ed]; omega
    obtain ⟨w, hw, he, hv⟩ := dst_ex (fun e => hab e.symm) hb (by rw [← ed]; exact hd)
    have hwc : wcd K S a b w := ⟨he, by rw [eb w he]; rw [ed] at hd; omega⟩
    have h6 := h4 w hw hwc
    have h7 : wvl K S a b w ≤ dst K S a b := by unfold wvl; rw [eb w he]; omega
    have h8 : wvl K S a b (rwF K S a b 4).1 = dst K S a b := by
      have : dst K S a b ≤ wvl K S a b (rwF K S a b 4).1 := by unfold wvl; rw [eb _ h2.1]; omega
      omega
    have h9 : 0 < dst K S a b := by rw [← h8]; unfold wvl; omega
    rw [dI_t hd, if_neg (nI_nle (by rw [ed]; exact h9) (by omega)), wy_at h1 ((wyC_i hb hd).mpr ⟨h2, by rw [h8, ed]⟩) (fun u hu hz => by
      have h10 := (wyC_i hb hd).mp hz
      have := h5 u hu h10.1
      rw [h10.2, ed, h8] at this
      omega), cbI_t h1]
end WAY
