/-! the sea of the reference: its two passes -/
section SEAR
variable {A : Nat → Nat} {tn p k n : Nat} {K L S K2 L2 S2 : Nat → Int32}
theorem fbi_l6 (x : Int32) : fbi x ≤ 6 := by unfold fbi; grind
theorem stc_59 : ∀ f, f < 6 → 0 < strL.getD f 0 ∧ stc f (strL.getD f 0 - 1) = 59 := by decide
theorem ifF_so {f P q : Nat} : ∀ k i, ifF A tn f P k i = some q → ∃ j, i ≤ j ∧ j < i + k ∧ q = P + j ∧ ¬ sut (stc f j) (ltA A tn (P + j)) ∧ (P + i ≤ tn → q ≤ tn)
  | 0, _, h => by cases h
  | k + 1, i, h => by
    by_cases c : sut (stc f i) (ltA A tn (P + i))
    · rw [ifF_t c] at h
      obtain ⟨j, h1, h2, h3, h4, h5⟩ := ifF_so k (i + 1) h
      exact ⟨j, by omega, by omega, h3, h4, fun _ => h5 (by have := ltA_ge c.1; omega)⟩
    · rw [ifF_f c] at h; injection h with h
      exact ⟨i, Nat.le_refl _, by omega, h.symm, c, fun w => by omega⟩
theorem st0_c (A : Nat → Nat) (tn p : Nat) : (fbi (ltA A tn p) = 6 ∧ st0 A tn p = (-1, p)) ∨ (¬ fbi (ltA A tn p) = 6 ∧ fbi (ltA A tn p) < 6 ∧ ((ifS A tn (fbi (ltA A tn p)) (p + 1) = none ∧ st0 A tn p = (1, p + strL.getD (fbi (ltA A tn p)) 0)) ∨
    (∃ q, ifS A tn (fbi (ltA A tn p)) (p + 1) = some q ∧ st0 A tn p = if q = p + strL.getD (fbi (ltA A tn p)) 0 then (1, p + strL.getD (fbi (ltA A tn p)) 0) else (-1, q)))) := by
  by_cases h6 : fbi (ltA A tn p) = 6
  · exact Or.inl ⟨h6, st_6 h6⟩
  · refine Or.inr ⟨h6, by have := fbi_l6 (ltA A tn p); omega, ?_⟩
    cases hi : ifS A tn (fbi (ltA A tn p)) (p + 1) with
    | none => exact Or.inl ⟨rfl, st_no h6 hi⟩
    | some q => exact Or.inr ⟨q, rfl, st_so h6 hi⟩
theorem fs_r (h : ¬ (st0 A tn p).1 = 1) : fofF A tn (k + 1) p = some (st0 A tn p).2 := by
  rcases st0_c A tn p with ⟨h6, e⟩ | ⟨h6, _, ⟨hi, e⟩ | ⟨q, hi, e⟩⟩
  · rw [e]; exact fofF_6 h6
  · rw [e] at h; exact absurd rfl h
  · by_cases c : q = p + strL.getD (fbi (ltA A tn p)) 0
    · rw [if_pos c] at e; rw [e] at h; exact absurd rfl h
    · rw [if_neg c] at e; rw [e]; exact fofF_s h6 hi
theorem m1_1 : ¬ (-1 : Int32) = 1 := by decide
theorem fs_q (h : (st0 A tn p).1 = 1) (h2 : ¬ ltA A tn (st0 A tn p).2 = 59) : fofF A tn (k + 1) p = some (st0 A tn p).2 := by
  rcases st0_c A tn p with ⟨h6, e⟩ | ⟨h6, hl, ⟨hi, e⟩ | ⟨q, hi, e⟩⟩
  · rw [e] at h; exact absurd h m1_1
  · obtain ⟨s1, s2⟩ := stc_59 _ hl
    have h3 := ifF_all _ _ hi (strL.getD (fbi (ltA A tn p)) 0 - 1) (Nat.zero_le _) (by omega)
    rw [s2, show p + 1 + (strL.getD (fbi (ltA A tn p)) 0 - 1) = p + strL.getD (fbi (ltA A tn p)) 0 by omega] at h3
    rw [e] at h2
    exact absurd (sut_59.mp h3) h2
  · by_cases c : q = p + strL.getD (fbi (ltA A tn p)) 0
    · rw [if_pos c] at e; rw [e, ← c]; exact fofF_s h6 hi
    · rw [if_neg c] at e; rw [e] at h; exact absurd h m1_1
theorem fs_p (h : (st0 A tn p).1 = 1) (h2 : ltA A tn (st0 A tn p).2 = 59) : ¬ fbi (ltA A tn p) = 6 ∧ ifS A tn (fbi (ltA A tn p)) (p + 1) = none ∧ (st0 A tn p).2 = p + strL.getD (fbi (ltA A tn p)) 0 := by
  rcases st0_c A tn p with ⟨h6, e⟩ | ⟨h6, hl, ⟨hi, e⟩ | ⟨q, hi, e⟩⟩
  · rw [e] at h; exact absurd h m1_1
  · exact ⟨h6, hi, by rw [e]⟩
  · obtain ⟨s1, s2⟩ := stc_59 _ hl
    by_cases c : q = p + strL.getD (fbi (ltA A tn p)) 0
    · rw [if_pos c] at e
      obtain ⟨j, _, _, h3, h4, _⟩ := ifF_so _ _ hi
      rw [e] at h2
      have ej : j = strL.getD (fbi (ltA A tn p)) 0 - 1 := by omega
      rw [ej, s2, show p + 1 + (strL.getD (fbi (ltA A tn p)) 0 - 1) = p + strL.getD (fbi (ltA A tn p)) 0 by omega] at h4
      exact absurd (sut_59.mpr h2) h4
    · rw [if_neg c] at e; rw [e] at h; exact absurd h m1_1
theorem st0_in (hp : p ≤ tn) : p ≤ (st0 A tn p).2 ∧ (st0 A tn p).2 ≤ tn := by
  rcases st0_c A tn p with ⟨h6, e⟩ | ⟨h6, hl, ⟨hi, e⟩ | ⟨q, hi, e⟩⟩
  · rw [e]; exact ⟨Nat.le_refl _, hp⟩
  · obtain ⟨s1, s2⟩ := stc_59 _ hl
    have h3 := ifF_all _ _ hi (strL.getD (fbi (ltA A tn p)) 0 - 1) (Nat.zero_le _) (by omega)
    have h4 := ltA_ge h3.1
    rw [e]; show p ≤ p + _ ∧ p + _ ≤ tn; omega
  · obtain ⟨j, _, _, h3, _, h5⟩ := ifF_so _ _ hi
    have hlt : p < tn := Decidable.not_not.mp (fun w => h6 (by rw [ltA_9 w]; decide))
    have h6 := h5 (by omega)
    by_cases c : q = p + strL.getD (fbi (ltA A tn p)) 0
    · rw [if_pos c] at e; rw [e]; show p ≤ p + _ ∧ p + _ ≤ tn; omega
    · rw [if_neg c] at e; rw [e]; show p ≤ q ∧ q ≤ tn; omega
theorem fs_go (hk : 1 ≤ k) (h : (st0 A tn p).1 = 1) (h2 : ltA A tn (st0 A tn p).2 = 59) (h3 : (st0 A tn p).2 + 1 < tn) : fofF A tn (k - 1 + 1) ((st0 A tn p).2 + 1) = fofF A tn (k + 1) p := by
  obtain ⟨a, b, c⟩ := fs_p h h2
  rw [c, show k - 1 + 1 = k by omega, show p + strL.getD (fbi (ltA A tn p)) 0 + 1 = p + 1 + strL.getD (fbi (ltA A tn p)) 0 by omega]
  exact (fofF_g a b (by omega)).symm
theorem fs_end (h : (st0 A tn p).1 = 1) (h2 : ltA A tn (st0 A tn p).2 = 59) (h3 : (st0 A tn p).2 + 1 = tn) : fofF A tn (k + 1) p = none := by
  obtain ⟨a, b, c⟩ := fs_p h h2
  exact fofF_e a b (by omega)
theorem fs_59 (h6 : ¬ fbi (ltA A tn p) = 6) (hi : ifS A tn (fbi (ltA A tn p)) (p + 1) = none) : ltA A tn (p + strL.getD (fbi (ltA A tn p)) 0) = 59 ∧ p + strL.getD (fbi (ltA A tn p)) 0 < tn := by
  obtain ⟨s1, s2⟩ := stc_59 (fbi (ltA A tn p)) (by have := fbi_l6 (ltA A tn p); omega)
  have h3 := ifF_all _ _ hi (strL.getD (fbi (ltA A tn p)) 0 - 1) (Nat.zero_le _) (by omega)
  have h4 := ltA_ge h3.1
  rw [s2, show p + 1 + (strL.getD (fbi (ltA A tn p)) 0 - 1) = p + strL.getD (fbi (ltA A tn p)) 0 by omega] at h3
  exact ⟨sut_59.mp h3, by omega⟩
theorem m_ne {c : Int32} {m : Nat} (h : c.toInt < 0) (h2 : -1000000 < c.toInt) (hm : m ≤ 1000) : (c - nI m).toInt = c.toInt - m := by
  rw [Int32.toInt_sub, nI_toInt (by omega)]
  exact Int.bmod_eq_of_le (by omega) (by omega)
theorem sea_f (h : fofF A tn 97 0 = some p) (hp : p ≤ 96) : sp_sea A tn K L S = (-1000 - nI p, K, L, S) := by
  have e : fof A tn = -1000 - nI p := by unfold fof; rw [h]; rfl
  unfold sp_sea
  rw [e, if_pos]
  intro z
  have h1 := congrArg Int32.toInt z
  rw [m_ne (by decide) (by decide) (by omega), show (-1000 : Int32).toInt = -1000 from rfl, show (0 : Int32).toInt = 0 from rfl] at h1
  omega
theorem fof_n0 (h : fofF A tn 97 0 = none) : fof A tn = 0 := by unfold fof; rw [h]; rfl
theorem sea_0 (hf : fofF A tn 97 0 = none) (hs : taF A tn (k + 1) p n K2 L2 S2 = taF A tn 97 0 0 K L S) (hp : p < tn) (htn : tn ≤ 96) (hr : (tlr A tn (sg K2 (dsI K2 S2 (S2 0))) K2 L2 S2 p).1 = 0) : sp_sea A tn K L S = (-2000 - nI p, K, L, S) := by
  have e : taF A tn 97 0 0 K L S = (-2000 - nI p, (tlr A tn (sg K2 (dsI K2 S2 (S2 0))) K2 L2 S2 p).2) := by rw [← hs]; exact taF_f hp hr
  unfold sp_sea
  rw [fof_n0 hf, if_neg (fun w => w rfl), e, if_neg]
  intro z
  have h1 := Int32.lt_iff_toInt_lt.mp z
  have h2 : (-2000 - nI p).toInt = -2000 - p := m_ne (by decide) (by decide) (by omega)
  have h3 : (0 : Int32).toInt < (-2000 - nI p).toInt := h1
  rw [h2, show (0 : Int32).toInt = 0 from rfl] at h3
  omega
theorem sea_y (hf : fofF A tn 97 0 = none) (hs : taF A tn (k + 1) p n K2 L2 S2 = taF A tn 97 0 0 K L S) (hp : ¬ p < tn) (h0 : 0 < n) (hn : n ≤ 1000) : sp_sea A tn K L S = (nI n, K2, L2, S2) := by
  have e : taF A tn 97 0 0 K L S = (nI n, K2, L2, S2) := by rw [← hs]; exact taF_e hp
  unfold sp_sea
  rw [fof_n0 hf, if_neg (fun w => w rfl), e, if_pos]
  exact nI_lt (a := 0) h0 (by omega)
theorem tl_e {t : Int32 × (Nat → Int32) × (Nat → Int32) × (Nat → Int32)} {K4 L4 S4 : Nat → Int32} (h : K4 = t.2.1 ∧ L4 = t.2.2.1 ∧ S4 = t.2.2.2) : t = (t.1, K4, L4, S4) := by
  obtain ⟨h1, h2, h3⟩ := h
  rw [h1, h2, h3]
theorem tl_cb {T : Nat → Nat → Int32} {K4 L4 S4 : Nat → Int32} (hh : cbe K S (S 0)) (h : ¬ (tlr A tn T K L S p).1 = 0) (e : K4 = (tlr A tn T K L S p).2.1 ∧ L4 = (tlr A tn T K L S p).2.2.1 ∧ S4 = (tlr A tn T K L S p).2.2.2) : cbe K4 S4 (S4 0) := by
  obtain ⟨h1, h2, h3⟩ := e
  rw [h1, h3]; exact tlr_cb hh h
end SEAR
