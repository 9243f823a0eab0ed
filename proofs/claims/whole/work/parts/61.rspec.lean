/-! what a statement tells, by the numbers read -/
section TLV
variable {A : Nat → Nat} {tn p : Nat} {K L S : Nat → Int32} {T : Nat → Nat → Int32} {x y z : Int32} {a b jh : Nat}
theorem fm_k (hA : ∀ q, A q < 256) (h : ltA A tn p = 107) (hi : ifS A tn (fbi (ltA A tn p)) (p + 1) = none) : 0 ≤ cdA A tn 7 (p + 1) ∧ dgN A tn (p + 1 + 1) 2 = 2 :=
  fm_K (f := 0) hA (by rw [h]; decide) hi (by decide) (Or.inl ⟨by decide, rfl⟩) (fun j h1 h2 => (by decide : ∀ j, j < 3 → 1 ≤ j → stc 0 j = 48) j h2 h1)
theorem fm_v (hA : ∀ q, A q < 256) (h : ltA A tn p = 118) (hi : ifS A tn (fbi (ltA A tn p)) (p + 1) = none) : 0 ≤ cdA A tn 7 (p + 1) ∧ dgN A tn (p + 1 + 1) 4 = 4 :=
  fm_K (f := 1) hA (by rw [h]; decide) hi (by decide) (Or.inl ⟨by decide, rfl⟩) (fun j h1 h2 => (by decide : ∀ j, j < 5 → 1 ≤ j → stc 1 j = 48) j h2 h1)
theorem fm_s (hA : ∀ q, A q < 256) (h : ltA A tn p = 115) (hi : ifS A tn (fbi (ltA A tn p)) (p + 1) = none) : 0 ≤ cdA A tn 8 (p + 1) ∧ dgN A tn (p + 1 + 1) 2 = 2 :=
  fm_K (f := 5) hA (by rw [h]; decide) hi (by decide) (Or.inr ⟨by decide, rfl⟩) (fun j h1 h2 => (by decide : ∀ j, j < 3 → 1 ≤ j → stc 5 j = 48) j h2 h1)
theorem fm_l (h : ltA A tn p = 108) (hi : ifS A tn (fbi (ltA A tn p)) (p + 1) = none) : dgN A tn (p + 1) 5 = 5 := fm_D (f := 2) (by rw [h]; decide) hi (by decide) (by decide)
theorem fm_h (h : ltA A tn p = 104) (hi : ifS A tn (fbi (ltA A tn p)) (p + 1) = none) : dgN A tn (p + 1) 2 = 2 := fm_D (f := 3) (by rw [h]; decide) hi (by decide) (by decide)
theorem fm_d (h : ltA A tn p = 100) (hi : ifS A tn (fbi (ltA A tn p)) (p + 1) = none) : dgN A tn (p + 1) 2 = 2 := fm_D (f := 3) (by rw [h]; decide) hi (by decide) (by decide)
theorem fm_c (h : ltA A tn p = 99) (hi : ifS A tn (fbi (ltA A tn p)) (p + 1) = none) : dgN A tn (p + 1) 4 = 4 := fm_D (f := 4) (by rw [h]; decide) hi (by decide) (by decide)
theorem sl_k (h : ltA A tn p = 107) : strL.getD (fbi (ltA A tn p)) 0 = 4 := by rw [h]; decide
theorem sl_v (h : ltA A tn p = 118) : strL.getD (fbi (ltA A tn p)) 0 = 6 := by rw [h]; decide
theorem sl_l (h : ltA A tn p = 108) : strL.getD (fbi (ltA A tn p)) 0 = 6 := by rw [h]; decide
theorem sl_h (h : ltA A tn p = 104) : strL.getD (fbi (ltA A tn p)) 0 = 3 := by rw [h]; decide
theorem sl_d (h : ltA A tn p = 100) : strL.getD (fbi (ltA A tn p)) 0 = 3 := by rw [h]; decide
theorem sl_c (h : ltA A tn p = 99) : strL.getD (fbi (ltA A tn p)) 0 = 5 := by rw [h]; decide
theorem sl_s (h : ltA A tn p = 115) : strL.getD (fbi (ltA A tn p)) 0 = 4 := by rw [h]; decide
theorem sq_lt (hb : b < 100) (h : sq (nI b)) : b < 36 := by
  have h2 := h.2
  rw [show (36 : Int32) = nI 36 from rfl] at h2
  exact (nI_ltI (by omega) (by omega)).mp h2
theorem rg_y (ha : a ≤ b) (hb : b < 36) : rgP (nI a) (nI b) := ⟨nI_sq (by omega), nI_sq hb, nI_le ha (by omega)⟩
theorem rg_n (ha : a < 100) (hb : b < 100) (h : ¬ (b < 36 ∧ a ≤ b)) : ¬ rgP (nI a) (nI b) := fun w => h ⟨sq_lt hb w.2.1, (nI_leI (by omega) (by omega)).mp w.2.2⟩
theorem trn_y (ex : x = nI a) (ey : y = nI b) (hab : a ≤ b) (hb : b < 36) (hz : kd z) : trn K S x y z = (b2i (cbe (rngF K a (b + 1) z) S (S 0)), rngF K a (b + 1) z) := by
  subst ex; subst ey
  unfold trn
  rw [if_pos ⟨rg_y hab hb, hz⟩, show ix (nI a) = a from nI_clamp (by omega), show ix (nI b) = b from nI_clamp (by omega)]
theorem trn_n (ex : x = nI a) (ey : y = nI b) (ha : a < 100) (hb : b < 100) (h : ¬ (b < 36 ∧ a ≤ b)) : trn K S x y z = (0, K) := by
  subst ex; subst ey
  exact if_neg (fun w => rg_n ha hb h w.1)
theorem trn_1 (ex : x = nI a) (ey : y = nI b) (hab : a ≤ b) (hb : b < 36) (hz : kd z) (e0 : S 0 = nI jh) (hj : jh < 36) (c : csl (rngF K a (b + 1) z jh) (S 1)) : trn K S x y z = (1, rngF K a (b + 1) z) := by
  rw [trn_y ex ey hab hb hz, e0, b2i_t ((cbe_N hj).mpr c)]
theorem trn_0 (ex : x = nI a) (ey : y = nI b) (hab : a ≤ b) (hb : b < 36) (hz : kd z) (e0 : S 0 = nI jh) (hj : jh < 36) (c : ¬ csl (rngF K a (b + 1) z jh) (S 1)) : trn K S x y z = (0, rngF K a (b + 1) z) := by
  rw [trn_y ex ey hab hb hz, e0, b2i_f (fun w => c ((cbe_N hj).mp w))]
theorem mka_y (ex : x = nI a) (ey : y = nI b) (hab : a ≤ b) (hb : b < 36) : mka L x y z = (1, rngF L a (b + 1) z) := by
  subst ex; subst ey
  unfold mka
  rw [if_pos (rg_y hab hb), show ix (nI a) = a from nI_clamp (by omega), show ix (nI b) = b from nI_clamp (by omega)]
theorem mka_n (ex : x = nI a) (ey : y = nI b) (ha : a < 100) (hb : b < 100) (h : ¬ (b < 36 ∧ a ≤ b)) : mka L x y z = (0, L) := by
  subst ex; subst ey
  exact if_neg (rg_n ha hb h)
theorem ptn_in {j : Nat} (h1 : ¬ y < leastF j) (h2 : ¬ greatF j < y) : ptn K S j y = (b2i (cbe K (upd S j y) (upd S j y 0)), upd S j y) := if_neg (fun w => w.elim h1 h2)
theorem lg_0 (ha : a < 36) : ¬ nI a < leastF 0 ∧ ¬ greatF 0 < nI a := by
  have e1 : leastF 0 = nI 0 := by decide
  have e2 : greatF 0 = nI 35 := by decide
  rw [e1, e2]
  exact ⟨nI_nlt (by omega) (by omega), nI_nlt (by omega) (by omega)⟩
theorem ptn_h1 (ex : x = nI a) (ha : a < 36) (c : csl (K a) (S 1)) : ptn K S 0 x = (1, upd S 0 (nI a)) := by
  subst ex
  rw [ptn_in (lg_0 ha).1 (lg_0 ha).2, show upd S 0 (nI a) 0 = nI a from upd_at, b2i_t ((cbe_N (S := upd S 0 (nI a)) ha).mpr (by rw [upd_ne (by omega)]; exact c))]
theorem ptn_h0 (ex : x = nI a) (ha : a < 36) (c : ¬ csl (K a) (S 1)) : ptn K S 0 x = (0, upd S 0 (nI a)) := by
  subst ex
  rw [ptn_in (lg_0 ha).1 (lg_0 ha).2, show upd S 0 (nI a) 0 = nI a from upd_at, b2i_f (fun w => c (by have w2 := (cbe_N (S := upd S 0 (nI a)) ha).mp w; rw [upd_ne (by omega)] at w2; exact w2))]
theorem ptn_hn (ex : x = nI a) (ha : ¬ a < 36) (hb : a < 100) : ptn K S 0 x = (0, S) := by
  subst ex
  have e2 : greatF 0 = nI 35 := by decide
  exact if_pos (Or.inr (by rw [e2]; exact nI_lt (by omega) (by omega)))
theorem ptn_z {j : Nat} (ex : x = 0) (hl : leastF j = 1) : ptn K S j x = (0, S) := by
  subst ex
  exact if_pos (Or.inl (by rw [hl]; decide))
theorem ptn_v {j : Nat} (ex : x = nI a) (hl : leastF j = 0 ∨ (leastF j = 1 ∧ 0 < a)) (hg : (greatF j = 9 ∧ a < 10) ∨ (greatF j = 99 ∧ a < 100)) (h0 : ¬ j = 0) (e0 : S 0 = nI jh) (hj : jh < 36) :
    ptn K S j x = (b2i (csl (K jh) (upd S j (nI a) 1)), upd S j (nI a)) := by
  subst ex
  have h1 : ¬ nI a < leastF j := by
    rcases hl with e | ⟨e, h⟩
    · rw [e]; rw [show (0 : Int32) = nI 0 from rfl]; exact nI_nlt (by omega) (by omega)
    · rw [e]; rw [show (1 : Int32) = nI 1 from rfl]; exact nI_nlt (by omega) (by omega)
  have h2 : ¬ greatF j < nI a := by
    rcases hg with ⟨e, h⟩ | ⟨e, h⟩
    · rw [e]; rw [show (9 : Int32) = nI 9 from rfl]; exact nI_nlt (by omega) (by omega)
    · rw [e]; rw [show (99 : Int32) = nI 99 from rfl]; exact nI_nlt (by omega) (by omega)
  rw [ptn_in h1 h2, show upd S j (nI a) 0 = nI jh from (upd_ne (fun e => h0 e.symm)).trans e0, b2i_c (cbe_N hj)]
theorem td_z (h : ltA A tn p = 100) (e1 : dgA A tn (p + 1) = nI a) (e2 : dgA A tn (p + 2) = nI b) (ha : a < 10) (hb : b < 10) (e0 : S 0 = nI jh) (hj : jh < 36) (h0 : a = 0 ∨ b = 0) : (tlr A tn T K L S p).1 = 0 := by
  by_cases c : a = 0
  · rw [tlr_d0 h (by rw [ptn_z (by rw [e1, c]; rfl) (by decide)])]
  · have hb0 : b = 0 := h0.elim (fun z => absurd z c) id
    by_cases c1 : (ptn K S 1 (dgA A tn (p + 1))).1 = 0
    · rw [tlr_d0 h c1]
    · have e3 : (ptn K (ptn K S 1 (dgA A tn (p + 1))).2 2 (dgA A tn (p + 2))).1 = 0 := by rw [ptn_z (by rw [e2, hb0]; rfl) (by decide)]
      rw [tlr_d1 h c1 e3]
theorem td_s (S : Nat → Int32) (a b : Nat) : upd (upd S 1 (nI a)) 2 (nI b) 1 = nI a ∧ upd S 1 (nI a) 1 = nI a := ⟨(upd_ne (by omega)).trans upd_at, upd_at⟩
theorem td_n1 (h : ltA A tn p = 100) (e1 : dgA A tn (p + 1) = nI a) (ha : a < 10) (h0 : ¬ a = 0) (e0 : S 0 = nI jh) (hj : jh < 36) (c : ¬ csl (K jh) (upd (upd S 1 (nI a)) 2 (nI b) 1)) : (tlr A tn T K L S p).1 = 0 := by
  have e3 := ptn_v (K := K) (j := 1) e1 (Or.inr ⟨by decide, by omega⟩) (Or.inl ⟨by decide, ha⟩) (by omega) e0 hj
  rw [(td_s S a b).1] at c
  rw [tlr_d0 h (by rw [e3, (td_s S a b).2]; exact b2i_f c)]
theorem td_y1 (h : ltA A tn p = 100) (e1 : dgA A tn (p + 1) = nI a) (e2 : dgA A tn (p + 2) = nI b) (ha : a < 10) (hb : b < 10) (h0 : ¬ a = 0) (h1 : ¬ b = 0) (e0 : S 0 = nI jh) (hj : jh < 36) (c : csl (K jh) (upd (upd S 1 (nI a)) 2 (nI b) 1)) :
    tlr A tn T K L S p = (1, K, L, upd (upd S 1 (nI a)) 2 (nI b)) := by
  have e3 := ptn_v (K := K) (j := 1) e1 (Or.inr ⟨by decide, by omega⟩) (Or.inl ⟨by decide, ha⟩) (by omega) e0 hj
  have e4 := ptn_v (K := K) (S := upd S 1 (nI a)) (j := 2) e2 (Or.inr ⟨by decide, by omega⟩) (Or.inl ⟨by decide, hb⟩) (by omega) ((upd_ne (by omega)).trans e0) hj
  have c2 : csl (K jh) (upd S 1 (nI a) 1) := by rw [(td_s S a b).1] at c; rw [(td_s S a b).2]; exact c
  rw [b2i_t c2] at e3
  rw [b2i_t c] at e4
  rw [tlr_d h, e3, if_neg (by show ¬ (1 : Int32) = 0; decide)]
  show ((ptn K (upd S 1 (nI a)) 2 (dgA A tn (p + 2))).1, K, L, (ptn K (upd S 1 (nI a)) 2 (dgA A tn (p + 2))).2) = _
  rw [e4]
theorem tc_y (h : ltA A tn p = 99) (e1 : tdA A tn (p + 1) = nI a) (e2 : tdA A tn (p + 3) = nI b) (ha : a < 100) (hb : b < 100) (hh : cbe K S (S 0)) (e0 : S 0 = nI jh) (hj : jh < 36) :
    tlr A tn T K L S p = (1, K, L, upd (upd S 3 (nI a)) 4 (nI b)) := by
  have hc : csl (K jh) (S 1) := (cbe_N hj).mp (e0 ▸ hh)
  have e3 := ptn_v (K := K) (j := 3) e1 (Or.inl (by decide)) (Or.inr ⟨by decide, ha⟩) (by omega) e0 hj
  have e4 := ptn_v (K := K) (S := upd S 3 (nI a)) (j := 4) e2 (Or.inl (by decide)) (Or.inr ⟨by decide, hb⟩) (by omega) ((upd_ne (by omega)).trans e0) hj
  rw [show upd S 3 (nI a) 1 = S 1 from upd_ne (by omega), b2i_t hc] at e3
  rw [show upd (upd S 3 (nI a)) 4 (nI b) 1 = S 1 from (upd_ne (by omega)).trans (upd_ne (by omega)), b2i_t hc] at e4
  rw [tlr_c h, e3, if_neg (by show ¬ (1 : Int32) = 0; decide)]
  show ((ptn K (upd S 3 (nI a)) 4 (tdA A tn (p + 3))).1, K, L, (ptn K (upd S 3 (nI a)) 4 (tdA A tn (p + 3))).2) = _
  rw [e4]
/-- home stays where one can be -/
theorem tlr_cb (hh : cbe K S (S 0)) (h : ¬ (tlr A tn T K L S p).1 = 0) : cbe (tlr A tn T K L S p).2.1 (tlr A tn T K L S p).2.2.2 ((tlr A tn T K L S p).2.2.2 0) := by
  have ht : ∀ x y z, ¬ (trn K S x y z).1 = 0 → cbe (trn K S x y z).2 S (S 0) := fun x y z hz => by
    unfold trn at hz ⊢
    split
    · rename_i c; rw [if_pos c] at hz; exact b2i_ne hz
    · rename_i c; rw [if_neg c] at hz; exact absurd rfl hz
  have hp : ∀ (S : Nat → Int32) j y, ¬ (ptn K S j y).1 = 0 → cbe K (ptn K S j y).2 ((ptn K S j y).2 0) := fun S j y hz => by
    unfold ptn at hz ⊢
    split
    · rename_i c; rw [if_pos c] at hz; exact absurd rfl hz
    · rename_i c; rw [if_neg c] at hz; exact b2i_ne hz
  unfold tlr at h ⊢
  split
  · rename_i c; rw [if_pos c] at h; exact ht _ _ _ h
  · rename_i c; rw [if_neg c] at h
    split
    · rename_i c; rw [if_pos c] at h; exact ht _ _ _ h
    · rename_i c; rw [if_neg c] at h
      split
      · exact hh
      · rename_i c; rw [if_neg c] at h
        split
        · rename_i c; rw [if_pos c] at h; exact hp _ _ _ h
        · rename_i c; rw [if_neg c] at h
          split
          · rename_i c; rw [if_pos c] at h
            split
            · rename_i c; rw [if_pos c] at h; exact absurd rfl h
            · rename_i c; rw [if_neg c] at h; exact hp _ _ _ h
          · rename_i c; rw [if_neg c] at h
            split
            · rename_i c; rw [if_pos c] at h
              split
              · rename_i c; rw [if_pos c] at h; exact absurd rfl h
              · rename_i c; rw [if_neg c] at h; exact hp _ _ _ h
            · rename_i c; rw [if_neg c] at h
              split
              · exact hh
              · exact hh
end TLV
