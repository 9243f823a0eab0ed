/-! what a statement does -/
def rngF (K : Nat → Int32) (a i : Nat) (v : Int32) : Nat → Int32 := fun q => if a ≤ q ∧ q < i then v else K q
theorem rngF_0 {K : Nat → Int32} {a : Nat} {v : Int32} : K = rngF K a a v := by
  funext q; unfold rngF; rw [if_neg (by omega)]
theorem rngF_s {K : Nat → Int32} {a i : Nat} {v : Int32} (h : a ≤ i) : upd (rngF K a i v) i v = rngF K a (i + 1) v := by
  funext q
  show (if q = i then v else rngF K a i v q) = rngF K a (i + 1) v q
  unfold rngF
  by_cases e : q = i
  · rw [if_pos e, if_pos (by omega)]
  · rw [if_neg e]
    by_cases c : a ≤ q ∧ q < i
    · rw [if_pos c, if_pos (by omega)]
    · rw [if_neg c, if_neg (by omega)]
abbrev rgP (x y : Int32) : Prop := sq x ∧ sq y ∧ x ≤ y
noncomputable def trn (K S : Nat → Int32) (x y z : Int32) : Int32 × (Nat → Int32) := if rgP x y ∧ kd z then (b2i (cbe (rngF K (ix x) (ix y + 1) z) S (S 0)), rngF K (ix x) (ix y + 1) z) else (0, K)
def mka (L : Nat → Int32) (x y v : Int32) : Int32 × (Nat → Int32) := if rgP x y then (1, rngF L (ix x) (ix y + 1) v) else (0, L)
noncomputable def ptn (K S : Nat → Int32) (j : Nat) (y : Int32) : Int32 × (Nat → Int32) := if y < leastF j ∨ greatF j < y then (0, S) else (b2i (cbe K (upd S j y) (upd S j y 0)), upd S j y)
noncomputable def kpo (T : Nat → Nat → Int32) (L : Nat → Int32) (k : Nat) (n : Int32) : Int32 × (Nat → Int32) := (b2i (¬ lbs T L k n = 0), keep T L k n)
def dgA (A : Nat → Nat) (tn p : Nat) : Int32 := ltA A tn p - 48
def tdA (A : Nat → Nat) (tn p : Nat) : Int32 := 10 * dgA A tn p + dgA A tn (p + 1)
/-- the number of a letter among the kinds' (7), the signs' (8); -1 -/
def cdA (A : Nat → Nat) (tn i p : Nat) : Int32 := if p < tn then ixo i (A p) else -1
theorem b2i_ne {P : Prop} (h : ¬ b2i P = 0) : P := Classical.byContradiction fun z => h (b2i_f z)
theorem b2i_01 (P : Prop) : b2i P = 0 ∨ b2i P = 1 := (Classical.em P).elim (fun h => Or.inr (b2i_t h)) (fun h => Or.inl (b2i_f h))
theorem trn_01 (K S : Nat → Int32) (x y z : Int32) : (trn K S x y z).1 = 0 ∨ (trn K S x y z).1 = 1 := by unfold trn; split; exact b2i_01 _; exact Or.inl rfl
theorem ptn_01 (K S : Nat → Int32) (j : Nat) (y : Int32) : (ptn K S j y).1 = 0 ∨ (ptn K S j y).1 = 1 := by unfold ptn; split; exact Or.inl rfl; exact b2i_01 _
theorem mka_01 (L : Nat → Int32) (x y v : Int32) : (mka L x y v).1 = 0 ∨ (mka L x y v).1 = 1 := by unfold mka; split; exact Or.inr rfl; exact Or.inl rfl
theorem nar_01 {x : Int32} (h : x = 0 ∨ x = 1) : narrow .boolean (.int x) = .int x := by rcases h with rfl | rfl <;> rfl
/-- all of it: whether it is as it must be; kinds, likelihoods, numbers behind it -/
noncomputable def tlr (A : Nat → Nat) (tn : Nat) (T : Nat → Nat → Int32) (K L S : Nat → Int32) (p : Nat) : Int32 × (Nat → Int32) × (Nat → Int32) × (Nat → Int32) :=
  if ltA A tn p = 107 then ((trn K S (tdA A tn (p + 2)) (tdA A tn (p + 2)) (cdA A tn 7 (p + 1))).1, (trn K S (tdA A tn (p + 2)) (tdA A tn (p + 2)) (cdA A tn 7 (p + 1))).2, L, S)
  else if ltA A tn p = 118 then ((trn K S (tdA A tn (p + 2)) (tdA A tn (p + 4)) (cdA A tn 7 (p + 1))).1, (trn K S (tdA A tn (p + 2)) (tdA A tn (p + 4)) (cdA A tn 7 (p + 1))).2, L, S)
  else if ltA A tn p = 108 then ((mka L (tdA A tn (p + 1)) (tdA A tn (p + 3)) (dgA A tn (p + 5))).1, K, (mka L (tdA A tn (p + 1)) (tdA A tn (p + 3)) (dgA A tn (p + 5))).2, S)
  else if ltA A tn p = 104 then ((ptn K S 0 (tdA A tn (p + 1))).1, K, L, (ptn K S 0 (tdA A tn (p + 1))).2)
  else if ltA A tn p = 100 then (if (ptn K S 1 (dgA A tn (p + 1))).1 = 0 then (0, K, L, (ptn K S 1 (dgA A tn (p + 1))).2) else ((ptn K (ptn K S 1 (dgA A tn (p + 1))).2 2 (dgA A tn (p + 2))).1, K, L, (ptn K (ptn K S 1 (dgA A tn (p + 1))).2 2 (dgA A tn (p + 2))).2))
  else if ltA A tn p = 99 then (if (ptn K S 3 (tdA A tn (p + 1))).1 = 0 then (0, K, L, (ptn K S 3 (tdA A tn (p + 1))).2) else ((ptn K (ptn K S 3 (tdA A tn (p + 1))).2 4 (tdA A tn (p + 3))).1, K, L, (ptn K (ptn K S 3 (tdA A tn (p + 1))).2 4 (tdA A tn (p + 3))).2))
  else if ltA A tn p = 115 then ((kpo T L (ix (cdA A tn 8 (p + 1))) (tdA A tn (p + 2))).1, K, (kpo T L (ix (cdA A tn 8 (p + 1))) (tdA A tn (p + 2))).2, S)
  else (0, K, L, S)
theorem ixo8 : ∀ c, c < 256 → 0 ≤ ixo 8 c → ixo 8 c < 6 := by decide +kernel
section TL
variable {A : Nat → Nat} {tn : Nat} {T : Nat → Nat → Int32} {K L S : Nat → Int32} {p : Nat}
theorem tlr_k (h : ltA A tn p = 107) : tlr A tn T K L S p = ((trn K S (tdA A tn (p + 2)) (tdA A tn (p + 2)) (cdA A tn 7 (p + 1))).1, (trn K S (tdA A tn (p + 2)) (tdA A tn (p + 2)) (cdA A tn 7 (p + 1))).2, L, S) := if_pos h
theorem tlr_v (h : ltA A tn p = 118) : tlr A tn T K L S p = ((trn K S (tdA A tn (p + 2)) (tdA A tn (p + 4)) (cdA A tn 7 (p + 1))).1, (trn K S (tdA A tn (p + 2)) (tdA A tn (p + 4)) (cdA A tn 7 (p + 1))).2, L, S) := (if_neg (by rw [h]; decide)).trans (if_pos h)
theorem tlr_l (h : ltA A tn p = 108) : tlr A tn T K L S p = ((mka L (tdA A tn (p + 1)) (tdA A tn (p + 3)) (dgA A tn (p + 5))).1, K, (mka L (tdA A tn (p + 1)) (tdA A tn (p + 3)) (dgA A tn (p + 5))).2, S) := (if_neg (by rw [h]; decide)).trans ((if_neg (by rw [h]; decide)).trans (if_pos h))
theorem tlr_h (h : ltA A tn p = 104) : tlr A tn T K L S p = ((ptn K S 0 (tdA A tn (p + 1))).1, K, L, (ptn K S 0 (tdA A tn (p + 1))).2) := (if_neg (by rw [h]; decide)).trans ((if_neg (by rw [h]; decide)).trans ((if_neg (by rw [h]; decide)).trans (if_pos h)))
theorem tlr_d (h : ltA A tn p = 100) : tlr A tn T K L S p = if (ptn K S 1 (dgA A tn (p + 1))).1 = 0 then (0, K, L, (ptn K S 1 (dgA A tn (p + 1))).2) else ((ptn K (ptn K S 1 (dgA A tn (p + 1))).2 2 (dgA A tn (p + 2))).1, K, L, (ptn K (ptn K S 1 (dgA A tn (p + 1))).2 2 (dgA A tn (p + 2))).2) := (if_neg (by rw [h]; decide)).trans ((if_neg (by rw [h]; decide)).trans ((if_neg (by rw [h]; decide)).trans ((if_neg (by rw [h]; decide)).trans (if_pos h))))
theorem tlr_c (h : ltA A tn p = 99) : tlr A tn T K L S p = if (ptn K S 3 (tdA A tn (p + 1))).1 = 0 then (0, K, L, (ptn K S 3 (tdA A tn (p + 1))).2) else ((ptn K (ptn K S 3 (tdA A tn (p + 1))).2 4 (tdA A tn (p + 3))).1, K, L, (ptn K (ptn K S 3 (tdA A tn (p + 1))).2 4 (tdA A tn (p + 3))).2) := (if_neg (by rw [h]; decide)).trans ((if_neg (by rw [h]; decide)).trans ((if_neg (by rw [h]; decide)).trans ((if_neg (by rw [h]; decide)).trans ((if_neg (by rw [h]; decide)).trans (if_pos h)))))
theorem tlr_d0 (h : ltA A tn p = 100) (h1 : (ptn K S 1 (dgA A tn (p + 1))).1 = 0) : tlr A tn T K L S p = (0, K, L, (ptn K S 1 (dgA A tn (p + 1))).2) := (tlr_d h).trans (if_pos h1)
theorem tlr_d1 (h : ltA A tn p = 100) (h1 : ¬ (ptn K S 1 (dgA A tn (p + 1))).1 = 0) (h2 : (ptn K (ptn K S 1 (dgA A tn (p + 1))).2 2 (dgA A tn (p + 2))).1 = 0) : tlr A tn T K L S p = (0, K, L, (ptn K (ptn K S 1 (dgA A tn (p + 1))).2 2 (dgA A tn (p + 2))).2) := by rw [tlr_d h, if_neg h1, h2]
theorem tlr_d2 (h : ltA A tn p = 100) (h1 : ¬ (ptn K S 1 (dgA A tn (p + 1))).1 = 0) (h2 : ¬ (ptn K (ptn K S 1 (dgA A tn (p + 1))).2 2 (dgA A tn (p + 2))).1 = 0) : tlr A tn T K L S p = (1, K, L, (ptn K (ptn K S 1 (dgA A tn (p + 1))).2 2 (dgA A tn (p + 2))).2) := by rw [tlr_d h, if_neg h1, (ptn_01 _ _ _ _).resolve_left h2]
theorem tlr_c0 (h : ltA A tn p = 99) (h1 : (ptn K S 3 (tdA A tn (p + 1))).1 = 0) : tlr A tn T K L S p = (0, K, L, (ptn K S 3 (tdA A tn (p + 1))).2) := (tlr_c h).trans (if_pos h1)
theorem tlr_c1 (h : ltA A tn p = 99) (h1 : ¬ (ptn K S 3 (tdA A tn (p + 1))).1 = 0) (h2 : (ptn K (ptn K S 3 (tdA A tn (p + 1))).2 4 (tdA A tn (p + 3))).1 = 0) : tlr A tn T K L S p = (0, K, L, (ptn K (ptn K S 3 (tdA A tn (p + 1))).2 4 (tdA A tn (p + 3))).2) := by rw [tlr_c h, if_neg h1, h2]
theorem tlr_c2 (h : ltA A tn p = 99) (h1 : ¬ (ptn K S 3 (tdA A tn (p + 1))).1 = 0) (h2 : ¬ (ptn K (ptn K S 3 (tdA A tn (p + 1))).2 4 (tdA A tn (p + 3))).1 = 0) : tlr A tn T K L S p = (1, K, L, (ptn K (ptn K S 3 (tdA A tn (p + 1))).2 4 (tdA A tn (p + 3))).2) := by rw [tlr_c h, if_neg h1, (ptn_01 _ _ _ _).resolve_left h2]
theorem tlr_s {kk : Nat} (h : ltA A tn p = 115) (hk : cdA A tn 8 (p + 1) = nI kk) (hkk : kk < 6) : tlr A tn T K L S p = (b2i (¬ lbs T L kk (tdA A tn (p + 2)) = 0), K, keep T L kk (tdA A tn (p + 2)), S) := by
  have e : ix (cdA A tn 8 (p + 1)) = kk := by rw [hk]; exact nI_clamp (by omega)
  refine ((if_neg (by rw [h]; decide)).trans ((if_neg (by rw [h]; decide)).trans ((if_neg (by rw [h]; decide)).trans ((if_neg (by rw [h]; decide)).trans ((if_neg (by rw [h]; decide)).trans ((if_neg (by rw [h]; decide)).trans (if_pos h))))))).trans ?_
  rw [e]
  rfl
theorem tlr_x (h1 : ¬ ltA A tn p = 99) (h2 : ¬ ltA A tn p = 100) (h3 : ¬ ltA A tn p = 104) (h4 : ¬ ltA A tn p = 107) (h5 : ¬ ltA A tn p = 108) (h6 : ¬ ltA A tn p = 115) (h7 : ¬ ltA A tn p = 118) : tlr A tn T K L S p = (0, K, L, S) := by
  unfold tlr
  rw [if_neg h4, if_neg h7, if_neg h5, if_neg h3, if_neg h2, if_neg h1, if_neg h6]
theorem tlr_T {T2 : Nat → Nat → Int32} (h : ¬ ltA A tn p = 115) : tlr A tn T K L S p = tlr A tn T2 K L S p := by
  unfold tlr
  rw [if_neg h, if_neg h]
end TL
theorem sF_any {M : Nat → Int32} : M = sF (fun k q => M (k * 36 + q)) := by
  funext x
  show M x = M (x / 36 * 36 + x % 36)
  congr 1
  omega
/-- all statements from a place on: the answer; kinds, likelihoods, numbers behind them -/
noncomputable def taF (A : Nat → Nat) (tn : Nat) : Nat → Nat → Nat → (Nat → Int32) → (Nat → Int32) → (Nat → Int32) → Int32 × (Nat → Int32) × (Nat → Int32) × (Nat → Int32)
  | 0, _, _, K, L, S => (0, K, L, S)
  | f + 1, p, n, K, L, S => if p < tn then
      (if (tlr A tn (sg K (dsI K S (S 0))) K L S p).1 = 0 then (-2000 - nI p, (tlr A tn (sg K (dsI K S (S 0))) K L S p).2)
       else taF A tn f (p + 1 + strL.getD (fbi (ltA A tn p)) 0) (n + 1) (tlr A tn (sg K (dsI K S (S 0))) K L S p).2.1 (tlr A tn (sg K (dsI K S (S 0))) K L S p).2.2.1 (tlr A tn (sg K (dsI K S (S 0))) K L S p).2.2.2)
    else (nI n, K, L, S)
theorem taF_e {A : Nat → Nat} {tn k p n : Nat} {K L S : Nat → Int32} (h : ¬ p < tn) : taF A tn (k + 1) p n K L S = (nI n, K, L, S) := by rw [taF]; exact if_neg h
theorem taF_f {A : Nat → Nat} {tn k p n : Nat} {K L S : Nat → Int32} (h : p < tn) (h2 : (tlr A tn (sg K (dsI K S (S 0))) K L S p).1 = 0) : taF A tn (k + 1) p n K L S = (-2000 - nI p, (tlr A tn (sg K (dsI K S (S 0))) K L S p).2) := by rw [taF, if_pos h]; exact if_pos h2
theorem taF_g {A : Nat → Nat} {tn k p n : Nat} {K L S : Nat → Int32} (hk : 1 ≤ k) (h : p < tn) (h2 : ¬ (tlr A tn (sg K (dsI K S (S 0))) K L S p).1 = 0) : taF A tn (k - 1 + 1) (p + 1 + strL.getD (fbi (ltA A tn p)) 0) (n + 1) (tlr A tn (sg K (dsI K S (S 0))) K L S p).2.1 (tlr A tn (sg K (dsI K S (S 0))) K L S p).2.2.1 (tlr A tn (sg K (dsI K S (S 0))) K L S p).2.2.2 = taF A tn (k + 1) p n K L S := by
  rw [show k - 1 + 1 = k by omega]
  conv => rhs; rw [taF, if_pos h, if_neg h2]
/-- what the form says of a statement -/
theorem fofF_i {A : Nat → Nat} {tn k p : Nat} (h : fofF A tn (k + 1) p = none) : ¬ fbi (ltA A tn p) = 6 ∧ ifS A tn (fbi (ltA A tn p)) (p + 1) = none ∧ (p + 1 + strL.getD (fbi (ltA A tn p)) 0 < tn → fofF A tn k (p + 1 + strL.getD (fbi (ltA A tn p)) 0) = none) := by
  by_cases h6 : fbi (ltA A tn p) = 6
  · rw [fofF_6 h6] at h; cases h
  · cases hi : ifS A tn (fbi (ltA A tn p)) (p + 1) with
    | some q => rw [fofF_s h6 hi] at h; cases h
    | none =>
      refine ⟨h6, rfl, fun h3 => ?_⟩
      rw [fofF_g h6 hi h3] at h
      exact h
theorem ifF_all {A : Nat → Nat} {tn f p : Nat} : ∀ k i, ifF A tn f p k i = none → ∀ j, i ≤ j → j < i + k → sut (stc f j) (ltA A tn (p + j))
  | 0, i, _, j, h1, h2 => absurd h2 (by omega)
  | k + 1, i, h, j, h1, h2 => by
    unfold ifF at h
    split at h
    · next c =>
      rcases Nat.eq_or_lt_of_le h1 with e | e
      · subst e; exact c
      · exact ifF_all k (i + 1) h j e (by omega)
    · cases h
theorem ltA_ge {A : Nat → Nat} {tn p : Nat} (h : 0 ≤ ltA A tn p) : p < tn := Nat.lt_of_not_le fun z => by
  unfold ltA at h; rw [if_neg (by omega)] at h; exact absurd h (by decide)
theorem form_s {A : Nat → Nat} {tn k p : Nat} (hA : ∀ q, A q < 256) (h : fofF A tn (k + 1) p = none) (h5 : ltA A tn p = 115) : ∃ kk, kk < 6 ∧ cdA A tn 8 (p + 1) = nI kk := by
  obtain ⟨-, h2, -⟩ := fofF_i h
  rw [h5] at h2
  have h3 := ifF_all _ _ h2 0 (Nat.le_refl 0) (by decide)
  have e83 : stc (fbi 115) 0 = 83 := by decide
  rw [e83] at h3
  have hlt := ltA_ge h3.1
  have h4 := h3.2
  rw [if_neg (by decide), if_pos rfl] at h4
  have e1 : ltA A tn (p + 1 + 0) = nI (A (p + 1)) := if_pos hlt
  rw [e1, show ix (nI (A (p + 1))) = A (p + 1) from nI_clamp (by have := hA (p + 1); omega)] at h4
  have e2 : cdA A tn 8 (p + 1) = ixo 8 (A (p + 1)) := if_pos hlt
  obtain ⟨kk, h6, h7⟩ := kd_nat ⟨h4, ixo8 _ (hA (p + 1)) h4⟩
  exact ⟨kk, h6, e2.trans h7⟩
theorem fofF_le {A : Nat → Nat} {tn : Nat} : ∀ k p q, fofF A tn k p = some q → q ≤ p + 8 * k
  | 0, _, _, h => by cases h
  | k + 1, p, q, h => by
    have hl := strL_le (fbi (ltA A tn p))
    by_cases h6 : fbi (ltA A tn p) = 6
    · rw [fofF_6 h6] at h; injection h with h; omega
    · cases hi : ifS A tn (fbi (ltA A tn p)) (p + 1) with
      | some r =>
        rw [fofF_s h6 hi] at h; injection h with h
        have hr : ∀ n i, ifF A tn (fbi (ltA A tn p)) (p + 1) n i = some r → r < p + 1 + i + n := by
          intro n
          induction n with
          | zero => intro i z; cases z
          | succ n ih =>
            intro i z
            unfold ifF at z
            split at z
            · have := ih (i + 1) z; omega
            · injection z with z; omega
        have := hr _ _ hi
        omega
      | none =>
        by_cases h3 : p + 1 + strL.getD (fbi (ltA A tn p)) 0 < tn
        · rw [fofF_g h6 hi h3] at h
          have := fofF_le k _ q h
          omega
        · rw [fofF_e h6 hi h3] at h; cases h
theorem fof_0 {A : Nat → Nat} {tn : Nat} (h : fof A tn = 0) : fofF A tn 97 0 = none := by
  cases hf : fofF A tn 97 0 with
  | none => rfl
  | some q =>
    have hq := fofF_le 97 0 q hf
    unfold fof at h
    rw [hf] at h
    have h1 : -1000 - nI q = 0 := h
    have h2 : nI q = -1000 := by grind
    have h3 := congrArg Int32.toInt h2
    rw [nI_toInt (by omega), show (-1000 : Int32).toInt = -1000 from rfl] at h3
    omega
