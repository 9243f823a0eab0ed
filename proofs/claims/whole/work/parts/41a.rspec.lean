/-! the reference turns; keeps its image -/
theorem upd_at {f : Nat → Int32} {i : Nat} {v : Int32} : upd f i v i = v := if_pos rfl
theorem upd_ne {f : Nat → Int32} {i k : Nat} {v : Int32} (h : ¬ k = i) : upd f i v k = f k := if_neg h
theorem nI_inj36 {a b : Nat} (ha : a < 36) (hb : b < 36) (h : nI a = nI b) : a = b := by
  have h1 := congrArg Int32.toNatClampNeg h
  rwa [nI_clamp (by omega), nI_clamp (by omega)] at h1
theorem tT_y {K S : Nat → Int32} {j jh : Nat} {y : Int32} (hj : j < 36) (e0 : S 0 = nI jh) (hy : kd y) (c : csl (upd K j y jh) (S 1)) (hjh : jh < 36) : sp_turnTo K S (nI j) y = (K j, 0) := by
  unfold sp_turnTo
  rw [if_neg (fun z => z (nI_sq hj)), if_neg (fun z => z hy), if_neg (fun z => ?_)]
  · show (K (nI j).toNatClampNeg, 0) = _; rw [nI_clamp (by omega)]
  · have e := nI_inj36 hj hjh (z.1.trans e0)
    rw [e, upd_at] at c; exact z.2 c
theorem tT_n {K S : Nat → Int32} {j jh : Nat} {y : Int32} (hj : j < 36) (e0 : S 0 = nI jh) (hy : kd y) (hcj : csl (K jh) (S 1)) (c : ¬ csl (upd K j y jh) (S 1)) : sp_turnTo K S (nI j) y = (-3, 3) := by
  unfold sp_turnTo
  by_cases e : jh = j
  · rw [e, upd_at] at c
    rw [if_neg (fun z => z (nI_sq hj)), if_neg (fun z => z hy), if_pos ⟨by rw [e0, e], c⟩]
  · rw [upd_ne e] at c; exact absurd hcj c
def kF1 (D K L : Nat → Int32) (i : Nat) : Nat → Int32 := fun x => if x < i then K x else if 36 ≤ x ∧ x < 36 + i then L (x - 36) else D x
theorem kF1_0 {D K L : Nat → Int32} : D = kF1 D K L 0 := by funext x; unfold kF1; rw [if_neg (by omega), if_neg (by omega)]
theorem kF1_s {D K L : Nat → Int32} {i : Nat} (h : i < 36) : upd (upd (kF1 D K L i) i (K i)) (36 + i) (L i) = kF1 D K L (i + 1) := by
  funext x
  by_cases e : x = 36 + i
  · subst e; rw [upd_at]; unfold kF1; rw [if_neg (by omega), if_pos (by omega), show 36 + i - 36 = i by omega]
  · rw [upd_ne e]
    by_cases e2 : x = i
    · subst e2; rw [upd_at]; unfold kF1; rw [if_pos (by omega)]
    · rw [upd_ne e2]; unfold kF1
      by_cases c : x < i
      · rw [if_pos c, if_pos (by omega)]
      · rw [if_neg c, if_neg (show ¬ x < i + 1 by omega)]
        by_cases c2 : 36 ≤ x ∧ x < 36 + i
        · rw [if_pos c2, if_pos (by omega)]
        · rw [if_neg c2, if_neg (by omega)]
def kF2 (D S : Nat → Int32) (i : Nat) : Nat → Int32 := fun x => if 72 ≤ x ∧ x < 72 + i then S (x - 72) else D x
theorem kF2_0 {D S : Nat → Int32} : D = kF2 D S 0 := by funext x; unfold kF2; rw [if_neg (by omega)]
theorem kF2_s {D S : Nat → Int32} {i : Nat} : upd (kF2 D S i) (72 + i) (S i) = kF2 D S (i + 1) := by
  funext x
  by_cases e : x = 72 + i
  · subst e; rw [upd_at]; unfold kF2; rw [if_pos (by omega), show 72 + i - 72 = i by omega]
  · rw [upd_ne e]; unfold kF2
    by_cases c : 72 ≤ x ∧ x < 72 + i
    · rw [if_pos c, if_pos (by omega)]
    · rw [if_neg c, if_neg (by omega)]
theorem kF_e {D K L S : Nat → Int32} : ∀ x, x < 77 → kF2 (kF1 D K L 36) S 5 x = kp K L S x := by
  intro x hx
  unfold kF2 kF1 kp
  by_cases c : x < 36
  · rw [if_neg (by omega), if_pos c, if_pos c]
  · by_cases c2 : x < 72
    · rw [if_neg (by omega), if_neg c, if_pos (by omega), if_neg c, if_pos c2]
    · rw [if_pos (by omega), if_neg c, if_neg c2]
def cpF (K K2 : Nat → Int32) (i : Nat) : Nat → Int32 := fun q => if q < i then K2 q else K q
theorem cpF_0 {K K2 : Nat → Int32} : K = cpF K K2 0 := by funext x; unfold cpF; rw [if_neg (by omega)]
theorem cpF_s {K K2 : Nat → Int32} {i : Nat} {v : Int32} (h : v = K2 i) : upd (cpF K K2 i) i v = cpF K K2 (i + 1) := by
  subst h
  funext x
  by_cases e : x = i
  · subst e; rw [upd_at]; unfold cpF; rw [if_pos (by omega)]
  · rw [upd_ne e]; unfold cpF
    by_cases c : x < i
    · rw [if_pos c, if_pos (by omega)]
    · rw [if_neg c, if_neg (by omega)]
theorem cpF_e {K K2 : Nat → Int32} {n : Nat} : ∀ q, q < n → cpF K K2 n q = K2 q := fun q h => if_pos h
theorem kp_K {K L S : Nat → Int32} {i : Nat} (h : i < 36) : kp K L S i = K i := if_pos h
theorem kp_L {K L S : Nat → Int32} {i : Nat} (h : i < 36) : kp K L S (36 + i) = L i := by unfold kp; rw [if_neg (by omega), if_pos (by omega), show 36 + i - 36 = i by omega]
theorem kp_S {K L S : Nat → Int32} {i : Nat} (h : i < 5) : kp K L S (72 + i) = S i := by unfold kp; rw [if_neg (by omega), if_neg (by omega), show 72 + i - 72 = i by omega]
