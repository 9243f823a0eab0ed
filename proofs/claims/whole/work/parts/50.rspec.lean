/-! look, what tells most, needed, hidden, close: how the reference goes on -/
section RSB
variable {T : Nat → Nat → Int32} {K L S : Nat → Int32} {D : Nat → Nat} {x : Int32}
theorem lkF_in : ∀ i, i ≤ 36 → (lkF L D i).1 = 99 ∧ (lkF L D i).2 = (0, 1) ∨ ((lkF L D i).1 < i ∧ (lkF L D i).2 = (L (lkF L D i).1, dI (D (lkF L D i).1) + 1) ∧ D (lkF L D i).1 < 1000000)
  | 0, _ => Or.inl ⟨rfl, rfl⟩
  | i + 1, h => by
    have ih := lkF_in i (by omega)
    by_cases c : (¬ L i = 0 ∧ D i < 1000000) ∧ (lkF L D i).2.1 * (dI (D i) + 1) < L i * (lkF L D i).2.2
    · rw [lkF_y c.1.1 c.1.2 c.2]; exact Or.inr ⟨Nat.lt_succ_self i, rfl, c.1.2⟩
    · rw [lkF_n c]; exact ih.elim Or.inl (fun z => Or.inr ⟨Nat.lt_succ_of_lt z.1, z.2⟩)
theorem lk_new (hL : ∀ q, lk9 (L q)) {i : Nat} (h1 : ¬ L i = 0) (h2 : D i < 1000000) (h : (lkF L D i).1 = 99 ∧ (lkF L D i).2 = (0, 1)) : (lkF L D (i + 1)).1 = i := by
  rw [lkF_y h1 h2 (by rw [h.2]; show (0 : Int32) * _ < L i * 1; rw [Int32.zero_mul, Int32.mul_one]; exact (lk9_p (hL i)).mpr h1)]
theorem lk_y {i f : Nat} (h1 : ¬ L i = 0) (h2 : D i < 1000000) (hf : (lkF L D i).1 = f) (h : (lkF L D i).2 = (L (lkF L D i).1, dI (D (lkF L D i).1) + 1)) (c : L f * nI (D i + 1) < L i * (dI (D f) + 1)) : (lkF L D (i + 1)).1 = i := by
  subst hf
  rw [lkF_y h1 h2 (by rw [h, dI_t h2, nI_1]; exact c)]
theorem lk_n {i f : Nat} (h2 : D i < 1000000) (hf : (lkF L D i).1 = f) (h : (lkF L D i).2 = (L (lkF L D i).1, dI (D (lkF L D i).1) + 1)) (c : ¬ L f * nI (D i + 1) < L i * (dI (D f) + 1)) : (lkF L D (i + 1)).1 = f := by
  subst hf
  rw [lkF_n (fun z => c (by have h3 := z.2; rw [h, dI_t h2, nI_1] at h3; exact h3))]
theorem lk_s {i f : Nat} (hf : (lkF L D i).1 = f) (h : L i = 0 ∨ ¬ D i < 1000000) : (lkF L D (i + 1)).1 = f := by
  rw [lkF_n (fun z => h.elim z.1.1 (fun y => y z.1.2))]; exact hf
theorem tmF_in : ∀ k, (tmF T L k).1 ≤ k ∧ (tmF T L k).2 = slF T L (tmF T L k).1 36
  | 0 => ⟨Nat.le_refl _, rfl⟩
  | k + 1 => by
    have ih := tmF_in k
    by_cases c : slF T L (k + 1) 36 < (tmF T L k).2
    · rw [tmF_y c]; exact ⟨Nat.le_refl _, rfl⟩
    · rw [tmF_n c]; exact ⟨by omega, ih.2⟩
theorem tmR_y {k : Nat} (c : slF T L (k + 1) 36 < slF T L (tmF T L k).1 36) : k + 1 = (tmF T L (k + 1)).1 := by rw [tmF_y (by rw [(tmF_in k).2]; exact c)]
theorem tmR_n {k : Nat} (c : ¬ slF T L (k + 1) 36 < slF T L (tmF T L k).1 36) : (tmF T L k).1 = (tmF T L (k + 1)).1 := by rw [tmF_n (by rw [(tmF_in k).2]; exact c)]
/-- the signs of some kinds, one bit at a time -/
theorem bit_01 : ∀ b, b < 64 → ∀ k, k < 6 → bitI (nI b) (nI k) = 0 ∨ bitI (nI b) (nI k) = 1 := by decide +kernel
theorem bc_7 : ∀ b, b < 64 → bcI (nI b) < 7 := by decide +kernel
theorem bit_n {b k : Nat} (hb : b < 64) (hk : k < 6) (h : ¬ bitI (nI b) (nI k) = 1) : bitI (nI b) (nI k) = 0 := (bit_01 b hb k hk).elim id (fun z => absurd z h)
theorem bit_y {b k : Nat} (h : bitI (nI b) (nI k) = 1) : ¬ bitI (nI b) (nI k) = 0 := by rw [h]; decide
theorem tru_self {k j : Nat} : tru T k (T k j) j ↔ ¬ T k j = -9 := by
  constructor
  · exact fun z => z.1
  · intro h; refine ⟨h, ?_⟩; split
    · exact Int32.le_refl _
    · rfl
/-- so far, by the kinds below k -/
abbrev suk (T : Nat → Nat → Int32) (b j o k : Nat) : Prop := ∀ m, m < k → ¬ bitI (nI b) (nI m) = 0 → tru T m (T m j) o
theorem suk_0 {b j o : Nat} : suk T b j o 0 := fun _ h => absurd h (Nat.not_lt_zero _)
theorem suk_s {b j o k : Nat} (h : suk T b j o k) (h2 : ¬ bitI (nI b) (nI k) = 0 → tru T k (T k j) o) : suk T b j o (k + 1) := fun m hm => by
  rcases Nat.lt_succ_iff_lt_or_eq.mp hm with e | e
  · exact h m e
  · rw [e]; exact h2
theorem ftF_in {j : Nat} : ∀ b, b ≤ 64 → (ftF T L j b).1 = -9 ∧ (ftF T L j b).2 = 7 ∨ (∃ f, f < 64 ∧ (ftF T L j b).1 = nI f ∧ (ftF T L j b).2 = bcI (nI f))
  | 0, _ => Or.inl ⟨rfl, rfl⟩
  | b + 1, h => by
    have ih := ftF_in (j := j) b (by omega)
    by_cases c : bcI (nI b) < (ftF T L j b).2 ∧ alone T L b j
    · rw [ftF_y c.1 c.2]; exact Or.inr ⟨b, by omega, rfl, rfl⟩
    · rw [ftF_n c]; exact ih
theorem needed_1 (h : ¬ sq x) : sp_needed T L x = (-1, 1) := if_pos h
theorem needed_2 {j : Nat} (hj : j < 36) (h : L j = 0) : sp_needed T L (nI j) = (-3, 3) := by
  unfold sp_needed
  rw [if_neg (fun z => z (nI_sq hj)), show ix (nI j) = j from nI_clamp (by omega), if_pos h]
theorem needed_3 {j : Nat} (hj : j < 36) (h : ¬ L j = 0) : sp_needed T L (nI j) = ((ftF T L j 64).1, 0) := by
  unfold sp_needed
  rw [if_neg (fun z => z (nI_sq hj)), show ix (nI j) = j from nI_clamp (by omega), if_neg h]
/-- hidden -/
theorem bhF_i2 : ∀ i, i ≤ 36 → (bhF T L i).1 = -9 ∧ (bhF T L i).2 = -1 ∨ ∃ j, j < 36 ∧ (bhF T L i).1 = nI j ∧ (bhF T L i).2 = nI (alk T L j)
  | 0, _ => Or.inl ⟨rfl, rfl⟩
  | i + 1, h => by
    have ih := bhF_i2 i (by omega)
    unfold bhF
    split
    · exact Or.inr ⟨i, by omega, rfl, rfl⟩
    · exact ih
theorem alk_le (j : Nat) : alk T L j ≤ 36 := cnt_le _ 36
theorem bh_new {i : Nat} (h : ¬ L i = 0) (e : (bhF T L i).2 = -1) : (bhF T L (i + 1)).1 = nI i := by
  rw [bhF_y h (by rw [e]; exact Int32.lt_of_lt_of_le (show (-1 : Int32) < 0 by decide) (nI_pos' (by have := alk_le (T := T) (L := L) i; omega)))]
theorem bh_y {i f : Nat} (h : ¬ L i = 0) (e : (bhF T L i).2 = nI (alk T L f)) (c : alk T L f < alk T L i) : (bhF T L (i + 1)).1 = nI i := by
  rw [bhF_y h (by rw [e]; exact nI_lt c (by have := alk_le (T := T) (L := L) i; omega))]
theorem bh_n {i f : Nat} (e0 : (bhF T L i).1 = nI f) (e : (bhF T L i).2 = nI (alk T L f)) (c : ¬ alk T L f < alk T L i) : (bhF T L (i + 1)).1 = nI f := by
  rw [bhF_n (Or.inr (by rw [e]; exact nI_nlt (by omega) (by have := alk_le (T := T) (L := L) f; omega)))]; exact e0
theorem bh_s {i : Nat} (h : L i = 0) : (bhF T L (i + 1)).1 = (bhF T L i).1 := by rw [bhF_n (Or.inl h)]
theorem lk9_0 (h : lk9 x) (c : ¬ 0 < x) : x = 0 := Decidable.not_not.mp (fun z => c ((lk9_p h).mpr z))
theorem hide_1 (h : ¬ o2 x) : sp_hide T L x = (-2, 2) := if_pos h
theorem hide_2 (h : o2 x) (c : (bhF T L 36).1 = -9 ∨ x = 0) : sp_hide T L x = ((bhF T L 36).1, 0) := (if_neg (fun z => z h)).trans (if_pos c)
theorem hide_3 {f : Nat} (h : o2 x) (hf : f < 36) (e : (bhF T L 36).1 = nI f) (c : ¬ x = 0) : sp_hide T L x = (nI (alk T L f), 0) := by
  unfold sp_hide
  rw [if_neg (fun z => z h), if_neg (fun z => z.elim (fun y => nI_ne_m9 (n := f) (by omega) (by rw [← e]; exact y)) c), e, show ix (nI f) = f from nI_clamp (by omega)]
/-- close -/
theorem clF_in : ∀ q, q ≤ 36 → (clF K S q).1 = 99 ∨ (clF K S q).1 < 36
  | 0, _ => Or.inl rfl
  | q + 1, h => by
    have ih := clF_in q (by omega)
    unfold clF
    split
    · exact Or.inr (by show q < 36; omega)
    · exact ih
theorem wi_0 {q : Nat} (hq : q < 36) (h2 : S 2 ≤ 9) (h : ¬ csl (K q) (S 1)) : wiN K S q = 0 := by
  have e : ∀ t, dsI K S (nI q) t = 1000000 := fun t => by unfold dsI; rw [if_neg (fun z => h ((cbe_N hq).mp z))]
  have hn : ∀ n, cnt (fun t => nI (dsI K S (nI q) t) ≤ S 2) n = 0 := by
    intro n
    induction n with
    | zero => rfl
    | succ n ih => rw [cnt_f (fun z => absurd (Int32.le_trans z h2) (by rw [e]; decide)), ih]
  exact hn 36
theorem clR_y {q : Nat} (hq : q < 36) (h2 : S 2 ≤ 9) (c : (clF K S q).2 < wiN K S q) : clF K S (q + 1) = (q, wiN K S q) := clF_y (Decidable.not_not.mp (fun z => by rw [wi_0 hq h2 z] at c; omega)) c
theorem clR_n {q : Nat} (c : ¬ (clF K S q).2 < wiN K S q) : clF K S (q + 1) = clF K S q := clF_n (fun z => c z.2)
theorem wi_t {q t : Nat} (h2 : S 2 ≤ 9) : wit (dI (dsI K S (nI q) t)) 0 (S 2) ↔ nI (dsI K S (nI q) t) ≤ S 2 := by
  by_cases c : dsI K S (nI q) t < 1000000
  · rw [dI_t c]; exact ⟨fun z => z.2, fun z => ⟨nI_pos' (by omega), z⟩⟩
  · rw [dI_f c]
    have h3 := dsI_le K S (nI q) t
    rw [show dsI K S (nI q) t = 1000000 by omega]
    exact ⟨fun z => absurd z.1 (by decide), fun z => absurd (Int32.le_trans z h2) (by decide)⟩
theorem close_1 (h : ¬ o2 x) : sp_close K S x = (-2, 2) := if_pos h
theorem close_2 (h : o2 x) (c : x = 0) : sp_close K S x = (besM (clF K S 36).1, 0) := (if_neg (fun z => z h)).trans (if_pos c)
theorem close_3 (h : o2 x) (c : ¬ x = 0) : sp_close K S x = (nI (clF K S 36).2, 0) := (if_neg (fun z => z h)).trans (if_neg c)
end RSB
