/-! bounds of days; what is found; the mean -/
section BDS
variable {K S : Nat → Int32}
theorem ofr_b {G : Nat → Nat} {t v b q : Nat} (h : G q < 1000000 → G q ≤ b) (hv : v ≤ b) : ofr G t v q < 1000000 → ofr G t v q ≤ b := by unfold ofr; split; exact fun _ => hv; exact h
theorem rx_b {n b : Nat} {G : Nat → Nat} (h : ∀ q, G q < 1000000 → G q ≤ b + 3) (hn : G n ≤ b) : ∀ w q, rx K S n G w q < 1000000 → rx K S n G w q ≤ b + 3
  | 0, q => h q
  | w + 1, q => by
    show rx1 K S n w (rx K S n G w) q < 1000000 → rx1 K S n w (rx K S n G w) q ≤ b + 3
    unfold rx1; split
    · have h1 : rx K S n G w n ≤ G n := rx_le w
      have h2 := cst_le (K (nb n w)) w
      exact ofr_b (rx_b h hn w q) (by omega)
    · exact rx_b h hn w q
theorem nr_lt {G : Nat → Nat} {Z : Nat → Bool} : ∀ i, i ≤ 36 → (nr G Z i).1 < 36 → (nr G Z i).2 < 1000000
  | 0, _, h => absurd h (by show ¬ 99 < 36; omega)
  | i + 1, hi, h => by
    by_cases c : ¬ Z i = true ∧ G i < (nr G Z i).2
    · rw [nr_y c.1 c.2]; have := nr_le G Z i; exact Nat.lt_of_lt_of_le c.2 this
    · rw [show nr G Z (i + 1) = nr G Z i from if_neg c] at h ⊢; exact nr_lt i (by omega) h
theorem spr_b : ∀ (f b : Nat) (G : Nat → Nat) (Z : Nat → Bool), (∀ q, G q < 1000000 → G q ≤ b) → ∀ q, (spr K S f G Z).1 q < 1000000 → (spr K S f G Z).1 q ≤ b + 3 * f
  | 0, b, G, Z, h, q => h q
  | f + 1, b, G, Z, h, q => by
    unfold spr; split
    · rename_i c
      have ha := nr_all G Z 36 (Nat.le_refl _)
      have hl := nr_lt (G := G) (Z := Z) 36 (Nat.le_refl _) c
      have he : (nr G Z 36).2 = G (nrs G Z) := ha.2.elim (fun z => absurd c (by unfold nrs; rw [z]; show ¬ 99 < 36; omega)) (fun z => z.2.2)
      have h3 := spr_b f (b + 3) (rx K S (nrs G Z) G 4) (stl Z (nrs G Z)) (rx_b (fun q hq => by have := h q hq; omega) (h _ (by rw [← he]; exact hl)) 4) q
      intro hq
      have := h3 hq
      omega
    · intro hq; have h2 : G q ≤ b := h q hq; show G q ≤ b + 3 * (f + 1); omega
theorem dst_b {j q : Nat} (h : dst K S j q < 1000000) : dst K S j q ≤ 108 := by
  have := spr_b (K := K) (S := S) 36 0 (ini j) (fun _ => false) (fun q hq => by
    unfold ini at hq ⊢; split at hq
    · rw [if_pos (by assumption)]; exact Nat.le_refl _
    · omega) q h
  have e : dst K S j q ≤ 0 + 3 * 36 := this
  omega
theorem dsI_b {x : Int32} {q : Nat} : dsI K S x q < 1000000 → dsI K S x q ≤ 108 := by
  unfold dsI; split
  · exact dst_b
  · intro h; exact absurd h (Nat.lt_irrefl 1000000)
end BDS
section FND
variable {L : Nat → Int32} {D : Nat → Nat}
def fdN (L : Nat → Int32) (D : Nat → Nat) (j : Nat) : Nat := D j + smG (sBf L D j) 36
def fdA (L : Nat → Int32) (D : Nat → Nat) (j : Nat) : Int32 := if D j < 1000000 then nI (fdN L D j) else -9
theorem fdA_y {j : Nat} (h : D j < 1000000) : fdA L D j = nI (fdN L D j) := if_pos h
theorem fdA_n {j : Nat} (h : ¬ D j < 1000000) : fdA L D j = -9 := if_neg h
theorem sBf_y {j q : Nat} (h : elg L D q) (h2 : bfr D q j) : D j + smG (sBf L D j) q + 2 * D q = D j + smG (sBf L D j) (q + 1) := by
  have e : sBf L D j q = 2 * D q := if_pos ⟨h, h2⟩
  show _ = D j + (smG (sBf L D j) q + sBf L D j q)
  rw [e]; omega
theorem sBf_n {j q : Nat} (h : ¬ (elg L D q ∧ bfr D q j)) : D j + smG (sBf L D j) q = D j + smG (sBf L D j) (q + 1) := by
  have e : sBf L D j q = 0 := if_neg h
  show _ = D j + (smG (sBf L D j) q + sBf L D j q)
  rw [e]; rfl
theorem sBf_b (hD : ∀ q, D q < 1000000 → D q ≤ 108) (j : Nat) : ∀ n, smG (sBf L D j) n ≤ 216 * n := fun n => smG_le n (fun q _ => by
  unfold sBf; split
  · rename_i c; have := hD q c.1.2; omega
  · omega)
theorem fdN_b (hD : ∀ q, D q < 1000000 → D q ≤ 108) {j : Nat} (h : D j < 1000000) : fdN L D j ≤ 7884 := by
  have h1 := sBf_b (L := L) hD j 36
  have h2 := hD j h
  unfold fdN; omega
theorem unt_fd (hL : ∀ q, lk9 (L q)) {j : Nat} (hj : j < 36) (h : ¬ L j = 0) : oI (unt L D j) = fdA L D j := by
  by_cases c : D j < 1000000
  · rw [(unt_v hL j hj).1 ⟨h, c⟩, fdA_y c]; rfl
  · rw [(unt_v hL j hj).2 (fun z => c z.2), fdA_n c]; rfl
theorem found_1 {K S : Nat → Int32} {x : Int32} (h : ¬ sq x) : sp_found K L S x = (-1, 1) := if_pos h
theorem found_2 {K S : Nat → Int32} {j : Nat} (hj : j < 36) (h : L j = 0) : sp_found K L S (nI j) = (-3, 3) := by
  unfold sp_found
  rw [if_neg (fun z => z (nI_sq hj)), show ix (nI j) = j from nI_clamp (by omega), if_pos h]
theorem found_3 {K S : Nat → Int32} {j : Nat} (hL : ∀ q, lk9 (L q)) (hj : j < 36) (h : ¬ L j = 0) : sp_found K L S (nI j) = (fdA L (dsI K S (S 0)) j, 0) := by
  unfold sp_found
  rw [if_neg (fun z => z (nI_sq hj)), show ix (nI j) = j from nI_clamp (by omega), if_neg h, unt_fd hL hj h]
/-- the mean's sums -/
def mnF (L : Nat → Int32) (D : Nat → Nat) : Nat → Nat := fun q => if elg L D q then (L q).toNatClampNeg * fdN L D q else 0
def mwF (L : Nat → Int32) (D : Nat → Nat) : Nat → Nat := fun q => if elg L D q then (L q).toNatClampNeg else 0
theorem mn_y {q : Nat} (h : elg L D q) : smG (mnF L D) q + (L q).toNatClampNeg * fdN L D q = smG (mnF L D) (q + 1) := by
  show _ = smG (mnF L D) q + mnF L D q
  rw [show mnF L D q = (L q).toNatClampNeg * fdN L D q from if_pos h]
theorem mn_n {q : Nat} (h : ¬ elg L D q) : smG (mnF L D) q = smG (mnF L D) (q + 1) := by
  show _ = smG (mnF L D) q + mnF L D q
  rw [show mnF L D q = 0 from if_neg h]; rfl
theorem mw_y {q : Nat} (h : elg L D q) : smG (mwF L D) q + (L q).toNatClampNeg = smG (mwF L D) (q + 1) := by
  show _ = smG (mwF L D) q + mwF L D q
  rw [show mwF L D q = (L q).toNatClampNeg from if_pos h]
theorem mw_n {q : Nat} (h : ¬ elg L D q) : smG (mwF L D) q = smG (mwF L D) (q + 1) := by
  show _ = smG (mwF L D) q + mwF L D q
  rw [show mwF L D q = 0 from if_neg h]; rfl
theorem mw_b (hL : ∀ q, lk9 (L q)) (n : Nat) : smG (mwF L D) n ≤ 9 * n := smG_le n (fun q _ => by
  unfold mwF; split
  · exact (lk9_n (hL q)).2
  · omega)
theorem mn_b (hL : ∀ q, lk9 (L q)) (hD : ∀ q, D q < 1000000 → D q ≤ 108) (n : Nat) : smG (mnF L D) n ≤ 70956 * n := smG_le n (fun q _ => by
  unfold mnF; split
  · rename_i c
    exact Nat.mul_le_mul (lk9_n (hL q)).2 (fdN_b hD c.2)
  · omega)
theorem slI_v (hL : ∀ q, lk9 (L q)) (hD : ∀ q, D q < 1000000 → D q ≤ 108) : ∀ n, n ≤ 36 → slI (oF (unt L D)) L n = lN (smG (mnF L D) n) ∧ wfI (oF (unt L D)) L n = lN (smG (mwF L D) n)
  | 0, _ => ⟨rfl, rfl⟩
  | n + 1, hn => by
    obtain ⟨h1, h2⟩ := slI_v hL hD n (by omega)
    by_cases c : elg L D n
    · have e : oF (unt L D) n = nI (fdN L D n) := by show oI (unt L D n) = _; rw [(unt_v hL n (by omega)).1 c]; rfl
      have hb := fdN_b (L := L) hD c.2
      have hne : ¬ oF (unt L D) n = -9 := by rw [e]; exact nI_ne_m9 (by omega)
      rw [← slI_y hne, ← wfI_y hne, h1, h2, e, ← mn_y c, ← mw_y c]
      have h9 := lk9_n (hL n)
      rw [show (L n).toInt64 = lN (L n).toNatClampNeg from by rw [h9.1, nI_l (by omega), ← h9.1], nI_l (by omega), lN_mul, lN_add, lN_add]
      exact ⟨rfl, rfl⟩
    · have e : oF (unt L D) n = -9 := by show oI (unt L D n) = _; rw [(unt_v hL n (by omega)).2 c]; rfl
      rw [← slI_n e, ← wfI_n e, h1, h2, ← mn_n c, ← mw_n c]
      exact ⟨rfl, rfl⟩
end FND
theorem gcF_0 {f : Nat} {a : Int64} : gcF f a (lN 0) = a := gcF_n rfl
theorem lN_e0 {b : Nat} (hb : b < 2 ^ 63) : lN b = 0 ↔ b = 0 := pk_lEQ (b := 0) hb (by omega)
theorem gcF_v : ∀ (n f a b : Nat), 2 * n + 1 ≤ f → b < 2 ^ n → a < 2 ^ 63 → b < 2 ^ 63 → gcF f (lN a) (lN b) = lN (Nat.gcd a b)
  | 0, f, a, b, _, hb, _, _ => by
    have e : b = 0 := by rw [Nat.pow_zero] at hb; omega
    subst e
    rw [gcF_0, Nat.gcd_zero_right]
  | n + 1, f, a, b, hf, hb, ha, hb2 => by
    by_cases e : b = 0
    · subst e
      rw [gcF_0, Nat.gcd_zero_right]
    · obtain ⟨f', rfl⟩ : ∃ f', f = f' + 2 := ⟨f - 2, by omega⟩
      have hr : a % b < b := Nat.mod_lt _ (by omega)
      have e1 : gcF (f' + 2) (lN a) (lN b) = gcF (f' + 1) (lN b) (lN (a % b)) := by
        show (if lN b = 0 then lN a else gcF (f' + 1) (lN b) (lN a - lN a / lN b * lN b)) = _
        rw [if_neg (fun z => e ((lN_e0 hb2).mp z)), pk_lRem ha (by omega) hb2]
      have e2 : Nat.gcd a b = Nat.gcd b (a % b) := by rw [Nat.gcd_comm a b, Nat.gcd_rec b a, Nat.gcd_comm]
      rw [e1, e2]
      by_cases e0 : a % b = 0
      · rw [e0, gcF_0, Nat.gcd_zero_right]
      · have hr2 : b % (a % b) < a % b := Nat.mod_lt _ (by omega)
        have e3 : gcF (f' + 1) (lN b) (lN (a % b)) = gcF f' (lN (a % b)) (lN (b % (a % b))) := by
          show (if lN (a % b) = 0 then lN b else gcF f' (lN (a % b)) (lN b - lN b / lN (a % b) * lN (a % b))) = _
          rw [if_neg (fun z => e0 ((lN_e0 (by omega)).mp z)), pk_lRem hb2 (by omega) (by omega)]
        have e4 : Nat.gcd b (a % b) = Nat.gcd (a % b) (b % (a % b)) := by rw [Nat.gcd_comm b (a % b), Nat.gcd_rec (a % b) b, Nat.gcd_comm]
        have h5 : b % (a % b) + a % b ≤ b := by
          have h6 := Nat.div_add_mod b (a % b)
          have h7 : 1 ≤ b / (a % b) := (Nat.le_div_iff_mul_le (by omega)).mpr (by omega)
          have h8 : (a % b) * 1 ≤ (a % b) * (b / (a % b)) := Nat.mul_le_mul_left _ h7
          omega
        rw [e3, e4]
        rw [Nat.pow_succ] at hb
        exact gcF_v n f' _ _ (by omega) (by omega) (by omega) (by omega)
theorem gcd_st (u v : Nat) : Nat.gcd v (u % v) = Nat.gcd u v := by rw [Nat.gcd_comm v (u % v), ← Nat.gcd_rec, Nat.gcd_comm]
section MEAN
variable {L : Nat → Int32} {D : Nat → Nat} {x : Int32}
theorem mean_1 {U : Nat → Int32} (h : ¬ o2 x) : sp_mean U L x = (4000000000000000000 - Int32.toInt64 (-2), 2) := if_pos h
theorem mean_2 (hL : ∀ q, lk9 (L q)) (hD : ∀ q, D q < 1000000 → D q ≤ 108) (h : o2 x) (h0 : smG (mwF L D) 36 = 0) : sp_mean (oF (unt L D)) L x = (Int32.toInt64 x, 0) := by
  unfold sp_mean
  rw [if_neg (fun z => z h), (slI_v hL hD 36 (Nat.le_refl _)).2, h0]; exact if_pos rfl
theorem mean_3 (hL : ∀ q, lk9 (L q)) (hD : ∀ q, D q < 1000000 → D q ≤ 108) (h : o2 x) (h0 : ¬ smG (mwF L D) 36 = 0) {u : Nat} (hg : Nat.gcd u 0 = Nat.gcd (smG (mnF L D) 36) (smG (mwF L D) 36)) :
    sp_mean (oF (unt L D)) L x = (Int32.toInt64 (nI ((if x = 0 then smG (mnF L D) 36 else smG (mwF L D) 36) / u)), 0) := by
  have hw := mw_b (D := D) hL 36
  have hm := mn_b (D := D) hL hD 36
  have hu : u = Nat.gcd (smG (mnF L D) 36) (smG (mwF L D) 36) := by rw [← hg, Nat.gcd_zero_right]
  have hu0 : 0 < u := by rw [hu]; exact Nat.gcd_pos_of_pos_right _ (by omega)
  have hul : u ≤ smG (mwF L D) 36 := by rw [hu]; exact Nat.gcd_le_right _ (by omega)
  have hgc : gcF 100 (lN (smG (mnF L D) 36)) (lN (smG (mwF L D) 36)) = lN u := by
    rw [gcF_v 49 100 _ _ (by omega) (Nat.lt_of_le_of_lt hw (by decide)) (by omega) (by omega), ← hu]
  unfold sp_mean
  rw [if_neg (fun z => z h), (slI_v hL hD 36 (Nat.le_refl _)).1, (slI_v hL hD 36 (Nat.le_refl _)).2, hgc, if_neg (fun z => h0 ((lN_e0 (by omega)).mp z)), if_neg (fun z => absurd ((lN_e0 (by omega)).mp z) (by omega))]
  by_cases hx : x = 0
  · rw [if_pos hx, if_pos hx, pk_lDiv (by omega) hu0 (by omega), nI_l (Nat.lt_of_le_of_lt (Nat.div_le_self _ _) (by omega))]
  · rw [if_neg hx, if_neg hx, pk_lDiv (by omega) hu0 (by omega), nI_l (Nat.lt_of_le_of_lt (Nat.div_le_self _ _) (by omega))]
theorem mean_u (hL : ∀ q, lk9 (L q)) (h0 : ¬ smG (mwF L D) 36 = 0) {u : Nat} (hg : Nat.gcd u 0 = Nat.gcd (smG (mnF L D) 36) (smG (mwF L D) 36)) : 0 < u ∧ u ≤ 324 := by
  have hw := mw_b (D := D) hL 36
  have hu : u = Nat.gcd (smG (mnF L D) 36) (smG (mwF L D) 36) := by rw [← hg, Nat.gcd_zero_right]
  refine ⟨by rw [hu]; exact Nat.gcd_pos_of_pos_right _ (by omega), ?_⟩
  have : u ≤ smG (mwF L D) 36 := by rw [hu]; exact Nat.gcd_le_right _ (by omega)
  omega
end MEAN
