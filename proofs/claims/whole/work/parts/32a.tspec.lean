section TA
variable {A : Nat → Nat} {tn k p n : Nat} {K L S K4 L4 S4 K0 L0 S0 : Nat → Int32} {r : Int32}
theorem taF_g2 (hk : 1 ≤ k) (h : p < tn) (hr : tlr A tn (sg K (dsI K S (S 0))) K L S p = (r, K4, L4, S4)) (h2 : ¬ r = 0) : taF A tn (k - 1 + 1) (p + 1 + strL.getD (fbi (ltA A tn p)) 0) (n + 1) K4 L4 S4 = taF A tn (k + 1) p n K L S := by
  have h3 := taF_g (n := n) hk h (by rw [hr]; exact h2)
  rw [hr] at h3
  exact h3
theorem taF_f3 (hs : taF A tn (k + 1) p n K L S = taF A tn 97 0 0 K0 L0 S0) (h : p < tn) (hr : tlr A tn (sg K (dsI K S (S 0))) K L S p = (r, K4, L4, S4)) (h2 : r = 0) : taF A tn 97 0 0 K0 L0 S0 = (-2000 - nI p, K4, L4, S4) := by
  rw [← hs, taF_f h (by rw [hr]; exact h2), hr]
theorem taF_e3 (hs : taF A tn (k + 1) p n K L S = taF A tn 97 0 0 K0 L0 S0) (h : ¬ p < tn) : taF A tn 97 0 0 K0 L0 S0 = (nI n, K, L, S) := by rw [← hs, taF_e h]
theorem fofF_nx (hk : 1 ≤ k) (hfm : fofF A tn (k + 1) p = none) (h : p + 1 + strL.getD (fbi (ltA A tn p)) 0 < tn) : fofF A tn (k - 1 + 1) (p + 1 + strL.getD (fbi (ltA A tn p)) 0) = none := by
  rw [show k - 1 + 1 = k by omega]
  exact (fofF_i hfm).2.2 h
end TA
noncomputable def sp_sea (A : Nat → Nat) (tn : Nat) (K L S : Nat → Int32) : Int32 × (Nat → Int32) × (Nat → Int32) × (Nat → Int32) := if ¬ fof A tn = 0 then (fof A tn, K, L, S) else if 0 < (taF A tn 97 0 0 K L S).1 then taF A tn 97 0 0 K L S else ((taF A tn 97 0 0 K L S).1, K, L, S)
