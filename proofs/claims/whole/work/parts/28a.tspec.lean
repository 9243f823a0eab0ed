theorem fofF_k {A : Nat → Nat} {tn k p i : Nat} (hk : 1 ≤ k) (hi : i = strL.getD (fbi (ltA A tn p)) 0) (h : ¬ fbi (ltA A tn p) = 6) (h2 : ifS A tn (fbi (ltA A tn p)) (p + 1) = none) (h3 : p + 1 + i < tn) : fofF A tn (k - 1 + 1) (p + 1 + i) = fofF A tn (k + 1) p := by
  subst hi
  rw [show k - 1 + 1 = k by omega]
  exact (fofF_g h h2 h3).symm
theorem ifS_none {A : Nat → Nat} {tn f p i : Nat} (hi : i = strL.getD f 0) (hs : ifF A tn f p (strL.getD f 0 - i) i = ifS A tn f p) : ifS A tn f p = none := by
  subst hi
  rw [← hs, Nat.sub_self]
  rfl
theorem ifS_some {A : Nat → Nat} {tn f p i : Nat} (hi : i < strL.getD f 0) (hs : ifF A tn f p (strL.getD f 0 - i) i = ifS A tn f p) (h : ¬ sut (stc f i) (ltA A tn (p + i))) : ifS A tn f p = some (p + i) := by
  rw [← hs]
  exact ifF_n hi h
theorem fof_1 {A : Nat → Nat} {tn k p : Nat} (hs : fofF A tn (k + 1) p = fofF A tn 97 0) (h : fbi (ltA A tn p) = 6) : -1000 - nI p = fof A tn := by
  unfold fof; rw [← hs, fofF_6 h]; rfl
theorem fof_2 {A : Nat → Nat} {tn k p q : Nat} (hs : fofF A tn (k + 1) p = fofF A tn 97 0) (h : ¬ fbi (ltA A tn p) = 6) (h2 : ifS A tn (fbi (ltA A tn p)) (p + 1) = some q) : -1000 - nI q = fof A tn := by
  unfold fof; rw [← hs, fofF_s h h2]; rfl
theorem fof_3 {A : Nat → Nat} {tn k p i : Nat} (hs : fofF A tn (k + 1) p = fofF A tn 97 0) (h : ¬ fbi (ltA A tn p) = 6) (h2 : ifS A tn (fbi (ltA A tn p)) (p + 1) = none) (hi : i = strL.getD (fbi (ltA A tn p)) 0) (h3 : ¬ p + 1 + i < tn) : 0 = fof A tn := by
  subst hi
  unfold fof; rw [← hs, fofF_e h h2 h3]; rfl
