/-! the fewest days: what the class's search finds is the one that is closed and least -/
/-- closed: no step shortens it -/
def cld (K S : Nat → Int32) (G : Nat → Nat) : Prop := ∀ q, q < 36 → ∀ w, w < 4 → edg K S q w → G (nb q w) ≤ G q + cst (K (nb q w)) w
theorem ofr_up {G : Nat → Nat} {t v : Nat} {H : Nat → Nat} (h : ∀ q, q < 36 → H q ≤ G q) (h2 : t < 36 → H t ≤ v) : ∀ q, q < 36 → H q ≤ ofr G t v q := by
  intro q hq; unfold ofr; split
  · rename_i c; rw [c.1]; exact h2 (c.1 ▸ hq)
  · exact h q hq
theorem rx_up {K S : Nat → Int32} {n : Nat} {G H : Nat → Nat} (hn : n < 36) (hc : cld K S H) (h : ∀ q, q < 36 → H q ≤ G q) : ∀ w, w ≤ 4 → ∀ q, q < 36 → H q ≤ rx K S n G w q
  | 0, _ => h
  | w + 1, hw => by
    have ih := rx_up hn hc h w (by omega)
    show ∀ q, q < 36 → H q ≤ rx1 K S n w (rx K S n G w) q
    unfold rx1; split
    · rename_i e; exact ofr_up ih (fun _ => Nat.le_trans (hc n hn w (by omega) e) (Nat.add_le_add_right (ih n hn) _))
    · exact ih
theorem spr_up {K S : Nat → Int32} {H : Nat → Nat} (hc : cld K S H) : ∀ (f : Nat) (G : Nat → Nat) (Z : Nat → Bool), (∀ q, q < 36 → H q ≤ G q) → ∀ q, q < 36 → H q ≤ (spr K S f G Z).1 q
  | 0, _, _, h => h
  | f + 1, G, Z, h => by
    unfold spr; split
    · rename_i e; exact spr_up hc f _ _ (rx_up e hc h 4 (Nat.le_refl _))
    · exact h
theorem nr_all (G : Nat → Nat) (Z : Nat → Bool) : ∀ i, i ≤ 36 → (∀ q, q < i → ¬ Z q = true → (nr G Z i).2 ≤ G q) ∧ ((nr G Z i = (99, 1000000)) ∨ ((nr G Z i).1 < i ∧ ¬ Z (nr G Z i).1 = true ∧ (nr G Z i).2 = G (nr G Z i).1))
  | 0, _ => ⟨fun q hq => absurd hq (Nat.not_lt_zero q), Or.inl rfl⟩
  | i + 1, hi => by
    have ih := nr_all G Z i (by omega)
    by_cases c : ¬ Z i = true ∧ G i < (nr G Z i).2
    · rw [nr_y c.1 c.2]
      refine ⟨fun q hq hz => ?_, Or.inr ⟨by omega, c.1, rfl⟩⟩
      rcases Nat.lt_succ_iff_lt_or_eq.mp hq with h | h
      · exact Nat.le_trans (Nat.le_of_lt c.2) (ih.1 q h hz)
      · rw [h]; exact Nat.le_refl _
    · rw [show nr G Z (i + 1) = nr G Z i from if_neg c]
      refine ⟨fun q hq hz => ?_, ih.2.elim Or.inl (fun z => Or.inr ⟨by omega, z.2⟩)⟩
      rcases Nat.lt_succ_iff_lt_or_eq.mp hq with h | h
      · exact ih.1 q h hz
      · subst h; exact Nat.not_lt.mp (fun z => c ⟨hz, z⟩)
/-- what the search keeps -/
def sIn (K S : Nat → Int32) (G : Nat → Nat) (Z : Nat → Bool) : Prop :=
  (∀ z, z < 36 → Z z = true → ∀ w, w < 4 → edg K S z w → G (nb z w) ≤ G z + cst (K (nb z w)) w)
    ∧ (∀ z, z < 36 → Z z = true → ∀ q, q < 36 → ¬ Z q = true → G z ≤ G q)
theorem ofr_lo {G : Nat → Nat} {t v q m : Nat} (h : m ≤ G q) (h2 : m ≤ v) : m ≤ ofr G t v q := by unfold ofr; split <;> assumption
theorem rx_lo {K S : Nat → Int32} {n q m : Nat} {G : Nat → Nat} (h : m ≤ G q) (h2 : m ≤ G n) : ∀ w, m ≤ rx K S n G w q ∧ m ≤ rx K S n G w n
  | 0 => ⟨h, h2⟩
  | w + 1 => by
    have ih := rx_lo (K := K) (S := S) h h2 w
    show m ≤ rx1 K S n w (rx K S n G w) q ∧ m ≤ rx1 K S n w (rx K S n G w) n
    unfold rx1; split
    · exact ⟨ofr_lo ih.1 (Nat.le_trans ih.2 (Nat.le_add_right _ _)), ofr_lo ih.2 (Nat.le_trans ih.2 (Nat.le_add_right _ _))⟩
    · exact ih
theorem rx_sub {K S : Nat → Int32} {n q : Nat} {G : Nat → Nat} : ∀ w k, rx K S n G (w + k) q ≤ rx K S n G w q
  | _, 0 => Nat.le_refl _
  | w, k + 1 => Nat.le_trans rx1_le (rx_sub w k)
theorem ofr_tv {G : Nat → Nat} {t v : Nat} : ofr G t v t ≤ v := by unfold ofr; split; exact Nat.le_refl _; (rename_i c; exact Nat.not_lt.mp (fun z => c ⟨rfl, z⟩))
theorem rx_rel {K S : Nat → Int32} {n w : Nat} {G : Nat → Nat} (hw : w < 4) (he : edg K S n w) : rx K S n G 4 (nb n w) ≤ G n + cst (K (nb n w)) w := by
  have h1 : rx K S n G (w + 1) (nb n w) ≤ G n + cst (K (nb n w)) w := by
    show rx1 K S n w (rx K S n G w) (nb n w) ≤ _
    unfold rx1; rw [if_pos he]
    exact Nat.le_trans ofr_tv (Nat.add_le_add_right (rx_le w) _)
  have h2 := rx_sub (K := K) (S := S) (n := n) (q := nb n w) (G := G) (w + 1) (4 - (w + 1))
  rw [show w + 1 + (4 - (w + 1)) = 4 by omega] at h2
  exact Nat.le_trans h2 h1
theorem sIn_st {K S : Nat → Int32} {G : Nat → Nat} {Z : Nat → Bool} (h : sIn K S G Z) (hn : nrs G Z < 36) : sIn K S (rx K S (nrs G Z) G 4) (stl Z (nrs G Z)) := by
  have hm := nr_all G Z 36 (Nat.le_refl _)
  have hn2 : ¬ Z (nrs G Z) = true ∧ (nr G Z 36).2 = G (nrs G Z) := by
    rcases hm.2 with e | e
    · exact absurd hn (by unfold nrs; rw [e]; omega)
    · exact e.2
  have hmin : ∀ q, q < 36 → ¬ Z q = true → G (nrs G Z) ≤ G q := fun q hq hz => hn2.2 ▸ hm.1 q hq hz
  have hkeep : ∀ z, z < 36 → Z z = true → rx K S (nrs G Z) G 4 z = G z := fun z hz hZ => Nat.le_antisymm (rx_le 4) (rx_lo (Nat.le_refl _) (h.2 z hz hZ _ hn hn2.1) 4).1
  have hkn : rx K S (nrs G Z) G 4 (nrs G Z) = G (nrs G Z) := Nat.le_antisymm (rx_le 4) (rx_lo (Nat.le_refl _) (Nat.le_refl _) 4).1
  constructor
  · intro z hz hZ w hw he
    unfold stl at hZ
    by_cases e : z = nrs G Z
    · rw [e] at he ⊢; rw [hkn]; exact rx_rel hw he
    · rw [if_neg e] at hZ
      rw [hkeep z hz hZ]; exact Nat.le_trans (rx_le 4) (h.1 z hz hZ w hw he)
  · intro z hz hZ q hq hQ
    unfold stl at hZ hQ
    have eq1 : ¬ q = nrs G Z := fun e => hQ (by rw [if_pos e])
    rw [if_neg eq1] at hQ
    by_cases e : z = nrs G Z
    · rw [e, hkn]; exact (rx_lo (hmin q hq hQ) (Nat.le_refl _) 4).1
    · rw [if_neg e] at hZ
      rw [hkeep z hz hZ]
      exact (rx_lo (h.2 z hz hZ q hq hQ) (h.2 z hz hZ _ hn hn2.1) 4).1
theorem cnt_pos {p : Nat → Prop} [DecidablePred p] : ∀ n q, q < n → p q → 0 < cnt p n
  | 0, q, h, _ => absurd h (Nat.not_lt_zero q)
  | n + 1, q, h, hp => by
    rcases Nat.lt_succ_iff_lt_or_eq.mp h with h1 | h1
    · have := cnt_pos n q h1 hp; unfold cnt; omega
    · subst h1; rw [cnt_t hp]; omega
theorem cnt_stl {Z : Nat → Bool} {m : Nat} (hz : ¬ Z m = true) : ∀ n, cnt (fun q => ¬ stl Z m q = true) n = cnt (fun q => ¬ Z q = true) n - (if m < n then 1 else 0) ∧ (m < n → 0 < cnt (fun q => ¬ Z q = true) n)
  | 0 => ⟨rfl, fun h => absurd h (Nat.not_lt_zero m)⟩
  | n + 1 => by
    have ih := cnt_stl hz n
    refine ⟨?_, fun h => cnt_pos (n + 1) m h hz⟩
    by_cases e : n = m
    · subst e
      rw [cnt_f (p := fun q => ¬ stl Z n q = true) (fun z => z (by unfold stl; rw [if_pos rfl])), cnt_t (p := fun q => ¬ Z q = true) hz, ih.1, if_neg (by omega), if_pos (by omega)]; omega
    · have es : stl Z m n = Z n := if_neg e
      by_cases c : Z n = true
      · rw [cnt_f (p := fun q => ¬ stl Z m q = true) (fun z => z (by rw [es]; exact c)), cnt_f (p := fun q => ¬ Z q = true) (fun z => z c), ih.1]
        split <;> split <;> omega
      · rw [cnt_t (p := fun q => ¬ stl Z m q = true) (by rw [es]; exact c), cnt_t (p := fun q => ¬ Z q = true) c, ih.1]
        by_cases h : m < n
        · have := ih.2 h; rw [if_pos h, if_pos (by omega)]; omega
        · rw [if_neg h, if_neg (by omega)]; omega
theorem spr_cl {K S : Nat → Int32} : ∀ (f : Nat) (G : Nat → Nat) (Z : Nat → Bool), (∀ q, G q ≤ 1000000) → sIn K S G Z → cnt (fun q => ¬ Z q = true) 36 ≤ f → cld K S (spr K S f G Z).1
  | 0, G, Z, _, h, hf => fun q hq w hw he => by
    by_cases c : Z q = true
    · exact h.1 q hq c w hw he
    · have := cnt_pos (p := fun q => ¬ Z q = true) 36 q hq c; omega
  | f + 1, G, Z, hl, h, hf => by
    unfold spr; split
    · rename_i e
      have hm := nr_all G Z 36 (Nat.le_refl _)
      have hn2 : ¬ Z (nrs G Z) = true := by
        rcases hm.2 with e' | e'
        · exact absurd e (by unfold nrs; rw [e']; omega)
        · exact e'.2.1
      refine spr_cl f _ _ (fun q => Nat.le_trans (rx_le 4) (hl q)) (sIn_st h e) ?_
      have hc := cnt_stl hn2 36
      rw [hc.1, if_pos e]; have := hc.2 e; omega
    · rename_i e
      intro q hq w hw he
      by_cases c : Z q = true
      · exact h.1 q hq c w hw he
      · have hm := nr_all G Z 36 (Nat.le_refl _)
        have h9 : (nr G Z 36).2 = 1000000 := by
          rcases hm.2 with e' | e'
          · rw [e']
          · exact absurd e'.1 e
        have := hm.1 q hq c
        exact Nat.le_trans (hl _) (by show 1000000 ≤ G q + _; omega)
theorem sIn_0 {K S : Nat → Int32} {G : Nat → Nat} : sIn K S G (fun _ => false) := ⟨fun _ _ h => absurd h Bool.false_ne_true, fun _ _ h => absurd h Bool.false_ne_true⟩
theorem dst_cl (K S : Nat → Int32) (j : Nat) : cld K S (dst K S j) := spr_cl 36 _ _ (ini_le j) sIn_0 (cnt_le _ 36)
theorem dst_0 (K S : Nat → Int32) (j : Nat) : dst K S j j = 0 := Nat.le_zero.mp (Nat.le_trans (spr_le 36 _ _ j) (by unfold ini; rw [if_pos rfl]; exact Nat.le_refl _))
/-- what is closed, 0 at j and nowhere below the fewest days is the fewest days -/
theorem dst_un {K S : Nat → Int32} {j : Nat} {G : Nat → Nat} (hl : ∀ q, q < 36 → G q ≤ 1000000) (h0 : j < 36 → G j = 0) (hc : cld K S G) (hb : ∀ q, q < 36 → dst K S j q ≤ G q) : ∀ q, q < 36 → G q = dst K S j q := fun q hq =>
  Nat.le_antisymm (spr_up hc 36 _ _ (fun r hr => by unfold ini; split; (rename_i e; rw [e, h0 (e ▸ hr)]; exact Nat.le_refl _); exact hl r hr) q hq) (hb q hq)
