/-! the reference's days: a row that is shortened until nothing shortens it -/
theorem dI_m9 {n : Nat} : dI n = -9 ↔ ¬ n < 1000000 := ⟨fun h c => nI_ne_m9 (n := n) (by omega) ((dI_t c).symm.trans h), dI_f⟩
theorem besM_m9 {n : Nat} : besM n = -9 ↔ ¬ n < 36 := ⟨fun h c => nI_ne_m9 (n := n) (by omega) ((besM_t c).symm.trans h), besM_f⟩

/-- the row while it is emptied -/
def emF (D : Nat → Int32) (i : Nat) : Nat → Int32 := fun q => if q < i then -9 else D q
theorem emF_0 {D : Nat → Int32} : D = emF D 0 := by funext q; exact (if_neg (Nat.not_lt_zero q)).symm
theorem emF_s {D : Nat → Int32} {i : Nat} : upd (emF D i) i (-9) = emF D (i + 1) := by
  funext q
  show (if q = i then (-9 : Int32) else if q < i then -9 else D q) = if q < i + 1 then -9 else D q
  by_cases e : q = i
  · rw [if_pos e, if_pos (by omega)]
  · rw [if_neg e]
    by_cases c : q < i
    · rw [if_pos c, if_pos (by omega)]
    · rw [if_neg c, if_neg (by omega)]
theorem emF_e {D : Nat → Int32} : ∀ q, q < 36 → emF D 36 q = dF (fun _ => 1000000) q := fun q hq => by
  show (if q < 36 then (-9 : Int32) else D q) = dI 1000000
  rw [if_pos hq]; rfl
def put (G : Nat → Nat) (t v : Nat) : Nat → Nat := fun r => if r = t then v else G r
theorem dR_u {G : Nat → Nat} {t v : Nat} (h : v < 1000000) : upd (dF G) t (nI v) = dF (put G t v) := by
  funext q
  show (if q = t then nI v else dI (G q)) = dI (if q = t then v else G q)
  by_cases e : q = t
  · rw [if_pos e, if_pos e, dI_t h]
  · rw [if_neg e, if_neg e]
theorem dR_i {j : Nat} : upd (dF (fun _ => 1000000)) j 0 = dF (ini j) := by
  rw [show (0 : Int32) = nI 0 from rfl, dR_u (by decide)]; rfl
def smG (G : Nat → Nat) : Nat → Nat
  | 0 => 0
  | n + 1 => smG G n + G n
theorem smG_put {G : Nat → Nat} {t v : Nat} : ∀ n, smG (put G t v) n + (if t < n then G t else 0) = smG G n + (if t < n then v else 0)
  | 0 => rfl
  | n + 1 => by
    have ih := smG_put (G := G) (t := t) (v := v) n
    show smG (put G t v) n + (if n = t then v else G n) + _ = smG G n + G n + _
    by_cases e : n = t
    · subst e
      rw [if_pos rfl, if_pos (by omega), if_pos (by omega)]
      rw [if_neg (by omega), if_neg (by omega)] at ih; omega
    · rw [if_neg e]
      by_cases c : t < n
      · rw [if_pos (by omega), if_pos (by omega)]; rw [if_pos c, if_pos c] at ih; omega
      · rw [if_neg (by omega), if_neg (by omega)]; rw [if_neg c, if_neg c] at ih; omega
/-- how many have days -/
def fin (G : Nat → Nat) : Nat → Nat := cnt (fun q => G q < 1000000)
theorem fin_put {G : Nat → Nat} {t v : Nat} (hv : v < 1000000) : ∀ n, fin (put G t v) n = fin G n + (if t < n ∧ ¬ G t < 1000000 then 1 else 0)
  | 0 => by show 0 = 0 + _; rw [if_neg (fun z => absurd z.1 (Nat.not_lt_zero t))]
  | n + 1 => by
    have ih := fin_put (G := G) (t := t) hv n
    show fin (put G t v) n + (if (if n = t then v else G n) < 1000000 then 1 else 0) = fin G n + (if G n < 1000000 then 1 else 0) + _
    by_cases e : n = t
    · subst e
      rw [if_pos (show (if n = n then v else G n) < 1000000 by rw [if_pos rfl]; exact hv), ih, if_neg (fun z => absurd z.1 (Nat.lt_irrefl n))]
      by_cases c : G n < 1000000
      · rw [if_pos c, if_neg (fun z => z.2 c)]
      · rw [if_neg c, if_pos ⟨by omega, c⟩]
    · rw [if_neg e, ih]
      by_cases c : t < n ∧ ¬ G t < 1000000
      · rw [if_pos c, if_pos (show t < n + 1 ∧ ¬ G t < 1000000 from ⟨by omega, c.2⟩)]; omega
      · rw [if_neg c, if_neg (show ¬ (t < n + 1 ∧ ¬ G t < 1000000) from fun z => c ⟨by omega, z.2⟩)]; omega
/-- what the row keeps while it is shortened -/
def rIn (K S : Nat → Int32) (j : Nat) (G : Nat → Nat) : Prop :=
  (∀ q, q < 36 → G q ≤ 1000000) ∧ (∀ q, q < 36 → dst K S j q ≤ G q) ∧ G j = 0 ∧ (∀ q, q < 36 → G q < 1000000 → G q ≤ 3 * fin G 36)
theorem rIn_0 {K S : Nat → Int32} {j : Nat} : rIn K S j (ini j) :=
  ⟨fun q _ => ini_le j q, fun q _ => spr_le 36 _ _ q, if_pos rfl, fun q _ h => by
    unfold ini at h; split at h
    · rename_i e; unfold ini; rw [if_pos e]; exact Nat.zero_le _
    · omega⟩
theorem rIn_108 {K S : Nat → Int32} {j q : Nat} {G : Nat → Nat} (h : rIn K S j G) (hq : q < 36) (h2 : G q < 1000000) : G q ≤ 108 := by
  have h3 := h.2.2.2 q hq h2
  have h4 : fin G 36 ≤ 36 := cnt_le _ 36
  omega
theorem rIn_s {K S : Nat → Int32} {j q w : Nat} {G : Nat → Nat} (h : rIn K S j G) (hq : q < 36) (hw : w < 4) (h1 : nb q w < 36) (h2 : csl (K (nb q w)) (S 1)) (hf : G q < 1000000) (hv : G q + cst (K (nb q w)) w < G (nb q w)) :
    rIn K S j (put G (nb q w) (G q + cst (K (nb q w)) w)) ∧ smG (put G (nb q w) (G q + cst (K (nb q w)) w)) 36 < smG G 36 := by
  have h108 := rIn_108 h hq hf
  have hc := cst_le (K (nb q w)) w
  have hlt : G q + cst (K (nb q w)) w < 1000000 := by omega
  have hf2 := fin_put (G := G) (t := nb q w) hlt 36
  have hk := h.2.2.2
  refine ⟨⟨fun r hr => ?_, fun r hr => ?_, ?_, fun r hr hfr => ?_⟩, ?_⟩
  · unfold put; split; omega; exact h.1 r hr
  · unfold put; split
    · rename_i e; rw [e]; exact Nat.le_trans (dst_cl K S j q hq w hw ⟨h1, h2⟩) (Nat.add_le_add_right (h.2.1 q hq) _)
    · exact h.2.1 r hr
  · unfold put; rw [if_neg (fun e => by have := h.2.2.1; rw [← e] at hv; omega)]; exact h.2.2.1
  · rw [hf2]
    have hkq := hk q hq hf
    unfold put at hfr ⊢
    split
    · by_cases c : G (nb q w) < 1000000
      · have := hk _ h1 c; omega
      · rw [if_pos ⟨h1, c⟩]; omega
    · rename_i e; rw [if_neg e] at hfr; have := hk r hr hfr; omega
  · have := smG_put (G := G) (t := nb q w) (v := G q + cst (K (nb q w)) w) 36
    rw [if_pos h1, if_pos h1] at this; omega
/-- no step from q by a way below w shortens -/
def clw (K S : Nat → Int32) (G : Nat → Nat) (q w : Nat) : Prop := ∀ u, u < w → edg K S q u → G (nb q u) ≤ G q + cst (K (nb q u)) u
theorem clw_0 {K S : Nat → Int32} {G : Nat → Nat} {q : Nat} : clw K S G q 0 := fun _ h => absurd h (Nat.not_lt_zero _)
theorem clw_s {K S : Nat → Int32} {G : Nat → Nat} {q w : Nat} (h : clw K S G q w) (h2 : edg K S q w → G (nb q w) ≤ G q + cst (K (nb q w)) w) : clw K S G q (w + 1) := fun u hu => by
  rcases Nat.lt_succ_iff_lt_or_eq.mp hu with c | c
  · exact h u c
  · rw [c]; exact h2
def clq (K S : Nat → Int32) (G : Nat → Nat) (q : Nat) : Prop := ∀ r, r < q → clw K S G r 4
theorem clq_0 {K S : Nat → Int32} {G : Nat → Nat} : clq K S G 0 := fun _ h => absurd h (Nat.not_lt_zero _)
theorem clq_s {K S : Nat → Int32} {G : Nat → Nat} {q : Nat} (h : clq K S G q) (h2 : clw K S G q 4) : clq K S G (q + 1) := fun u hu => by
  rcases Nat.lt_succ_iff_lt_or_eq.mp hu with c | c
  · exact h u c
  · rw [c]; exact h2
theorem rIn_e {K S : Nat → Int32} {j : Nat} {G : Nat → Nat} (h : rIn K S j G) (hc : clq K S G 36) (hj : j < 36) (hs : csl (K j) (S 1)) : ∀ q, q < 36 → dF G q = dF (dsI K S (nI j)) q := fun q hq => by
  have e : dsI K S (nI j) = dst K S j := by unfold dsI; rw [if_pos ((cbe_N hj).mpr hs), nI_clamp (by omega)]
  show dI (G q) = dI (dsI K S (nI j) q)
  rw [e, dst_un h.1 (fun _ => h.2.2.1) (fun r hr w hw he => hc r hr w hw he) h.2.1 q hq]
theorem dsI_no {K S : Nat → Int32} {j : Nat} (hj : j < 36) (hs : ¬ csl (K j) (S 1)) : dF (fun _ => 1000000) = dF (dsI K S (nI j)) := by
  unfold dsI; rw [if_neg (fun z => hs ((cbe_N hj).mp z))]
