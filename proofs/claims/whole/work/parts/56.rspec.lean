/-! ways that turn in fog: the reference's 360 states, and the class's search behind the turns -/
section SHK
variable {K S : Nat → Int32}
def sb (K : Nat → Int32) (i w : Nat) : Nat := if i % 2 = 1 ∨ (K (i / 10) = 3 ∧ i % 10 / 2 < 4 ∧ ¬ i % 10 / 2 = w) then 1 else 0
def tg (K : Nat → Int32) (i w : Nat) : Nat := 10 * nb (i / 10) w + 2 * w + sb K i w
theorem sb_le (i w : Nat) : sb K i w ≤ 1 := by unfold sb; split <;> omega
theorem sb_1 {i w : Nat} (h : i % 2 = 1 ∨ (K (i / 10) = 3 ∧ i % 10 / 2 < 4 ∧ ¬ i % 10 / 2 = w)) : sb K i w = 1 := if_pos h
theorem sb_0 {i w : Nat} (h : ¬ (i % 2 = 1 ∨ (K (i / 10) = 3 ∧ i % 10 / 2 < 4 ∧ ¬ i % 10 / 2 = w))) : sb K i w = 0 := if_neg h
theorem tg_lt {i w : Nat} (h : nb (i / 10) w < 36) (hw : w < 4) : tg K i w < 360 := by have := sb_le (K := K) i w; unfold tg; omega
theorem tg_d {i w : Nat} (hw : w < 4) : tg K i w / 10 = nb (i / 10) w ∧ tg K i w % 10 / 2 = w ∧ tg K i w % 2 = sb K i w := by
  have := sb_le (K := K) i w; unfold tg; omega
abbrev teg (K S : Nat → Int32) (i w : Nat) : Prop := edg K S (i / 10) w
abbrev tct (K : Nat → Int32) (i w : Nat) : Nat := cst (K (nb (i / 10) w)) w
def tcl (K S : Nat → Int32) (G : Nat → Nat) : Prop := ∀ i, i < 360 → ∀ w, w < 4 → teg K S i w → G (tg K i w) ≤ G i + tct K i w
theorem nb_inv : ∀ q, q < 36 → ∀ w, w < 4 → nb q w < 36 → nb (nb q w) (3 - w) = q := by decide +kernel
theorem dsI_cl (x : Int32) : cld K S (dsI K S x) := by
  unfold dsI; split
  · exact dst_cl K S _
  · intro q _ w _ _; exact Nat.le_add_right _ _
theorem shk_cl : cld K S (shk K S) := spr_cl 36 _ _ (fun q => trq_le 36) sIn_0 (cnt_le _ 36)
theorem oft_sub {t cb v q : Nat} {G : Nat → Nat} (u : Nat) : ∀ k, oft K S t cb v G (u + k) q ≤ oft K S t cb v G u q
  | 0 => Nat.le_refl _
  | k + 1 => by
    have h := oft_sub (t := t) (cb := cb) (v := v) (q := q) (G := G) u k
    show (if u + k ≠ cb ∧ edg K S t (u + k) then ofr (oft K S t cb v G (u + k)) (nb t (u + k)) (v + cst (K (nb t (u + k))) (u + k)) else oft K S t cb v G (u + k)) q ≤ _
    split
    · exact Nat.le_trans ofr_le h
    · exact h
theorem oft_of {t cb v u : Nat} {G : Nat → Nat} (hu : u < 4) (h : ¬ u = cb) (he : edg K S t u) : oft K S t cb v G 4 (nb t u) ≤ v + cst (K (nb t u)) u := by
  have h1 := oft_sub (K := K) (S := S) (t := t) (cb := cb) (v := v) (q := nb t u) (G := G) (u + 1) (4 - (u + 1))
  rw [show u + 1 + (4 - (u + 1)) = 4 by omega, ← oft_y h he.1 he.2] at h1
  exact Nat.le_trans h1 ofr_tv
theorem trw_sub {B G : Nat → Nat} {q r : Nat} (w : Nat) : ∀ k, trw K S B q G (w + k) r ≤ trw K S B q G w r
  | 0 => Nat.le_refl _
  | k + 1 => Nat.le_trans tr1_le (trw_sub w k)
theorem trq_sub {B G : Nat → Nat} {r : Nat} (q : Nat) : ∀ k, trq K S B G (q + k) r ≤ trq K S B G q r
  | 0 => Nat.le_refl _
  | k + 1 => Nat.le_trans (trw_le 4) (trq_sub q k)
theorem trq_of {B G : Nat → Nat} {q w u : Nat} (hq : q < 36) (hw : w < 4) (hb : B q < 1000000) (he : edg K S q w) (h3 : K (nb q w) = 3) (hu : u < 4) (hn : ¬ u = w) (he2 : edg K S (nb q w) u) :
    trq K S B G 36 (nb (nb q w) u) ≤ B q + cst (K (nb q w)) w + cst (K (nb (nb q w) u)) u := by
  have h1 := trq_sub (K := K) (S := S) (B := B) (G := G) (r := nb (nb q w) u) (q + 1) (36 - (q + 1))
  rw [show q + 1 + (36 - (q + 1)) = 36 by omega] at h1
  have h2 := trw_sub (K := K) (S := S) (B := B) (G := trq K S B G q) (q := q) (r := nb (nb q w) u) (w + 1) (4 - (w + 1))
  rw [show w + 1 + (4 - (w + 1)) = 4 by omega, ← tr1_y hb he.1 he.2 h3] at h2
  exact Nat.le_trans h1 (Nat.le_trans h2 (oft_of hu hn he2))
theorem oft_up {H G : Nat → Nat} {t cb v : Nat} (hb : ∀ r, r < 36 → H r ≤ G r) (ho : ∀ u, u < 4 → ¬ u = cb → edg K S t u → H (nb t u) ≤ v + cst (K (nb t u)) u) : ∀ u, u ≤ 4 → ∀ r, r < 36 → H r ≤ oft K S t cb v G u r
  | 0, _ => hb
  | u + 1, hu => by
    have ih := oft_up hb ho u (by omega)
    show ∀ r, r < 36 → H r ≤ (if u ≠ cb ∧ edg K S t u then ofr (oft K S t cb v G u) (nb t u) (v + cst (K (nb t u)) u) else oft K S t cb v G u) r
    split
    · rename_i c; exact ofr_up ih (fun _ => ho u (by omega) c.1 c.2)
    · exact ih
theorem trq_up {H B G : Nat → Nat} (hb : ∀ r, r < 36 → H r ≤ G r) (ho : ∀ q, q < 36 → ∀ w, w < 4 → B q < 1000000 → edg K S q w → K (nb q w) = 3 → ∀ u, u < 4 → ¬ u = w → edg K S (nb q w) u → H (nb (nb q w) u) ≤ B q + cst (K (nb q w)) w + cst (K (nb (nb q w) u)) u) : ∀ q, q ≤ 36 → ∀ r, r < 36 → H r ≤ trq K S B G q r
  | 0, _ => hb
  | q + 1, hq => by
    have ih := trq_up hb ho q (by omega)
    have hw : ∀ w, w ≤ 4 → ∀ r, r < 36 → H r ≤ trw K S B q (trq K S B G q) w r := by
      intro w
      induction w with
      | zero => exact fun _ => ih
      | succ w ihw =>
        intro hw4
        show ∀ r, r < 36 → H r ≤ tr1 K S B q w (trw K S B q (trq K S B G q) w) r
        unfold tr1; split
        · rename_i c; exact oft_up (ihw (by omega)) (ho q (by omega) w (by omega) c.1.1 c.1.2 c.2) 4 (Nat.le_refl _)
        · exact ihw (by omega)
    exact hw 4 (Nat.le_refl _)
theorem shk_ge {t : Nat} (ht : t < 36) : dsI K S (S 0) t ≤ shk K S t :=
  spr_up (dsI_cl (S 0)) 36 _ (fun _ => false) (trq_up (fun r _ => dsI_le K S (S 0) r) (fun q hq w hw _ he _ u hu _ he2 => by
    have h1 := dsI_cl (K := K) (S := S) (S 0) q hq w hw he
    have h2 := dsI_cl (K := K) (S := S) (S 0) (nb q w) he.1 u hu he2
    omega) 36 (Nat.le_refl _)) t ht
/-- what every state's days are at least -/
def hlw (K S : Nat → Int32) (i : Nat) : Nat := if i % 2 = 1 then shk K S (i / 10) else if 4 ≤ i % 10 / 2 then dsI K S (S 0) (i / 10) else
  if (nb (i / 10) (3 - i % 10 / 2) < 36 ∧ csl (K (i / 10)) (S 1)) ∧ dsI K S (S 0) (nb (i / 10) (3 - i % 10 / 2)) < 1000000 then dsI K S (S 0) (nb (i / 10) (3 - i % 10 / 2)) + cst (K (i / 10)) (i % 10 / 2) else 1000000
theorem hlw_1 {i : Nat} : hlw K S i ≤ 1000000 := by
  unfold hlw
  split
  · exact shk_le K S _
  · split
    · exact dsI_le K S _ _
    · split
      · rename_i c
        have h1 := dsI_b c.2
        have h2 := cst_le (K (i / 10)) (i % 10 / 2)
        omega
      · exact Nat.le_refl _
theorem pred_e {i : Nat} (hi : i < 360) (hc : ¬ 4 ≤ i % 10 / 2) (h : nb (i / 10) (3 - i % 10 / 2) < 36) : nb (nb (i / 10) (3 - i % 10 / 2)) (i % 10 / 2) = i / 10 := by
  have h1 := nb_inv (i / 10) (by omega) (3 - i % 10 / 2) (by omega) h
  rwa [show 3 - (3 - i % 10 / 2) = i % 10 / 2 by omega] at h1
theorem hlw_B {i : Nat} (hi : i < 360) (h : ¬ i % 2 = 1) : dsI K S (S 0) (i / 10) ≤ hlw K S i := by
  unfold hlw
  rw [if_neg h]
  split
  · exact Nat.le_refl _
  · rename_i hc
    split
    · rename_i c
      have e := pred_e hi hc c.1.1
      have h1 := dsI_cl (K := K) (S := S) (S 0) (nb (i / 10) (3 - i % 10 / 2)) c.1.1 (i % 10 / 2) (by omega) ⟨by rw [e]; omega, by rw [e]; exact c.1.2⟩
      rwa [e] at h1
    · exact dsI_le K S _ _
theorem hlw_cl : tcl K S (hlw K S) := by
  intro i hi w hw he
  obtain ⟨d1, d2, d3⟩ := tg_d (K := K) (i := i) hw
  by_cases hs : i % 2 = 1 ∨ (K (i / 10) = 3 ∧ i % 10 / 2 < 4 ∧ ¬ i % 10 / 2 = w)
  · have e1 : hlw K S (tg K i w) = shk K S (nb (i / 10) w) := by
      unfold hlw; rw [if_pos (by rw [d3]; exact sb_1 hs), d1]
    rw [e1]
    by_cases h1 : i % 2 = 1
    · have e2 : hlw K S i = shk K S (i / 10) := by unfold hlw; rw [if_pos h1]
      rw [e2]; exact shk_cl (i / 10) (by omega) w hw he
    · have h2 := hs.elim (fun z => absurd z h1) id
      have hc : ¬ 4 ≤ i % 10 / 2 := by omega
      have e2 : hlw K S i = if (nb (i / 10) (3 - i % 10 / 2) < 36 ∧ csl (K (i / 10)) (S 1)) ∧ dsI K S (S 0) (nb (i / 10) (3 - i % 10 / 2)) < 1000000 then dsI K S (S 0) (nb (i / 10) (3 - i % 10 / 2)) + cst (K (i / 10)) (i % 10 / 2) else 1000000 := by
        conv => lhs; unfold hlw
        rw [if_neg h1, if_neg hc]
      rw [e2]
      split
      · rename_i c
        have e := pred_e hi hc c.1.1
        have h3 := trq_of (K := K) (S := S) (B := dsI K S (S 0)) (G := fun _ => 1000000) (q := nb (i / 10) (3 - i % 10 / 2)) (w := i % 10 / 2) (u := w) c.1.1 h2.2.1 c.2 ⟨by rw [e]; omega, by rw [e]; exact c.1.2⟩ (by rw [e]; exact h2.1) hw (fun z => h2.2.2 z.symm) (by rw [e]; exact he)
        rw [e] at h3
        exact Nat.le_trans (spr_le 36 _ _ _) h3
      · have := shk_le K S (nb (i / 10) w); omega
  · have h1 : ¬ i % 2 = 1 := fun z => hs (Or.inl z)
    have hb := hlw_B (K := K) (S := S) hi h1
    have e0 := sb_0 hs
    have ep := nb_inv (i / 10) (by omega) w hw he.1
    have e1 : hlw K S (tg K i w) ≤ dsI K S (S 0) (i / 10) + tct K i w := by
      unfold hlw
      rw [if_neg (by rw [d3, e0]; omega), if_neg (by rw [d2]; omega), d1, d2, ep]
      split
      · exact Nat.le_refl _
      · rename_i c
        have : ¬ dsI K S (S 0) (i / 10) < 1000000 := fun z => c ⟨⟨by omega, he.2⟩, z⟩
        omega
    omega
theorem hlw_0 {jh : Nat} (hj : jh < 36) (e0 : S 0 = nI jh) (hc : csl (K jh) (S 1)) : hlw K S (10 * jh + 8) = 0 := by
  unfold hlw
  rw [if_neg (by omega), if_pos (by omega), e0, dsI_c hj hc, show (10 * jh + 8) / 10 = jh by omega, dst_0]
def rT (K S : Nat → Int32) (jh : Nat) (G : Nat → Nat) : Prop :=
  (∀ i, i < 360 → G i ≤ 1000000) ∧ (∀ i, i < 360 → hlw K S i ≤ G i) ∧ G (10 * jh + 8) = 0 ∧ (∀ i, i < 360 → G i < 1000000 → G i ≤ 3 * fin G 360)
theorem rT_0 {jh : Nat} (hj : jh < 36) (e0 : S 0 = nI jh) (hc : csl (K jh) (S 1)) : rT K S jh (ini (10 * jh + 8)) := by
  refine ⟨fun i _ => ini_le _ i, fun i _ => ?_, if_pos rfl, fun i _ h => ?_⟩
  · unfold ini; split
    · rename_i e; rw [e, hlw_0 hj e0 hc]; exact Nat.le_refl _
    · exact hlw_1
  · unfold ini at h; split at h
    · rename_i e; unfold ini; rw [if_pos e]; exact Nat.zero_le _
    · omega
theorem rT_b {jh i : Nat} {G : Nat → Nat} (h : rT K S jh G) (hi : i < 360) (h2 : G i < 1000000) : G i ≤ 1080 := by
  have h3 := h.2.2.2 i hi h2
  have h4 : fin G 360 ≤ 360 := cnt_le _ 360
  omega
theorem rT_s {jh i w : Nat} {G : Nat → Nat} (h : rT K S jh G) (hi : i < 360) (hw : w < 4) (he : teg K S i w) (hf : G i < 1000000) (hv : G i + tct K i w < G (tg K i w)) :
    rT K S jh (put G (tg K i w) (G i + tct K i w)) ∧ smG (put G (tg K i w) (G i + tct K i w)) 360 < smG G 360 := by
  have h1080 := rT_b h hi hf
  have hcl := cst_le (K (nb (i / 10) w)) w
  have ht := tg_lt (K := K) he.1 hw
  have hlt : G i + tct K i w < 1000000 := by show _ + cst _ _ < _; omega
  have hf2 := fin_put (G := G) (t := tg K i w) hlt 360
  have hk := h.2.2.2
  refine ⟨⟨fun r hr => ?_, fun r hr => ?_, ?_, fun r hr hfr => ?_⟩, ?_⟩
  · unfold put; split
    · omega
    · exact h.1 r hr
  · unfold put; split
    · rename_i e; rw [e]; exact Nat.le_trans (hlw_cl i hi w hw he) (Nat.add_le_add_right (h.2.1 i hi) _)
    · exact h.2.1 r hr
  · unfold put; rw [if_neg (fun e => by have := h.2.2.1; rw [← e] at hv; omega)]; exact h.2.2.1
  · rw [hf2]
    have hkq := hk i hi hf
    have hcl2 : tct K i w ≤ 3 := hcl
    unfold put at hfr ⊢
    split
    · by_cases c : G (tg K i w) < 1000000
      · have := hk _ ht c; omega
      · rw [if_pos ⟨ht, c⟩]; omega
    · rename_i e; rw [if_neg e] at hfr; have := hk r hr hfr; omega
  · have := smG_put (G := G) (t := tg K i w) (v := G i + tct K i w) 360
    rw [if_pos ht, if_pos ht] at this; omega
def tcw (K S : Nat → Int32) (G : Nat → Nat) (i w : Nat) : Prop := ∀ u, u < w → teg K S i u → G (tg K i u) ≤ G i + tct K i u
theorem tcw_0 {G : Nat → Nat} {i : Nat} : tcw K S G i 0 := fun _ h => absurd h (Nat.not_lt_zero _)
theorem tcw_s {G : Nat → Nat} {i w : Nat} (h : tcw K S G i w) (h2 : teg K S i w → G (tg K i w) ≤ G i + tct K i w) : tcw K S G i (w + 1) := fun u hu => by
  rcases Nat.lt_succ_iff_lt_or_eq.mp hu with c | c
  · exact h u c
  · rw [c]; exact h2
def tcq (K S : Nat → Int32) (G : Nat → Nat) (i : Nat) : Prop := ∀ r, r < i → tcw K S G r 4
theorem tcq_0 {G : Nat → Nat} : tcq K S G 0 := fun _ h => absurd h (Nat.not_lt_zero _)
theorem tcq_s {G : Nat → Nat} {i : Nat} (h : tcq K S G i) (h2 : tcw K S G i 4) : tcq K S G (i + 1) := fun u hu => by
  rcases Nat.lt_succ_iff_lt_or_eq.mp hu with c | c
  · exact h u c
  · rw [c]; exact h2
/-- the least of some, 1000000 at most -/
def lsF (f : Nat → Nat) : Nat → Nat
  | 0 => 1000000
  | n + 1 => if f n < lsF f n then f n else lsF f n
theorem lsF_y {f : Nat → Nat} {n : Nat} (h : f n < lsF f n) : f n = lsF f (n + 1) := (if_pos h).symm
theorem lsF_n {f : Nat → Nat} {n : Nat} (h : ¬ f n < lsF f n) : lsF f n = lsF f (n + 1) := (if_neg h).symm
theorem lsF_1 (f : Nat → Nat) : ∀ n, lsF f n ≤ 1000000
  | 0 => Nat.le_refl _
  | n + 1 => by have := lsF_1 f n; unfold lsF; split <;> omega
theorem lsF_le (f : Nat → Nat) : ∀ n w, w < n → lsF f n ≤ f w
  | 0, w, h => absurd h (Nat.not_lt_zero w)
  | n + 1, w, h => by
    unfold lsF
    rcases Nat.lt_succ_iff_lt_or_eq.mp h with e | e
    · have := lsF_le f n w e
      split <;> omega
    · subst e
      split
      · exact Nat.le_refl _
      · omega
theorem lsF_at (f : Nat → Nat) : ∀ n, lsF f n = 1000000 ∨ ∃ w, w < n ∧ lsF f n = f w
  | 0 => Or.inl rfl
  | n + 1 => by
    unfold lsF
    split
    · exact Or.inr ⟨n, Nat.lt_succ_self n, rfl⟩
    · exact (lsF_at f n).elim Or.inl (fun ⟨w, h1, h2⟩ => Or.inr ⟨w, Nat.lt_succ_of_lt h1, h2⟩)
theorem tcq_u {G : Nat → Nat} (hc : tcq K S G 360) {q r u : Nat} (hq : q < 36) (hr : r < 10) (hu : u < 4) (he : edg K S q u) : G (tg K (10 * q + r) u) ≤ G (10 * q + r) + cst (K (nb q u)) u ∧ tg K (10 * q + r) u = 10 * nb q u + 2 * u + sb K (10 * q + r) u := by
  have e : (10 * q + r) / 10 = q := by omega
  have h := hc (10 * q + r) (by omega) u hu (by show edg K S ((10 * q + r) / 10) u; rw [e]; exact he)
  refine ⟨?_, by unfold tg; rw [e]⟩
  have h2 : G (tg K (10 * q + r) u) ≤ G (10 * q + r) + cst (K (nb ((10 * q + r) / 10) u)) u := h
  rwa [e] at h2
theorem shk_e {jh : Nat} {G : Nat → Nat} (hj : jh < 36) (e0 : S 0 = nI jh) (hcs : csl (K jh) (S 1)) (hT : rT K S jh G) (hc : tcq K S G 360) {t : Nat} (ht : t < 36) : lsF (fun w => G (10 * t + 2 * w + 1)) 5 = shk K S t := by
  have eB : dsI K S (S 0) = dst K S jh := by rw [e0, dsI_c hj hcs]
  refine Nat.le_antisymm ?_ ?_
  · have hN : ∀ q, q < 36 → lsF (fun r => G (10 * q + r)) 10 ≤ dst K S jh q := by
      refine spr_up (H := fun q => lsF (fun r => G (10 * q + r)) 10) (fun q hq u hu he => ?_) 36 (ini jh) (fun _ => false) (fun q hq => ?_)
      · show lsF (fun r => G (10 * nb q u + r)) 10 ≤ lsF (fun r => G (10 * q + r)) 10 + _
        rcases lsF_at (fun r => G (10 * q + r)) 10 with h | ⟨r, hr, h⟩
        · have := lsF_1 (fun r => G (10 * nb q u + r)) 10; omega
        · obtain ⟨h1, h2⟩ := tcq_u hc hq hr hu he
          have h3 := sb_le (K := K) (10 * q + r) u
          have h4 := lsF_le (fun r => G (10 * nb q u + r)) 10 (2 * u + sb K (10 * q + r) u) (by omega)
          have h5 : G (10 * nb q u + (2 * u + sb K (10 * q + r) u)) = G (tg K (10 * q + r) u) := by rw [h2, Nat.add_assoc]
          rw [h]
          show _ ≤ G (10 * q + r) + _
          have h6 : lsF (fun r => G (10 * nb q u + r)) 10 ≤ G (10 * nb q u + (2 * u + sb K (10 * q + r) u)) := h4
          omega
      · show lsF (fun r => G (10 * q + r)) 10 ≤ ini jh q
        unfold ini; split
        · rename_i e; subst e
          have h1 : lsF (fun r => G (10 * q + r)) 10 ≤ G (10 * q + 8) := lsF_le (fun r => G (10 * q + r)) 10 8 (by omega)
          have h2 := hT.2.2.1
          omega
        · exact lsF_1 _ 10
    refine spr_up (H := fun t => lsF (fun w => G (10 * t + 2 * w + 1)) 5) (fun q hq u hu he => ?_) 36 _ (fun _ => false) (trq_up (fun r _ => lsF_1 _ 5) (fun q hq w hw hb he h3 u hu hn he2 => ?_) 36 (Nat.le_refl _)) t ht
    · show lsF (fun w => G (10 * nb q u + 2 * w + 1)) 5 ≤ lsF (fun w => G (10 * q + 2 * w + 1)) 5 + _
      rcases lsF_at (fun w => G (10 * q + 2 * w + 1)) 5 with h | ⟨w, hw, h⟩
      · have := lsF_1 (fun w => G (10 * nb q u + 2 * w + 1)) 5; omega
      · obtain ⟨h1, h2⟩ := tcq_u hc hq (r := 2 * w + 1) (by omega) hu he
        rw [sb_1 (Or.inl (by omega))] at h2
        have h4 : lsF (fun w => G (10 * nb q u + 2 * w + 1)) 5 ≤ G (10 * nb q u + 2 * u + 1) := lsF_le (fun w => G (10 * nb q u + 2 * w + 1)) 5 u (by omega)
        rw [h2] at h1
        rw [h]
        show _ ≤ G (10 * q + 2 * w + 1) + _
        rw [show 10 * q + 2 * w + 1 = 10 * q + (2 * w + 1) by omega]
        omega
    · show lsF (fun w' => G (10 * nb (nb q w) u + 2 * w' + 1)) 5 ≤ _
      rw [eB] at hb ⊢
      have hN1 := hN q hq
      rcases lsF_at (fun r => G (10 * q + r)) 10 with h | ⟨r, hr, h⟩
      · omega
      · obtain ⟨h1, h2⟩ := tcq_u hc hq hr hw he
        have hs := sb_le (K := K) (10 * q + r) w
        rw [h2, Nat.add_assoc] at h1
        clear h2
        generalize sb K (10 * q + r) w = s1 at h1 hs
        obtain ⟨h4, h5⟩ := tcq_u hc he.1 (r := 2 * w + s1) (by omega) hu he2
        have e10 : (10 * nb q w + (2 * w + s1)) / 10 = nb q w := by omega
        have e1 : sb K (10 * nb q w + (2 * w + s1)) u = 1 := sb_1 (Or.inr ⟨by rw [e10]; exact h3, by omega, by omega⟩)
        rw [e1] at h5
        rw [h5] at h4
        have h6 : lsF (fun w' => G (10 * nb (nb q w) u + 2 * w' + 1)) 5 ≤ G (10 * nb (nb q w) u + 2 * u + 1) := lsF_le (fun w' => G (10 * nb (nb q w) u + 2 * w' + 1)) 5 u (by omega)
        have h7 : lsF (fun r => G (10 * q + r)) 10 = G (10 * q + r) := h
        omega
  · rcases lsF_at (fun w => G (10 * t + 2 * w + 1)) 5 with h | ⟨w, hw, h⟩
    · rw [h]; exact shk_le K S t
    · rw [h]
      have h1 := hT.2.1 (10 * t + 2 * w + 1) (by omega)
      have h2 : hlw K S (10 * t + 2 * w + 1) = shk K S t := by unfold hlw; rw [if_pos (by omega), show (10 * t + 2 * w + 1) / 10 = t by omega]
      rw [h2] at h1; exact h1
theorem hlw_ti {jh i w : Nat} {G : Nat → Nat} (h : rT K S jh G) (hi : i < 360) (hw : w < 4) (he : teg K S i w) : G (tg K i w) ≤ 1000000 := h.1 _ (tg_lt he.1 hw)
theorem emF_e3 {D : Nat → Int32} : ∀ q, q < 360 → emF D 360 q = dF (fun _ => 1000000) q := fun q hq => by
  show (if q < 360 then (-9 : Int32) else D q) = dI 1000000
  rw [if_pos hq]; rfl
def tuF (G : Nat → Nat) (j : Nat) : Nat → Nat := fun w => G (10 * j + 2 * w + 1)
theorem shake_2 {j : Nat} (hj : j < 36) : sp_shake K S (nI j) = (dI (shk K S j), 0) := by
  unfold sp_shake; rw [if_neg (fun z => z (nI_sq hj)), show ix (nI j) = j from nI_clamp (by omega)]
theorem led_s {j : Nat} (hj : j < 36) : sp_led K S (nI j) = if dI (shk K S j) = -9 ∨ dI (dsI K S (S 0) j) = -9 then (-9, 0) else (dI (shk K S j) - dI (dsI K S (S 0) j), 0) := by
  unfold sp_led; rw [if_neg (fun z => z (nI_sq hj)), show ix (nI j) = j from nI_clamp (by omega)]
theorem led_2 {j : Nat} (hj : j < 36) (h : dI (shk K S j) = -9) : sp_led K S (nI j) = (-9, 0) := (led_s hj).trans (if_pos (Or.inl h))
theorem led_3 {j : Nat} (hj : j < 36) (h : ¬ dI (shk K S j) = -9) : sp_led K S (nI j) = (dI (shk K S j) - dI (dsI K S (S 0) j), 0) :=
  (led_s hj).trans (if_neg (fun z => z.elim h (fun y => by
    have h1 : shk K S j < 1000000 := Decidable.not_not.mp (fun z => h (dI_m9.mpr z))
    have h2 := shk_ge (K := K) (S := S) hj
    exact dI_m9.mp y (by omega))))
end SHK
