/-! days: what the class's pilot reckons, as functions (1000000: none) -/
theorem besI_t {n : Nat} (h : n < 36) : besI n = nI n := if_pos h
theorem besI_f {n : Nat} (h : ¬ n < 36) : besI n = -1 := if_neg h
theorem besM_t {n : Nat} (h : n < 36) : besM n = nI n := if_pos h
theorem besM_f {n : Nat} (h : ¬ n < 36) : besM n = -9 := if_neg h
theorem sq_besI {n : Nat} : sq (besI n) ↔ n < 36 := by
  by_cases h : n < 36
  · rw [besI_t h]; exact ⟨fun _ => h, fun _ => nI_sq h⟩
  · rw [besI_f h]; exact ⟨fun z => absurd z not_sq_m1, fun z => absurd z h⟩
theorem not_sq_m9 : ¬ sq (-9) := by decide
theorem sq_besM {n : Nat} : sq (besM n) ↔ n < 36 := by
  by_cases h : n < 36
  · rw [besM_t h]; exact ⟨fun _ => h, fun _ => nI_sq h⟩
  · rw [besM_f h]; exact ⟨fun z => absurd z not_sq_m9, fun z => absurd z h⟩
theorem cst_le (k : Int32) (w : Nat) : cst k w ≤ 3 := by unfold cst; split; omega; split; omega; split; (split <;> omega); omega
theorem cst_pos (k : Int32) (w : Nat) : 1 ≤ cst k w := by unfold cst; split; omega; split; omega; split; (split <;> omega); omega
theorem nI_ne_m9 {n : Nat} (h : n < 2 ^ 31) : ¬ nI n = -9 := fun z => by
  have h1 := congrArg Int32.toInt z
  rw [nI_toInt h, show (-9 : Int32).toInt = -9 from rfl] at h1
  omega
theorem stp_ne {K S : Nat → Int32} {q w : Nat} (h : ¬ stp K S q w = -9) : nb q w < 36 ∧ csl (K (nb q w)) (S 1) ∧ stp K S q w = nI (cst (K (nb q w)) w) := by
  by_cases c : nb q w < 36 ∧ csl (K (nb q w)) (S 1)
  · exact ⟨c.1, c.2, stp_t c.1 c.2⟩
  · exact absurd (stp_f c) h
theorem stp_eq {K S : Nat → Int32} {q w : Nat} (h : stp K S q w = -9) : ¬ (nb q w < 36 ∧ csl (K (nb q w)) (S 1)) := fun z => by
  rw [stp_t z.1 z.2] at h
  exact nI_ne_m9 (by have := cst_le (K (nb q w)) w; omega) h
theorem dI_t {n : Nat} (h : n < 1000000) : dI n = nI n := if_pos h
theorem dI_f {n : Nat} (h : ¬ n < 1000000) : dI n = -9 := if_neg h
/-- an offer of v days at t -/
def ofr (G : Nat → Nat) (t v : Nat) : Nat → Nat := fun q => if q = t ∧ v < G t then v else G q
theorem ofr_le {G : Nat → Nat} {t v q : Nat} : ofr G t v q ≤ G q := by unfold ofr; split; (next h => obtain ⟨rfl, h⟩ := h; omega); omega
theorem ofr_y {G : Nat → Nat} {t v : Nat} (h : v < G t) : upd (nF G) t (nI v) = nF (ofr G t v) := by
  funext q
  show (if q = t then nI v else nI (G q)) = nI (if q = t ∧ v < G t then v else G q)
  by_cases e : q = t
  · rw [if_pos e, if_pos ⟨e, h⟩]
  · rw [if_neg e, if_neg (fun z => e z.1)]
theorem ofr_n {G : Nat → Nat} {t v : Nat} (h : ¬ v < G t) : nF G = nF (ofr G t v) := by
  funext q
  show nI (G q) = nI (if q = t ∧ v < G t then v else G q)
  rw [if_neg (fun z => h z.2)]
/-- the edges from a square -/
abbrev edg (K S : Nat → Int32) (q w : Nat) : Prop := nb q w < 36 ∧ csl (K (nb q w)) (S 1)
def rx1 (K S : Nat → Int32) (n w : Nat) (G : Nat → Nat) : Nat → Nat := if edg K S n w then ofr G (nb n w) (G n + cst (K (nb n w)) w) else G
def rx (K S : Nat → Int32) (n : Nat) (G : Nat → Nat) : Nat → (Nat → Nat)
  | 0 => G
  | w + 1 => rx1 K S n w (rx K S n G w)
theorem rx1_le {K S : Nat → Int32} {n w q : Nat} {G : Nat → Nat} : rx1 K S n w G q ≤ G q := by unfold rx1; split; exact ofr_le; exact Nat.le_refl _
theorem rx_le {K S : Nat → Int32} {n q : Nat} {G : Nat → Nat} : ∀ w, rx K S n G w q ≤ G q
  | 0 => Nat.le_refl _
  | w + 1 => Nat.le_trans rx1_le (rx_le w)
theorem rx_y {K S : Nat → Int32} {n w : Nat} {G : Nat → Nat} (h1 : nb n w < 36) (h2 : csl (K (nb n w)) (S 1)) : ofr (rx K S n G w) (nb n w) (rx K S n G w n + cst (K (nb n w)) w) = rx K S n G (w + 1) := by
  show _ = rx1 K S n w _; unfold rx1; rw [if_pos ⟨h1, h2⟩]
theorem rx_n {K S : Nat → Int32} {n w : Nat} {G : Nat → Nat} (h : ¬ edg K S n w) : rx K S n G w = rx K S n G (w + 1) := by
  show _ = rx1 K S n w _; unfold rx1; rw [if_neg h]
/-- the nearest that is not settled: the square (99: none), its days -/
def nr (G : Nat → Nat) (Z : Nat → Bool) : Nat → Nat × Nat
  | 0 => (99, 1000000)
  | q + 1 => if ¬ Z q = true ∧ G q < (nr G Z q).2 then (q, G q) else nr G Z q
theorem nr_le (G : Nat → Nat) (Z : Nat → Bool) : ∀ i, (nr G Z i).2 ≤ 1000000
  | 0 => Nat.le_refl _
  | i + 1 => by have h := nr_le G Z i; unfold nr; split; (next c => exact Nat.le_trans (Nat.le_of_lt c.2) h); exact h
theorem nr_y {G : Nat → Nat} {Z : Nat → Bool} {i : Nat} (h : ¬ Z i = true) (h2 : G i < (nr G Z i).2) : nr G Z (i + 1) = (i, G i) := if_pos ⟨h, h2⟩
theorem nr_n {G : Nat → Nat} {Z : Nat → Bool} {i : Nat} (h : Z i = true ∨ ¬ G i < (nr G Z i).2) : nr G Z (i + 1) = nr G Z i := if_neg (fun z => h.elim z.1 (fun q => q z.2))
def nrs (G : Nat → Nat) (Z : Nat → Bool) : Nat := (nr G Z 36).1
def stl (Z : Nat → Bool) (n : Nat) : Nat → Bool := fun q => if q = n then true else Z q
theorem stl_y {Z : Nat → Bool} {n : Nat} : upd (zF Z) n 1 = zF (stl Z n) := by
  funext q
  show (if q = n then 1 else b2i (Z q = true)) = b2i ((if q = n then true else Z q) = true)
  by_cases e : q = n
  · rw [if_pos e, if_pos e]; exact (b2i_t rfl).symm
  · rw [if_neg e, if_neg e]
def spr (K S : Nat → Int32) : Nat → (Nat → Nat) → (Nat → Bool) → (Nat → Nat) × (Nat → Bool)
  | 0, G, Z => (G, Z)
  | f + 1, G, Z => if nrs G Z < 36 then spr K S f (rx K S (nrs G Z) G 4) (stl Z (nrs G Z)) else (G, Z)
theorem spr_y {K S : Nat → Int32} {i : Nat} {G : Nat → Nat} {Z : Nat → Bool} (hi : i < 36) (h : nrs G Z < 36) : spr K S (36 - (i + 1)) (rx K S (nrs G Z) G 4) (stl Z (nrs G Z)) = spr K S (36 - i) G Z := by
  rw [show 36 - i = (36 - (i + 1)) + 1 by omega]; exact (if_pos h).symm
theorem spr_n {K S : Nat → Int32} {i : Nat} {G : Nat → Nat} {Z : Nat → Bool} (h : ¬ nrs G Z < 36) : spr K S (36 - i) G Z = (G, Z) := by
  cases hf : 36 - i with
  | zero => rfl
  | succ f => exact if_neg h
/-- the fewest days from j; from x, that may be none; by ways that turn in fog -/
def ini (j : Nat) : Nat → Nat := fun q => if q = j then 0 else 1000000
theorem ini_le (j q : Nat) : ini j q ≤ 1000000 := by unfold ini; split <;> omega
theorem ini_u {j : Nat} : upd (nF (fun _ => 1000000)) j 0 = nF (ini j) := by
  funext q
  show (if q = j then (0 : Int32) else nI 1000000) = nI (if q = j then 0 else 1000000)
  by_cases e : q = j
  · rw [if_pos e, if_pos e]; rfl
  · rw [if_neg e, if_neg e]
def dst (K S : Nat → Int32) (j : Nat) : Nat → Nat := (spr K S 36 (ini j) (fun _ => false)).1
def dsI (K S : Nat → Int32) (x : Int32) : Nat → Nat := if cbe K S x then dst K S x.toNatClampNeg else fun _ => 1000000
def oft (K S : Nat → Int32) (t cb v : Nat) (G : Nat → Nat) : Nat → (Nat → Nat)
  | 0 => G
  | u + 1 => if u ≠ cb ∧ edg K S t u then ofr (oft K S t cb v G u) (nb t u) (v + cst (K (nb t u)) u) else oft K S t cb v G u
theorem oft_le {K S : Nat → Int32} {t cb v q : Nat} {G : Nat → Nat} : ∀ u, oft K S t cb v G u q ≤ G q
  | 0 => Nat.le_refl _
  | u + 1 => by have h := oft_le (K := K) (S := S) (t := t) (cb := cb) (v := v) (q := q) (G := G) u; unfold oft; split; exact Nat.le_trans ofr_le h; exact h
theorem oft_y {K S : Nat → Int32} {t cb v u : Nat} {G : Nat → Nat} (h : ¬ u = cb) (h1 : nb t u < 36) (h2 : csl (K (nb t u)) (S 1)) : ofr (oft K S t cb v G u) (nb t u) (v + cst (K (nb t u)) u) = oft K S t cb v G (u + 1) := (if_pos ⟨h, h1, h2⟩).symm
theorem oft_n {K S : Nat → Int32} {t cb v u : Nat} {G : Nat → Nat} (h : u = cb ∨ ¬ edg K S t u) : oft K S t cb v G u = oft K S t cb v G (u + 1) := (if_neg (fun z => h.elim z.1 (fun q => q z.2))).symm
/-- the squares behind a turn: from q by w into fog -/
def tr1 (K S : Nat → Int32) (B : Nat → Nat) (q w : Nat) (G : Nat → Nat) : Nat → Nat := if (B q < 1000000 ∧ edg K S q w) ∧ K (nb q w) = 3 then oft K S (nb q w) w (B q + cst (K (nb q w)) w) G 4 else G
def trw (K S : Nat → Int32) (B : Nat → Nat) (q : Nat) (G : Nat → Nat) : Nat → (Nat → Nat)
  | 0 => G
  | w + 1 => tr1 K S B q w (trw K S B q G w)
def trq (K S : Nat → Int32) (B : Nat → Nat) (G : Nat → Nat) : Nat → (Nat → Nat)
  | 0 => G
  | q + 1 => trw K S B q (trq K S B G q) 4
theorem tr1_le {K S : Nat → Int32} {B : Nat → Nat} {q w r : Nat} {G : Nat → Nat} : tr1 K S B q w G r ≤ G r := by unfold tr1; split; exact oft_le 4; exact Nat.le_refl _
theorem trw_le {K S : Nat → Int32} {B : Nat → Nat} {q r : Nat} {G : Nat → Nat} : ∀ w, trw K S B q G w r ≤ G r
  | 0 => Nat.le_refl _
  | w + 1 => Nat.le_trans tr1_le (trw_le w)
theorem trq_le {K S : Nat → Int32} {B : Nat → Nat} {r : Nat} {G : Nat → Nat} : ∀ q, trq K S B G q r ≤ G r
  | 0 => Nat.le_refl _
  | q + 1 => Nat.le_trans (trw_le 4) (trq_le q)
theorem tr1_y {K S : Nat → Int32} {B : Nat → Nat} {q w : Nat} {G : Nat → Nat} (h0 : B q < 1000000) (h1 : nb q w < 36) (h2 : csl (K (nb q w)) (S 1)) (h3 : K (nb q w) = 3) : oft K S (nb q w) w (B q + cst (K (nb q w)) w) (trw K S B q G w) 4 = trw K S B q G (w + 1) := (if_pos ⟨⟨h0, h1, h2⟩, h3⟩).symm
theorem tr1_n {K S : Nat → Int32} {B : Nat → Nat} {q w : Nat} {G : Nat → Nat} (h : ¬ ((B q < 1000000 ∧ edg K S q w) ∧ K (nb q w) = 3)) : trw K S B q G w = trw K S B q G (w + 1) := (if_neg h).symm
def shk (K S : Nat → Int32) : Nat → Nat := (spr K S 36 (trq K S (dsI K S (S 0)) (fun _ => 1000000) 36) (fun _ => false)).1
theorem spr_le {K S : Nat → Int32} : ∀ (f : Nat) (G : Nat → Nat) (Z : Nat → Bool) (q : Nat), (spr K S f G Z).1 q ≤ G q
  | 0, _, _, _ => Nat.le_refl _
  | f + 1, G, Z, q => by unfold spr; split; exact Nat.le_trans (spr_le f _ _ q) (rx_le 4); exact Nat.le_refl _
theorem dst_le (K S : Nat → Int32) (j q : Nat) : dst K S j q ≤ 1000000 := Nat.le_trans (spr_le 36 _ _ q) (ini_le j q)
theorem dsI_le (K S : Nat → Int32) (x : Int32) (q : Nat) : dsI K S x q ≤ 1000000 := by unfold dsI; split; exact dst_le K S _ q; exact Nat.le_refl _
theorem shk_le (K S : Nat → Int32) (q : Nat) : shk K S q ≤ 1000000 := Nat.le_trans (spr_le 36 _ _ q) (trq_le 36)
theorem nI_lt31 {n : Nat} (h : n ≤ 1000000) : n < 2147483648 := by omega
