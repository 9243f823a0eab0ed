/-! the start: what stands outside every world; the classes -/
theorem ms_0 : Cond.laysStatic "HeWreckedHimself" "LEAST" "[I" ∈ lw_tbl := List.mem_of_getElem? (i := 473) (by decide +kernel)
theorem ms_1 : Cond.laysStatic "HeWreckedHimself" "GREATEST" "[I" ∈ lw_tbl := List.mem_of_getElem? (i := 475) (by decide +kernel)
theorem ms_2 : Cond.laysStatic "java/lang/String" "COMPACT_STRINGS" "Z" ∈ lw_tbl := List.mem_of_getElem? (i := 232) (by decide +kernel)
theorem ms_3 : Cond.laysStatic "jdk/internal/util/Preconditions" "SIOOBE_FORMATTER" "Ljava/util/function/BiFunction;" ∈ lw_tbl := List.mem_of_getElem? (i := 248) (by decide +kernel)
theorem mr_0 : Cond.stringRef "HeWreckedHimself$Text" 23 "K00;" ∈ lw_tbl := List.mem_of_getElem? (i := 212) (by decide +kernel)
theorem mr_1 : Cond.stringRef "HeWreckedHimself$Text" 25 "K0000;" ∈ lw_tbl := List.mem_of_getElem? (i := 213) (by decide +kernel)
theorem mr_2 : Cond.stringRef "HeWreckedHimself$Text" 27 "00000;" ∈ lw_tbl := List.mem_of_getElem? (i := 214) (by decide +kernel)
theorem mr_3 : Cond.stringRef "HeWreckedHimself$Text" 29 "00;" ∈ lw_tbl := List.mem_of_getElem? (i := 215) (by decide +kernel)
theorem mr_4 : Cond.stringRef "HeWreckedHimself$Text" 31 "0000;" ∈ lw_tbl := List.mem_of_getElem? (i := 216) (by decide +kernel)
theorem mr_5 : Cond.stringRef "HeWreckedHimself$Text" 33 "S00;" ∈ lw_tbl := List.mem_of_getElem? (i := 217) (by decide +kernel)
theorem mr_6 : Cond.stringRef "HeWreckedHimself$Text" 35 "" ∈ lw_tbl := List.mem_of_getElem? (i := 218) (by decide +kernel)
theorem mr_7 : Cond.stringRef "HeWreckedHimself$Text" 37 "osrfcp" ∈ lw_tbl := List.mem_of_getElem? (i := 274) (by decide +kernel)
theorem mr_8 : Cond.stringRef "HeWreckedHimself$Text" 45 "dbrcsp" ∈ lw_tbl := List.mem_of_getElem? (i := 334) (by decide +kernel)
theorem mr_9 : Cond.stringRef "HeWreckedHimselfModel" 73 "osrfcp" ∈ lw_tbl := List.mem_of_getElem? (i := 868) (by decide +kernel)
theorem mr_10 : Cond.stringRef "HeWreckedHimselfModel" 91 "dbrcsp" ∈ lw_tbl := List.mem_of_getElem? (i := 892) (by decide +kernel)
theorem mn_0 : Cond.methodLinkNest "HeWreckedHimself" 28 yX4_init "HeWreckedHimself" ∈ lw_tbl := List.mem_of_getElem? (i := 94) (by decide +kernel)
theorem mn_1 : Cond.methodLinkNest "HeWreckedHimself" 46 yX0_init "HeWreckedHimself" ∈ lw_tbl := List.mem_of_getElem? (i := 107) (by decide +kernel)
theorem mn_2 : Cond.methodLinkNest "HeWreckedHimself" 53 yX3_init "HeWreckedHimself" ∈ lw_tbl := List.mem_of_getElem? (i := 124) (by decide +kernel)
theorem mn_3 : Cond.methodLinkNest "HeWreckedHimself" 60 yX2_init "HeWreckedHimself" ∈ lw_tbl := List.mem_of_getElem? (i := 134) (by decide +kernel)
theorem mn_4 : Cond.methodLinkNest "HeWreckedHimself$Pilot" 25 yX5_isSquare "HeWreckedHimself" ∈ lw_tbl := List.mem_of_getElem? (i := 363) (by decide +kernel)
theorem mn_5 : Cond.methodLinkNest "HeWreckedHimself$Sea" 27 yX5_isSquare "HeWreckedHimself" ∈ lw_tbl := List.mem_of_getElem? (i := 370) (by decide +kernel)
theorem mn_6 : Cond.methodLinkNest "HeWreckedHimself$Signs" 40 yX5_isKind "HeWreckedHimself" ∈ lw_tbl := List.mem_of_getElem? (i := 406) (by decide +kernel)
theorem mn_7 : Cond.methodLinkNest "HeWreckedHimself$Signs" 44 yX5_isSquare "HeWreckedHimself" ∈ lw_tbl := List.mem_of_getElem? (i := 409) (by decide +kernel)
theorem mn_8 : Cond.methodLinkNest "HeWreckedHimself$Text" 103 yX5_isSquare "HeWreckedHimself" ∈ lw_tbl := List.mem_of_getElem? (i := 451) (by decide +kernel)
theorem mn_9 : Cond.methodLinkNest "HeWreckedHimself$Text" 111 yX5_isKind "HeWreckedHimself" ∈ lw_tbl := List.mem_of_getElem? (i := 452) (by decide +kernel)
theorem mn_10 : Cond.methodLinkNest "HeWreckedHimself$Searcher" 31 yX5_isSquare "HeWreckedHimself" ∈ lw_tbl := List.mem_of_getElem? (i := 623) (by decide +kernel)
theorem mf_0 : Cond.fieldLinkNest "HeWreckedHimself$Text" 126 "HeWreckedHimself" "LEAST" "[I" "HeWreckedHimself" ∈ lw_tbl := List.mem_of_getElem? (i := 472) (by decide +kernel)
theorem mf_1 : Cond.fieldLinkNest "HeWreckedHimself$Text" 129 "HeWreckedHimself" "GREATEST" "[I" "HeWreckedHimself" ∈ lw_tbl := List.mem_of_getElem? (i := 474) (by decide +kernel)
theorem TT_l {w : Cond} (h : w ∈ TT) : w ∈ lw_tbl := (List.mem_filter.mp h).1
abbrev FLC : List Cond := flatC (Jvm.Cond.and given_1 narrow_1)
def kTm (i : Nat) : Term := .string (strR.getD i ("", 0, "", 0)).1 (strR.getD i ("", 0, "", 0)).2.1
theorem fl_0 : Cond.arrayOf (.static "HeWreckedHimself" "LEAST" "[I") .int ∈ FLC ∧ Cond.eq (.length (.static "HeWreckedHimself" "LEAST" "[I")) (.int 5) ∈ FLC := by decide +kernel
theorem fl_1 : Cond.arrayOf (.static "HeWreckedHimself" "GREATEST" "[I") .int ∈ FLC ∧ Cond.eq (.length (.static "HeWreckedHimself" "GREATEST" "[I")) (.int 5) ∈ FLC := by decide +kernel
theorem fl_2 : ∀ j, j < 5 → Cond.eq (.elem (.static "HeWreckedHimself" "LEAST" "[I") (.int (Int32.ofNat j))) (.int (leastF j)) ∈ FLC := by decide +kernel
theorem fl_3 : ∀ j, j < 5 → Cond.eq (.elem (.static "HeWreckedHimself" "GREATEST" "[I") (.int (Int32.ofNat j))) (.int (greatF j)) ∈ FLC := by decide +kernel
theorem fl_4 : Cond.eq (.static "java/lang/String" "COMPACT_STRINGS" "Z") (.int 1) ∈ FLC ∧ Cond.isRef (.static "jdk/internal/util/Preconditions" "SIOOBE_FORMATTER" "Ljava/util/function/BiFunction;") ∈ FLC := by decide +kernel
theorem fl_5 : ∀ i, i < 9 → Cond.exactly (kTm i) "java/lang/String" ∈ FLC := by decide +kernel
theorem fl_6 : ∀ i, i < 9 → Cond.eq (.field (kTm i) "java/lang/String" "coder" "B") (.int 0) ∈ FLC := by decide +kernel
theorem fl_7 : ∀ i, i < 9 → Cond.arrayOf (.field (kTm i) "java/lang/String" "value" "[B") .byte ∈ FLC := by decide +kernel
theorem fl_8 : ∀ i, i < 9 → Cond.eq (.length (.field (kTm i) "java/lang/String" "value" "[B")) (.int (Int32.ofNat (strL.getD i 0))) ∈ FLC := by decide +kernel
theorem fl_9 : ∀ i, i < 9 → ∀ j, j < strL.getD i 0 → Cond.eq (.elem (.field (kTm i) "java/lang/String" "value" "[B") (.int (Int32.ofNat j))) (.int ((strB.getD i []).getD j 0)) ∈ FLC := by decide +kernel
theorem fl_a : ∀ i, i < 9 → ∀ j, j < 9 → ¬ i = j → Cond.not (Cond.eq (kTm i) (kTm j)) ∈ FLC ∨ Cond.not (Cond.eq (kTm j) (kTm i)) ∈ FLC := by decide +kernel
theorem fl_b : Cond.eq (kTm 7) (kTm 9) ∈ FLC ∧ Cond.eq (kTm 8) (kTm 10) ∈ FLC := by decide +kernel
theorem strL_31 : ∀ i, i < 9 → strL.getD i 0 < 2 ^ 31 := by decide +kernel
theorem kst_start {s : State} {b : Nat} (hts : ∀ w ∈ lw_tbl, w.before #[Value.ref b] s = true) (hgv : (Jvm.Cond.and given_1 narrow_1).before #[Value.ref b] s = true) : ∃ (T S V : Nat → Nat), ∀ (G : va_G) (I : ClassId × ClassId), kst (G, I, T, S, V) (fun q => s.heap.size ≤ q) s s.heap := by
  have hs := flat_of_before _ hgv
  have hA : ∀ a : Nat, a < s.heap.size → ¬ (fun q : Nat => s.heap.size ≤ q) a := fun a h => Nat.not_le.mpr h
  obtain ⟨t0, e0, T0⟩ := va_Tof (s := s) (tm := .static "HeWreckedHimself" "LEAST" "[I") (ty := .int) (N := 5) (f := fun j => .int (leastF j)) (A := fun q => s.heap.size ≤ q) (by decide) (hs _ fl_0.1) (va_eqt (hs _ fl_0.2)) (fun j hj => va_eqt (hs _ (fl_2 j hj))) hA
  obtain ⟨t1, e1, T1⟩ := va_Tof (s := s) (tm := .static "HeWreckedHimself" "GREATEST" "[I") (ty := .int) (N := 5) (f := fun j => .int (greatF j)) (A := fun q => s.heap.size ≤ q) (by decide) (hs _ fl_1.1) (va_eqt (hs _ fl_1.2)) (fun j hj => va_eqt (hs _ (fl_3 j hj))) hA
  have Z0 := va_Zof (A := fun q => s.heap.size ≤ q) (hts _ ms_0) (hts _ (TT_l wd_52)) e0 hA
  have Z1 := va_Zof (A := fun q => s.heap.size ≤ q) (hts _ ms_1) (hts _ (TT_l wd_52)) e1 hA
  have Z2 := va_Zof (A := fun q => s.heap.size ≤ q) (hts _ ms_2) (hts _ (TT_l wd_59)) (va_eqi (hs _ fl_4.1)) hA
  have Z3 := va_Zqof (A := fun q => s.heap.size ≤ q) (hts _ ms_3) (hts _ (TT_l wd_61)) (hs _ fl_4.2) hA
  obtain ⟨adK, adV, hS, hE⟩ := vk_Sof (s := s) (N := 9) (tm := kTm) (len := strL) (byt := strB) (A := fun q => s.heap.size ≤ q) strL_31 (fun i hi => hs _ (fl_5 i hi)) (fun i hi => hs _ (fl_6 i hi)) (fun i hi => hs _ (fl_7 i hi)) (fun i hi => hs _ (fl_8 i hi)) (fun i hi j hj => hs _ (fl_9 i hi j hj)) (fun i j hi hj hne => (fl_a i hi j hj hne).elim (fun h => Or.inl (hs _ h)) (fun h => Or.inr (hs _ h))) hA
  have hE9 := va_eqR (hs _ fl_b.1) (hE 7 (by decide))
  have hE10 := va_eqR (hs _ fl_b.2) (hE 8 (by decide))
  refine ⟨fun i => if i = 0 then t0 else t1, adK, adV, fun G I => ⟨⟨Z0, T0⟩, ⟨Z1, T1⟩, Z2, ?_, hS, ?_, ?_, ?_⟩⟩
  · rcases Z3 with h | ⟨t, h⟩
    · exact ⟨.null, Or.inl rfl, h⟩
    · exact ⟨.ref t, Or.inr ⟨t, rfl⟩, h⟩
  · exact (List.forall_mem_cons.mpr ⟨vk_R.of (A := #[Value.ref b]) (hts _ mr_0) (hE 0 (by decide)), List.forall_mem_cons.mpr ⟨vk_R.of (A := #[Value.ref b]) (hts _ mr_1) (hE 1 (by decide)), List.forall_mem_cons.mpr ⟨vk_R.of (A := #[Value.ref b]) (hts _ mr_2) (hE 2 (by decide)), List.forall_mem_cons.mpr ⟨vk_R.of (A := #[Value.ref b]) (hts _ mr_3) (hE 3 (by decide)), List.forall_mem_cons.mpr ⟨vk_R.of (A := #[Value.ref b]) (hts _ mr_4) (hE 4 (by decide)), List.forall_mem_cons.mpr ⟨vk_R.of (A := #[Value.ref b]) (hts _ mr_5) (hE 5 (by decide)), List.forall_mem_cons.mpr ⟨vk_R.of (A := #[Value.ref b]) (hts _ mr_6) (hE 6 (by decide)), List.forall_mem_cons.mpr ⟨vk_R.of (A := #[Value.ref b]) (hts _ mr_7) (hE 7 (by decide)), List.forall_mem_cons.mpr ⟨vk_R.of (A := #[Value.ref b]) (hts _ mr_8) (hE 8 (by decide)), List.forall_mem_cons.mpr ⟨vk_R.of (A := #[Value.ref b]) (hts _ mr_9) hE9, List.forall_mem_cons.mpr ⟨vk_R.of (A := #[Value.ref b]) (hts _ mr_10) hE10, fun _ h => absurd h List.not_mem_nil⟩⟩⟩⟩⟩⟩⟩⟩⟩⟩⟩)
  · exact (List.forall_mem_cons.mpr ⟨va_Nw.of rfl (hts _ mn_0), (List.forall_mem_cons.mpr ⟨va_Nw.of rfl (hts _ mn_1), (List.forall_mem_cons.mpr ⟨va_Nw.of rfl (hts _ mn_2), (List.forall_mem_cons.mpr ⟨va_Nw.of rfl (hts _ mn_3), (List.forall_mem_cons.mpr ⟨va_Nw.of rfl (hts _ mn_4), (List.forall_mem_cons.mpr ⟨va_Nw.of rfl (hts _ mn_5), (List.forall_mem_cons.mpr ⟨va_Nw.of rfl (hts _ mn_6), (List.forall_mem_cons.mpr ⟨va_Nw.of rfl (hts _ mn_7), (List.forall_mem_cons.mpr ⟨va_Nw.of rfl (hts _ mn_8), (List.forall_mem_cons.mpr ⟨va_Nw.of rfl (hts _ mn_9), (List.forall_mem_cons.mpr ⟨va_Nw.of rfl (hts _ mn_10), (fun _ h => absurd h List.not_mem_nil)⟩)⟩)⟩)⟩)⟩)⟩)⟩)⟩)⟩)⟩)⟩)
  · exact (List.forall_mem_cons.mpr ⟨va_Nw.of rfl (hts _ mf_0), (List.forall_mem_cons.mpr ⟨va_Nw.of rfl (hts _ mf_1), (fun _ h => absurd h List.not_mem_nil)⟩)⟩)
theorem ka_known {s : State} {args : Array Value} {ty : FieldType} (h : (Cond.arrayClass ty).before args s = true) (hp : ∀ C, ty ≠ .object C) : ∃ cA : ClassId, ArrOfT s cA ty ∧ va_RA s cA ty := by
  obtain ⟨c, k, comp, h1, h2, h3⟩ := Cond.arrayClass_spec h
  refine ⟨c, fun n z => ⟨fun k h => (by cases h), k, h2, comp, h3⟩, ?_⟩
  cases ty with
  | object C => exact absurd rfl (hp C)
  | _ => exact h1
theorem k_known {s : State} {b : Nat} (hts : ∀ w ∈ lw_tbl, w.before #[Value.ref b] s = true) : ∃ (G : va_G) (I : ClassId × ClassId), va_K G kcl [(I.1, .int), (I.2, .boolean)] s := by
  obtain ⟨c0, i0, k0⟩ := u_known (C := RX0) (T := TX0) (N := 3) (n := 3) hts (fun w h => TT_l (inT0 w h)) (hts _ (TT_l wd_106))
  obtain ⟨c1, i1, k1⟩ := u_known (C := RX1) (T := TX1) (N := 3) (n := 3) hts (fun w h => TT_l (inT1 w h)) (hts _ (TT_l wd_76))
  obtain ⟨c2, i2, k2⟩ := u_known (C := RX2) (T := TX2) (N := 1) (n := 1) hts (fun w h => TT_l (inT2 w h)) (hts _ (TT_l wd_133))
  obtain ⟨c3, i3, k3⟩ := u_known (C := RX3) (T := TX3) (N := 1) (n := 1) hts (fun w h => TT_l (inT3 w h)) (hts _ (TT_l wd_123))
  obtain ⟨c4, i4, k4⟩ := u_known (C := RX4) (T := TX4) (N := 2) (n := 2) hts (fun w h => TT_l (inT4 w h)) (hts _ (TT_l wd_93))
  obtain ⟨c5, i5, k5⟩ := u_known (C := RX5) (T := TX5) (N := 11) (n := 11) hts (fun w h => TT_l (inT5 w h)) (hts _ (TT_l wd_68))
  obtain ⟨c6, i6, k6⟩ := u_known (C := RX6) (T := TX6) (N := 17) (n := 17) hts (fun w h => TT_l (inT6 w h)) (hts _ (TT_l wd_791))
  obtain ⟨a0, x0⟩ := ka_known (hts _ (TT_l wd_91)) (fun C h => by cases h)
  obtain ⟨a1, x1⟩ := ka_known (hts _ (TT_l wd_121)) (fun C h => by cases h)
  refine ⟨(fun k => [c0, c1, c2, c3, c4, c5, c6].getD k c0, fun k => [i0, i1, i2, i3, i4, i5, i6].getD k i0), (a0, a1), fun k q hq => ?_, fun k q hq => ?_⟩
  · match k, hq with
    | 0, hq => cases hq; exact k0
    | 1, hq => cases hq; exact k1
    | 2, hq => cases hq; exact k2
    | 3, hq => cases hq; exact k3
    | 4, hq => cases hq; exact k4
    | 5, hq => cases hq; exact k5
    | 6, hq => cases hq; exact k6
    | k + 7, hq => simp [kcl] at hq
  · match k, hq with
    | 0, hq => cases hq; exact x0
    | 1, hq => cases hq; exact x1
    | k + 2, hq => simp at hq
