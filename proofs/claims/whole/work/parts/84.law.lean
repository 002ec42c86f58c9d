/-! THE LAW'S ENTRY: what the tables and the start give -/
section LE
variable {s : State} {b : Nat}
theorem le_arr {ty : FieldType} (h : (Cond.arrayClass ty).before #[Value.ref b] s = true) (hty : ∀ C, ty ≠ .object C) : ∃ cA : ClassId, ArrOfT s cA ty ∧ va_RA s cA ty := by
  obtain ⟨c, k, comp, h1, h2, h3⟩ := Cond.arrayClass_spec h
  refine ⟨c, fun n z => ⟨(fun k h => by cases h), k, h2, comp, h3⟩, ?_⟩
  cases ty with
  | object C => exact absurd rfl (hty C)
  | _ => exact h1
theorem le_arO {C : String} (h : (Cond.arrayOver (.object C)).before #[Value.ref b] s = true) : ∃ cA : ClassId, ArrOfT s cA (.object C) ∧ va_RA s cA (.object C) := by
  obtain ⟨comp, c, k, h1, h2, h3, h4, h5⟩ := Cond.arrayOver_spec h
  exact ⟨c, fun n z => ⟨(fun k h => by cases h), k, h3, comp, h4⟩, k, comp, h3, h4, h1, h5⟩
theorem le_in {C : String} {T : u_T} {N : Nat} (h : ∀ w ∈ u_ws C T N, w ∈ lw_good) : ∀ w ∈ u_ws C T N, w ∈ lw_tbl := fun w hw => (List.mem_filter.mp (h w hw)).1
set_option maxRecDepth 100000 in
theorem inJ0 : ∀ w ∈ u_ws RJ0 TJ0 2, w ∈ lw_tbl := by decide +kernel
set_option maxRecDepth 100000 in
theorem inJx00060 : ∀ w ∈ u_ws RJx00060 TJx00060 6, w ∈ lw_tbl := by decide +kernel
set_option maxHeartbeats 4000000 in
set_option maxRecDepth 100000 in
theorem le_K (hts : ∀ w ∈ lw_tbl, w.before #[Value.ref b] s = true) : ∃ (D : va_G) (dT : Nat → ClassId), va_K D vwCl (tyl dT) s := by
  obtain ⟨c0, i0, h0⟩ := u_known (n := 4) hts inJ0 (hts _ (by decide +kernel))
  obtain ⟨c1, i1, h1⟩ := u_known (n := 6) hts inJx00060 (hts _ (by decide +kernel))
  obtain ⟨c2, i2, h2⟩ := u_known (n := 3) hts (le_in inJx4a65c) (hts _ (by decide +kernel))
  obtain ⟨c3, i3, h3⟩ := u_known (n := 3) hts (le_in inX0) (hts _ (by decide +kernel))
  obtain ⟨c4, i4, h4⟩ := u_known (n := 3) hts (le_in inX1) (hts _ (by decide +kernel))
  obtain ⟨c5, i5, h5⟩ := u_known (n := 6) hts (le_in inX2) (hts _ (by decide +kernel))
  obtain ⟨c6, i6, h6⟩ := u_known (n := 1) hts (le_in inX3) (hts _ (by decide +kernel))
  obtain ⟨c7, i7, h7⟩ := u_known (n := 10) hts (le_in inX4) (hts _ (by decide +kernel))
  obtain ⟨c8, i8, h8⟩ := u_known (n := 2) hts (le_in inX5) (hts _ (by decide +kernel))
  obtain ⟨c9, i9, h9⟩ := u_known (n := 11) hts (le_in inX6) (hts _ (by decide +kernel))
  obtain ⟨c10, i10, h10⟩ := u_known (n := 27) hts (le_in inX7) (hts _ (by decide +kernel))
  obtain ⟨a0, g0⟩ := le_arr (ty := .int) (hts _ (by decide +kernel)) (fun C h => by cases h)
  obtain ⟨a1, g1⟩ := le_arr (ty := .long) (hts _ (by decide +kernel)) (fun C h => by cases h)
  obtain ⟨a2, g2⟩ := le_arr (ty := .boolean) (hts _ (by decide +kernel)) (fun C h => by cases h)
  obtain ⟨a3, g3⟩ := le_arr (ty := .char) (hts _ (by decide +kernel)) (fun C h => by cases h)
  obtain ⟨a4, g4⟩ := le_arr (ty := .double) (hts _ (by decide +kernel)) (fun C h => by cases h)
  obtain ⟨a5, g5⟩ := le_arO (C := "Swapyard$Page") (hts _ (by decide +kernel))
  obtain ⟨a6, g6⟩ := le_arO (C := "java/lang/Object") (hts _ (by decide +kernel))
  refine ⟨(fun n => [c0, c1, c2, c3, c4, c5, c6, c7, c8, c9, c10].getD n c0, fun n => [i0, i1, i2, i3, i4, i5, i6, i7, i8, i9, i10].getD n i0), fun n => [a0, a1, a2, a3, a4, a5, a6].getD n a0, fun c q hq => ?_, fun k q hq => ?_⟩
  · match c, hq with
    | 0, hq => cases hq; exact h0
    | 1, hq => cases hq; exact h1
    | 2, hq => cases hq; exact h2
    | 3, hq => cases hq; exact h3
    | 4, hq => cases hq; exact h4
    | 5, hq => cases hq; exact h5
    | 6, hq => cases hq; exact h6
    | 7, hq => cases hq; exact h7
    | 8, hq => cases hq; exact h8
    | 9, hq => cases hq; exact h9
    | 10, hq => cases hq; exact h10
    | n + 11, hq => cases hq
  · match k, hq with
    | 0, hq => cases hq; exact g0
    | 1, hq => cases hq; exact g1
    | 2, hq => cases hq; exact g2
    | 3, hq => cases hq; exact g3
    | 4, hq => cases hq; exact g4
    | 5, hq => cases hq; exact g5
    | 6, hq => cases hq; exact g6
    | n + 7, hq => cases hq
set_option maxRecDepth 100000 in
theorem le_v1 : ∀ q ∈ cstl0, Cond.castable q.1 q.2 ∈ lw_tbl := by decide +kernel
set_option maxRecDepth 100000 in
theorem le_v2 : ∀ E ∈ exl, ∀ F ∈ exl, E ≠ F → Cond.not (.castable E F) ∈ flatC (Jvm.Cond.and given_1 narrow_1) := by decide +kernel
set_option maxRecDepth 100000 in
theorem le_v3 : ∀ q ∈ strl0, Cond.stringRef "Swapyard" q.1 q.2 ∈ lw_tbl := by decide +kernel
set_option maxRecDepth 100000 in
theorem le_v4 : ∀ q ∈ strl0, Cond.exactly (Term.string "Swapyard" q.1) "java/lang/String" ∈ flatC (Jvm.Cond.and given_1 narrow_1) := by decide +kernel
set_option maxRecDepth 100000 in
theorem le_v5 : ∀ q ∈ nst0, Cond.methodLinkNest "Swapyard" q.1 q.2.1 q.2.2 ∈ lw_tbl := by decide +kernel
set_option maxRecDepth 100000 in
theorem le_v6 : ∀ y ∈ dcl0, Cond.declares y ∈ lw_tbl := by decide +kernel
set_option maxRecDepth 100000 in
theorem le_VF (hts : ∀ w ∈ lw_tbl, w.before #[Value.ref b] s = true) (hg : (Jvm.Cond.and given_1 narrow_1).before #[Value.ref b] s = true) : VF strl0 nst0 s := by
  have hs := flat_of_before _ hg
  refine ⟨fun q hq => va_Nw.of rfl (hts _ (le_v1 q hq)), fun E hE F hF hn => va_Nc.of (hs _ (le_v2 E hE F hF hn)), va_AO.of (hts _ (by decide +kernel)), va_AO.of (hts _ (by decide +kernel)), va_Mi.of (hs (.isRef (.mirror "[Ljava/lang/Object;")) (by decide +kernel)), va_Dc.of (hts _ (by decide +kernel)), fun q hq => ?_, fun q hq => va_Nw.of rfl (hts _ (le_v5 q hq)), fun y hy => va_Nw.of rfl (hts _ (le_v6 y hy))⟩
  have h1 := hts _ (le_v3 q hq)
  have h2 := hs _ (le_v4 q hq)
  obtain ⟨a, c, cell, k, ha, -⟩ := Cond.exactly_spec h2
  exact ⟨a, vk_R.of h1 ha⟩
set_option maxRecDepth 100000 in
theorem le_HF (hts : ∀ w ∈ lw_tbl, w.before #[Value.ref b] s = true) (hg : (Jvm.Cond.and given_1 narrow_1).before #[Value.ref b] s = true) {A : Nat → Prop} (hA : ∀ a : Nat, a < s.heap.size → ¬ A a) : ∃ t0 mi : Nat, ∀ ad : Nat → Nat, ad 1013 = t0 → ad 1014 = mi → HF ad A s s.heap := by
  have hs := flat_of_before _ hg
  obtain ⟨mi, hmi⟩ := va_Mi.of (hs (.isRef (.mirror "[Ljava/lang/Object;")) (by decide +kernel))
  have hlen := va_eqt (hs (.eq (.length (.static "java/util/ArrayList" "DEFAULTCAPACITY_EMPTY_ELEMENTDATA" "[Ljava/lang/Object;")) (.int 0)) (by decide +kernel))
  obtain ⟨t0, ht, hT⟩ := va_Tof (N := 0) (f := fun _ => .null) (by decide) (hs (.arrayOf (.static "java/util/ArrayList" "DEFAULTCAPACITY_EMPTY_ELEMENTDATA" "[Ljava/lang/Object;") (.object "java/lang/Object")) (by decide +kernel)) hlen (fun j hj => absurd hj (Nat.not_lt_zero j)) hA
  refine ⟨t0, mi, fun ad h1 h2 => ?_⟩
  unfold HF
  rw [h1, h2]
  exact ⟨vx_Zqof (hts _ (by decide +kernel)) (hts _ (by decide +kernel)) (hs _ (by decide +kernel)) hA, vx_Zqof (hts _ (by decide +kernel)) (hts _ (by decide +kernel)) (hs _ (by decide +kernel)) hA, va_Zof (hts _ (by decide +kernel)) (hts _ (by decide +kernel)) ht hA, hT, hmi⟩
end LE
