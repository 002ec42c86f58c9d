/-! ONE CALL ON BOTH SIDES: questions without arguments -/
theorem sumN_add {f : Nat → Int} {m : Nat} : ∀ n : Nat, sumN (m + n) f = sumN m f + sumN n (fun i => f (m + i))
  | 0 => by show sumN m f = sumN m f + 0; omega
  | n + 1 => by
    show sumN (m + n) f + f (m + n) = sumN m f + (sumN n (fun i => f (m + i)) + f (m + n))
    rw [sumN_add n]
    omega
theorem frS_8 {v : SS} : ∀ n : Nat, frS v n = sumN (8 * n) (fun p => bI (decide (v.2 10 p = 1)))
  | 0 => rfl
  | n + 1 => by
    show frS v n + sumN 8 (ipf v (n : Int) 1) = _
    rw [frS_8 n, show 8 * (n + 1) = 8 * n + 8 by omega, sumN_add]
    refine congrArg (fun z => sumN (8 * n) (fun p => bI (decide (v.2 10 p = 1))) + z) (sumN_c fun j _ => ?_)
    unfold ipf
    rw [Int.toNat_natCast]
theorem flt_sum {P : Nat → Bool} : ∀ n : Nat, sumN n (fun p => bI (P p)) = ((((List.range n).filter P).length : Nat) : Int)
  | 0 => rfl
  | n + 1 => by
    rw [List.range_succ, List.filter_append, List.length_append]
    show sumN n _ + bI (P n) = _
    rw [flt_sum n]
    cases h : P n with
    | true => rw [List.filter_cons_of_pos h]; show _ + (1 : Int) = _; simp
    | false => rw [List.filter_cons_of_neg (by rw [h]; decide)]; show _ + (0 : Int) = _; simp
/-- as many pages are in frames as frames are taken -/
theorem frS_eq {u v : SS} (S : PG u v 99 99) : frS v (v.1 0).toNat = sumN (v.1 11).toNat (fuI v) := by
  have i0 := S.mi.s0
  have i11 := S.mi.s11
  have W := S.w
  have e1 : sumN (v.1 11).toNat (fuI v) = occ v := by
    have h1 : occ v = sumN 16 (fuI v) := sumN_c fun z _ => by
      unfold fuI frB
      by_cases h : v.2 12 z < 0
      · rw [decide_eq_true h, decide_eq_false (by omega)]; rfl
      · rw [decide_eq_false h, decide_eq_true (by omega)]; rfl
    rw [h1]
    refine (sumN_tl (by omega) fun j h2 h3 => ?_).symm
    unfold fuI frB
    have : v.2 12 j < 0 := by
      rcases Int.lt_or_le (v.2 12 j) 0 with h | h
      · exact h
      · have := (W.a j h3 h).1; omega
    rw [decide_eq_true this]
    rfl
  rw [e1, frS_8, flt_sum (P := fun p => decide (v.2 10 p = 1))]
  have e2 : occ v = ((flN 16 (v.2 12)).length : Int) := flN_len _ 16
  rw [e2]
  have hnd1 : (((List.range (8 * (v.1 0).toNat)).filter (fun p => decide (v.2 10 p = 1))).map (fun p : Nat => (p : Int))).Nodup := by
    unfold List.Nodup
    rw [List.pairwise_map]
    exact ((List.nodup_range (n := 8 * (v.1 0).toNat)).sublist List.filter_sublist).imp fun h e => h (by omega)
  have hnd2 : (flN 16 (v.2 12)).Nodup := flN_nd fun i j hi hj h0 e => W.c i j hi hj h0 e
  have hp := (List.perm_ext_iff_of_nodup hnd1 hnd2).mpr fun a => by
    rw [List.mem_map, flN_m]
    constructor
    · rintro ⟨p, h1, rfl⟩
      obtain ⟨h2, h3⟩ := List.mem_filter.mp h1
      have h4 := List.mem_range.mp h2
      obtain ⟨f, hf, h5⟩ := W.b p (by omega) (by omega) (of_decide_eq_true h3)
      exact ⟨f, hf, h5, by omega⟩
    · rintro ⟨f, hf, rfl, h0⟩
      have w := W.a f hf h0
      exact ⟨(v.2 12 f).toNat, List.mem_filter.mpr ⟨List.mem_range.mpr (by omega), decide_eq_true w.2.2.2⟩, by omega⟩
  have h2 := hp.length_eq
  rw [List.length_map] at h2
  rw [h2]
theorem fs_ok {t : Int} {u v : SS} (S : SIM t u v) : fsOK u := by
  have P := S.sm.pg
  have i0 := S.mi.s0
  have n0 := S.n
  have key : ∀ p : Nat, (p : Int) < 8 * u.1 14 → u.2 23 p = 102 → ∃ f : Nat, f < 16 ∧ v.2 12 f = (p : Int) ∧ u.2 24 p = (f : Int) := fun p hp h => by
    have e := P.pl p (by omega) (by omega) (by omega)
    have c1 := (plc_1 (S.mi.a10 p)).mp (e.symm.trans h)
    obtain ⟨f, hf, h2⟩ := P.w.b p (by omega) (by omega) c1
    have h24 := (P.fr f hf (by omega)).1
    rw [h2, Int.toNat_natCast] at h24
    exact ⟨f, hf, h2, h24⟩
  refine ⟨fun p hp h => ?_, fun p r hp hr h1 h2 e => ?_⟩
  · obtain ⟨f, hf, -, h2⟩ := key p hp h
    omega
  · obtain ⟨f, hf, a1, a2⟩ := key p hp h1
    obtain ⟨g, hg, b1, b2⟩ := key r hr h2
    have : f = g := by omega
    subst this
    omega
section QS
variable {t : Int} {u v : SS} {g : GH}
theorem qs_time (S : SIM t u v) : QST t u v g rg yX6_time (wsy yX6_time cX6_time 1 (some .int)) yX7_time (wsy yX7_time cX7_time 1 (some .int)) := by
  exact QST_i (c_X6_time S.ci) (c_X7_time S.mi) (S.sm.sv.s1.symm) (by decide) (by decide) (by have := S.ci.s1; unfold rg; omega) (SIM_1 S (by decide))
theorem qs_deaths (S : SIM t u v) : QST t u v g rg yX6_deaths (wsy yX6_deaths cX6_deaths 1 (some .int)) yX7_deaths (wsy yX7_deaths cX7_deaths 1 (some .int)) := by
  exact QST_i (c_X6_deaths S.ci) (c_X7_deaths S.mi) (S.sm.sv.s2.symm) (by decide) (by decide) (by have := S.ci.s2; unfold rg; omega) (SIM_1 S (by decide))
theorem qs_hand (S : SIM t u v) : QST t u v g rg yX6_hand (wsy yX6_hand cX6_hand 1 (some .int)) yX7_hand (wsy yX7_hand cX7_hand 1 (some .int)) := by
  exact QST_i (c_X6_hand S.ci) (c_X7_hand S.mi) (S.sm.hd.symm) (by decide) (by decide) (by have := S.ci.s8; unfold rg; omega) (SIM_1 S (by decide))
theorem qs_stored (S : SIM t u v) : QST t u v g rg yX6_stored (wsy yX6_stored cX6_stored 1 (some .int)) yX7_stored (wsy yX7_stored cX7_stored 1 (some .int)) := by
  exact QST_i (c_X6_stored S.ci) (c_X7_stored S.mi) (S.sm.pg.tk.symm) (by decide) (by decide) (by rw [S.sm.pg.tk]; have := tk_bd S.mi; unfold rg; omega) (SIM_1 S (by decide))
theorem qs_pressure (S : SIM t u v) : QST t u v g rg yX6_pressure (wsy yX6_pressure cX6_pressure 1 (some .int)) yX7_pressure (wsy yX7_pressure cX7_pressure 1 (some .int)) := by
  exact QST_i (c_X6_pressure S.ci) (c_X7_pressure S.mi) ((cs_pr S.sm.wn).symm) (by decide) (by decide) (by have := S.ci.a4 0; have := S.ci.a4 1; have := S.ci.a4 2; have := S.ci.a4 3; unfold csum rg; omega) (SIM_1 S (by decide))
theorem qs_free (S : SIM t u v) : QST t u v g rg yX6_free (wsy yX6_free cX6_free 1 (some .int)) yX7_free (wsy yX7_free cX7_free 3 (some .int)) := by
  have i11 := S.mi.s11
  have e : sumN (v.1 11).toNat (frI v) = sumN (u.1 7).toNat (clI u) := by
    rw [S.sm.pg.F]
    refine sumN_c fun z hz => ?_
    unfold frI clI frB clF
    rw [S.sm.pg.hd z (by omega)]
  exact QST_i (c_X6_free S.ci) (c_X7_free S.mi) (e) (by decide) (by decide) (by rw [← e]; have := frI_bd v (v.1 11).toNat; have := S.mi.s11; unfold rg; omega) (SIM_1 S (by decide))
theorem qs_onDisk (S : SIM t u v) : QST t u v g rg yX6_onDisk (wsy yX6_onDisk cX6_onDisk 3 (some .int)) yX7_onDisk (wsy yX7_onDisk cX7_onDisk 3 (some .int)) := by
  have i0 := S.mi.s0
  have e : sumN (v.1 0).toNat (fun j => sumN 8 (ipf v (j : Int) 3)) = sumN (u.1 14).toNat (fun j => cpN u j 100) := by
    rw [S.n]
    exact sumN_c fun z hz => (cp_ip S.sm.pg (s := z) (by omega) (x := 3) (by decide)).symm
  have hb := sumN_bd (N := (v.1 0).toNat) (p := fun j => sumN 8 (ipf v (j : Int) 3)) (a := 0) (b := 8) (fun z _ => ipf_bd v (z : Int) 3)
  exact QST_i (c_X6_onDisk S.ci) (c_X7_onDisk S.mi) (e) (by decide) (by decide) (by rw [← e]; unfold rg; omega) (SIM_1 S (by decide))
theorem qs_isSound (S : SIM t u v) : QST t u v g (fun x => x = 0 ∨ x = 1) yX6_isSound (wsy yX6_isSound cX6_isSound 1 (some .boolean)) yX7_isSound (wsy yX7_isSound cX7_isSound 4 (some .boolean)) := by
  have S1 := SIM_rp S
  have hT : decide (ctk (rpM u) ≤ (rpM u).1 9) = true := decide_eq_true (by rw [S1.sm.pg.tk, S1.sm.pg.R]; exact S.sm.tk)
  have hq := c_X6_isSound (u := u) (v := v) (g := g) S.ci S.sm.hp.1 (agQ_ok S.ci S.sm.hp.2.1) (fs_ok S)
  rw [hT] at hq
  have e : sdB v = true := by
    unfold sdB
    rw [decide_eq_true (frS_eq S.sm.pg), decide_eq_true (show tk v ≤ v.1 15 from S.sm.tk)]
    rfl
  have hm := c_X7_isSound (u := rpM u) (g := g) S.mi
  rw [e] at hm
  exact QST_i hq hm rfl (by decide) (by decide) (Or.inr rfl) (SIM_1 S1 (by decide))
end QS
theorem st_smoothShare {t : Int} {u v : SS} {p : Nat → Int} {q : Nat → UInt64} (S : SIM t u v) : ∃ (k : Int) (y : UInt32) (v' : SS) (q' : Nat → UInt64) (mc ms : Nat), ((mc ≤ 40 ∧ ms ≤ 2500) ∧ (0 ≤ k ∧ k ≤ 3) ∧ (k = 0 → q' 0 = FP.f2d y ∧ FP.dIsNaN (FP.f2d y) = false) ∧ v'.1 26 = k ∧ SIM (t + 1) u v') ∧
    Cn yL_smoothShare (wsh yL_smoothShare cL_smoothShare 3 (some .int) [((0), (8), (11), (100))]) 12 mc ms nn [vR (some 1000), vR (some 101)] (mk u v (gO p q)) (.inl (some (vI k), mk u v (gO p q'))) ∧ Cn yX7_smoothShare (wsy yX7_smoothShare cX7_smoothShare 1 (some .float)) 3 0 0 nn [vR (some 0)] (mk u v (gO p q')) (.inl (some (vF y), mk u v' (gO p q'))) := by
  have V := S.sm.sv
  have b22 := S.mi.s22
  by_cases h : v.1 22 = 0
  · exact ⟨1, FP.fconst0, _, q, 1, 6, ⟨by decide, by decide, fun h => absurd h (by decide), rfl, SIM_1 S (by decide)⟩, wx_smoothShare_1 (by decide) okn_nn (c_X6_smoothShare_x S.ci (by rw [V.s3]; exact h)), c_X7_smoothShare_x S.mi h⟩
  · have hn : FP.dIsNaN (FP.f2d (fsh (v.1 23) (v.1 22))) = false := by rw [FP.f2d_nan]; exact f_ok (by omega) b22.2
    have hq := c_X6_smoothShare (u := u) (v := v) (g := gO p q) S.ci (by rw [V.s3]; exact h)
    rw [V.s4, V.s3] at hq
    exact ⟨0, _, _, _, 0, 0, ⟨by decide, by decide, fun _ => ⟨rfl, hn⟩, rfl, SIM_1 S (by decide)⟩, w_smoothShare (by decide) okn_nn (nn64 hn) hq, c_X7_smoothShare S.mi h⟩
theorem st_meanStalls {t : Int} {u v : SS} {p : Nat → Int} {q : Nat → UInt64} (S : SIM t u v) : ∃ (k : Int) (y : UInt64) (v' : SS) (q' : Nat → UInt64) (mc ms : Nat), ((mc ≤ 40 ∧ ms ≤ 2500) ∧ (0 ≤ k ∧ k ≤ 3) ∧ (k = 0 → q' 0 = y ∧ FP.dIsNaN (y) = false) ∧ v'.1 26 = k ∧ SIM (t + 1) u v') ∧
    Cn yL_meanStalls (wsh yL_meanStalls cL_meanStalls 3 (some .int) [((0), (7), (10), (100))]) 12 mc ms nn [vR (some 1000), vR (some 101)] (mk u v (gO p q)) (.inl (some (vI k), mk u v (gO p q'))) ∧ Cn yX7_meanStalls (wsy yX7_meanStalls cX7_meanStalls 1 (some .double)) 3 0 0 nn [vR (some 0)] (mk u v (gO p q')) (.inl (some (vD y), mk u v' (gO p q'))) := by
  have V := S.sm.sv
  have b22 := S.mi.s22
  by_cases h : v.1 22 = 0
  · exact ⟨1, FP.dconst0, _, q, 1, 6, ⟨by decide, by decide, fun h => absurd h (by decide), rfl, SIM_1 S (by decide)⟩, wx_meanStalls_1 (by decide) okn_nn (c_X6_meanStalls_x S.ci (by rw [V.s3]; exact h)), c_X7_meanStalls_x S.mi h⟩
  · have hn : FP.dIsNaN (dsh (v.1 24) (v.1 22)) = false := d_ok (by omega) b22.2
    have hq := c_X6_meanStalls (u := u) (v := v) (g := gO p q) S.ci (by rw [V.s3]; exact h)
    rw [V.s5, V.s3] at hq
    exact ⟨0, _, _, _, 0, 0, ⟨by decide, by decide, fun _ => ⟨rfl, hn⟩, rfl, SIM_1 S (by decide)⟩, w_meanStalls (by decide) okn_nn hq, c_X7_meanStalls S.mi h⟩
