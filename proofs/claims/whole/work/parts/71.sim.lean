/-! ONE CALL ON BOTH SIDES, method by method -/
theorem inB_y {x a b : Int} (h : a ≤ x ∧ x ≤ b) : inB x a b = true := by unfold inB; rw [decide_eq_true h.1, decide_eq_true h.2]; rfl
theorem inB_n {x a b : Int} (h : ¬ (a ≤ x ∧ x ≤ b)) : inB x a b = false := by
  cases e : inB x a b
  · rfl
  · exact absurd (inB_t e) h
theorem nonB_y {v : SS} {a : Int} (h : 0 ≤ a ∧ a < v.1 0) : nonB v a = false := by unfold nonB; rw [inB_y (by omega)]; rfl
theorem nonB_n {v : SS} {a : Int} (h : ¬ (0 ≤ a ∧ a < v.1 0)) : nonB v a = true := by unfold nonB; rw [inB_n (by omega)]; rfl
theorem noPg_y {v : SS} {a b : Int} (h : 0 ≤ a ∧ a < v.1 0) (h2 : 0 ≤ b ∧ b < 8) : noPg v a b = false := by unfold noPg; rw [nonB_y h, inB_y (by omega)]; rfl
theorem noPg_1 {v : SS} {a b : Int} (h : ¬ (0 ≤ a ∧ a < v.1 0)) : noPg v a b = true := by unfold noPg; rw [nonB_n h]; rfl
theorem noPg_2 {v : SS} {a b : Int} (h : ¬ (0 ≤ b ∧ b < 8)) : noPg v a b = true := by unfold noPg; rw [inB_n (by omega)]; simp
theorem asX_1 {w c d : Int} (h : ¬ (0 ≤ w ∧ w ≤ 100)) : asX w c d = true := by unfold asX; rw [inB_n h]; rfl
theorem asX_2 {w c d : Int} (h : ¬ (c = 97 ∨ c = 110)) : asX w c d = true := by
  unfold asX
  rw [decide_eq_false (fun e => h (Or.inl e)), decide_eq_false (fun e => h (Or.inr e))]
  simp
theorem asX_3 {w c d : Int} (h : ¬ (1 ≤ d ∧ d ≤ 20)) : asX w c d = true := by unfold asX; rw [inB_n h]; simp
theorem asX_y {w c d : Int} (h1 : 0 ≤ w ∧ w ≤ 100) (h2 : c = 97 ∨ c = 110) (h3 : 1 ≤ d ∧ d ≤ 20) : asX w c d = false := by
  unfold asX
  rw [inB_y h1, inB_y h3]
  rcases h2 with rfl | rfl <;> rfl
theorem SIM_ir {t : Int} {u v : SS} (S : SIM t u v) {s : Nat} (hs : (s : Int) < v.1 0) : irB u s = rn v 6 s := by
  obtain ⟨rk, hk⟩ := S.sm.rk
  exact irB_rn S.ci.a15 S.sm.sv.a15 S.sm.sv.a16 S.n hk S.mi S.sm.nb hs
theorem cocc_occ {u v : SS} {t r : Nat} (S : PG u v t r) : cocc u = occ v := sumN_c fun z hz => by rw [S.hd z hz]
theorem SIM_hF {t : Int} {u v : SS} (S : SIM t u v) {s p : Nat} (hs : (s : Int) < v.1 0) (hp : p < 8) : v.2 10 (8 * (s : Int) + (p : Int)).toNat = 1 → 0 ≤ fnd (fwB v (8 * (s : Int) + (p : Int))) (v.1 11).toNat := fun h => by
  have i0 := S.mi.s0
  have eP : 8 * (s : Int) + (p : Int) = ((8 * s + p : Nat) : Int) := by omega
  rw [eP, Int.toNat_natCast] at h
  obtain ⟨f, hf, h2⟩ := S.sm.pg.w.b (8 * s + p) (by omega) (by omega) h
  rw [eP, fnd_fw S.sm.pg hf h2]
  omega
set_option maxHeartbeats 4000000 in
theorem st_setLimit {t : Int} {u v : SS} {p : Nat → Int} {q : Nat → UInt64} (S : SIM t u v) (ht : t ≤ 511) {a : Int} (ha : rg a) : STP t u v p q (fun x => vI x) rg yL_setLimit (wsh yL_setLimit cL_setLimit 4 (some .int) [((0), (9), (12), (13))]) [vR (some 1000), vI a, vR (some 100)] yX7_setLimit (wsy yX7_setLimit cX7_setLimit 3 (some .int)) [vR (some 0), vI a] := by
  have n0 := S.n
  have i0 := S.mi.s0
  by_cases h : 0 ≤ a ∧ a ≤ 999
  · exact STP_o (w_setLimit (by decide) okn_nn (by have := S.ci.s0; unfold rg; omega) (c_X6_setLimit S.ci h)) okn_nn (by decide) (by decide) (c_X7_setLimit S.mi h) (by decide) S.sm.sv.s0 (by have := S.mi.s18; unfold rg; omega) rfl (SIM_c S (SM_setLimit S.sm h) (fun k h => by show (if k = 18 then a else if k = 26 then 0 else v.1 k) = _; rw [if_neg (by omega), if_neg (by omega)]) (fun _ _ _ => rfl) (by show v.1 21 ≤ _; omega) S.cap)
  · exact STP_x (k := 1) (wx_setLimit_1 (by decide) okn_nn (c_X6_setLimit_x S.ci ha h)) okn_nn (by decide) (by decide) (c_X7_setLimit_x S.mi ha (inB_n h)) (by decide) (by decide) (by first | (unfold rg; decide) | (unfold rgL; decide) | exact Or.inl rfl) rfl (SIM_1 S (by decide))
set_option maxHeartbeats 4000000 in
theorem st_setRoom {t : Int} {u v : SS} {p : Nat → Int} {q : Nat → UInt64} (S : SIM t u v) (ht : t ≤ 511) {a : Int} (ha : rg a) : STP t u v p q (fun x => vI x) rg yL_setRoom (wsh yL_setRoom cL_setRoom 4 (some .int) [((0), (9), (12), (13))]) [vR (some 1000), vI a, vR (some 100)] yX7_setRoom (wsy yX7_setRoom cX7_setRoom 3 (some .int)) [vR (some 0), vI a] := by
  have n0 := S.n
  have i0 := S.mi.s0
  by_cases h : 0 ≤ a ∧ a ≤ 60
  · have h4 := S.b4 ht
    have h21 := S.m21 ht
    have hm := SM_setRoom S.sm (by omega) h (by omega)
    have e22 : (srM v a).1 22 = v.1 22 := by show (mkr _ _ _).1 22 = _; rw [mkr_S (by decide) (by decide)]; rfl
    exact STP_o (w_setRoom (by decide) okn_nn (by have := S.ci.s9; unfold rg; omega) (c_X6_setRoom S.ci h)) okn_nn (by decide) (by decide) (c_X7_setRoom S.mi h (by omega)) (by decide) S.sm.pg.R (by have := S.mi.s15; unfold rg; omega) (by show (mkr _ _ _).1 26 = _; rw [mkr_S (by decide) (by decide)]; rfl) (SIM_c S (by rw [e22]; exact hm.1) (fun k h => by
      show (mkr _ _ _).1 k = _
      rw [mkr_S (by omega) (by omega)]
      show (if k = 15 then a else if k = 26 then 0 else v.1 k) = _
      rw [if_neg (by omega), if_neg (by omega)]) (fun x j h => by show (mkr _ _ _).2 x j = _; rw [mkr_A (by omega) (by omega)]; rfl) (by have := hm.2; omega) (by
      have e : (srC u a).1 15 = u.1 15 := by show (cmr _ _ _).1 15 = _; rw [cmr_S (by decide) (by decide) (by decide)]; rfl
      rw [e]; exact S.cap))
  · exact STP_x (k := 1) (wx_setRoom_1 (by decide) okn_nn (c_X6_setRoom_x S.ci ha h)) okn_nn (by decide) (by decide) (c_X7_setRoom_x S.mi ha (inB_n h)) (by decide) (by decide) (by first | (unfold rg; decide) | (unfold rgL; decide) | exact Or.inl rfl) rfl (SIM_1 S (by decide))
set_option maxHeartbeats 4000000 in
theorem st_setFrames {t : Int} {u v : SS} {p : Nat → Int} {q : Nat → UInt64} (S : SIM t u v) (ht : t ≤ 511) {a : Int} (ha : rg a) : STP t u v p q (fun x => vI x) rg yL_setFrames (wsh yL_setFrames cL_setFrames 4 (some .int) [((0), (9), (12), (13))]) [vR (some 1000), vI a, vR (some 100)] yX7_setFrames (wsy yX7_setFrames cX7_setFrames 4 (some .int)) [vR (some 0), vI a] := by
  have n0 := S.n
  have i0 := S.mi.s0
  by_cases h : 1 ≤ a ∧ a ≤ 16
  · have h4 := S.b4 ht
    have h21 := S.m21 ht
    have hm := SM_setFrames S.sm (by omega) h (by omega)
    have ho := occ_48 S.sm.pg
    have e22 : (sfM v a).1 22 = v.1 22 := sfM_S (by decide) (by decide) (by decide) (by decide) (by decide)
    exact STP_o (w_setFrames (by decide) okn_G (by have := S.ci.s7; unfold rg; omega) (c_X6_setFrames S.ci (NR_gO p q) (by rw [cocc_occ S.sm.pg, S.sm.pg.K]; exact ho) h)) okn_G (by decide) (by decide) (c_X7_setFrames S.mi h ho (by omega)) (by decide) S.sm.pg.F (by have := S.mi.s11; unfold rg; omega) sfM_26 (SIM_c S (by rw [e22]; exact hm.1) (fun k h => sfM_S (by omega) (by omega) (by omega) (by omega) (by omega)) (fun x j h => sfM_A (by omega) (by omega) (by omega) (by omega)) (by have := hm.2; omega) (by
      have e : (sfC' u a).1 15 = u.1 15 := by
        unfold sfC' rsM
        split
        · show (sfL _ _ u).1 15 = _; exact sfL_S (by decide) (by decide) (by decide) (by decide)
        · show (sfL _ _ u).1 15 = _; exact sfL_S (by decide) (by decide) (by decide) (by decide)
      rw [e]; exact S.cap))
  · exact STP_x (k := 1) (wx_setFrames_1 (by decide) okn_nn (c_X6_setFrames_x S.ci ha h)) okn_nn (by decide) (by decide) (c_X7_setFrames_x S.mi ha (inB_n h)) (by decide) (by decide) (by first | (unfold rg; decide) | (unfold rgL; decide) | exact Or.inl rfl) rfl (SIM_1 S (by decide))
set_option maxHeartbeats 4000000 in
theorem st_tick {t : Int} {u v : SS} {p : Nat → Int} {q : Nat → UInt64} (S : SIM t u v) (ht : t ≤ 511) {a : Int} (ha : rg a) : STP t u v p q (fun x => vI x) rg yL_tick (wsh yL_tick cL_tick 4 (some .int) [((0), (9), (12), (13))]) [vR (some 1000), vI a, vR (some 100)] yX7_tick (wsy yX7_tick cX7_tick 4 (some .int)) [vR (some 0), vI a] := by
  have n0 := S.n
  have i0 := S.mi.s0
  by_cases h : 1 ≤ a ∧ a ≤ 50
  · have S1 := SIM_tick S ht (n := a.toNat) (by omega)
    have h25 := tki_25 (v := stS v 26 0) a.toNat
    have e25 : (stS v 26 0).1 25 = v.1 25 := rfl
    have s2 := S.sm.sv.s2
    have s2' := S1.sm.sv.s2
    exact STP_o (w_tick (by decide) okn_nn (by unfold rg; omega) (c_X6_tick S.ci (HP_fr S.sm.pg S.sm.hp) h (S.cbg ht))) okn_nn (by decide) (by decide) (c_X7_tick S.mi h (S.bg ht)) (by decide) (by rw [s2', s2]) (by unfold rg; omega) (by
      have e := (tki_b (v := stS v 26 0) (b := 1000000) (by decide) (fun j => (S.mi.a20 j).2) a.toNat).2.2.2.2 26 (by decide) (by decide) (by decide)
      rw [e]; rfl) S1
  · exact STP_x (k := 1) (wx_tick_1 (by decide) okn_nn (c_X6_tick_x S.ci ha h)) okn_nn (by decide) (by decide) (c_X7_tick_x S.mi ha (inB_n h)) (by decide) (by decide) (by first | (unfold rg; decide) | (unfold rgL; decide) | exact Or.inl rfl) rfl (SIM_1 S (by decide))
set_option maxHeartbeats 4000000 in
theorem st_placeOf {t : Int} {u v : SS} {p : Nat → Int} {q : Nat → UInt64} (S : SIM t u v) (ht : t ≤ 511) {a b : Int} (ha : rg a) (hb : rg b) : STP t u v p q (fun x => vI x) rg yL_placeOf (wsh yL_placeOf cL_placeOf 5 (some .int) [((0), (10), (13), (21))]) [vR (some 1000), vI a, vI b, vR (some 100)] yX7_placeOf (wsy yX7_placeOf cX7_placeOf 3 (some .char)) [vR (some 0), vI a, vI b] := by
  have n0 := S.n
  have i0 := S.mi.s0
  by_cases h : 0 ≤ a ∧ a < v.1 0
  · obtain ⟨s, rfl⟩ : ∃ s : Nat, a = (s : Int) := ⟨a.toNat, by omega⟩
    have hs : (s : Int) < v.1 0 := h.2
    have hu : (s : Int) < u.1 14 := by omega
    by_cases h2 : 0 ≤ b ∧ b < 8
    · obtain ⟨r, rfl⟩ : ∃ r : Nat, b = (r : Int) := ⟨b.toNat, by omega⟩
      have hr : r < 8 := by omega
      have eP : (8 * (s : Int) + (r : Int)).toNat = 8 * s + r := by omega
      have hpl := S.sm.pg.pl (8 * s + r) (by omega) (by omega) (by omega)
      have ipl := S.mi.a10 (8 * s + r)
      have hno : noPg v (s : Int) (r : Int) = false := noPg_y h h2
      have hm := c_X7_placeOf (u := u) (g := gO (pst p (u.2 23 (8 * s + r))) q) S.mi ha hb hno
      rw [eP] at hm
      exact STP_o (w_placeOf (by decide) okn_nn (by have := S.ci.a23 (8 * s + r); unfold rg; omega) (c_X6_placeOf S.ci hu hr)) okn_nn (by decide) (by decide) hm (by decide) hpl (by have := S.ci.a23 (8 * s + r); rw [hpl] at this; unfold rg; omega) rfl (SIM_1 S (by decide))
    · exact STP_x (k := 1) (wx_placeOf_1 (by decide) okn_nn (c_X6_placeOf_x2 S.ci hu hb h2)) okn_nn (by decide) (by decide) (c_X7_placeOf_x S.mi ha hb (noPg_2 h2)) (by decide) (by decide) (by first | (unfold rg; decide) | (unfold rgL; decide) | exact Or.inl rfl) rfl (SIM_1 S (by decide))
  · exact STP_x (k := 1) (wx_placeOf_1 (by decide) okn_nn (c_X6_placeOf_x1 S.ci ha (by omega))) okn_nn (by decide) (by decide) (c_X7_placeOf_x S.mi ha hb (noPg_1 h)) (by decide) (by decide) (by first | (unfold rg; decide) | (unfold rgL; decide) | exact Or.inl rfl) rfl (SIM_1 S (by decide))
set_option maxHeartbeats 4000000 in
theorem st_placeByEvents {t : Int} {u v : SS} {p : Nat → Int} {q : Nat → UInt64} (S : SIM t u v) (ht : t ≤ 511) {a b : Int} (ha : rg a) (hb : rg b) : STP t u v p q (fun x => vI x) rg yL_placeByEvents (wsh yL_placeByEvents cL_placeByEvents 5 (some .int) [((0), (10), (13), (21))]) [vR (some 1000), vI a, vI b, vR (some 100)] yX7_placeByEvents (wsy yX7_placeByEvents cX7_placeByEvents 3 (some .char)) [vR (some 0), vI a, vI b] := by
  have n0 := S.n
  have i0 := S.mi.s0
  by_cases h : 0 ≤ a ∧ a < v.1 0
  · obtain ⟨s, rfl⟩ : ∃ s : Nat, a = (s : Int) := ⟨a.toNat, by omega⟩
    have hs : (s : Int) < v.1 0 := h.2
    have hu : (s : Int) < u.1 14 := by omega
    by_cases h2 : 0 ≤ b ∧ b < 8
    · obtain ⟨r, rfl⟩ : ∃ r : Nat, b = (r : Int) := ⟨b.toNat, by omega⟩
      have hr : r < 8 := by omega
      have eP : (8 * (s : Int) + (r : Int)).toNat = 8 * s + r := by omega
      have hpl := S.sm.pg.pl (8 * s + r) (by omega) (by omega) (by omega)
      have ipl := S.mi.a10 (8 * s + r)
      have hno : noPg v (s : Int) (r : Int) = false := noPg_y h h2
      have S1 := SIM_rp S
      have hag : (rpM u).2 1 (8 * s + r) = plc (v.2 10 (8 * s + r)) := (agQ_ok S.ci S.sm.hp.2.1 (8 * s + r) (by omega)).trans hpl
      have hm := c_X7_placeByEvents (u := rpM u) (g := gO (pst p ((rpM u).2 1 (8 * s + r))) q) S.mi ha hb hno
      rw [eP] at hm
      exact STP_o (w_placeByEvents (by decide) okn_nn (by have := (CI_rp S.ci).a1 (8 * s + r); unfold rg; omega) (c_X6_placeByEvents S.ci hu hr S.sm.hp.1)) okn_nn (by decide) (by decide) hm (by decide) hag (by have := (CI_rp S.ci).a1 (8 * s + r); rw [hag] at this; unfold rg; omega) rfl (SIM_1 S1 (by decide))
    · exact STP_x (k := 1) (wx_placeByEvents_1 (by decide) okn_nn (c_X6_placeByEvents_x2 S.ci hu hb h2)) okn_nn (by decide) (by decide) (c_X7_placeByEvents_x S.mi ha hb (noPg_2 h2)) (by decide) (by decide) (by first | (unfold rg; decide) | (unfold rgL; decide) | exact Or.inl rfl) rfl (SIM_1 S (by decide))
  · exact STP_x (k := 1) (wx_placeByEvents_1 (by decide) okn_nn (c_X6_placeByEvents_x1 S.ci ha (by omega))) okn_nn (by decide) (by decide) (c_X7_placeByEvents_x S.mi ha hb (noPg_1 h)) (by decide) (by decide) (by first | (unfold rg; decide) | (unfold rgL; decide) | exact Or.inl rfl) rfl (SIM_1 S (by decide))
set_option maxHeartbeats 4000000 in
theorem st_frameOf {t : Int} {u v : SS} {p : Nat → Int} {q : Nat → UInt64} (S : SIM t u v) (ht : t ≤ 511) {a b : Int} (ha : rg a) (hb : rg b) : STP t u v p q (fun x => vI x) rg yL_frameOf (wsh yL_frameOf cL_frameOf 5 (some .int) [((0), (10), (13), (21)), ((0), (10), (17), (55))]) [vR (some 1000), vI a, vI b, vR (some 100)] yX7_frameOf (wsy yX7_frameOf cX7_frameOf 3 (some .int)) [vR (some 0), vI a, vI b] := by
  have n0 := S.n
  have i0 := S.mi.s0
  by_cases h : 0 ≤ a ∧ a < v.1 0
  · obtain ⟨s, rfl⟩ : ∃ s : Nat, a = (s : Int) := ⟨a.toNat, by omega⟩
    have hs : (s : Int) < v.1 0 := h.2
    have hu : (s : Int) < u.1 14 := by omega
    by_cases h2 : 0 ≤ b ∧ b < 8
    · obtain ⟨r, rfl⟩ : ∃ r : Nat, b = (r : Int) := ⟨b.toNat, by omega⟩
      have hr : r < 8 := by omega
      have eP : (8 * (s : Int) + (r : Int)).toNat = 8 * s + r := by omega
      have hpl := S.sm.pg.pl (8 * s + r) (by omega) (by omega) (by omega)
      have ipl := S.mi.a10 (8 * s + r)
      have hno : noPg v (s : Int) (r : Int) = false := noPg_y h h2
      by_cases h3 : v.2 10 (8 * s + r) = 1
      · obtain ⟨f, hf, hfp⟩ := S.sm.pg.w.b (8 * s + r) (by omega) (by omega) h3
        have h24 := (S.sm.pg.fr f hf (by omega)).1
        rw [hfp, Int.toNat_natCast] at h24
        have hm := c_X7_frameOf (u := u) (g := gO (pst p (u.2 24 (8 * s + r))) q) S.mi ha hb hno (by rw [eP]; exact h3)
        have e8 : 8 * (s : Int) + (r : Int) = ((8 * s + r : Nat) : Int) := by omega
        rw [e8, fnd_fw S.sm.pg hf hfp] at hm
        exact STP_o (w_frameOf (by decide) okn_nn (by have := S.ci.a24 (8 * s + r); unfold rg; omega) (c_X6_frameOf S.ci hu hr (hpl.trans ((plc_1 ipl).mpr h3)))) okn_nn (by decide) (by decide) hm (by decide) h24 (by unfold rg; omega) rfl (SIM_2 S (by decide))
      · exact STP_x (k := 2) (wx_frameOf_2 (by decide) okn_nn (c_X6_frameOf_x3 S.ci hu hr (fun e => h3 ((plc_1 ipl).mp (hpl.symm.trans e))))) okn_nn (by decide) (by decide) (c_X7_frameOf_x2 S.mi ha hb hno (by rw [eP]; exact h3)) (by decide) (by decide) (by first | (unfold rg; decide) | (unfold rgL; decide) | exact Or.inl rfl) rfl (SIM_2 S (by decide))
    · exact STP_x (k := 1) (wx_frameOf_1 (by decide) okn_nn (c_X6_frameOf_x2 S.ci hu hb h2)) okn_nn (by decide) (by decide) (c_X7_frameOf_x1 S.mi ha hb (noPg_2 h2)) (by decide) (by decide) (by first | (unfold rg; decide) | (unfold rgL; decide) | exact Or.inl rfl) rfl (SIM_1 S (by decide))
  · exact STP_x (k := 1) (wx_frameOf_1 (by decide) okn_nn (c_X6_frameOf_x1 S.ci ha (by omega))) okn_nn (by decide) (by decide) (c_X7_frameOf_x1 S.mi ha hb (noPg_1 h)) (by decide) (by decide) (by first | (unfold rg; decide) | (unfold rgL; decide) | exact Or.inl rfl) rfl (SIM_1 S (by decide))
theorem isR_eq {t : Int} {u v : SS} (S : SIM t u v) {s r : Nat} (hs : (s : Int) < v.1 0) (hr : r < 8) : u.2 25 (8 * s + r) = bI (decide (v.2 10 (8 * (s : Int) + (r : Int)).toNat = 1) && decide (v.2 13 (fnd (fwB v (8 * (s : Int) + (r : Int))) (v.1 11).toNat).toNat = 1)) := by
  have i0 := S.mi.s0
  have e8 : 8 * (s : Int) + (r : Int) = ((8 * s + r : Nat) : Int) := by omega
  rw [e8, Int.toNat_natCast]
  by_cases h3 : v.2 10 (8 * s + r) = 1
  · obtain ⟨f, hf, hfp⟩ := S.sm.pg.w.b (8 * s + r) (by omega) (by omega) h3
    have h25 := (S.sm.pg.fr f hf (by omega)).2
    rw [hfp, Int.toNat_natCast] at h25
    rw [h25, fnd_fw S.sm.pg hf hfp, Int.toNat_natCast, decide_eq_true h3, Bool.true_and]
    have h13 := S.mi.a13 f
    have : v.2 13 f = 0 ∨ v.2 13 f = 1 := by omega
    rcases this with e | e <;> rw [e] <;> rfl
  · rw [decide_eq_false h3, Bool.false_and]
    exact S.sm.pg.rf (8 * s + r) (by omega) (by omega) h3
set_option maxHeartbeats 4000000 in
theorem st_isReferenced {t : Int} {u v : SS} {p : Nat → Int} {q : Nat → UInt64} (S : SIM t u v) (ht : t ≤ 511) {a b : Int} (ha : rg a) (hb : rg b) : STP t u v p q (fun x => vI x) (fun x => x = 0 ∨ x = 1) yL_isReferenced (wsh yL_isReferenced cL_isReferenced 5 (some .int) [((0), (17), (20), (21))]) [vR (some 1000), vI a, vI b, vR (some 100)] yX7_isReferenced (wsy yX7_isReferenced cX7_isReferenced 3 (some .boolean)) [vR (some 0), vI a, vI b] := by
  have n0 := S.n
  have i0 := S.mi.s0
  by_cases h : 0 ≤ a ∧ a < v.1 0
  · obtain ⟨s, rfl⟩ : ∃ s : Nat, a = (s : Int) := ⟨a.toNat, by omega⟩
    have hs : (s : Int) < v.1 0 := h.2
    have hu : (s : Int) < u.1 14 := by omega
    by_cases h2 : 0 ≤ b ∧ b < 8
    · obtain ⟨r, rfl⟩ : ∃ r : Nat, b = (r : Int) := ⟨b.toNat, by omega⟩
      have hr : r < 8 := by omega
      have eP : (8 * (s : Int) + (r : Int)).toNat = 8 * s + r := by omega
      have hpl := S.sm.pg.pl (8 * s + r) (by omega) (by omega) (by omega)
      have ipl := S.mi.a10 (8 * s + r)
      have hno : noPg v (s : Int) (r : Int) = false := noPg_y h h2
      have hq := c_X6_isReferenced (u := u) (v := v) (g := gO p q) S.ci hu hr
      rw [isR_eq S hs hr] at hq
      exact STP_o (w_isReferenced (by decide) okn_nn hq) okn_nn (by decide) (by decide) (c_X7_isReferenced S.mi ha hb hno (SIM_hF S hs hr)) (by decide) rfl (bI_01 _) rfl (SIM_1 S (by decide))
    · exact STP_x (k := 1) (wx_isReferenced_1 (by decide) okn_nn (c_X6_isReferenced_x2 S.ci hu hb h2)) okn_nn (by decide) (by decide) (c_X7_isReferenced_x S.mi ha hb (noPg_2 h2)) (by decide) (by decide) (by first | (unfold rg; decide) | (unfold rgL; decide) | exact Or.inl rfl) rfl (SIM_1 S (by decide))
  · exact STP_x (k := 1) (wx_isReferenced_1 (by decide) okn_nn (c_X6_isReferenced_x1 S.ci ha (by omega))) okn_nn (by decide) (by decide) (c_X7_isReferenced_x S.mi ha hb (noPg_1 h)) (by decide) (by decide) (by first | (unfold rg; decide) | (unfold rgL; decide) | exact Or.inl rfl) rfl (SIM_1 S (by decide))
set_option maxHeartbeats 4000000 in
theorem st_touch {t : Int} {u v : SS} {p : Nat → Int} {q : Nat → UInt64} (S : SIM t u v) (ht : t ≤ 511) {a b : Int} (ha : rg a) (hb : rg b) : STP t u v p q (fun x => vI x) rg yL_touch (wsh yL_touch cL_touch 5 (some .int) [((0), (10), (13), (21)), ((0), (10), (17), (15))]) [vR (some 1000), vI a, vI b, vR (some 100)] yX7_touch (wsy yX7_touch cX7_touch 4 (some .int)) [vR (some 0), vI a, vI b] := by
  have n0 := S.n
  have i0 := S.mi.s0
  by_cases h : 0 ≤ a ∧ a < v.1 0
  · obtain ⟨s, rfl⟩ : ∃ s : Nat, a = (s : Int) := ⟨a.toNat, by omega⟩
    have hs : (s : Int) < v.1 0 := h.2
    have hu : (s : Int) < u.1 14 := by omega
    by_cases h2 : 0 ≤ b ∧ b < 8
    · obtain ⟨r, rfl⟩ : ∃ r : Nat, b = (r : Int) := ⟨b.toNat, by omega⟩
      have hr : r < 8 := by omega
      have eP : (8 * (s : Int) + (r : Int)).toNat = 8 * s + r := by omega
      have hpl := S.sm.pg.pl (8 * s + r) (by omega) (by omega) (by omega)
      have ipl := S.mi.a10 (8 * s + r)
      have hno : noPg v (s : Int) (r : Int) = false := noPg_y h h2
      by_cases h3 : rn v 6 s = true
      · obtain ⟨rk, hk⟩ := S.sm.rk
        obtain ⟨S1, e21, h47, t1, t2, e26⟩ := SIM_touch S ht hs hr
        exact STP_o (w_touch (by decide) okn_G (by unfold rg; omega) (c_X6_touch S.ci hu hr (by rw [SIM_ir S hs]; exact h3) (NR_gO p q) (by rw [S.sm.hd, S.sm.pg.F]; exact S.sm.hf) (S.cbt ht) h47)) okn_G (by decide) (by decide) (c_X7_touch S.mi hk ha hb hno (by rw [Int.toNat_natCast]; exact h3) S.sm.hf (occ_48 S.sm.pg) (S.bt ht) (SIM_hF S hs hr)) (by decide) e21.symm (by rw [e21]; unfold rg; omega) e26 S1
      · obtain ⟨rk, hk⟩ := S.sm.rk
        have h4 : rn v 6 s = false := by cases e : rn v 6 s; rfl; exact absurd e h3
        exact STP_x (k := 2) (wx_touch_2 (by decide) okn_nn (c_X6_touch_x3 S.ci hu hr (by rw [SIM_ir S hs]; exact h4))) okn_nn (by decide) (by decide) (c_X7_touch_x2 S.mi hk ha hb hno (by rw [Int.toNat_natCast]; exact h4)) (by decide) (by decide) (by first | (unfold rg; decide) | (unfold rgL; decide) | exact Or.inl rfl) rfl (SIM_2 S (by decide))
    · exact STP_x (k := 1) (wx_touch_1 (by decide) okn_nn (c_X6_touch_x2 S.ci hu hb h2)) okn_nn (by decide) (by decide) (c_X7_touch_x1 S.mi ha hb (noPg_2 h2)) (by decide) (by decide) (by first | (unfold rg; decide) | (unfold rgL; decide) | exact Or.inl rfl) rfl (SIM_1 S (by decide))
  · exact STP_x (k := 1) (wx_touch_1 (by decide) okn_nn (c_X6_touch_x1 S.ci ha (by omega))) okn_nn (by decide) (by decide) (c_X7_touch_x1 S.mi ha hb (noPg_1 h)) (by decide) (by decide) (by first | (unfold rg; decide) | (unfold rgL; decide) | exact Or.inl rfl) rfl (SIM_1 S (by decide))
set_option maxHeartbeats 4000000 in
theorem st_setSize {t : Int} {u v : SS} {p : Nat → Int} {q : Nat → UInt64} (S : SIM t u v) (ht : t ≤ 511) {a b c : Int} (ha : rg a) (hb : rg b) (hc : rg c) : STP t u v p q (fun x => vI x) rg yL_setSize (wsh yL_setSize cL_setSize 6 (some .int) [((0), (12), (15), (21)), ((0), (12), (19), (13)), ((0), (12), (23), (15))]) [vR (some 1000), vI a, vI b, vI c, vR (some 100)] yX7_setSize (wsy yX7_setSize cX7_setSize 5 (some .int)) [vR (some 0), vI a, vI b, vI c] := by
  have n0 := S.n
  have i0 := S.mi.s0
  by_cases h : 0 ≤ a ∧ a < v.1 0
  · obtain ⟨s, rfl⟩ : ∃ s : Nat, a = (s : Int) := ⟨a.toNat, by omega⟩
    have hs : (s : Int) < v.1 0 := h.2
    have hu : (s : Int) < u.1 14 := by omega
    by_cases h2 : 0 ≤ b ∧ b < 8
    · obtain ⟨r, rfl⟩ : ∃ r : Nat, b = (r : Int) := ⟨b.toNat, by omega⟩
      have hr : r < 8 := by omega
      have eP : (8 * (s : Int) + (r : Int)).toNat = 8 * s + r := by omega
      have hpl := S.sm.pg.pl (8 * s + r) (by omega) (by omega) (by omega)
      have ipl := S.mi.a10 (8 * s + r)
      have hno : noPg v (s : Int) (r : Int) = false := noPg_y h h2
      by_cases h3 : 1 ≤ c ∧ c ≤ 4
      · by_cases h4 : v.2 10 (8 * s + r) = 2
        · exact STP_x (k := 3) (wx_setSize_3 (by decide) okn_nn (c_X6_setSize_x4 S.ci hu hr h3 (hpl.trans ((plc_2 ipl).mpr h4)))) okn_nn (by decide) (by decide) (c_X7_setSize_x3 S.mi ha hb hc hno h3 (by rw [eP]; exact h4)) (by decide) (by decide) (by first | (unfold rg; decide) | (unfold rgL; decide) | exact Or.inl rfl) rfl (SIM_2 S (by decide))
        · have hm := c_X7_setSize (u := stA u 22 (8 * s + r) c) (g := gO (pst p (u.2 22 (8 * s + r))) q) S.mi ha hb hc hno h3 (by rw [eP]; exact h4)
          rw [eP] at hm
          exact STP_o (w_setSize (by decide) okn_nn (by have := S.ci.a22 (8 * s + r); unfold rg; omega) (c_X6_setSize S.ci hu hr h3 (fun e => h4 ((plc_2 ipl).mp (hpl.symm.trans e))))) okn_nn (by decide) (by decide) hm (by decide) (S.sm.pg.sz _) (by have := S.mi.a9 (8 * s + r); unfold rg; omega) rfl (SIM_c S (SM_setSize S.sm (by omega) h3 h4) (fun k h => by show (if k = 26 then 0 else if k = 26 then 0 else v.1 k) = _; rw [if_neg (by omega), if_neg (by omega)]) (fun x j h => by rw [stA_o (by omega)]; rfl) (by show v.1 21 ≤ _; omega) S.cap)
      · exact STP_x (k := 2) (wx_setSize_2 (by decide) okn_nn (c_X6_setSize_x3 S.ci hu hr hc h3)) okn_nn (by decide) (by decide) (c_X7_setSize_x2 S.mi ha hb hc hno (inB_n h3)) (by decide) (by decide) (by first | (unfold rg; decide) | (unfold rgL; decide) | exact Or.inl rfl) rfl (SIM_2 S (by decide))
    · exact STP_x (k := 1) (wx_setSize_1 (by decide) okn_nn (c_X6_setSize_x2 S.ci hu hb h2)) okn_nn (by decide) (by decide) (c_X7_setSize_x1 S.mi ha hb hc (noPg_2 h2)) (by decide) (by decide) (by first | (unfold rg; decide) | (unfold rgL; decide) | exact Or.inl rfl) rfl (SIM_1 S (by decide))
  · exact STP_x (k := 1) (wx_setSize_1 (by decide) okn_nn (c_X6_setSize_x1 S.ci ha (by omega))) okn_nn (by decide) (by decide) (c_X7_setSize_x1 S.mi ha hb hc (noPg_1 h)) (by decide) (by decide) (by first | (unfold rg; decide) | (unfold rgL; decide) | exact Or.inl rfl) rfl (SIM_1 S (by decide))
set_option maxHeartbeats 4000000 in
theorem st_stallsOf {t : Int} {u v : SS} {p : Nat → Int} {q : Nat → UInt64} (S : SIM t u v) (ht : t ≤ 511) {a : Int} (ha : rg a) : STP t u v p q (fun x => vL x) rgL yL_stallsOf (wsh yL_stallsOf cL_stallsOf 4 (some .int) [((0), (8), (11), (21))]) [vR (some 1000), vI a, vR (some 100)] yX7_stallsOf (wsy yX7_stallsOf cX7_stallsOf 2 (some .long)) [vR (some 0), vI a] := by
  have n0 := S.n
  have i0 := S.mi.s0
  by_cases h : 0 ≤ a ∧ a < v.1 0
  · obtain ⟨s, rfl⟩ : ∃ s : Nat, a = (s : Int) := ⟨a.toNat, by omega⟩
    have hs : (s : Int) < v.1 0 := h.2
    have hu : (s : Int) < u.1 14 := by omega
    exact STP_o (w_stallsOf (by decide) okn_nn (c_X6_stallsOf S.ci hu)) okn_nn (by decide) (by decide) (c_X7_stallsOf S.mi ha (nonB_y h)) (by decide) (S.sm.sv.a19 s) (by have := S.mi.a8 (s : Int).toNat; unfold rgL; omega) rfl (SIM_1 S (by decide))
  · exact STP_x (k := 1) (wx_stallsOf_1 (by decide) okn_nn (c_X6_stallsOf_x1 S.ci ha (by omega))) okn_nn (by decide) (by decide) (c_X7_stallsOf_x S.mi ha (nonB_n h)) (by decide) (by decide) (by first | (unfold rg; decide) | (unfold rgL; decide) | exact Or.inl rfl) rfl (SIM_1 S (by decide))
set_option maxHeartbeats 4000000 in
theorem st_starts {t : Int} {u v : SS} {p : Nat → Int} {q : Nat → UInt64} (S : SIM t u v) (ht : t ≤ 511) {a : Int} (ha : rg a) : STP t u v p q (fun x => vI x) rg yL_starts (wsh yL_starts cL_starts 4 (some .int) [((0), (9), (12), (21))]) [vR (some 1000), vI a, vR (some 100)] yX7_starts (wsy yX7_starts cX7_starts 2 (some .int)) [vR (some 0), vI a] := by
  have n0 := S.n
  have i0 := S.mi.s0
  by_cases h : 0 ≤ a ∧ a < v.1 0
  · obtain ⟨s, rfl⟩ : ∃ s : Nat, a = (s : Int) := ⟨a.toNat, by omega⟩
    have hs : (s : Int) < v.1 0 := h.2
    have hu : (s : Int) < u.1 14 := by omega
    exact STP_o (w_starts (by decide) okn_nn (by have := S.ci.a18 s; unfold rg; omega) (c_X6_starts S.ci hu)) okn_nn (by decide) (by decide) (c_X7_starts S.mi ha (nonB_y h)) (by decide) (S.sm.sv.a18 s) (by have := S.mi.a6 (s : Int).toNat; unfold rg; omega) rfl (SIM_1 S (by decide))
  · exact STP_x (k := 1) (wx_starts_1 (by decide) okn_nn (c_X6_starts_x1 S.ci ha (by omega))) okn_nn (by decide) (by decide) (c_X7_starts_x S.mi ha (nonB_n h)) (by decide) (by decide) (by first | (unfold rg; decide) | (unfold rgL; decide) | exact Or.inl rfl) rfl (SIM_1 S (by decide))
set_option maxHeartbeats 4000000 in
theorem st_score {t : Int} {u v : SS} {p : Nat → Int} {q : Nat → UInt64} (S : SIM t u v) (ht : t ≤ 511) {a : Int} (ha : rg a) : STP t u v p q (fun x => vI x) rg yL_score (wsh yL_score cL_score 4 (some .int) [((0), (9), (12), (21))]) [vR (some 1000), vI a, vR (some 100)] yX7_score (wsy yX7_score cX7_score 2 (some .int)) [vR (some 0), vI a] := by
  have n0 := S.n
  have i0 := S.mi.s0
  by_cases h : 0 ≤ a ∧ a < v.1 0
  · obtain ⟨s, rfl⟩ : ∃ s : Nat, a = (s : Int) := ⟨a.toNat, by omega⟩
    have hs : (s : Int) < v.1 0 := h.2
    have hu : (s : Int) < u.1 14 := by omega
    exact STP_o (w_score (by decide) okn_nn (by have := csc_bd S.ci s; unfold rg; omega) (c_X6_score S.ci hu)) okn_nn (by decide) (by decide) (c_X7_score S.mi ha (nonB_y h)) (by decide) (csc_sc S.sm.pg S.sm.sv hs) (by have := scM_bd S.mi (s : Int); unfold rg; omega) rfl (SIM_1 S (by decide))
  · exact STP_x (k := 1) (wx_score_1 (by decide) okn_nn (c_X6_score_x1 S.ci ha (by omega))) okn_nn (by decide) (by decide) (c_X7_score_x S.mi ha (nonB_n h)) (by decide) (by decide) (by first | (unfold rg; decide) | (unfold rgL; decide) | exact Or.inl rfl) rfl (SIM_1 S (by decide))
set_option maxHeartbeats 4000000 in
theorem st_isNeeded {t : Int} {u v : SS} {p : Nat → Int} {q : Nat → UInt64} (S : SIM t u v) (ht : t ≤ 511) {a : Int} (ha : rg a) : STP t u v p q (fun x => vI x) (fun x => x = 0 ∨ x = 1) yL_isNeeded (wsh yL_isNeeded cL_isNeeded 4 (some .int) [((0), (16), (19), (21))]) [vR (some 1000), vI a, vR (some 100)] yX7_isNeeded (wsy yX7_isNeeded cX7_isNeeded 2 (some .boolean)) [vR (some 0), vI a] := by
  have n0 := S.n
  have i0 := S.mi.s0
  by_cases h : 0 ≤ a ∧ a < v.1 0
  · obtain ⟨s, rfl⟩ : ∃ s : Nat, a = (s : Int) := ⟨a.toNat, by omega⟩
    have hs : (s : Int) < v.1 0 := h.2
    have hu : (s : Int) < u.1 14 := by omega
    have e : anyN (u.1 14).toNat (inP u s) = anyN (v.1 0).toNat (wtB v (s : Int)) := by
      rw [n0]
      refine anyN_c fun k hk => ?_
      unfold inP wtB
      rw [S.sm.sv.a16, hb_nd (S.ci.a15 k) (by omega), S.sm.sv.a15, ndB_x]
    have hq := c_X6_isNeeded (u := u) (v := v) (g := gO p q) S.ci hu
    rw [e] at hq
    exact STP_o (w_isNeeded (by decide) okn_nn hq) okn_nn (by decide) (by decide) (c_X7_isNeeded S.mi ha (nonB_y h)) (by decide) rfl (bI_01 _) rfl (SIM_1 S (by decide))
  · exact STP_x (k := 1) (wx_isNeeded_1 (by decide) okn_nn (c_X6_isNeeded_x1 S.ci ha (by omega))) okn_nn (by decide) (by decide) (c_X7_isNeeded_x S.mi ha (nonB_n h)) (by decide) (by decide) (by first | (unfold rg; decide) | (unfold rgL; decide) | exact Or.inl rfl) rfl (SIM_1 S (by decide))
set_option maxHeartbeats 4000000 in
theorem st_startsIn {t : Int} {u v : SS} {p : Nat → Int} {q : Nat → UInt64} (S : SIM t u v) (ht : t ≤ 511) {a : Int} (ha : rg a) : STP t u v p q (fun x => vI x) rg yL_startsIn (wsh yL_startsIn cL_startsIn 4 (some .int) [((0), (9), (12), (21)), ((0), (9), (15), (15))]) [vR (some 1000), vI a, vR (some 100)] yX7_startsIn (wsy yX7_startsIn cX7_startsIn 3 (some .int)) [vR (some 0), vI a] := by
  have n0 := S.n
  have i0 := S.mi.s0
  by_cases h : 0 ≤ a ∧ a < v.1 0
  · obtain ⟨s, rfl⟩ : ∃ s : Nat, a = (s : Int) := ⟨a.toNat, by omega⟩
    have hs : (s : Int) < v.1 0 := h.2
    have hu : (s : Int) < u.1 14 := by omega
    have V := S.sm.sv
    have i1 := S.mi.a3 s
    have i2 := S.mi.a5 s
    have i3 := S.mi.s19
    by_cases h2 : v.2 4 s = 0
    · exact STP_x (k := 2) (wx_startsIn_2 (by decide) okn_nn (c_X6_startsIn_x2 S.ci hu (by rw [V.a16]; exact h2))) okn_nn (by decide) (by decide) (c_X7_startsIn_x2 S.mi ha (nonB_y h) h2) (by decide) (by decide) (by first | (unfold rg; decide) | (unfold rgL; decide) | exact Or.inl rfl) rfl (SIM_2 S (by decide))
    · refine STP_o (w_startsIn (by decide) okn_nn (by rw [V.a13, V.s1, V.a17]; split <;> (unfold rg; omega)) (c_X6_startsIn S.ci hu (by rw [V.a16]; exact h2))) okn_nn (by decide) (by decide) (c_X7_startsIn S.mi ha (nonB_y h) h2) (by decide) ?_ ?_ rfl (SIM_2 S (by decide))
      · rw [V.a13, V.s1, V.a17, Int.toNat_natCast]
        split <;> split <;> omega
      · rw [Int.toNat_natCast]
        split <;> (unfold rg; omega)
  · exact STP_x (k := 1) (wx_startsIn_1 (by decide) okn_nn (c_X6_startsIn_x1 S.ci ha (by omega))) okn_nn (by decide) (by decide) (c_X7_startsIn_x1 S.mi ha (nonB_n h)) (by decide) (by decide) (by first | (unfold rg; decide) | (unfold rgL; decide) | exact Or.inl rfl) rfl (SIM_1 S (by decide))
set_option maxHeartbeats 4000000 in
theorem st_stateOf {t : Int} {u v : SS} {p : Nat → Int} {q : Nat → UInt64} (S : SIM t u v) (ht : t ≤ 511) {a : Int} (ha : rg a) : STP t u v p q (fun x => vI x) rg yL_stateOf (wsh yL_stateOf cL_stateOf 4 (some .int) [((0), (9), (12), (21))]) [vR (some 1000), vI a, vR (some 100)] yX7_stateOf (wsy yX7_stateOf cX7_stateOf 2 (some .char)) [vR (some 0), vI a] := by
  have n0 := S.n
  have i0 := S.mi.s0
  by_cases h : 0 ≤ a ∧ a < v.1 0
  · obtain ⟨s, rfl⟩ : ∃ s : Nat, a = (s : Int) := ⟨a.toNat, by omega⟩
    have hs : (s : Int) < v.1 0 := h.2
    have hu : (s : Int) < u.1 14 := by omega
    obtain ⟨rk, hk⟩ := S.sm.rk
    have e : (if u.2 16 s ≠ 0 then (100 : Int) else if irB u s = true then 114 else 119) = if v.2 4 (s : Int).toNat ≠ 0 then 100 else if rn v 6 (s : Int).toNat = true then 114 else 119 := by rw [Int.toNat_natCast, S.sm.sv.a16, SIM_ir S hs]
    have er : rg (if u.2 16 s ≠ 0 then (100 : Int) else if irB u s = true then 114 else 119) := by
      split
      · unfold rg; decide
      · split <;> (unfold rg; decide)
    exact STP_o (w_stateOf (by decide) okn_nn er (c_X6_stateOf S.ci hu)) okn_nn (by decide) (by decide) (c_X7_stateOf S.mi hk ha (nonB_y h)) (by decide) e (e ▸ er) rfl (SIM_1 S (by decide))
  · exact STP_x (k := 1) (wx_stateOf_1 (by decide) okn_nn (c_X6_stateOf_x1 S.ci ha (by omega))) okn_nn (by decide) (by decide) (c_X7_stateOf_x S.mi ha (nonB_n h)) (by decide) (by decide) (by first | (unfold rg; decide) | (unfold rgL; decide) | exact Or.inl rfl) rfl (SIM_1 S (by decide))
set_option maxHeartbeats 4000000 in
theorem st_waitsFor {t : Int} {u v : SS} {p : Nat → Int} {q : Nat → UInt64} (S : SIM t u v) (ht : t ≤ 511) {a : Int} (ha : rg a) : STP t u v p q (fun x => vI x) rg yL_waitsFor (wsh yL_waitsFor cL_waitsFor 4 (some .int) [((0), (9), (12), (21)), ((0), (9), (15), (55))]) [vR (some 1000), vI a, vR (some 100)] yX7_waitsFor (wsy yX7_waitsFor cX7_waitsFor 3 (some .int)) [vR (some 0), vI a] := by
  have n0 := S.n
  have i0 := S.mi.s0
  by_cases h : 0 ≤ a ∧ a < v.1 0
  · obtain ⟨s, rfl⟩ : ∃ s : Nat, a = (s : Int) := ⟨a.toNat, by omega⟩
    have hs : (s : Int) < v.1 0 := h.2
    have hu : (s : Int) < u.1 14 := by omega
    obtain ⟨rk, hk⟩ := S.sm.rk
    have e : fnd (wfC u s) (u.1 14).toNat = fnd (wfB (stS v 26 0) s) (v.1 0).toNat := by
      rw [n0]
      refine fnd_c fun z hz => ?_
      unfold wfC wfB
      rw [hb_nd (S.ci.a15 s) (by omega), S.sm.sv.a15, SIM_ir S (s := z) (by omega), rn_26, ndB_x]
      rfl
    have hb1 := fnd_bd (p := wfB (stS v 26 0) s) (v.1 0).toNat
    by_cases h2 : 0 ≤ fnd (wfB (stS v 26 0) s) (v.1 0).toNat
    · exact STP_o (w_waitsFor (by decide) okn_nn (by rw [e]; unfold rg; omega) (c_X6_waitsFor S.ci hu (by rw [e]; exact h2))) okn_nn (by decide) (by decide) (c_X7_waitsFor S.mi hk ha (nonB_y h) h2) (by decide) e (by unfold rg; omega) rfl (SIM_1 S (by decide))
    · exact STP_x (k := 2) (wx_waitsFor_2 (by decide) okn_nn (c_X6_waitsFor_x2 S.ci hu (by rw [e]; omega))) okn_nn (by decide) (by decide) (c_X7_waitsFor_x2 S.mi hk ha (nonB_y h) (by omega)) (by decide) (by decide) (by first | (unfold rg; decide) | (unfold rgL; decide) | exact Or.inl rfl) rfl (SIM_2 S (by decide))
  · exact STP_x (k := 1) (wx_waitsFor_1 (by decide) okn_nn (c_X6_waitsFor_x1 S.ci ha (by omega))) okn_nn (by decide) (by decide) (c_X7_waitsFor_x S.mi ha (nonB_n h)) (by decide) (by decide) (by first | (unfold rg; decide) | (unfold rgL; decide) | exact Or.inl rfl) rfl (SIM_1 S (by decide))
set_option maxHeartbeats 4000000 in
theorem st_pagesIn {t : Int} {u v : SS} {p : Nat → Int} {q : Nat → UInt64} (S : SIM t u v) (ht : t ≤ 511) {a b : Int} (ha : rg a) (hb : 0 ≤ b ∧ b < 65536) : STP t u v p q (fun x => vI x) rg yL_pagesIn (wsh yL_pagesIn cL_pagesIn 5 (some .int) [((0), (10), (13), (21)), ((0), (10), (17), (13))]) [vR (some 1000), vI a, vI b, vR (some 100)] yX7_pagesIn (wsy yX7_pagesIn cX7_pagesIn 4 (some .int)) [vR (some 0), vI a, vI b] := by
  have n0 := S.n
  have i0 := S.mi.s0
  by_cases h : 0 ≤ a ∧ a < v.1 0
  · obtain ⟨s, rfl⟩ : ∃ s : Nat, a = (s : Int) := ⟨a.toNat, by omega⟩
    have hs : (s : Int) < v.1 0 := h.2
    have hu : (s : Int) < u.1 14 := by omega
    by_cases h2 : b = 102 ∨ b = 115 ∨ b = 100 ∨ b = 45
    · have e : cpN u s b = sumN 8 (ipf v (s : Int) (plI b)) ∧ 0 ≤ plI b := by
        rcases h2 with rfl | rfl | rfl | rfl
        · exact ⟨cp_ip S.sm.pg hs (x := 1) (by decide), by decide⟩
        · exact ⟨cp_ip S.sm.pg hs (x := 2) (by decide), by decide⟩
        · exact ⟨cp_ip S.sm.pg hs (x := 3) (by decide), by decide⟩
        · exact ⟨cp_ip S.sm.pg hs (x := 0) (by decide), by decide⟩
      have hbd := ipf_bd v (s : Int) (plI b)
      exact STP_o (w_pagesIn (by decide) okn_nn (by rw [e.1]; unfold rg; omega) (c_X6_pagesIn S.ci hu hb h2)) okn_nn (by decide) (by decide) (c_X7_pagesIn S.mi ha hb (nonB_y h) e.2) (by decide) e.1 (by unfold rg; omega) rfl (SIM_1 S (by decide))
    · have e : plI b < 0 := by unfold plI; rw [if_neg (by omega), if_neg (by omega), if_neg (by omega), if_neg (by omega)]; decide
      exact STP_x (k := 2) (wx_pagesIn_2 (by decide) okn_nn (c_X6_pagesIn_x2 S.ci hu hb (by omega))) okn_nn (by decide) (by decide) (c_X7_pagesIn_x2 S.mi ha hb (nonB_y h) e) (by decide) (by decide) (by first | (unfold rg; decide) | (unfold rgL; decide) | exact Or.inl rfl) rfl (SIM_1 S (by decide))
  · exact STP_x (k := 1) (wx_pagesIn_1 (by decide) okn_nn (c_X6_pagesIn_x1 S.ci ha (by omega))) okn_nn (by decide) (by decide) (c_X7_pagesIn_x1 S.mi ha hb (nonB_n h)) (by decide) (by decide) (by first | (unfold rg; decide) | (unfold rgL; decide) | exact Or.inl rfl) rfl (SIM_1 S (by decide))
set_option maxHeartbeats 4000000 in
theorem st_storedAt {t : Int} {u v : SS} {p : Nat → Int} {q : Nat → UInt64} (S : SIM t u v) (ht : t ≤ 511) {a : Int} (ha : rg a) : STP t u v p q (fun x => vI x) rg yL_storedAt (wsh yL_storedAt cL_storedAt 4 (some .int) [((0), (9), (12), (55))]) [vR (some 1000), vI a, vR (some 100)] yX7_storedAt (wsy yX7_storedAt cX7_storedAt 2 (some .int)) [vR (some 0), vI a] := by
  have n0 := S.n
  have i0 := S.mi.s0
  have hk := S.sm.pg.K
  have i16 := S.mi.s16
  by_cases h : 0 ≤ a ∧ a < v.1 16
  · obtain ⟨s, rfl⟩ : ∃ s : Nat, a = (s : Int) := ⟨a.toNat, by omega⟩
    have e : ((((u.2 3 s).toNat : Nat)) : Int) = v.2 17 (s : Int).toNat := by
      have h0 := S.ci.on (j := s) (by omega)
      have h1 := S.sm.pg.o
      have e1 := lsN_get (n := (u.1 11).toNat) (f := u.2 3) (i := s) (by omega)
      have e2 := lsN_get (n := (v.1 16).toNat) (f := v.2 17) (i := s) (by omega)
      unfold OL SL at h1
      rw [h1, e2] at e1
      have e3 := Option.some.inj e1
      rw [Int.toNat_natCast, e3]
      omega
    exact STP_o (w_storedAt (by decide) okn_nn (by rw [e]; have := S.mi.a17 (s : Int).toNat; unfold rg; omega) (c_X6_storedAt S.ci (by omega))) okn_nn (by decide) (by decide) (c_X7_storedAt S.mi ha h) (by decide) e (by have := S.mi.a17 (s : Int).toNat; unfold rg; omega) rfl (SIM_1 S (by decide))
  · exact STP_x (k := 1) (wx_storedAt_1 (by decide) okn_nn (c_X6_storedAt_x S.ci ha (by omega))) okn_nn (by decide) (by decide) (c_X7_storedAt_x S.mi ha (inB_n (by omega))) (by decide) (by decide) (by first | (unfold rg; decide) | (unfold rgL; decide) | exact Or.inl rfl) rfl (SIM_1 S (by decide))
set_option maxHeartbeats 4000000 in
theorem st_victim {t : Int} {u v : SS} {p : Nat → Int} {q : Nat → UInt64} (S : SIM t u v) (ht : t ≤ 511) : STP t u v p q (fun x => vI x) rg yL_victim (wsh yL_victim cL_victim 3 (some .int) [((0), (8), (11), (55))]) [vR (some 1000), vR (some 100)] yX7_victim (wsy yX7_victim cX7_victim 1 (some .int)) [vR (some 0)] := by
  have n0 := S.n
  have i0 := S.mi.s0
  have e := cw_ws S.sm.pg S.sm.sv (v.1 0).toNat (by omega)
  have hb := wst_bd v (v.1 0).toNat
  by_cases h : 0 ≤ wst v (v.1 0).toNat
  · obtain ⟨s, es⟩ : ∃ s : Nat, wst v (v.1 0).toNat = (s : Int) := ⟨(wst v (v.1 0).toNat).toNat, by omega⟩
    exact STP_o (w_victim (by decide) okn_nn (by unfold rg; omega) (c_X6_victim S.ci (s := s) (by rw [n0, e, es]))) okn_nn (by decide) (by decide) (c_X7_victim S.mi h) (by decide) es.symm (by unfold rg; omega) rfl (SIM_1 S (by decide))
  · exact STP_x (k := 1) (wx_victim_1 (by decide) okn_nn (c_X6_victim_x S.ci (by rw [n0, e]; omega))) okn_nn (by decide) (by decide) (c_X7_victim_x S.mi (by omega)) (by decide) (by decide) (by first | (unfold rg; decide) | (unfold rgL; decide) | exact Or.inl rfl) rfl (SIM_1 S (by decide))
set_option maxHeartbeats 4000000 in
theorem st_addService {t : Int} {u v : SS} {p : Nat → Int} {q : Nat → UInt64} (S : SIM t u v) (ht : t ≤ 511) {a b c : Int} (ha : rg a) (hb : 0 ≤ b ∧ b < 65536) (hc : rg c) : STP t u v p q (fun x => vI x) rg yL_addService (wsh yL_addService cL_addService 6 (some .int) [((0), (12), (15), (13)), ((0), (12), (19), (15))]) [vR (some 1000), vI a, vI b, vI c, vR (some 100)] yX7_addService (wsy yX7_addService cX7_addService 5 (some .int)) [vR (some 0), vI a, vI b, vI c] := by
  have n0 := S.n
  have i0 := S.mi.s0
  by_cases hw : 0 ≤ a ∧ a ≤ 100
  · by_cases hp : b = 97 ∨ b = 110
    · by_cases hd : 1 ≤ c ∧ c ≤ 20
      · have hx := asX_y hw hp hd
        by_cases h6 : v.1 0 < 6
        · obtain ⟨n, en⟩ : ∃ n : Nat, u.1 14 = (n : Int) := ⟨(u.1 14).toNat, by omega⟩
          have hn6 : n < 6 := by omega
          have M := SM_addService S.sm en hn6 S.cap hx (by omega)
          refine STP_o (w_addService (by decide) (okn_A hn6) (by unfold rg; omega) (c_X6_addService S.ci en hn6 S.cap hw (by omega) hp hd)) (okn_A hn6) (by decide) (by decide) (c_X7_addService S.mi ha hb hc hx h6) (by decide) (by omega) (by unfold rg; omega) rfl (SIM_c S M (fun k h => ?_) (fun x j h => ?_) (by show v.1 21 ≤ _; omega) ?_)
          · show (if k = 0 then _ else if k = 26 then 0 else v.1 k) = _
            rw [if_neg (by omega), if_neg (by omega)]
          · show (if x = 9 then _ else (stA (stA (stA (stS v 26 0) 1 _ a) 2 _ b) 3 _ c).2 x) j = _
            rw [if_neg (by omega), stA_o (by omega), stA_o (by omega), stA_o (by omega)]
            rfl
          · show (if u.1 15 = 0 then (10 : Int) else u.1 15) = 0 ∨ (if u.1 15 = 0 then (10 : Int) else u.1 15) = 10
            have := S.cap
            split <;> omega
        · exact STP_x (k := 2) (wx_addService_2 (by decide) okn_nn (c_X6_addService_x4 S.ci hw (by omega) hp hd (by omega))) okn_nn (by decide) (by decide) (c_X7_addService_x2 S.mi ha hb hc hx (by omega)) (by decide) (by decide) (by first | (unfold rg; decide) | (unfold rgL; decide) | exact Or.inl rfl) rfl (SIM_1 S (by decide))
      · exact STP_x (k := 1) (wx_addService_1 (by decide) okn_nn (c_X6_addService_x3 S.ci hw (by omega) hp hc hd)) okn_nn (by decide) (by decide) (c_X7_addService_x1 S.mi ha hb hc (asX_3 hd)) (by decide) (by decide) (by first | (unfold rg; decide) | (unfold rgL; decide) | exact Or.inl rfl) rfl (SIM_1 S (by decide))
    · exact STP_x (k := 1) (wx_addService_1 (by decide) okn_nn (c_X6_addService_x2 S.ci hw (by omega) hp)) okn_nn (by decide) (by decide) (c_X7_addService_x1 S.mi ha hb hc (asX_2 hp)) (by decide) (by decide) (by first | (unfold rg; decide) | (unfold rgL; decide) | exact Or.inl rfl) rfl (SIM_1 S (by decide))
  · exact STP_x (k := 1) (wx_addService_1 (by decide) okn_nn (c_X6_addService_x1 S.ci ha hw)) okn_nn (by decide) (by decide) (c_X7_addService_x1 S.mi ha hb hc (asX_1 hw)) (by decide) (by decide) (by first | (unfold rg; decide) | (unfold rgL; decide) | exact Or.inl rfl) rfl (SIM_1 S (by decide))
set_option maxHeartbeats 4000000 in
theorem st_addNeed {t : Int} {u v : SS} {p : Nat → Int} {q : Nat → UInt64} (S : SIM t u v) (ht : t ≤ 511) {a b : Int} (ha : rg a) (hb : rg b) : STP t u v p q (fun x => vI x) rg yL_addNeed (wsh yL_addNeed cL_addNeed 5 (some .int) [((0), (10), (13), (21)), ((0), (10), (17), (13)), ((0), (10), (21), (23))]) [vR (some 1000), vI a, vI b, vR (some 100)] yX7_addNeed (wsy yX7_addNeed cX7_addNeed 5 (some .int)) [vR (some 0), vI a, vI b] := by
  have n0 := S.n
  have i0 := S.mi.s0
  by_cases h : 0 ≤ a ∧ a < v.1 0
  · obtain ⟨s, rfl⟩ : ∃ s : Nat, a = (s : Int) := ⟨a.toNat, by omega⟩
    have hs : (s : Int) < v.1 0 := h.2
    have hu : (s : Int) < u.1 14 := by omega
    by_cases h2 : 0 ≤ b ∧ b < v.1 0
    · obtain ⟨o, rfl⟩ : ∃ o : Nat, b = (o : Int) := ⟨b.toNat, by omega⟩
      have ho : (o : Int) < v.1 0 := h2.2
      have huo : (o : Int) < u.1 14 := by omega
      by_cases h3 : s = o
      · exact STP_x (k := 2) (wx_addNeed_2 (by decide) okn_nn (c_X6_addNeed_x3 S.ci hu huo h3)) okn_nn (by decide) (by decide) (c_X7_addNeed_x2 S.mi hs ho h3) (by decide) (by decide) (by first | (unfold rg; decide) | (unfold rgL; decide) | exact Or.inl rfl) rfl (SIM_1 S (by decide))
      · obtain ⟨rk, hk⟩ := S.sm.rk
        have er := ano_ral S.ci.a15 S.sm.sv.a15 n0 hk S.mi S.sm.nb ho (j := s) (by omega)
        by_cases h4 : ral v s 6 o = true
        · have h5 := ral_6 hk S.mi (by omega) h4
          exact STP_x (k := 3) (wx_addNeed_3 (by decide) okn_nn (c_X6_addNeed_x4 S.ci hu huo h3 (er.trans h5))) okn_nn (by decide) (by decide) (c_X7_addNeed_x3 S.mi hk hs ho h3 h4) (by decide) (by decide) (by first | (unfold rg; decide) | (unfold rgL; decide) | exact Or.inl rfl) rfl (SIM_1 S (by decide))
        · have h4f : ral v s 6 o = false := by cases e : ral v s 6 o; rfl; exact absurd e h4
          have h5 : ral v s 5 o = false := by
            cases e : ral v s 5 o
            · rfl
            · exact absurd (ral_le (by decide) e) h4
          have M := SM_addNeed S.sm hs ho h3 h4f
          have e15 : (anC u s o).2 15 s = (anM v s o).2 7 s := M.sv.a15 s
          have eb : bcE ((anC u s o).2 15 s) = sumN (v.1 0).toNat (ndI (anM v s o) s) := by rw [e15]; exact bcE_nd M.mi M.nb s
          have hbd := ndI_bd (anM v s o) s (v.1 0).toNat
          refine STP_o (w_addNeed (by decide) okn_nn (by rw [eb]; unfold rg; omega) (c_X6_addNeed S.ci hu huo h3 (er.trans h5))) okn_nn (by decide) (by decide) (c_X7_addNeed S.mi hk hs ho h3 h4f) (by decide) eb (by unfold rg; omega) rfl (SIM_c S M (fun k h => ?_) (fun x j h => ?_) (by show v.1 21 ≤ _; omega) S.cap)
          · show (if k = 26 then 0 else v.1 k) = _
            rw [if_neg (by omega)]
          · unfold anM
            rw [stA_o (by omega)]
            rfl
    · exact STP_x (k := 1) (wx_addNeed_1 (by decide) okn_nn (c_X6_addNeed_x2 S.ci hu hb (by omega))) okn_nn (by decide) (by decide) (c_X7_addNeed_x1 S.mi ha hb (by rw [nonB_n h2]; simp)) (by decide) (by decide) (by first | (unfold rg; decide) | (unfold rgL; decide) | exact Or.inl rfl) rfl (SIM_1 S (by decide))
  · exact STP_x (k := 1) (wx_addNeed_1 (by decide) okn_nn (c_X6_addNeed_x1 S.ci ha (by omega))) okn_nn (by decide) (by decide) (c_X7_addNeed_x1 S.mi ha hb (by rw [nonB_n h]; rfl)) (by decide) (by decide) (by first | (unfold rg; decide) | (unfold rgL; decide) | exact Or.inl rfl) rfl (SIM_1 S (by decide))
