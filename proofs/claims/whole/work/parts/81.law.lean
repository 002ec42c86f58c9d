/-! THE LAW'S LOOP AND ITS START -/
theorem bAnd_31 (x : Int) : 0 ≤ bAnd x 31 ∧ bAnd x 31 ≤ 31 := by
  have h : ((iI x).toBitVec &&& (31#32)).toNat ≤ 31 := by
    rw [BitVec.toNat_and]
    exact Nat.and_le_right
  have e : bAnd x 31 = (((iI x).toBitVec &&& (31#32)).toNat : Int) := by
    show ((iI x).toBitVec &&& (31#32)).toInt = _
    exact BitVec.toInt_eq_toNat_of_lt (by omega)
  omega
section LWL
variable {k : Kx} {b L : Nat} {xs : Nat → Int32}
set_option maxHeartbeats 4000000 in
set_option maxRecDepth 20000 in
theorem lw_turn {t : Int} {u v : SS} {p : Nat → Int} {q : Nat → UInt64} {ct sl : Nat} (X : LX k b L xs) (S : SIM t u v) (hi : 4 * t + 4 ≤ (L : Int)) (hct : ct + 40 ≤ 603072) (hsl : sl + 2500 ≤ 7202922) (kk : ∀ (u2 v2 : SS) (p2 : Nat → Int) (q2 : Nat → UInt64), SIM (t + 1) u2 v2 → EV k 1792 (lL t) [] (mk u2 v2 (gO p2 q2)) (ct + 40) (sl + 2500)) : EV k 44 (lL t) [vI (bAnd (sc xs (4 * t)) 31)] (mk u v (gO p q)) ct sl := by
  have C := X.C
  have hx := bAnd_31 (sc xs (4 * t))
  generalize bAnd (sc xs (4 * t)) 31 = x at hx ⊢
  have h32 : x = 0 ∨ x = 1 ∨ x = 2 ∨ x = 3 ∨ x = 4 ∨ x = 5 ∨ x = 6 ∨ x = 7 ∨ x = 8 ∨ x = 9 ∨ x = 10 ∨ x = 11 ∨ x = 12 ∨ x = 13 ∨ x = 14 ∨ x = 15 ∨ x = 16 ∨ x = 17 ∨ x = 18 ∨ x = 19 ∨ x = 20 ∨ x = 21 ∨ x = 22 ∨ x = 23 ∨ x = 24 ∨ x = 25 ∨ x = 26 ∨ x = 27 ∨ x = 28 ∨ x = 29 ∨ x = 30 ∨ x = 31 := by omega
  rcases h32 with rfl | rfl | rfl | rfl | rfl | rfl | rfl | rfl | rfl | rfl | rfl | rfl | rfl | rfl | rfl | rfl | rfl | rfl | rfl | rfl | rfl | rfl | rfl | rfl | rfl | rfl | rfl | rfl | rfl | rfl | rfl | rfl
  · exact ev_tab C dL_law_44 (off := 144) (tgt := 188) (by unfold rg; omega) (by decide) (by decide) rfl (by decide) (cs_0 X S hi hct hsl kk)
  · exact ev_tab C dL_law_44 (off := 226) (tgt := 270) (by unfold rg; omega) (by decide) (by decide) rfl (by decide) (cs_1 X S hi hct hsl kk)
  · exact ev_tab C dL_law_44 (off := 294) (tgt := 338) (by unfold rg; omega) (by decide) (by decide) rfl (by decide) (cs_2 X S hi hct hsl kk)
  · exact ev_tab C dL_law_44 (off := 374) (tgt := 418) (by unfold rg; omega) (by decide) (by decide) rfl (by decide) (cs_3 X S hi hct hsl kk)
  · exact ev_tab C dL_law_44 (off := 430) (tgt := 474) (by unfold rg; omega) (by decide) (by decide) rfl (by decide) (cs_4 X S hi hct hsl kk)
  · exact ev_tab C dL_law_44 (off := 486) (tgt := 530) (by unfold rg; omega) (by decide) (by decide) rfl (by decide) (cs_5 X S hi hct hsl kk)
  · exact ev_tab C dL_law_44 (off := 542) (tgt := 586) (by unfold rg; omega) (by decide) (by decide) rfl (by decide) (cs_6 X S hi hct hsl kk)
  · exact ev_tab C dL_law_44 (off := 610) (tgt := 654) (by unfold rg; omega) (by decide) (by decide) rfl (by decide) (cs_7 X S hi hct hsl kk)
  · exact ev_tab C dL_law_44 (off := 666) (tgt := 710) (by unfold rg; omega) (by decide) (by decide) rfl (by decide) (cs_8 X S hi hct hsl kk)
  · exact ev_tab C dL_law_44 (off := 679) (tgt := 723) (by unfold rg; omega) (by decide) (by decide) rfl (by decide) (cs_9 X S hi hct hsl kk)
  · exact ev_tab C dL_law_44 (off := 747) (tgt := 791) (by unfold rg; omega) (by decide) (by decide) rfl (by decide) (cs_10 X S hi hct hsl kk)
  · exact ev_tab C dL_law_44 (off := 815) (tgt := 859) (by unfold rg; omega) (by decide) (by decide) rfl (by decide) (cs_11 X S hi hct hsl kk)
  · exact ev_tab C dL_law_44 (off := 883) (tgt := 927) (by unfold rg; omega) (by decide) (by decide) rfl (by decide) (cs_12 X S hi hct hsl kk)
  · exact ev_tab C dL_law_44 (off := 958) (tgt := 1002) (by unfold rg; omega) (by decide) (by decide) rfl (by decide) (cs_13 X S hi hct hsl kk)
  · exact ev_tab C dL_law_44 (off := 971) (tgt := 1015) (by unfold rg; omega) (by decide) (by decide) rfl (by decide) (cs_14 X S hi hct hsl kk)
  · exact ev_tab C dL_law_44 (off := 984) (tgt := 1028) (by unfold rg; omega) (by decide) (by decide) rfl (by decide) (cs_15 X S hi hct hsl kk)
  · exact ev_tab C dL_law_44 (off := 997) (tgt := 1041) (by unfold rg; omega) (by decide) (by decide) rfl (by decide) (cs_16 X S hi hct hsl kk)
  · exact ev_tab C dL_law_44 (off := 1053) (tgt := 1097) (by unfold rg; omega) (by decide) (by decide) rfl (by decide) (cs_17 X S hi hct hsl kk)
  · exact ev_tab C dL_law_44 (off := 1066) (tgt := 1110) (by unfold rg; omega) (by decide) (by decide) rfl (by decide) (cs_18 X S hi hct hsl kk)
  · exact ev_tab C dL_law_44 (off := 1136) (tgt := 1180) (by unfold rg; omega) (by decide) (by decide) rfl (by decide) (cs_19 X S hi hct hsl kk)
  · exact ev_tab C dL_law_44 (off := 1149) (tgt := 1193) (by unfold rg; omega) (by decide) (by decide) rfl (by decide) (cs_20 X S hi hct hsl kk)
  · exact ev_tab C dL_law_44 (off := 1204) (tgt := 1248) (by unfold rg; omega) (by decide) (by decide) rfl (by decide) (cs_21 X S hi hct hsl kk)
  · exact ev_tab C dL_law_44 (off := 1260) (tgt := 1304) (by unfold rg; omega) (by decide) (by decide) rfl (by decide) (cs_22 X S hi hct hsl kk)
  · exact ev_tab C dL_law_44 (off := 1316) (tgt := 1360) (by unfold rg; omega) (by decide) (by decide) rfl (by decide) (cs_23 X S hi hct hsl kk)
  · exact ev_tab C dL_law_44 (off := 1379) (tgt := 1423) (by unfold rg; omega) (by decide) (by decide) rfl (by decide) (cs_24 X S hi hct hsl kk)
  · exact ev_tab C dL_law_44 (off := 1435) (tgt := 1479) (by unfold rg; omega) (by decide) (by decide) rfl (by decide) (cs_25 X S hi hct hsl kk)
  · exact ev_tab C dL_law_44 (off := 1491) (tgt := 1535) (by unfold rg; omega) (by decide) (by decide) rfl (by decide) (cs_26 X S hi hct hsl kk)
  · exact ev_tab C dL_law_44 (off := 1547) (tgt := 1591) (by unfold rg; omega) (by decide) (by decide) rfl (by decide) (cs_27 X S hi hct hsl kk)
  · exact ev_tab C dL_law_44 (off := 1591) (tgt := 1635) (by unfold rg; omega) (by decide) (by decide) rfl (by decide) (cs_28 X S hi hct hsl kk)
  · exact ev_tab C dL_law_44 (off := 1604) (tgt := 1648) (by unfold rg; omega) (by decide) (by decide) rfl (by decide) (cs_29 X S hi hct hsl kk)
  · exact ev_tab C dL_law_44 (off := 1670) (tgt := 1714) (by unfold rg; omega) (by decide) (by decide) rfl (by decide) (cs_30 X S hi hct hsl kk)
  · exact ev_tab C dL_law_44 (off := 1735) (tgt := 1779) (by unfold rg; omega) (by decide) (by decide) rfl (by decide) (cs_31 X S hi hct hsl kk)
set_option maxHeartbeats 4000000 in
set_option maxRecDepth 20000 in
theorem lw_loop (X : LX k b L xs) : ∀ (n : Nat) (t : Int) (u v : SS) (p : Nat → Int) (q : Nat → UInt64) (ct sl : Nat), SIM t u v → (L : Int) ≤ 4 * t + 4 * n + 3 → ct + 40 * n ≤ 603072 → sl + 2500 * n ≤ 7202922 → t ≤ 512 → EV k 28 (lL t) [] (mk u v (gO p q)) ct sl := by
  have C := X.C
  have hL := X.hL
  intro n
  induction n with
  | zero =>
    intro t u v p q ct sl S h1 h2 h3 h4
    have hT := S.1
    refine ev_s C dL_law_28 (q := 30) rfl rfl ?_
    refine ev_s C dL_law_30 (q := 31) rfl rfl ?_
    refine ev_slen X dL_law_31 (q := 32) rfl ?_
    refine ev_s C dL_law_32 (q := 33) rfl rfl ?_
    refine ev_s C dL_law_33 (q := 34) rfl rfl ?_
    refine ev_icmp_gt C dL_law_34 (tgt := 1798) (q := 37) (by decide) rfl (by unfold rg; omega) (by show rg ((L : Int) - ((4 : Nat) : Int)); unfold rg; omega) (fun h => ?_) (fun h => ?_)
    · refine ev_s C dL_law_1798 (q := 1799) rfl rfl ?_
      exact ev_zret C X.rt (fit_Z (Or.inr rfl)) dL_law_1799 (by rw [X.mc]; omega) (by rw [X.ms]; omega) (X.po _)
    · exact absurd (show (L : Int) - ((4 : Nat) : Int) < 4 * t by omega) h
  | succ n ih =>
    intro t u v p q ct sl S h1 h2 h3 h4
    have hT := S.1
    refine ev_s C dL_law_28 (q := 30) rfl rfl ?_
    refine ev_s C dL_law_30 (q := 31) rfl rfl ?_
    refine ev_slen X dL_law_31 (q := 32) rfl ?_
    refine ev_s C dL_law_32 (q := 33) rfl rfl ?_
    refine ev_s C dL_law_33 (q := 34) rfl rfl ?_
    refine ev_icmp_gt C dL_law_34 (tgt := 1798) (q := 37) (by decide) rfl (by unfold rg; omega) (by show rg ((L : Int) - ((4 : Nat) : Int)); unfold rg; omega) (fun h => ?_) (fun h => ?_)
    · refine ev_s C dL_law_1798 (q := 1799) rfl rfl ?_
      exact ev_zret C X.rt (fit_Z (Or.inr rfl)) dL_law_1799 (by rw [X.mc]; omega) (by rw [X.ms]; omega) (X.po _)
    · have hi : 4 * t + 4 ≤ (L : Int) := by
        have h0 : ¬ ((L : Int) - ((4 : Nat) : Int) < 4 * t) := h
        omega
      refine ev_s C dL_law_37 (q := 38) rfl rfl ?_
      refine ev_s C dL_law_38 (q := 40) rfl rfl ?_
      refine ev_sld X dL_law_40 (q := 41) rfl (by omega) ?_
      refine ev_s C dL_law_41 (q := 43) rfl rfl ?_
      refine ev_s C dL_law_43 (q := 44) rfl rfl ?_
      refine lw_turn X S hi (by omega) (by omega) (fun u2 v2 p2 q2 S2 => ?_)
      refine ev_s C dL_law_1792 (q := 1795) rfl rfl ?_
      refine ev_goto C dL_law_1795 (tgt := 28) (by decide) ?_
      refine ev_eqL (lv := lL (t + 1)) (by show [_, _, _, _, _, (5, vI (4 * t + 4))] = _; rw [show 4 * t + 4 = 4 * (t + 1) by omega]) ?_
      exact ih (t + 1) u2 v2 p2 q2 _ _ S2 (by omega) (by omega) (by omega) (by omega)
end LWL
/-- nothing named yet -/
def g00 : GH := fun _ => none
def gC0 : GH := gup g00 1000 (.inl (9, cb0))
theorem gC0_n {n : Nat} (h : n ≠ 1000) : gC0 n = none := gup_ne h
theorem gM0 : gup (cG5 gC0) 0 (.inl (10, fs0)) = mI fs0 0 uz iv0 g00 := by
  funext n
  by_cases e : n = 0
  · subst e
    rw [gup_self]
    rfl
  · rw [gup_ne e]
    unfold mI
    rw [if_neg e]
    by_cases h1 : n < 100
    · rw [if_pos h1, if_neg (by omega), cG5_o (by omega), gC0_n (by omega)]
    · rw [if_neg h1]
      by_cases h2 : n < 1000
      · rw [if_pos h2, cG5_o (by omega), gC0_n (by omega)]
        rfl
      · rw [if_neg h2]
        exact cG5_e (by omega) (fun m hm => gC0_n (by omega)) (gC0_n (by decide))
theorem gO_new {u v : SS} : gup (gup (mk u v g00) 100 (.inr (1, 1, fun _ => vL 0))) 101 (.inr (4, 1, fun _ => vD 0)) = mk u v (gO (fun _ => 0) (fun _ => 0)) := by
  funext n
  by_cases e : n = 101
  · subst e; rw [gup_self]; rfl
  · rw [gup_ne e]
    by_cases e1 : n = 100
    · subst e1; rw [gup_self]; rfl
    · rw [gup_ne e1]
      unfold mk gO
      by_cases h1 : n < 100
      · rw [if_pos h1, if_pos h1]
      · rw [if_neg h1, if_neg h1]
        by_cases h2 : n < 1000
        · rw [if_pos h2, if_pos h2, if_neg e1, if_neg e]; rfl
        · rw [if_neg h2, if_neg h2]
set_option maxHeartbeats 4000000 in
set_option maxRecDepth 20000 in
theorem lw_body {k : Kx} {b L : Nat} {xs : Nat → Int32} (X : LX k b L xs) (S0 : SIM 0 uz (iv 16)) : EV k 0 [(0, vR (some 500))] [] g00 0 0 := by
  have C := X.C
  have hL := X.hL
  refine ev_new (n := 1000) (G' := gC0) C dL_law_0 kn_L_8 (q := 3) rfl rfl (by unfold fgn; decide) (by rw [X.nw]; unfold nwW; decide) (by rw [X.mc]; decide) (by rw [X.ms]; exact Nat.le_of_ble_eq_true rfl) rfl ?_
  refine ev_s C dL_law_3 (q := 4) rfl rfl ?_
  refine ev_cIn C dL_law_4 (q := 7) rfl km_L_106 ki_X6_init kc_X6_init (c_X6_init (G := gC0) rfl (fun n h => gC0_n (by omega))) (st := [vR (some 1000)]) rfl rfl (by rw [X.lev]; decide) (by decide) (by decide) (by rw [X.mc]; decide) (by rw [X.ms]; exact Nat.le_of_ble_eq_true rfl) (fun m hm => by rw [X.nw]; unfold nwC at hm; unfold nwW; omega) (nvA_c (fun n e => by cases e; unfold nwC; omega) nvA_0) (nvB_c (fun n e => by cases e; unfold nwC; omega) nvB_0) ?_
  refine ev_s C dL_law_7 (q := 8) rfl rfl ?_
  refine ev_new (n := 0) (G' := mI fs0 0 uz iv0 g00) C dL_law_8 kn_L_107 (q := 11) rfl (by rw [cG5_o (by decide)]; exact gC0_n (by decide)) (by unfold fgn; decide) (by rw [X.nw]; unfold nwW; decide) (by rw [X.mc]; decide) (by rw [X.ms]; exact Nat.le_of_ble_eq_true rfl) gM0 ?_
  refine ev_s C dL_law_11 (q := 12) rfl rfl ?_
  refine ev_cIn C dL_law_12 (q := 15) rfl km_L_109 ki_X7_init kc_X7_init c_X7_init (st := [vR (some 0)]) rfl rfl (by rw [X.lev]; decide) (by decide) (by decide) (by rw [X.mc]; decide) (by rw [X.ms]; exact Nat.le_of_ble_eq_true rfl) (fun m hm => by rw [X.nw]; unfold nwM at hm; unfold nwW; omega) (nvA_c (fun n e => by cases e; unfold nwM; omega) (nvA_c (fun n e => by cases e; unfold nwM; omega) nvA_0)) (nvB_c (fun n e => by cases e; unfold nwM; omega) nvB_0) ?_
  refine ev_s C dL_law_15 (q := 16) rfl rfl ?_
  refine ev_s C dL_law_16 (q := 17) rfl rfl ?_
  refine ev_newa (t := 1) (N := 1) (n := 100) (dv := vL 0) C dL_law_17 (q := 19) rfl (by decide) rfl ka_long (fun _ => rfl) rfl rfl (by decide) rfl (by unfold fgn; decide) (by rw [X.nw]; unfold nwW; decide) (by rw [X.mc]; decide) (by rw [X.ms]; exact Nat.le_of_ble_eq_true rfl) rfl ?_
  refine ev_s C dL_law_19 (q := 20) rfl rfl ?_
  refine ev_s C dL_law_20 (q := 21) rfl rfl ?_
  refine ev_newa (t := 4) (N := 1) (n := 101) (dv := vD 0) (G' := mk uz (iv 16) (gO (fun _ => 0) (fun _ => 0))) C dL_law_21 (q := 23) rfl (by decide) rfl ka_double (fun _ => rfl) rfl rfl (by decide) (by rw [gup_ne (by decide)]; rfl) (by unfold fgn; decide) (by rw [X.nw]; unfold nwW; decide) (by rw [X.mc]; decide) (by rw [X.ms]; exact Nat.le_of_ble_eq_true rfl) gO_new ?_
  refine ev_s C dL_law_23 (q := 25) rfl rfl ?_
  refine ev_s C dL_law_25 (q := 26) rfl rfl ?_
  refine ev_s C dL_law_26 (q := 28) rfl rfl ?_
  exact ev_keep [0, 1, 2, 3, 4, 5] rfl (lw_loop X 512 0 uz (iv 16) _ _ _ _ S0 (by omega) (by decide) (Nat.le_of_ble_eq_true rfl) (by decide))
