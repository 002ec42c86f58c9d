/-! THE CLASS: its start -/
def al0 : List AV := [vI 0, vR none, vI 0]
def al1 : List AV := [vI 0, vR (some 1013), vI 0]
set_option maxHeartbeats 4000000 in
set_option maxRecDepth 100000 in
theorem c_AC_init {G : GH} {x : Nat} : Cn yJxa1e45_init_da8c8 (wsy yJxa1e45_init_da8c8 cJxa1e45_init_da8c8 1 none) 0 0 0 nn [vR (some x)] G (.inl (none, G)) := by
  refine con_m (lv := [(0, vR (some x))]) (by decide) ⟨fun h => h, fun h => h, fun h => h⟩ (fun ad => Nat.le_of_ble_eq_true rfl) (fun ad => rfl) rfl ?_
  intro k C hr hin hkG hlv hmc hms hw hPo hPx htab
  refine ev_s C dJxa1e45_init_da8c8_0 (q := 1) rfl rfl ?_
  refine ev_objInit C dJxa1e45_init_da8c8_1 (q := 4) rfl kb_Jxa1e45_1 ko_1 ko_2 rfl ?_
  exact ev_vret C hr dJxa1e45_init_da8c8_4 (by rw [hmc]; decide) (by rw [hms]; decide) (po_0 hPo rfl)
set_option maxHeartbeats 4000000 in
set_option maxRecDepth 100000 in
theorem c_ALs_init {G : GH} {x : Nat} (h : G x = some (.inl (2, al0))) : Cn yJxc12de_init_da8c8 (wsy yJxc12de_init_da8c8 cJxc12de_init_da8c8 1 none) 1 0 0 nn [vR (some x)] G (.inl (none, gup G x (.inl (2, al0)))) := by
  refine con_m (lv := [(0, vR (some x))]) (by decide) ⟨fun h => h, fun h => h, fun h => h⟩ (fun ad => Nat.le_of_ble_eq_true rfl) (fun ad => rfl) rfl ?_
  intro k C hr hin hkG hlv hmc hms hw hPo hPx htab
  refine ev_s C dJxc12de_init_da8c8_0 (q := 1) rfl rfl ?_
  refine ev_cIn C dJxc12de_init_da8c8_1 (q := 4) rfl km_Jxc12de_1 ki_Jxa1e45_init_da8c8 kc_Jxa1e45_init_da8c8 (c_AC_init) rfl rfl (by rw [hlv]; decide) (by decide) (Nat.le_of_ble_eq_true rfl) (by rw [hmc]; decide) (by rw [hms]; decide) (fun _ h => h.elim) (nvA_nn _) (nvB_nn _) ?_
  refine ev_s C dJxc12de_init_da8c8_4 (q := 5) rfl rfl ?_
  refine ev_s C dJxc12de_init_da8c8_5 (q := 6) rfl rfl ?_
  refine ev_put (j := 0) C dJxc12de_init_da8c8_6 kf_Jxc12de_7 (q := 9) rfl (fit_I _) h (by decide) rfl ?_
  exact ev_vret C hr dJxc12de_init_da8c8_9 (by rw [hmc]; decide) (by rw [hms]; decide) (po_0 hPo rfl)
set_option maxHeartbeats 4000000 in
set_option maxRecDepth 100000 in
theorem c_AR_init {G : GH} {x : Nat} (h : G x = some (.inl (2, al0))) : Cn yJx4a65c_init_da8c8 (wsy yJx4a65c_init_da8c8 cJx4a65c_init_da8c8 1 none) 2 0 0 nn [vR (some x)] G (.inl (none, gup G x (.inl (2, al1)))) := by
  refine con_m (lv := [(0, vR (some x))]) (by decide) ⟨fun h => h, fun h => h, fun h => h⟩ (fun ad => Nat.le_of_ble_eq_true rfl) (fun ad => rfl) rfl ?_
  intro k C hr hin hkG hlv hmc hms hw hPo hPx htab
  refine ev_s C dJx4a65c_init_da8c8_0 (q := 1) rfl rfl ?_
  refine ev_cIn C dJx4a65c_init_da8c8_1 (q := 4) rfl km_Jx4a65c_1 ki_Jxc12de_init_da8c8 kc_Jxc12de_init_da8c8 (c_ALs_init h) rfl rfl (by rw [hlv]; decide) (by decide) (Nat.le_of_ble_eq_true rfl) (by rw [hmc]; decide) (by rw [hms]; decide) (fun _ h => h.elim) (nvA_nn _) (nvB_nn _) ?_
  refine ev_s C dJx4a65c_init_da8c8_4 (q := 5) rfl rfl ?_
  refine ev_getS C dJx4a65c_init_da8c8_5 (q := 8) rfl (q9 94 (by decide +kernel) (by decide +kernel)) ?_
  refine ev_put (j := 1) C dJx4a65c_init_da8c8_8 kf_Jx4a65c_9 (q := 11) rfl (fit_A _ _) gup_self (by decide) gup_gup ?_
  exact ev_vret C hr dJx4a65c_init_da8c8_11 (by rw [hmc]; decide) (by rw [hms]; decide) (po_0 hPo rfl)
def nw2 (a b : Nat) : Nat → Prop := fun n => n = a ∨ n = b
def nw1 (a : Nat) : Nat → Prop := fun n => n = a
def hi0 : List AV := [vR none, vI 0, vR none]
def hi1 : List AV := [vR (some 1002), vI 0, vR none]
def hi2 : List AV := [vR (some 1002), vI 0, vR (some 1003)]
def hiG (G : GH) : GH := gup (gup (gup (gup G 1002 (.inr (0, 2048, fun _ => vI 0))) 1001 (.inl (4, hi1))) 1003 (.inr (3, 48, fun _ => vI 0))) 1001 (.inl (4, hi2))
def fr1 : List AV := [vR (some 1005), vI 0, vI 0]
def fr2 : List AV := [vR (some 1005), vI 4, vI 0]
def frG (G : GH) : GH := gup (gup (gup G 1005 (.inr (5, 16, fun _ => vR none))) 1004 (.inl (3, fr1))) 1004 (.inl (3, fr2))
def st1_ : List AV := [vR (some 1007), vI 0]
def st2_ : List AV := [vR (some 1007), vI 6]
def stG (G : GH) : GH := gup (gup (gup (gup G 1007 (.inl (2, al0))) 1007 (.inl (2, al1))) 1006 (.inl (8, st1_))) 1006 (.inl (8, st2_))
def rcG (G : GH) : GH := gup (gup G 1010 (.inr (0, 4, fun _ => vI 0))) 1009 (.inl (6, [vR (some 1010)]))
set_option maxHeartbeats 4000000 in
set_option maxRecDepth 100000 in
theorem c_X1_init {G : GH} (h : G 1001 = some (.inl (4, hi0))) (h2 : G 1002 = none) (h3 : G 1003 = none) : Cn yX1_init (wsy yX1_init cX1_init 1 none) 0 2 2096 (nw2 1002 1003) [vR (some 1001)] G (.inl (none, hiG G)) := by
  refine con_m (lv := [(0, vR (some 1001))]) (by decide) (by unfold nw2; decide) (fun ad => Nat.le_of_ble_eq_true rfl) (fun ad => rfl) rfl ?_
  intro k C hr hin hkG hlv hmc hms hw hPo hPx htab
  refine ev_s C dX1_init_0 (q := 1) rfl rfl ?_
  refine ev_objInit C dX1_init_1 (q := 4) rfl kb_X1_3 ko_1 ko_2 rfl ?_
  refine ev_s C dX1_init_4 (q := 5) rfl rfl ?_
  refine ev_s C dX1_init_5 (q := 8) rfl rfl ?_
  refine ev_newa (t := 0) (N := 2048) (n := 1002) (dv := vI 0) C dX1_init_8 (q := 10) rfl (by decide) rfl ka_int (fun _ => rfl) rfl rfl (by decide) h2 (by unfold fgn; decide) (by rw [hw]; exact Or.inl rfl) (by rw [hmc]; decide) (by rw [hms]; decide) rfl ?_
  refine ev_putF (j := 0) C hin dX1_init_10 kf_X1_9 (q := 13) rfl (fit_A _ _) (by rw [gup_ne (by decide)]; exact h) (by decide) rfl ?_
  refine ev_s C dX1_init_13 (q := 14) rfl rfl ?_
  refine ev_s C dX1_init_14 (q := 16) rfl rfl ?_
  refine ev_newa (t := 3) (N := 48) (n := 1003) (dv := vI 0) C dX1_init_16 (q := 18) rfl (by decide) rfl ka_char (fun _ => rfl) rfl rfl (by decide) (by rw [gup_ne (by decide), gup_ne (by decide)]; exact h3) (by unfold fgn; decide) (by rw [hw]; exact Or.inr rfl) (by rw [hmc]; decide) (by rw [hms]; decide) rfl ?_
  refine ev_putF (j := 2) C hin dX1_init_18 kf_X1_15 (q := 21) rfl (fit_A _ _) (by rw [gup_ne (by decide)]; exact gup_self) (by decide) rfl ?_
  exact ev_vret C hr dX1_init_21 (by rw [hmc]; decide) (by rw [hms]; decide) (po_0 hPo rfl)
set_option maxHeartbeats 4000000 in
set_option maxRecDepth 100000 in
theorem c_X0_init {G : GH} (h : G 1004 = some (.inl (3, [vR none, vI 0, vI 0]))) (h2 : G 1005 = none) : Cn yX0_init (wsy yX0_init cX0_init 1 none) 0 1 16 (nw1 1005) [vR (some 1004)] G (.inl (none, frG G)) := by
  refine con_m (lv := [(0, vR (some 1004))]) (by decide) (by unfold nw1; decide) (fun ad => Nat.le_of_ble_eq_true rfl) (fun ad => rfl) rfl ?_
  intro k C hr hin hkG hlv hmc hms hw hPo hPx htab
  refine ev_s C dX0_init_0 (q := 1) rfl rfl ?_
  refine ev_objInit C dX0_init_1 (q := 4) rfl kb_X0_3 ko_1 ko_2 rfl ?_
  refine ev_s C dX0_init_4 (q := 5) rfl rfl ?_
  refine ev_s C dX0_init_5 (q := 7) rfl rfl ?_
  refine ev_anewa (t := 5) (N := 16) (n := 1005) C dX0_init_7 (q := 10) rfl (Or.inl rfl) rfl kl_X0_9 rfl (by decide) h2 (by unfold fgn; decide) (by rw [hw]; exact rfl) (by rw [hmc]; decide) (by rw [hms]; decide) rfl ?_
  refine ev_putF (j := 0) C hin dX0_init_10 kf_X0_11 (q := 13) rfl (fit_A _ _) (by rw [gup_ne (by decide)]; exact h) (by decide) rfl ?_
  refine ev_s C dX0_init_13 (q := 14) rfl rfl ?_
  refine ev_s C dX0_init_14 (q := 15) rfl rfl ?_
  refine ev_put (j := 1) C dX0_init_15 kf_X0_17 (q := 18) rfl (fit_I _) gup_self (by decide) rfl ?_
  exact ev_vret C hr dX0_init_18 (by rw [hmc]; decide) (by rw [hms]; decide) (po_0 hPo rfl)
set_option maxHeartbeats 4000000 in
set_option maxRecDepth 100000 in
theorem c_X3_init {G : GH} (h : G 1009 = some (.inl (6, [vR none]))) (h2 : G 1010 = none) : Cn yX3_init (wsy yX3_init cX3_init 1 none) 0 1 4 (nw1 1010) [vR (some 1009)] G (.inl (none, rcG G)) := by
  refine con_m (lv := [(0, vR (some 1009))]) (by decide) (by unfold nw1; decide) (fun ad => Nat.le_of_ble_eq_true rfl) (fun ad => rfl) rfl ?_
  intro k C hr hin hkG hlv hmc hms hw hPo hPx htab
  refine ev_s C dX3_init_0 (q := 1) rfl rfl ?_
  refine ev_objInit C dX3_init_1 (q := 4) rfl kb_X3_1 ko_1 ko_2 rfl ?_
  refine ev_s C dX3_init_4 (q := 5) rfl rfl ?_
  refine ev_s C dX3_init_5 (q := 6) rfl rfl ?_
  refine ev_newa (t := 0) (N := 4) (n := 1010) (dv := vI 0) C dX3_init_6 (q := 8) rfl (by decide) rfl ka_int (fun _ => rfl) rfl rfl (by decide) h2 (by unfold fgn; decide) (by rw [hw]; exact rfl) (by rw [hmc]; decide) (by rw [hms]; decide) rfl ?_
  refine ev_putF (j := 0) C hin dX3_init_8 kf_X3_7 (q := 11) rfl (fit_A _ _) (by rw [gup_ne (by decide)]; exact h) (by decide) rfl ?_
  exact ev_vret C hr dX3_init_11 (by rw [hmc]; decide) (by rw [hms]; decide) (po_0 hPo rfl)
set_option maxHeartbeats 4000000 in
set_option maxRecDepth 100000 in
theorem c_X5_init {G : GH} (h : G 1006 = some (.inl (8, [vR none, vI 0]))) (h2 : G 1007 = none) : Cn yX5_init (wsy yX5_init cX5_init 1 none) 3 1 3 (nw1 1007) [vR (some 1006)] G (.inl (none, stG G)) := by
  refine con_m (lv := [(0, vR (some 1006))]) (by decide) (by unfold nw1; decide) (fun ad => Nat.le_of_ble_eq_true rfl) (fun ad => rfl) rfl ?_
  intro k C hr hin hkG hlv hmc hms hw hPo hPx htab
  refine ev_s C dX5_init_0 (q := 1) rfl rfl ?_
  refine ev_objInit C dX5_init_1 (q := 4) rfl kb_X5_3 ko_1 ko_2 rfl ?_
  refine ev_s C dX5_init_4 (q := 5) rfl rfl ?_
  refine ev_new (n := 1007) C dX5_init_5 kn_X5_9 (q := 8) rfl h2 (by unfold fgn; decide) (by rw [hw]; exact rfl) (by rw [hmc]; decide) (by rw [hms]; decide) rfl ?_
  refine ev_s C dX5_init_8 (q := 9) rfl rfl ?_
  refine ev_cIn C dX5_init_9 (q := 12) rfl km_X5_11 ki_Jx4a65c_init_da8c8 kc_Jx4a65c_init_da8c8 (c_AR_init gup_self) rfl rfl (by rw [hlv]; decide) (by decide) (Nat.le_of_ble_eq_true rfl) (by rw [hmc]; decide) (by rw [hms]; decide) (fun _ h => h.elim) (nvA_nn _) (nvB_nn _) ?_
  refine ev_putF (j := 0) C hin dX5_init_12 kf_X5_12 (q := 15) rfl (fit_O _ _) (by rw [gup_ne (by decide), gup_ne (by decide)]; exact h) (by decide) rfl ?_
  refine ev_s C dX5_init_15 (q := 16) rfl rfl ?_
  refine ev_s C dX5_init_16 (q := 18) rfl rfl ?_
  refine ev_put (j := 1) C dX5_init_18 kf_X5_18 (q := 21) rfl (fit_I _) gup_self (by decide) rfl ?_
  exact ev_vret C hr dX5_init_21 (by rw [hmc]; decide) (by rw [hms]; decide) (po_0 hPo rfl)
def cb0 : List AV := [vR none, vR none, vR none, vR none, vR none, vI 0, vI 0, vI 0, vI 0, vI 0, vL 0]
def cb1 : List AV := [vR (some 1001), vR none, vR none, vR none, vR none, vI 0, vI 0, vI 0, vI 0, vI 0, vL 0]
def cb2 : List AV := [vR (some 1001), vR (some 1004), vR none, vR none, vR none, vI 0, vI 0, vI 0, vI 0, vI 0, vL 0]
def cb3 : List AV := [vR (some 1001), vR (some 1004), vR (some 1006), vR none, vR none, vI 0, vI 0, vI 0, vI 0, vI 0, vL 0]
def cb4 : List AV := [vR (some 1001), vR (some 1004), vR (some 1006), vR (some 1009), vR none, vI 0, vI 0, vI 0, vI 0, vI 0, vL 0]
def cb5 : List AV := [vR (some 1001), vR (some 1004), vR (some 1006), vR (some 1009), vR (some 1011), vI 0, vI 0, vI 0, vI 0, vI 0, vL 0]
def cb6 : List AV := [vR (some 1001), vR (some 1004), vR (some 1006), vR (some 1009), vR (some 1011), vI 40, vI 0, vI 0, vI 0, vI 0, vL 0]
def cG1 (G : GH) : GH := gup (hiG (gup G 1001 (.inl (4, hi0)))) 1000 (.inl (9, cb1))
def cG2 (G : GH) : GH := gup (frG (gup (cG1 G) 1004 (.inl (3, [vR none, vI 0, vI 0])))) 1000 (.inl (9, cb2))
def cG3 (G : GH) : GH := gup (stG (gup (cG2 G) 1006 (.inl (8, [vR none, vI 0])))) 1000 (.inl (9, cb3))
def cG4 (G : GH) : GH := gup (rcG (gup (cG3 G) 1009 (.inl (6, [vR none])))) 1000 (.inl (9, cb4))
def cG5 (G : GH) : GH := gup (gup (gup (gup (cG4 G) 1011 (.inl (2, al0))) 1011 (.inl (2, al1))) 1000 (.inl (9, cb5))) 1000 (.inl (9, cb6))
def nwC : Nat → Prop := fun n => 1001 ≤ n ∧ n ≤ 1011
theorem hiG_o {G : GH} {n : Nat} (h : ¬ (1001 ≤ n ∧ n ≤ 1003)) : hiG G n = G n := by
  unfold hiG
  rw [gup_ne (by omega), gup_ne (by omega), gup_ne (by omega), gup_ne (by omega)]
theorem frG_o {G : GH} {n : Nat} (h : ¬ (1004 ≤ n ∧ n ≤ 1005)) : frG G n = G n := by
  unfold frG
  rw [gup_ne (by omega), gup_ne (by omega), gup_ne (by omega)]
theorem stG_o {G : GH} {n : Nat} (h : ¬ (1006 ≤ n ∧ n ≤ 1007)) : stG G n = G n := by
  unfold stG
  rw [gup_ne (by omega), gup_ne (by omega), gup_ne (by omega), gup_ne (by omega)]
theorem rcG_o {G : GH} {n : Nat} (h : ¬ (1009 ≤ n ∧ n ≤ 1010)) : rcG G n = G n := by
  unfold rcG
  rw [gup_ne (by omega), gup_ne (by omega)]
theorem cG1_o {G : GH} {n : Nat} (h : ¬ (1000 ≤ n ∧ n ≤ 1003)) : cG1 G n = G n := by
  unfold cG1
  rw [gup_ne (by omega), hiG_o (by omega), gup_ne (by omega)]
theorem cG2_o {G : GH} {n : Nat} (h : ¬ (1000 ≤ n ∧ n ≤ 1005)) : cG2 G n = G n := by
  unfold cG2
  rw [gup_ne (by omega), frG_o (by omega), gup_ne (by omega), cG1_o (by omega)]
theorem cG3_o {G : GH} {n : Nat} (h : ¬ (1000 ≤ n ∧ n ≤ 1008)) : cG3 G n = G n := by
  unfold cG3
  rw [gup_ne (by omega), stG_o (by omega), gup_ne (by omega), cG2_o (by omega)]
theorem cG4_o {G : GH} {n : Nat} (h : ¬ (1000 ≤ n ∧ n ≤ 1010)) : cG4 G n = G n := by
  unfold cG4
  rw [gup_ne (by omega), rcG_o (by omega), gup_ne (by omega), cG3_o (by omega)]
theorem cG5_o {G : GH} {n : Nat} (h : ¬ (1000 ≤ n ∧ n ≤ 1011)) : cG5 G n = G n := by
  unfold cG5
  rw [gup_ne (by omega), gup_ne (by omega), gup_ne (by omega), gup_ne (by omega), cG4_o (by omega)]
set_option maxHeartbeats 4000000 in
set_option maxRecDepth 100000 in
theorem c_X6_init {G : GH} (h : G 1000 = some (.inl (9, cb0))) (h0 : ∀ n, (1001 ≤ n ∧ n ≤ 1011) → G n = none) : Cn yX6_init (wsy yX6_init cX6_init 1 none) 4 10 2131 nwC [vR (some 1000)] G (.inl (none, cG5 G)) := by
  refine con_m (lv := [(0, vR (some 1000))]) (by decide) (by unfold nwC; decide) (fun ad => Nat.le_of_ble_eq_true rfl) (fun ad => rfl) rfl ?_
  intro k C hr hin hkG hlv hmc hms hw hPo hPx htab
  refine ev_s C dX6_init_0 (q := 1) rfl rfl ?_
  refine ev_objInit C dX6_init_1 (q := 4) rfl kb_X6_3 ko_1 ko_2 rfl ?_
  refine ev_s C dX6_init_4 (q := 5) rfl rfl ?_
  refine ev_new (n := 1001) C dX6_init_5 kn_X6_9 (q := 8) rfl (h0 _ (by decide)) (by unfold fgn; decide) (by rw [hw]; unfold nwC; decide) (by rw [hmc]; decide) (by rw [hms]; decide) rfl ?_
  refine ev_s C dX6_init_8 (q := 9) rfl rfl ?_
  refine ev_cINn C dX6_init_9 (q := 12) rfl (host := "Swapyard") (List.mem_of_getElem? (i := 0) rfl) ⟨q9 2 (by decide +kernel) (by decide +kernel), by decide +kernel⟩ ki_X1_init kc_X1_init (c_X1_init gup_self (by rw [gup_ne (by decide)]; exact h0 _ (by decide)) (by rw [gup_ne (by decide)]; exact h0 _ (by decide))) rfl rfl (by rw [hlv]; decide) (by decide) (Nat.le_of_ble_eq_true rfl) (by rw [hmc]; decide) (by rw [hms]; decide) (by rw [hw]; unfold nw2 nwC; intro m h; omega) (nvA_c (nv_R (by unfold nw2; decide)) nvA_0) (nvB_c (nv_R' (by unfold nw2; decide)) (nvB_c (nv_R' (by unfold nw2; decide)) nvB_0)) ?_
  refine ev_putF (j := 0) C hin dX6_init_12 kf_X6_12 (q := 15) rfl (fit_O _ _) (by rw [hiG_o (by decide), gup_ne (by decide)]; exact h) (by decide) rfl ?_
  refine ev_eq (G := cG1 G) rfl ?_
  refine ev_s C dX6_init_15 (q := 16) rfl rfl ?_
  refine ev_new (n := 1004) C dX6_init_16 kn_X6_16 (q := 19) rfl (by rw [cG1_o (by decide)]; exact h0 _ (by decide)) (by unfold fgn; decide) (by rw [hw]; unfold nwC; decide) (by rw [hmc]; decide) (by rw [hms]; decide) rfl ?_
  refine ev_s C dX6_init_19 (q := 20) rfl rfl ?_
  refine ev_cINn C dX6_init_20 (q := 23) rfl (host := "Swapyard") (List.mem_of_getElem? (i := 1) rfl) ⟨q9 3 (by decide +kernel) (by decide +kernel), by decide +kernel⟩ ki_X0_init kc_X0_init (c_X0_init gup_self (by rw [gup_ne (by decide), cG1_o (by decide)]; exact h0 _ (by decide))) rfl rfl (by rw [hlv]; decide) (by decide) (Nat.le_of_ble_eq_true rfl) (by rw [hmc]; decide) (by rw [hms]; decide) (by rw [hw]; unfold nw1 nwC; intro m h; omega) (nvA_c (nv_R (by unfold nw1; decide)) nvA_0) (nvB_c (nv_R' (by unfold nw1; decide)) (nvB_c (nv_R' (by unfold nw1; decide)) nvB_0)) ?_
  refine ev_putF (j := 1) C hin dX6_init_23 kf_X6_19 (q := 26) rfl (fit_O _ _) (by rw [frG_o (by decide), gup_ne (by decide)]; exact gup_self) (by decide) rfl ?_
  refine ev_eq (G := cG2 G) rfl ?_
  refine ev_s C dX6_init_26 (q := 27) rfl rfl ?_
  refine ev_new (n := 1006) C dX6_init_27 kn_X6_23 (q := 30) rfl (by rw [cG2_o (by decide)]; exact h0 _ (by decide)) (by unfold fgn; decide) (by rw [hw]; unfold nwC; decide) (by rw [hmc]; decide) (by rw [hms]; decide) rfl ?_
  refine ev_s C dX6_init_30 (q := 31) rfl rfl ?_
  refine ev_cINn C dX6_init_31 (q := 34) rfl (host := "Swapyard") (List.mem_of_getElem? (i := 2) rfl) ⟨q9 4 (by decide +kernel) (by decide +kernel), by decide +kernel⟩ ki_X5_init kc_X5_init (c_X5_init gup_self (by rw [gup_ne (by decide), cG2_o (by decide)]; exact h0 _ (by decide))) rfl rfl (by rw [hlv]; decide) (by decide) (Nat.le_of_ble_eq_true rfl) (by rw [hmc]; decide) (by rw [hms]; decide) (by rw [hw]; unfold nw1 nwC; intro m h; omega) (nvA_c (nv_R (by unfold nw1; decide)) nvA_0) (nvB_c (nv_R' (by unfold nw1; decide)) (nvB_c (nv_R' (by unfold nw1; decide)) nvB_0)) ?_
  refine ev_putF (j := 2) C hin dX6_init_34 kf_X6_26 (q := 37) rfl (fit_O _ _) (by rw [stG_o (by decide), gup_ne (by decide)]; exact gup_self) (by decide) rfl ?_
  refine ev_eq (G := cG3 G) rfl ?_
  refine ev_s C dX6_init_37 (q := 38) rfl rfl ?_
  refine ev_new (n := 1009) C dX6_init_38 kn_X6_30 (q := 41) rfl (by rw [cG3_o (by decide)]; exact h0 _ (by decide)) (by unfold fgn; decide) (by rw [hw]; unfold nwC; decide) (by rw [hmc]; decide) (by rw [hms]; decide) rfl ?_
  refine ev_s C dX6_init_41 (q := 42) rfl rfl ?_
  refine ev_cINn C dX6_init_42 (q := 45) rfl (host := "Swapyard") (List.mem_of_getElem? (i := 3) rfl) ⟨q9 8 (by decide +kernel) (by decide +kernel), by decide +kernel⟩ ki_X3_init kc_X3_init (c_X3_init gup_self (by rw [gup_ne (by decide), cG3_o (by decide)]; exact h0 _ (by decide))) rfl rfl (by rw [hlv]; decide) (by decide) (Nat.le_of_ble_eq_true rfl) (by rw [hmc]; decide) (by rw [hms]; decide) (by rw [hw]; unfold nw1 nwC; intro m h; omega) (nvA_c (nv_R (by unfold nw1; decide)) nvA_0) (nvB_c (nv_R' (by unfold nw1; decide)) (nvB_c (nv_R' (by unfold nw1; decide)) nvB_0)) ?_
  refine ev_putF (j := 3) C hin dX6_init_45 kf_X6_33 (q := 48) rfl (fit_O _ _) (by rw [rcG_o (by decide), gup_ne (by decide)]; exact gup_self) (by decide) rfl ?_
  refine ev_eq (G := cG4 G) rfl ?_
  refine ev_s C dX6_init_48 (q := 49) rfl rfl ?_
  refine ev_new (n := 1011) C dX6_init_49 kn_X6_37 (q := 52) rfl (by rw [cG4_o (by decide)]; exact h0 _ (by decide)) (by unfold fgn; decide) (by rw [hw]; unfold nwC; decide) (by rw [hmc]; decide) (by rw [hms]; decide) rfl ?_
  refine ev_s C dX6_init_52 (q := 53) rfl rfl ?_
  refine ev_cIn C dX6_init_53 (q := 56) rfl km_X6_39 ki_Jx4a65c_init_da8c8 kc_Jx4a65c_init_da8c8 (c_AR_init gup_self) rfl rfl (by rw [hlv]; decide) (by decide) (Nat.le_of_ble_eq_true rfl) (by rw [hmc]; decide) (by rw [hms]; decide) (fun _ h => h.elim) (nvA_nn _) (nvB_nn _) ?_
  refine ev_putF (j := 4) C hin dX6_init_56 kf_X6_40 (q := 59) rfl (fit_O _ _) (by rw [gup_ne (by decide), gup_ne (by decide)]; exact gup_self) (by decide) rfl ?_
  refine ev_s C dX6_init_59 (q := 60) rfl rfl ?_
  refine ev_s C dX6_init_60 (q := 62) rfl rfl ?_
  refine ev_put (j := 5) C dX6_init_62 kf_X6_44 (q := 65) rfl (fit_I _) gup_self (by decide) rfl ?_
  exact ev_vret C hr dX6_init_65 (by rw [hmc]; decide) (by rw [hms]; decide) (po_0 hPo rfl)
/-- the class's state at its start -/
def uz1 (k : Nat) : Int := if k = 0 then 40 else if k = 7 then 4 else if k = 9 then 6 else 0
def uz2 (a : Nat) : Int := if a = 2 ∨ a = 3 ∨ a = 24 then -1 else 0
def uz : SS := (uz1, fun a _ => uz2 a)
theorem CI_uz : CI uz := by
  refine ⟨fun k => ?_, fun a j => ?_, by decide, by decide, fun j => by show (-1 : Int) < 8 * 0; decide, fun j => by show (-1 : Int) < 8 * 0; decide, fun j hj => absurd hj (by show ¬ ((j : Int) < 0); omega)⟩
  · show k = 10 ∨ k = 13 ∨ (lC k ≤ uz1 k ∧ uz1 k ≤ hC k)
    refine Or.inr (Or.inr ?_)
    unfold uz1
    split
    · rename_i e; subst e; decide
    · split
      · rename_i e; subst e; decide
      · split
        · rename_i e; subst e; decide
        · rename_i h1 h2 h3
          unfold lC hC
          constructor <;> split <;> first | decide | omega
  · show lD a ≤ uz2 a ∧ uz2 a ≤ hD a
    unfold uz2
    split
    · rename_i h
      rcases h with rfl | rfl | rfl <;> decide
    · unfold lD hD
      constructor <;> split <;> decide
/-- the class's cells behind its start -/
theorem cG5_e {G : GH} {n : Nat} (h : 1000 ≤ n) (h0 : ∀ m, 1011 < m → G m = none) (h8 : G 1008 = none) : cG5 G n = eS uz n := by
  by_cases h1 : n ≤ 1011
  · have hn : n = 1000 ∨ n = 1001 ∨ n = 1002 ∨ n = 1003 ∨ n = 1004 ∨ n = 1005 ∨ n = 1006 ∨ n = 1007 ∨ n = 1008 ∨ n = 1009 ∨ n = 1010 ∨ n = 1011 := by omega
    rcases hn with rfl | rfl | rfl | rfl | rfl | rfl | rfl | rfl | rfl | rfl | rfl | rfl
    all_goals (first | rfl | (simp [cG5, cG4, cG3, cG2, cG1, hiG, frG, stG, rcG, gup, h8]; done) | (simp [cG5, cG4, cG3, cG2, cG1, hiG, frG, stG, rcG, gup, h8]; rfl))
  · rw [cG5_o (by omega), h0 n (by omega)]
    by_cases h2 : n < 2000
    · unfold eS
      rw [if_pos h2]
      split <;> first | rfl | omega
    · unfold eS
      rw [if_neg h2]
      split
      · rw [if_neg (by show ¬ ((_ : Int) < 0); omega)]
      · split
        · rw [if_neg (by show ¬ ((_ : Int) < 0); omega)]
        · rw [if_neg (by show ¬ ((_ : Int) < 8 * 0); omega)]
