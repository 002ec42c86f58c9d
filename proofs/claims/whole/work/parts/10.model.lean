/-! THE MODEL'S METHODS: plain ones -/
def inB (v lo hi : Int) : Bool := decide (lo ≤ v) && decide (v ≤ hi)
def pBc (v : SS) (i j : Int) : Int := bAnd (bShr (v.2 7 i.toNat) j) 1
set_option maxHeartbeats 4000000 in
set_option maxRecDepth 100000 in
theorem c_X7_thrown {u v : SS} {g : GH} : Cn yX7_thrown (wsy yX7_thrown cX7_thrown 1 (some .int)) 0 0 0 nn [vR (some 0)] (mk u v g) (.inl (some (vI (v.1 26)), mk u v g)) := by
  refine con_j (lv := [(0, vR (some 0))]) (by decide) (fun ad => Nat.le_of_ble_eq_true rfl) (fun ad => rfl) rfl ?_
  intro k C hr hlv hmc hms hPo hPx htab
  refine ev_s C dX7_thrown_0 (q := 1) rfl rfl ?_
  refine mg_26 C dX7_thrown_1 (q := 4) rfl ?_
  exact ev_iret C hr dX7_thrown_4 (Nat.zero_le _) (Nat.zero_le _) (po_1 hPo (by first | rfl | simp [*]) rfl)
set_option maxHeartbeats 4000000 in
set_option maxRecDepth 100000 in
theorem c_X7_fails {u v : SS} {g : GH} {x : Int} (hx : rg x) : Cn yX7_fails (wsy yX7_fails cX7_fails 2 (some .boolean)) 0 0 0 nn [vR (some 0), vI x] (mk u v g) (.inl (some (vI (bI (decide (0 < x)))), mk u (stS v 26 x) g)) := by
  refine con_j (lv := [(0, vR (some 0)), (1, vI x)]) (by decide) (fun ad => Nat.le_of_ble_eq_true rfl) (fun ad => rfl) rfl ?_
  intro k C hr hlv hmc hms hPo hPx htab
  refine ev_s C dX7_fails_0 (q := 1) rfl rfl ?_
  refine ev_s C dX7_fails_1 (q := 2) rfl rfl ?_
  refine mp_26 C dX7_fails_2 (q := 5) rfl ?_
  refine ev_s C dX7_fails_5 (q := 6) rfl rfl ?_
  refine ev_if_le C dX7_fails_6 (tgt := 13) (q := 9) (by decide) rfl (by first | decide | (unfold rg; omega) | assumption) (fun b0 => ?_) (fun b0 => ?_)
  · refine ev_s C dX7_fails_13 (q := 14) rfl rfl ?_
    exact ev_zret C hr (fit_Z (by first | decide | exact bI_01 _ | assumption)) dX7_fails_14 (Nat.zero_le _) (Nat.zero_le _) (po_1 hPo (by simp [bI] <;> omega) rfl)
  · refine ev_s C dX7_fails_9 (q := 10) rfl rfl ?_
    refine ev_goto C dX7_fails_10 (tgt := 14) (by decide) ?_
    exact ev_zret C hr (fit_Z (by first | decide | exact bI_01 _ | assumption)) dX7_fails_14 (Nat.zero_le _) (Nat.zero_le _) (po_1 hPo (by simp [bI] <;> omega) rfl)
set_option maxHeartbeats 4000000 in
set_option maxRecDepth 100000 in
theorem c_X7_tells {u v : SS} {g : GH} {x : Int} : Cn yX7_tells (wsy yX7_tells cX7_tells 2 (some .int)) 0 0 0 nn [vR (some 0), vI x] (mk u v g) (.inl (some (vI x), mk u (stS v 26 0) g)) := by
  refine con_j (lv := [(0, vR (some 0)), (1, vI x)]) (by decide) (fun ad => Nat.le_of_ble_eq_true rfl) (fun ad => rfl) rfl ?_
  intro k C hr hlv hmc hms hPo hPx htab
  refine ev_s C dX7_tells_0 (q := 1) rfl rfl ?_
  refine ev_s C dX7_tells_1 (q := 2) rfl rfl ?_
  refine mp_26 C dX7_tells_2 (q := 5) rfl ?_
  refine ev_s C dX7_tells_5 (q := 6) rfl rfl ?_
  exact ev_iret C hr dX7_tells_6 (Nat.zero_le _) (Nat.zero_le _) (po_1 hPo (by first | rfl | simp [*]) rfl)
set_option maxHeartbeats 4000000 in
set_option maxRecDepth 100000 in
theorem c_X7_in {G : GH} {v lo hi : Int} (h1 : rg v) (h2 : rg lo) (h3 : rg hi) : Cn yX7_in (wsy yX7_in cX7_in 3 (some .boolean)) 0 0 0 nn [vI v, vI lo, vI hi] G (.inl (some (vI (bI (inB v lo hi))), G)) := by
  refine con_j (lv := [(0, vI v), (1, vI lo), (2, vI hi)]) (by decide) (fun ad => Nat.le_of_ble_eq_true rfl) (fun ad => rfl) rfl ?_
  intro k C hr hlv hmc hms hPo hPx htab
  refine ev_s C dX7_in_0 (q := 1) rfl rfl ?_
  refine ev_s C dX7_in_1 (q := 2) rfl rfl ?_
  refine ev_icmp_lt C dX7_in_2 (tgt := 14) (q := 5) (by decide) rfl (by first | decide | (unfold rg; omega) | assumption) (by first | decide | (unfold rg; omega) | assumption) (fun b0 => ?_) (fun b0 => ?_)
  · refine ev_s C dX7_in_14 (q := 15) rfl rfl ?_
    exact ev_zret C hr (fit_Z (by first | decide | exact bI_01 _ | assumption)) dX7_in_15 (Nat.zero_le _) (Nat.zero_le _) (po_1 hPo (by simp [inB, bI] <;> omega) rfl)
  · refine ev_s C dX7_in_5 (q := 6) rfl rfl ?_
    refine ev_s C dX7_in_6 (q := 7) rfl rfl ?_
    refine ev_icmp_gt C dX7_in_7 (tgt := 14) (q := 10) (by decide) rfl (by first | decide | (unfold rg; omega) | assumption) (by first | decide | (unfold rg; omega) | assumption) (fun b1 => ?_) (fun b1 => ?_)
    · refine ev_s C dX7_in_14 (q := 15) rfl rfl ?_
      exact ev_zret C hr (fit_Z (by first | decide | exact bI_01 _ | assumption)) dX7_in_15 (Nat.zero_le _) (Nat.zero_le _) (po_1 hPo (by simp [inB, bI] <;> omega) rfl)
    · refine ev_s C dX7_in_10 (q := 11) rfl rfl ?_
      refine ev_goto C dX7_in_11 (tgt := 15) (by decide) ?_
      exact ev_zret C hr (fit_Z (by first | decide | exact bI_01 _ | assumption)) dX7_in_15 (Nat.zero_le _) (Nat.zero_le _) (po_1 hPo (by simp [inB, bI] <;> omega) rfl)
