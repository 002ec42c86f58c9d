/-! THE MODEL: the other questions -/
set_option maxHeartbeats 4000000 in
set_option maxRecDepth 100000 in
theorem c_X7_time {u v : SS} {g : GH} (I : MI v) : Cn yX7_time (wsy yX7_time cX7_time 1 (some .int)) 1 0 0 nn [vR (some 0)] (mk u v g) (.inl (some (vI (v.1 19)), mk u (stS v 26 0) g)) := by
  refine con_j (lv := [(0, vR (some 0))]) (by decide) (fun ad => Nat.le_of_ble_eq_true rfl) (fun ad => rfl) rfl ?_
  intro k C hr hlv hmc hms hPo hPx htab
  refine ev_s C dX7_time_0 (q := 1) rfl rfl ?_
  refine ev_s C dX7_time_1 (q := 2) rfl rfl ?_
  refine mg_19 C dX7_time_2 (q := 5) rfl ?_
  refine ev_cV C dX7_time_5 (q := 8) rfl km_X7_171 kv_X7_tells kc_X7_tells (c_X7_tells) rfl rfl vcX7 go_0 (by rw [hlv]; first | decide | omega) (by decide) (Nat.le_of_ble_eq_true rfl) (Nat.zero_le _) (Nat.zero_le _) ?_
  exact ev_iret C hr dX7_time_8 (Nat.zero_le _) (Nat.zero_le _) (po_1 hPo rfl rfl)
set_option maxHeartbeats 4000000 in
set_option maxRecDepth 100000 in
theorem c_X7_deaths {u v : SS} {g : GH} (I : MI v) : Cn yX7_deaths (wsy yX7_deaths cX7_deaths 1 (some .int)) 1 0 0 nn [vR (some 0)] (mk u v g) (.inl (some (vI (v.1 25)), mk u (stS v 26 0) g)) := by
  refine con_j (lv := [(0, vR (some 0))]) (by decide) (fun ad => Nat.le_of_ble_eq_true rfl) (fun ad => rfl) rfl ?_
  intro k C hr hlv hmc hms hPo hPx htab
  refine ev_s C dX7_deaths_0 (q := 1) rfl rfl ?_
  refine ev_s C dX7_deaths_1 (q := 2) rfl rfl ?_
  refine mg_25 C dX7_deaths_2 (q := 5) rfl ?_
  refine ev_cV C dX7_deaths_5 (q := 8) rfl km_X7_171 kv_X7_tells kc_X7_tells (c_X7_tells) rfl rfl vcX7 go_0 (by rw [hlv]; first | decide | omega) (by decide) (Nat.le_of_ble_eq_true rfl) (Nat.zero_le _) (Nat.zero_le _) ?_
  exact ev_iret C hr dX7_deaths_8 (Nat.zero_le _) (Nat.zero_le _) (po_1 hPo rfl rfl)
set_option maxHeartbeats 4000000 in
set_option maxRecDepth 100000 in
theorem c_X7_hand {u v : SS} {g : GH} (I : MI v) : Cn yX7_hand (wsy yX7_hand cX7_hand 1 (some .int)) 1 0 0 nn [vR (some 0)] (mk u v g) (.inl (some (vI (v.1 14)), mk u (stS v 26 0) g)) := by
  refine con_j (lv := [(0, vR (some 0))]) (by decide) (fun ad => Nat.le_of_ble_eq_true rfl) (fun ad => rfl) rfl ?_
  intro k C hr hlv hmc hms hPo hPx htab
  refine ev_s C dX7_hand_0 (q := 1) rfl rfl ?_
  refine ev_s C dX7_hand_1 (q := 2) rfl rfl ?_
  refine mg_14 C dX7_hand_2 (q := 5) rfl ?_
  refine ev_cV C dX7_hand_5 (q := 8) rfl km_X7_171 kv_X7_tells kc_X7_tells (c_X7_tells) rfl rfl vcX7 go_0 (by rw [hlv]; first | decide | omega) (by decide) (Nat.le_of_ble_eq_true rfl) (Nat.zero_le _) (Nat.zero_le _) ?_
  exact ev_iret C hr dX7_hand_8 (Nat.zero_le _) (Nat.zero_le _) (po_1 hPo rfl rfl)
set_option maxHeartbeats 4000000 in
set_option maxRecDepth 100000 in
theorem c_X7_stored {u v : SS} {g : GH} (I : MI v) : Cn yX7_stored (wsy yX7_stored cX7_stored 1 (some .int)) 1 0 0 nn [vR (some 0)] (mk u v g) (.inl (some (vI (tk v)), mk u (stS v 26 0) g)) := by
  refine con_j (lv := [(0, vR (some 0))]) (by decide) (fun ad => Nat.le_of_ble_eq_true rfl) (fun ad => rfl) rfl ?_
  intro k C hr hlv hmc hms hPo hPx htab
  refine ev_s C dX7_stored_0 (q := 1) rfl rfl ?_
  refine ev_s C dX7_stored_1 (q := 2) rfl rfl ?_
  refine ev_cV C dX7_stored_2 (q := 5) rfl km_X7_97 kv_X7_taken kc_X7_taken (c_X7_taken I) rfl rfl vcX7 go_0 (by rw [hlv]; first | decide | omega) (by decide) (Nat.le_of_ble_eq_true rfl) (Nat.zero_le _) (Nat.zero_le _) ?_
  refine ev_cV C dX7_stored_5 (q := 8) rfl km_X7_171 kv_X7_tells kc_X7_tells (c_X7_tells) rfl rfl vcX7 go_0 (by rw [hlv]; first | decide | omega) (by decide) (Nat.le_of_ble_eq_true rfl) (Nat.zero_le _) (Nat.zero_le _) ?_
  exact ev_iret C hr dX7_stored_8 (Nat.zero_le _) (Nat.zero_le _) (po_1 hPo rfl rfl)
set_option maxHeartbeats 4000000 in
set_option maxRecDepth 100000 in
theorem c_X7_pressure {u v : SS} {g : GH} (I : MI v) : Cn yX7_pressure (wsy yX7_pressure cX7_pressure 1 (some .int)) 1 0 0 nn [vR (some 0)] (mk u v g) (.inl (some (vI (prs v)), mk u (stS v 26 0) g)) := by
  refine con_j (lv := [(0, vR (some 0))]) (by decide) (fun ad => Nat.le_of_ble_eq_true rfl) (fun ad => rfl) rfl ?_
  intro k C hr hlv hmc hms hPo hPx htab
  refine ev_s C dX7_pressure_0 (q := 1) rfl rfl ?_
  refine ev_s C dX7_pressure_1 (q := 2) rfl rfl ?_
  refine ev_cV C dX7_pressure_2 (q := 5) rfl km_X7_156 kv_X7_pressing kc_X7_pressing (c_X7_pressing I) rfl rfl vcX7 go_0 (by rw [hlv]; first | decide | omega) (by decide) (Nat.le_of_ble_eq_true rfl) (Nat.zero_le _) (Nat.zero_le _) ?_
  refine ev_cV C dX7_pressure_5 (q := 8) rfl km_X7_171 kv_X7_tells kc_X7_tells (c_X7_tells) rfl rfl vcX7 go_0 (by rw [hlv]; first | decide | omega) (by decide) (Nat.le_of_ble_eq_true rfl) (Nat.zero_le _) (Nat.zero_le _) ?_
  exact ev_iret C hr dX7_pressure_8 (Nat.zero_le _) (Nat.zero_le _) (po_1 hPo rfl rfl)
def plc (x : Int) : Int := if x = 1 then 102 else if x = 2 then 115 else if x = 3 then 100 else 45
set_option maxHeartbeats 4000000 in
set_option maxRecDepth 100000 in
theorem c_X7_placed_x {u v : SS} {g : GH} (I : MI v) {s p : Int} (hs : rg s) (hp : rg p) (h : noPg v s p = true) : Cn yX7_placed (wsy yX7_placed cX7_placed 4 (some .char)) 3 0 0 nn [vR (some 0), vI s, vI p] (mk u v g) (.inl (some (vI 97), mk u (stS v 26 1) g)) := by
  refine con_j (lv := [(0, vR (some 0)), (1, vI s), (2, vI p)]) (by decide) (fun ad => Nat.le_of_ble_eq_true rfl) (fun ad => rfl) rfl ?_
  intro k C hr hlv hmc hms hPo hPx htab
  refine ev_s C dX7_placed_0 (q := 1) rfl rfl ?_
  refine ev_s C dX7_placed_1 (q := 2) rfl rfl ?_
  refine ev_s C dX7_placed_2 (q := 3) rfl rfl ?_
  refine ev_cV C dX7_placed_3 (q := 6) rfl km_X7_91 kv_X7_isNoPage kc_X7_isNoPage (c_X7_isNoPage I (by first | decide | (unfold rg; omega) | assumption | exact bAnd_rg _ _) (by first | decide | (unfold rg; omega) | assumption | exact bAnd_rg _ _)) rfl rfl vcX7 go_0 (by rw [hlv]; first | decide | omega) (by decide) (Nat.le_of_ble_eq_true rfl) (Nat.zero_le _) (Nat.zero_le _) ?_
  rw [h]
  refine ev_eq (G := mk u (stS v 26 1) g) rfl ?_
  refine ev_ifB_eq C dX7_placed_6 (tgt := 12) (q := 9) (by decide) rfl (fun b0 => ?_) (fun b0 => ?_)
  · exact absurd b0 (by decide)
  · refine ev_s C dX7_placed_9 (q := 11) rfl rfl ?_
    exact ev_zret C hr (fit_C (by first | decide | omega | assumption)) dX7_placed_11 (Nat.zero_le _) (Nat.zero_le _) (po_1 hPo (by first | rfl | simp [*]) rfl)
set_option maxHeartbeats 4000000 in
set_option maxRecDepth 100000 in
theorem c_X7_placed {u v : SS} {g : GH} (I : MI v) {s p : Int} (hs : rg s) (hp : rg p) (h : noPg v s p = false) : Cn yX7_placed (wsy yX7_placed cX7_placed 4 (some .char)) 3 0 0 nn [vR (some 0), vI s, vI p] (mk u v g) (.inl (some (vI (plc (v.2 10 (8 * s + p).toNat))), mk u (stS v 26 0) g)) := by
  refine con_j (lv := [(0, vR (some 0)), (1, vI s), (2, vI p)]) (by decide) (fun ad => Nat.le_of_ble_eq_true rfl) (fun ad => rfl) rfl ?_
  intro k C hr hlv hmc hms hPo hPx htab
  have hq := noPg_f h
  have i0 := I.s0
  have J : MI (stS v 26 0) := MI_S I (by decide)
  have ja := J.a10 (8 * s + p).toNat
  refine ev_s C dX7_placed_0 (q := 1) rfl rfl ?_
  refine ev_s C dX7_placed_1 (q := 2) rfl rfl ?_
  refine ev_s C dX7_placed_2 (q := 3) rfl rfl ?_
  refine ev_cV C dX7_placed_3 (q := 6) rfl km_X7_91 kv_X7_isNoPage kc_X7_isNoPage (c_X7_isNoPage I (by first | decide | (unfold rg; omega) | assumption | exact bAnd_rg _ _) (by first | decide | (unfold rg; omega) | assumption | exact bAnd_rg _ _)) rfl rfl vcX7 go_0 (by rw [hlv]; first | decide | omega) (by decide) (Nat.le_of_ble_eq_true rfl) (Nat.zero_le _) (Nat.zero_le _) ?_
  rw [h]
  refine ev_eq (G := mk u (stS v 26 0) g) rfl ?_
  refine ev_ifB_eq C dX7_placed_6 (tgt := 12) (q := 9) (by decide) rfl (fun b0 => ?_) (fun b0 => ?_)
  · refine ev_s C dX7_placed_12 (q := 13) rfl rfl ?_
    refine mg_10 C dX7_placed_13 (q := 16) rfl ?_
    refine ev_s C dX7_placed_16 (q := 18) rfl rfl ?_
    refine ev_s C dX7_placed_18 (q := 19) rfl rfl ?_
    refine ev_s C dX7_placed_19 (q := 20) rfl rfl ?_
    refine ev_s C dX7_placed_20 (q := 21) rfl rfl ?_
    refine ev_s C dX7_placed_21 (q := 22) rfl rfl ?_
    refine ml_10 C dX7_placed_22 (q := 23) rfl (by omega) ?_
    refine ev_s C dX7_placed_23 (q := 24) rfl rfl ?_
    refine ev_s C dX7_placed_24 (q := 25) rfl rfl ?_
    refine ev_s C dX7_placed_25 (q := 26) rfl rfl ?_
    refine ev_icmp_ne C dX7_placed_26 (tgt := 34) (q := 29) (by decide) rfl (by first | decide | (unfold rg; omega) | assumption | exact bAnd_rg _ _) (by first | decide | (unfold rg; omega) | assumption | exact bAnd_rg _ _) (fun b1 => ?_) (fun b1 => ?_)
    · refine ev_s C dX7_placed_34 (q := 35) rfl rfl ?_
      refine ev_s C dX7_placed_35 (q := 36) rfl rfl ?_
      refine ev_icmp_ne C dX7_placed_36 (tgt := 44) (q := 39) (by decide) rfl (by first | decide | (unfold rg; omega) | assumption | exact bAnd_rg _ _) (by first | decide | (unfold rg; omega) | assumption | exact bAnd_rg _ _) (fun b2 => ?_) (fun b2 => ?_)
      · refine ev_s C dX7_placed_44 (q := 45) rfl rfl ?_
        refine ev_s C dX7_placed_45 (q := 46) rfl rfl ?_
        refine ev_icmp_ne C dX7_placed_46 (tgt := 54) (q := 49) (by decide) rfl (by first | decide | (unfold rg; omega) | assumption | exact bAnd_rg _ _) (by first | decide | (unfold rg; omega) | assumption | exact bAnd_rg _ _) (fun b3 => ?_) (fun b3 => ?_)
        · refine ev_s C dX7_placed_54 (q := 56) rfl rfl ?_
          exact ev_zret C hr (fit_C (by first | decide | omega | assumption)) dX7_placed_56 (Nat.zero_le _) (Nat.zero_le _) (po_1 hPo (by show vI (plc ((stS v 26 0).2 10 (8 * s + p).toNat)) = _; simp [plc, *]) rfl)
        · refine ev_s C dX7_placed_49 (q := 51) rfl rfl ?_
          refine ev_goto C dX7_placed_51 (tgt := 56) (by decide) ?_
          exact ev_zret C hr (fit_C (by first | decide | omega | assumption)) dX7_placed_56 (Nat.zero_le _) (Nat.zero_le _) (po_1 hPo (by show vI (plc ((stS v 26 0).2 10 (8 * s + p).toNat)) = _; simp [plc, *]) rfl)
      · refine ev_s C dX7_placed_39 (q := 41) rfl rfl ?_
        refine ev_goto C dX7_placed_41 (tgt := 56) (by decide) ?_
        exact ev_zret C hr (fit_C (by first | decide | omega | assumption)) dX7_placed_56 (Nat.zero_le _) (Nat.zero_le _) (po_1 hPo (by show vI (plc ((stS v 26 0).2 10 (8 * s + p).toNat)) = _; simp [plc, *]) rfl)
    · refine ev_s C dX7_placed_29 (q := 31) rfl rfl ?_
      refine ev_goto C dX7_placed_31 (tgt := 56) (by decide) ?_
      exact ev_zret C hr (fit_C (by first | decide | omega | assumption)) dX7_placed_56 (Nat.zero_le _) (Nat.zero_le _) (po_1 hPo (by show vI (plc ((stS v 26 0).2 10 (8 * s + p).toNat)) = _; simp [plc, *]) rfl)
  · exact absurd b0 (by decide)
set_option maxHeartbeats 4000000 in
set_option maxRecDepth 100000 in
theorem c_X7_placeOf_x {u v : SS} {g : GH} (I : MI v) {s p : Int} (hs : rg s) (hp : rg p) (h : noPg v s p = true) : Cn yX7_placeOf (wsy yX7_placeOf cX7_placeOf 3 (some .char)) 4 0 0 nn [vR (some 0), vI s, vI p] (mk u v g) (.inl (some (vI 97), mk u (stS v 26 1) g)) := by
  refine con_j (lv := [(0, vR (some 0)), (1, vI s), (2, vI p)]) (by decide) (fun ad => Nat.le_of_ble_eq_true rfl) (fun ad => rfl) rfl ?_
  intro k C hr hlv hmc hms hPo hPx htab
  refine ev_s C dX7_placeOf_0 (q := 1) rfl rfl ?_
  refine ev_s C dX7_placeOf_1 (q := 2) rfl rfl ?_
  refine ev_s C dX7_placeOf_2 (q := 3) rfl rfl ?_
  refine ev_cV C dX7_placeOf_3 (q := 6) rfl km_X7_174 kv_X7_placed kc_X7_placed (c_X7_placed_x I hs hp h) rfl rfl vcX7 go_0 (by rw [hlv]; first | decide | omega) (by decide) (Nat.le_of_ble_eq_true rfl) (Nat.zero_le _) (Nat.zero_le _) ?_
  exact ev_zret C hr (fit_C (by first | decide | omega | assumption)) dX7_placeOf_6 (Nat.zero_le _) (Nat.zero_le _) (po_1 hPo (by first | rfl | simp [*]) rfl)
set_option maxHeartbeats 4000000 in
set_option maxRecDepth 100000 in
theorem c_X7_placeOf {u v : SS} {g : GH} (I : MI v) {s p : Int} (hs : rg s) (hp : rg p) (h : noPg v s p = false) : Cn yX7_placeOf (wsy yX7_placeOf cX7_placeOf 3 (some .char)) 4 0 0 nn [vR (some 0), vI s, vI p] (mk u v g) (.inl (some (vI (plc (v.2 10 (8 * s + p).toNat))), mk u (stS v 26 0) g)) := by
  refine con_j (lv := [(0, vR (some 0)), (1, vI s), (2, vI p)]) (by decide) (fun ad => Nat.le_of_ble_eq_true rfl) (fun ad => rfl) rfl ?_
  intro k C hr hlv hmc hms hPo hPx htab
  have hq : 0 ≤ plc (v.2 10 (8 * s + p).toNat) ∧ plc (v.2 10 (8 * s + p).toNat) < 65536 := by unfold plc; split; decide; split; decide; split <;> decide
  refine ev_s C dX7_placeOf_0 (q := 1) rfl rfl ?_
  refine ev_s C dX7_placeOf_1 (q := 2) rfl rfl ?_
  refine ev_s C dX7_placeOf_2 (q := 3) rfl rfl ?_
  refine ev_cV C dX7_placeOf_3 (q := 6) rfl km_X7_174 kv_X7_placed kc_X7_placed (c_X7_placed I hs hp h) rfl rfl vcX7 go_0 (by rw [hlv]; first | decide | omega) (by decide) (Nat.le_of_ble_eq_true rfl) (Nat.zero_le _) (Nat.zero_le _) ?_
  exact ev_zret C hr (fit_C (by first | decide | omega | assumption)) dX7_placeOf_6 (Nat.zero_le _) (Nat.zero_le _) (po_1 hPo (by first | rfl | simp [*]) rfl)
set_option maxHeartbeats 4000000 in
set_option maxRecDepth 100000 in
theorem c_X7_placeByEvents_x {u v : SS} {g : GH} (I : MI v) {s p : Int} (hs : rg s) (hp : rg p) (h : noPg v s p = true) : Cn yX7_placeByEvents (wsy yX7_placeByEvents cX7_placeByEvents 3 (some .char)) 4 0 0 nn [vR (some 0), vI s, vI p] (mk u v g) (.inl (some (vI 97), mk u (stS v 26 1) g)) := by
  refine con_j (lv := [(0, vR (some 0)), (1, vI s), (2, vI p)]) (by decide) (fun ad => Nat.le_of_ble_eq_true rfl) (fun ad => rfl) rfl ?_
  intro k C hr hlv hmc hms hPo hPx htab
  refine ev_s C dX7_placeByEvents_0 (q := 1) rfl rfl ?_
  refine ev_s C dX7_placeByEvents_1 (q := 2) rfl rfl ?_
  refine ev_s C dX7_placeByEvents_2 (q := 3) rfl rfl ?_
  refine ev_cV C dX7_placeByEvents_3 (q := 6) rfl km_X7_174 kv_X7_placed kc_X7_placed (c_X7_placed_x I hs hp h) rfl rfl vcX7 go_0 (by rw [hlv]; first | decide | omega) (by decide) (Nat.le_of_ble_eq_true rfl) (Nat.zero_le _) (Nat.zero_le _) ?_
  exact ev_zret C hr (fit_C (by first | decide | omega | assumption)) dX7_placeByEvents_6 (Nat.zero_le _) (Nat.zero_le _) (po_1 hPo (by first | rfl | simp [*]) rfl)
set_option maxHeartbeats 4000000 in
set_option maxRecDepth 100000 in
theorem c_X7_placeByEvents {u v : SS} {g : GH} (I : MI v) {s p : Int} (hs : rg s) (hp : rg p) (h : noPg v s p = false) : Cn yX7_placeByEvents (wsy yX7_placeByEvents cX7_placeByEvents 3 (some .char)) 4 0 0 nn [vR (some 0), vI s, vI p] (mk u v g) (.inl (some (vI (plc (v.2 10 (8 * s + p).toNat))), mk u (stS v 26 0) g)) := by
  refine con_j (lv := [(0, vR (some 0)), (1, vI s), (2, vI p)]) (by decide) (fun ad => Nat.le_of_ble_eq_true rfl) (fun ad => rfl) rfl ?_
  intro k C hr hlv hmc hms hPo hPx htab
  have hq : 0 ≤ plc (v.2 10 (8 * s + p).toNat) ∧ plc (v.2 10 (8 * s + p).toNat) < 65536 := by unfold plc; split; decide; split; decide; split <;> decide
  refine ev_s C dX7_placeByEvents_0 (q := 1) rfl rfl ?_
  refine ev_s C dX7_placeByEvents_1 (q := 2) rfl rfl ?_
  refine ev_s C dX7_placeByEvents_2 (q := 3) rfl rfl ?_
  refine ev_cV C dX7_placeByEvents_3 (q := 6) rfl km_X7_174 kv_X7_placed kc_X7_placed (c_X7_placed I hs hp h) rfl rfl vcX7 go_0 (by rw [hlv]; first | decide | omega) (by decide) (Nat.le_of_ble_eq_true rfl) (Nat.zero_le _) (Nat.zero_le _) ?_
  exact ev_zret C hr (fit_C (by first | decide | omega | assumption)) dX7_placeByEvents_6 (Nat.zero_le _) (Nat.zero_le _) (po_1 hPo (by first | rfl | simp [*]) rfl)
set_option maxHeartbeats 4000000 in
set_option maxRecDepth 100000 in
theorem c_X7_frameOf_x1 {u v : SS} {g : GH} (I : MI v) {s p : Int} (hs : rg s) (hp : rg p) (h : noPg v s p = true) : Cn yX7_frameOf (wsy yX7_frameOf cX7_frameOf 3 (some .int)) 3 0 0 nn [vR (some 0), vI s, vI p] (mk u v g) (.inl (some (vI 0), mk u (stS v 26 1) g)) := by
  refine con_j (lv := [(0, vR (some 0)), (1, vI s), (2, vI p)]) (by decide) (fun ad => Nat.le_of_ble_eq_true rfl) (fun ad => rfl) rfl ?_
  intro k C hr hlv hmc hms hPo hPx htab
  refine ev_s C dX7_frameOf_0 (q := 1) rfl rfl ?_
  refine ev_s C dX7_frameOf_1 (q := 2) rfl rfl ?_
  refine ev_s C dX7_frameOf_2 (q := 3) rfl rfl ?_
  refine ev_cV C dX7_frameOf_3 (q := 6) rfl km_X7_91 kv_X7_isNoPage kc_X7_isNoPage (c_X7_isNoPage I (by first | decide | (unfold rg; omega) | assumption | exact bAnd_rg _ _) (by first | decide | (unfold rg; omega) | assumption | exact bAnd_rg _ _)) rfl rfl vcX7 go_0 (by rw [hlv]; first | decide | omega) (by decide) (Nat.le_of_ble_eq_true rfl) (Nat.zero_le _) (Nat.zero_le _) ?_
  rw [h]
  refine ev_eq (G := mk u (stS v 26 1) g) rfl ?_
  refine ev_ifB_ne C dX7_frameOf_6 (tgt := 36) (q := 9) (by decide) rfl (fun b0 => ?_) (fun b0 => ?_)
  · refine ev_s C dX7_frameOf_36 (q := 37) rfl rfl ?_
    refine ev_goto C dX7_frameOf_37 (tgt := 50) (by decide) ?_
    exact ev_iret C hr dX7_frameOf_50 (Nat.zero_le _) (Nat.zero_le _) (po_1 hPo (by first | rfl | simp [*]) rfl)
  · exact absurd b0 (by decide)
set_option maxHeartbeats 4000000 in
set_option maxRecDepth 100000 in
theorem c_X7_frameOf_x2 {u v : SS} {g : GH} (I : MI v) {s p : Int} (hs : rg s) (hp : rg p) (h : noPg v s p = false) (h2 : v.2 10 (8 * s + p).toNat ≠ 1) : Cn yX7_frameOf (wsy yX7_frameOf cX7_frameOf 3 (some .int)) 3 0 0 nn [vR (some 0), vI s, vI p] (mk u v g) (.inl (some (vI 0), mk u (stS (stS v 26 0) 26 2) g)) := by
  refine con_j (lv := [(0, vR (some 0)), (1, vI s), (2, vI p)]) (by decide) (fun ad => Nat.le_of_ble_eq_true rfl) (fun ad => rfl) rfl ?_
  intro k C hr hlv hmc hms hPo hPx htab
  have hq := noPg_f h
  have i0 := I.s0
  have J : MI (stS v 26 0) := MI_S I (by decide)
  have ja := J.a10 (8 * s + p).toNat
  refine ev_s C dX7_frameOf_0 (q := 1) rfl rfl ?_
  refine ev_s C dX7_frameOf_1 (q := 2) rfl rfl ?_
  refine ev_s C dX7_frameOf_2 (q := 3) rfl rfl ?_
  refine ev_cV C dX7_frameOf_3 (q := 6) rfl km_X7_91 kv_X7_isNoPage kc_X7_isNoPage (c_X7_isNoPage I (by first | decide | (unfold rg; omega) | assumption | exact bAnd_rg _ _) (by first | decide | (unfold rg; omega) | assumption | exact bAnd_rg _ _)) rfl rfl vcX7 go_0 (by rw [hlv]; first | decide | omega) (by decide) (Nat.le_of_ble_eq_true rfl) (Nat.zero_le _) (Nat.zero_le _) ?_
  rw [h]
  refine ev_eq (G := mk u (stS v 26 0) g) rfl ?_
  refine ev_ifB_ne C dX7_frameOf_6 (tgt := 36) (q := 9) (by decide) rfl (fun b0 => ?_) (fun b0 => ?_)
  · exact absurd b0 (by decide)
  · refine ev_s C dX7_frameOf_9 (q := 10) rfl rfl ?_
    refine ev_s C dX7_frameOf_10 (q := 11) rfl rfl ?_
    refine mg_10 C dX7_frameOf_11 (q := 14) rfl ?_
    refine ev_s C dX7_frameOf_14 (q := 16) rfl rfl ?_
    refine ev_s C dX7_frameOf_16 (q := 17) rfl rfl ?_
    refine ev_s C dX7_frameOf_17 (q := 18) rfl rfl ?_
    refine ev_s C dX7_frameOf_18 (q := 19) rfl rfl ?_
    refine ev_s C dX7_frameOf_19 (q := 20) rfl rfl ?_
    refine ml_10 C dX7_frameOf_20 (q := 21) rfl (by omega) ?_
    refine ev_s C dX7_frameOf_21 (q := 22) rfl rfl ?_
    refine ev_icmp_ne C dX7_frameOf_22 (tgt := 29) (q := 25) (by decide) rfl (by first | decide | (unfold rg; omega) | assumption | exact bAnd_rg _ _) (by first | decide | (unfold rg; omega) | assumption | exact bAnd_rg _ _) (fun b1 => ?_) (fun b1 => ?_)
    · refine ev_s C dX7_frameOf_29 (q := 30) rfl rfl ?_
      refine ev_cV C dX7_frameOf_30 (q := 33) rfl km_X7_79 kv_X7_fails kc_X7_fails (c_X7_fails (by first | decide | (unfold rg; omega) | assumption | exact bAnd_rg _ _)) rfl rfl vcX7 go_0 (by rw [hlv]; first | decide | omega) (by decide) (Nat.le_of_ble_eq_true rfl) (Nat.zero_le _) (Nat.zero_le _) ?_
      refine ev_ifB_eq C dX7_frameOf_33 (tgt := 40) (q := 36) (by decide) rfl (fun b2 => ?_) (fun b2 => ?_)
      · exact absurd b2 (by decide)
      · refine ev_s C dX7_frameOf_36 (q := 37) rfl rfl ?_
        refine ev_goto C dX7_frameOf_37 (tgt := 50) (by decide) ?_
        exact ev_iret C hr dX7_frameOf_50 (Nat.zero_le _) (Nat.zero_le _) (po_1 hPo (by first | rfl | simp [*]) rfl)
    · exact absurd b1 h2
set_option maxHeartbeats 4000000 in
set_option maxRecDepth 100000 in
theorem c_X7_frameOf {u v : SS} {g : GH} (I : MI v) {s p : Int} (hs : rg s) (hp : rg p) (h : noPg v s p = false) (h2 : v.2 10 (8 * s + p).toNat = 1) : Cn yX7_frameOf (wsy yX7_frameOf cX7_frameOf 3 (some .int)) 3 0 0 nn [vR (some 0), vI s, vI p] (mk u v g) (.inl (some (vI (fnd (fwB v (8 * s + p)) (v.1 11).toNat)), mk u (stS (stS v 26 0) 26 0) g)) := by
  refine con_j (lv := [(0, vR (some 0)), (1, vI s), (2, vI p)]) (by decide) (fun ad => Nat.le_of_ble_eq_true rfl) (fun ad => rfl) rfl ?_
  intro k C hr hlv hmc hms hPo hPx htab
  have hq := noPg_f h
  have i0 := I.s0
  have J : MI (stS v 26 0) := MI_S I (by decide)
  have ja := J.a10 (8 * s + p).toNat
  have K : MI (stS (stS v 26 0) 26 0) := MI_S J (by decide)
  refine ev_s C dX7_frameOf_0 (q := 1) rfl rfl ?_
  refine ev_s C dX7_frameOf_1 (q := 2) rfl rfl ?_
  refine ev_s C dX7_frameOf_2 (q := 3) rfl rfl ?_
  refine ev_cV C dX7_frameOf_3 (q := 6) rfl km_X7_91 kv_X7_isNoPage kc_X7_isNoPage (c_X7_isNoPage I (by first | decide | (unfold rg; omega) | assumption | exact bAnd_rg _ _) (by first | decide | (unfold rg; omega) | assumption | exact bAnd_rg _ _)) rfl rfl vcX7 go_0 (by rw [hlv]; first | decide | omega) (by decide) (Nat.le_of_ble_eq_true rfl) (Nat.zero_le _) (Nat.zero_le _) ?_
  rw [h]
  refine ev_eq (G := mk u (stS v 26 0) g) rfl ?_
  refine ev_ifB_ne C dX7_frameOf_6 (tgt := 36) (q := 9) (by decide) rfl (fun b0 => ?_) (fun b0 => ?_)
  · exact absurd b0 (by decide)
  · refine ev_s C dX7_frameOf_9 (q := 10) rfl rfl ?_
    refine ev_s C dX7_frameOf_10 (q := 11) rfl rfl ?_
    refine mg_10 C dX7_frameOf_11 (q := 14) rfl ?_
    refine ev_s C dX7_frameOf_14 (q := 16) rfl rfl ?_
    refine ev_s C dX7_frameOf_16 (q := 17) rfl rfl ?_
    refine ev_s C dX7_frameOf_17 (q := 18) rfl rfl ?_
    refine ev_s C dX7_frameOf_18 (q := 19) rfl rfl ?_
    refine ev_s C dX7_frameOf_19 (q := 20) rfl rfl ?_
    refine ml_10 C dX7_frameOf_20 (q := 21) rfl (by omega) ?_
    refine ev_s C dX7_frameOf_21 (q := 22) rfl rfl ?_
    refine ev_icmp_ne C dX7_frameOf_22 (tgt := 29) (q := 25) (by decide) rfl (by first | decide | (unfold rg; omega) | assumption | exact bAnd_rg _ _) (by first | decide | (unfold rg; omega) | assumption | exact bAnd_rg _ _) (fun b1 => ?_) (fun b1 => ?_)
    · exact absurd h2 b1
    · refine ev_s C dX7_frameOf_25 (q := 26) rfl rfl ?_
      refine ev_goto C dX7_frameOf_26 (tgt := 30) (by decide) ?_
      refine ev_cV C dX7_frameOf_30 (q := 33) rfl km_X7_79 kv_X7_fails kc_X7_fails (c_X7_fails (by first | decide | (unfold rg; omega) | assumption | exact bAnd_rg _ _)) rfl rfl vcX7 go_0 (by rw [hlv]; first | decide | omega) (by decide) (Nat.le_of_ble_eq_true rfl) (Nat.zero_le _) (Nat.zero_le _) ?_
      refine ev_ifB_eq C dX7_frameOf_33 (tgt := 40) (q := 36) (by decide) rfl (fun b2 => ?_) (fun b2 => ?_)
      · refine ev_s C dX7_frameOf_40 (q := 41) rfl rfl ?_
        refine ev_s C dX7_frameOf_41 (q := 43) rfl rfl ?_
        refine ev_s C dX7_frameOf_43 (q := 44) rfl rfl ?_
        refine ev_s C dX7_frameOf_44 (q := 45) rfl rfl ?_
        refine ev_s C dX7_frameOf_45 (q := 46) rfl rfl ?_
        refine ev_s C dX7_frameOf_46 (q := 47) rfl rfl ?_
        refine ev_cV C dX7_frameOf_47 (q := 50) rfl km_X7_126 kv_X7_frameWith kc_X7_frameWith (c_X7_frameWith K (by unfold rg; omega)) rfl rfl vcX7 go_0 (by rw [hlv]; first | decide | omega) (by decide) (Nat.le_of_ble_eq_true rfl) (Nat.zero_le _) (Nat.zero_le _) ?_
        exact ev_iret C hr dX7_frameOf_50 (Nat.zero_le _) (Nat.zero_le _) (po_1 hPo rfl rfl)
      · exact absurd b2 (by decide)
set_option maxHeartbeats 4000000 in
set_option maxRecDepth 100000 in
theorem c_X7_isReferenced_x {u v : SS} {g : GH} (I : MI v) {s p : Int} (hs : rg s) (hp : rg p) (h : noPg v s p = true) : Cn yX7_isReferenced (wsy yX7_isReferenced cX7_isReferenced 3 (some .boolean)) 3 0 0 nn [vR (some 0), vI s, vI p] (mk u v g) (.inl (some (vI (bI false)), mk u (stS v 26 1) g)) := by
  refine con_j (lv := [(0, vR (some 0)), (1, vI s), (2, vI p)]) (by decide) (fun ad => Nat.le_of_ble_eq_true rfl) (fun ad => rfl) rfl ?_
  intro k C hr hlv hmc hms hPo hPx htab
  refine ev_s C dX7_isReferenced_0 (q := 1) rfl rfl ?_
  refine ev_s C dX7_isReferenced_1 (q := 2) rfl rfl ?_
  refine ev_s C dX7_isReferenced_2 (q := 3) rfl rfl ?_
  refine ev_cV C dX7_isReferenced_3 (q := 6) rfl km_X7_91 kv_X7_isNoPage kc_X7_isNoPage (c_X7_isNoPage I (by first | decide | (unfold rg; omega) | assumption | exact bAnd_rg _ _) (by first | decide | (unfold rg; omega) | assumption | exact bAnd_rg _ _)) rfl rfl vcX7 go_0 (by rw [hlv]; first | decide | omega) (by decide) (Nat.le_of_ble_eq_true rfl) (Nat.zero_le _) (Nat.zero_le _) ?_
  rw [h]
  refine ev_eq (G := mk u (stS v 26 1) g) rfl ?_
  refine ev_ifB_ne C dX7_isReferenced_6 (tgt := 46) (q := 9) (by decide) rfl (fun b0 => ?_) (fun b0 => ?_)
  · refine ev_s C dX7_isReferenced_46 (q := 47) rfl rfl ?_
    exact ev_zret C hr (fit_Z (by first | decide | exact bI_01 _ | assumption)) dX7_isReferenced_47 (Nat.zero_le _) (Nat.zero_le _) (po_1 hPo (by first | rfl | simp [*]) rfl)
  · exact absurd b0 (by decide)
set_option maxHeartbeats 4000000 in
set_option maxRecDepth 100000 in
theorem c_X7_isReferenced {u v : SS} {g : GH} (I : MI v) {s p : Int} (hs : rg s) (hp : rg p) (h : noPg v s p = false) (hF : v.2 10 (8 * s + p).toNat = 1 → 0 ≤ fnd (fwB v (8 * s + p)) (v.1 11).toNat) : Cn yX7_isReferenced (wsy yX7_isReferenced cX7_isReferenced 3 (some .boolean)) 3 0 0 nn [vR (some 0), vI s, vI p] (mk u v g) (.inl (some (vI (bI (decide (v.2 10 (8 * s + p).toNat = 1) && decide (v.2 13 (fnd (fwB v (8 * s + p)) (v.1 11).toNat).toNat = 1)))), mk u (stS v 26 0) g)) := by
  refine con_j (lv := [(0, vR (some 0)), (1, vI s), (2, vI p)]) (by decide) (fun ad => Nat.le_of_ble_eq_true rfl) (fun ad => rfl) rfl ?_
  intro k C hr hlv hmc hms hPo hPx htab
  have hq := noPg_f h
  have i0 := I.s0
  have J : MI (stS v 26 0) := MI_S I (by decide)
  have ja := J.a10 (8 * s + p).toNat
  have i11 := I.s11
  have jf := fnd_bd (p := fwB v (8 * s + p)) (v.1 11).toNat
  have jr := I.a13 (fnd (fwB v (8 * s + p)) (v.1 11).toNat).toNat
  refine ev_s C dX7_isReferenced_0 (q := 1) rfl rfl ?_
  refine ev_s C dX7_isReferenced_1 (q := 2) rfl rfl ?_
  refine ev_s C dX7_isReferenced_2 (q := 3) rfl rfl ?_
  refine ev_cV C dX7_isReferenced_3 (q := 6) rfl km_X7_91 kv_X7_isNoPage kc_X7_isNoPage (c_X7_isNoPage I (by first | decide | (unfold rg; omega) | assumption | exact bAnd_rg _ _) (by first | decide | (unfold rg; omega) | assumption | exact bAnd_rg _ _)) rfl rfl vcX7 go_0 (by rw [hlv]; first | decide | omega) (by decide) (Nat.le_of_ble_eq_true rfl) (Nat.zero_le _) (Nat.zero_le _) ?_
  rw [h]
  refine ev_eq (G := mk u (stS v 26 0) g) rfl ?_
  refine ev_ifB_ne C dX7_isReferenced_6 (tgt := 46) (q := 9) (by decide) rfl (fun b0 => ?_) (fun b0 => ?_)
  · exact absurd b0 (by decide)
  · refine ev_s C dX7_isReferenced_9 (q := 10) rfl rfl ?_
    refine mg_10 C dX7_isReferenced_10 (q := 13) rfl ?_
    refine ev_s C dX7_isReferenced_13 (q := 15) rfl rfl ?_
    refine ev_s C dX7_isReferenced_15 (q := 16) rfl rfl ?_
    refine ev_s C dX7_isReferenced_16 (q := 17) rfl rfl ?_
    refine ev_s C dX7_isReferenced_17 (q := 18) rfl rfl ?_
    refine ev_s C dX7_isReferenced_18 (q := 19) rfl rfl ?_
    refine ml_10 C dX7_isReferenced_19 (q := 20) rfl (by omega) ?_
    refine ev_s C dX7_isReferenced_20 (q := 21) rfl rfl ?_
    refine ev_icmp_ne C dX7_isReferenced_21 (tgt := 46) (q := 24) (by decide) rfl (by first | decide | (unfold rg; omega) | assumption | (show rg (v.2 13 (fnd (fwB v (8 * s + p)) (v.1 11).toNat).toNat); unfold rg; omega)) (by first | decide | (unfold rg; omega) | assumption | (show rg (v.2 13 (fnd (fwB v (8 * s + p)) (v.1 11).toNat).toNat); unfold rg; omega)) (fun b1 => ?_) (fun b1 => ?_)
    · have b7 : ¬ v.2 10 (8 * s + p).toNat = 1 := b1
      refine ev_s C dX7_isReferenced_46 (q := 47) rfl rfl ?_
      exact ev_zret C hr (fit_Z (by first | decide | exact bI_01 _ | assumption)) dX7_isReferenced_47 (Nat.zero_le _) (Nat.zero_le _) (po_1 hPo (by simp [bI, *]) rfl)
    · have b7 : v.2 10 (8 * s + p).toNat = 1 := b1
      refine ev_s C dX7_isReferenced_24 (q := 25) rfl rfl ?_
      refine mg_13 C dX7_isReferenced_25 (q := 28) rfl ?_
      refine ev_s C dX7_isReferenced_28 (q := 29) rfl rfl ?_
      refine ev_s C dX7_isReferenced_29 (q := 31) rfl rfl ?_
      refine ev_s C dX7_isReferenced_31 (q := 32) rfl rfl ?_
      refine ev_s C dX7_isReferenced_32 (q := 33) rfl rfl ?_
      refine ev_s C dX7_isReferenced_33 (q := 34) rfl rfl ?_
      refine ev_s C dX7_isReferenced_34 (q := 35) rfl rfl ?_
      refine ev_cV C dX7_isReferenced_35 (q := 38) rfl km_X7_126 kv_X7_frameWith kc_X7_frameWith (c_X7_frameWith J (by unfold rg; omega)) rfl rfl vcX7 go_0 (by rw [hlv]; first | decide | omega) (by decide) (Nat.le_of_ble_eq_true rfl) (Nat.zero_le _) (Nat.zero_le _) ?_
      refine ml_13 C dX7_isReferenced_38 (q := 39) rfl (by have h9 := hF (by assumption); show 0 ≤ fnd (fwB v (8 * s + p)) (v.1 11).toNat ∧ fnd (fwB v (8 * s + p)) (v.1 11).toNat < 16; omega) ?_
      refine ev_if_eq C dX7_isReferenced_39 (tgt := 46) (q := 42) (by decide) rfl (by first | decide | (unfold rg; omega) | assumption | (show rg (v.2 13 (fnd (fwB v (8 * s + p)) (v.1 11).toNat).toNat); unfold rg; omega)) (fun b2 => ?_) (fun b2 => ?_)
      · have b9 : v.2 13 (fnd (fwB v (8 * s + p)) (v.1 11).toNat).toNat = 0 := b2
        refine ev_s C dX7_isReferenced_46 (q := 47) rfl rfl ?_
        exact ev_zret C hr (fit_Z (by first | decide | exact bI_01 _ | assumption)) dX7_isReferenced_47 (Nat.zero_le _) (Nat.zero_le _) (po_1 hPo (by simp [bI, *]) rfl)
      · have b9 : ¬ v.2 13 (fnd (fwB v (8 * s + p)) (v.1 11).toNat).toNat = 0 := b2
        have b8 : v.2 13 (fnd (fwB v (8 * s + p)) (v.1 11).toNat).toNat = 1 := by omega
        refine ev_s C dX7_isReferenced_42 (q := 43) rfl rfl ?_
        refine ev_goto C dX7_isReferenced_43 (tgt := 47) (by decide) ?_
        exact ev_zret C hr (fit_Z (by first | decide | exact bI_01 _ | assumption)) dX7_isReferenced_47 (Nat.zero_le _) (Nat.zero_le _) (po_1 hPo (by simp [bI, *]) rfl)
def frI (v : SS) (f : Nat) : Int := bI (frB v f)
theorem frI_bd (v : SS) (n : Nat) : 0 ≤ sumN n (frI v) ∧ sumN n (frI v) ≤ n := by
  have := sumN_bd (N := n) (p := frI v) (a := 0) (b := 1) (fun z _ => by have := bI_01 (frB v z); unfold frI; omega)
  omega
set_option maxHeartbeats 4000000 in
set_option maxRecDepth 100000 in
theorem l_X7_free {k : Kx} (C : CX k RX7 cX7_free 3) {u v : SS} {g : GH} (I : MI v) {N : Nat} (hN : v.1 11 = (N : Int)) (hr : (kmeth k).sig.returnType = some .int) (hPo : kPo k = PoR (.inl (some (vI (sumN N (frI v))), mk u v g))) : ∀ (m z : Nat) (a iz : Int), iz = z → a = sumN z (frI v) → z ≤ N → N < z + m → EV k 9 [(0, vR (some 0)), (1, vI a), (2, vI iz)] [] (mk u v g) 0 0 := by
  intro m
  induction m with
  | zero =>
    intros
    exfalso
    omega
  | succ m ih =>
    intro z a iz e0 ea h1 h2
    have i11 := I.s11
    have ia := I.a12 z
    have ib := I.a12 iz.toNat
    have hsum := frI_bd v z
    have e1 : v.2 12 iz.toNat = v.2 12 z := by rw [e0]; rfl
    refine ev_s C dX7_free_9 (q := 10) rfl rfl ?_
    refine ev_s C dX7_free_10 (q := 11) rfl rfl ?_
    refine mg_11 C dX7_free_11 (q := 14) rfl ?_
    refine ev_icmp_ge C dX7_free_14 (tgt := 40) (q := 17) (by decide) rfl (by first | decide | (unfold rg; omega) | assumption | exact bAnd_rg _ _) (by first | decide | (unfold rg; omega) | assumption | exact bAnd_rg _ _) (fun b0 => ?_) (fun b0 => ?_)
    · refine ev_s C dX7_free_40 (q := 41) rfl rfl ?_
      exact ev_iret C hr dX7_free_41 (Nat.zero_le _) (Nat.zero_le _) (po_1 hPo (by (obtain rfl : z = N := (by omega)); rw [ea]) rfl)
    · refine ev_s C dX7_free_17 (q := 18) rfl rfl ?_
      refine ev_s C dX7_free_18 (q := 19) rfl rfl ?_
      refine mg_12 C dX7_free_19 (q := 22) rfl ?_
      refine ev_s C dX7_free_22 (q := 23) rfl rfl ?_
      refine ml_12 C dX7_free_23 (q := 24) rfl (by omega) ?_
      refine ev_if_ge C dX7_free_24 (tgt := 31) (q := 27) (by decide) rfl (by first | decide | (unfold rg; omega) | assumption | exact bAnd_rg _ _) (fun b1 => ?_) (fun b1 => ?_)
      · refine ev_s C dX7_free_31 (q := 32) rfl rfl ?_
        refine ev_s C dX7_free_32 (q := 33) rfl rfl ?_
        refine ev_s C dX7_free_33 (q := 34) rfl rfl ?_
        refine ev_s C dX7_free_34 (q := 37) rfl rfl ?_
        refine ev_goto C dX7_free_37 (tgt := 9) (by decide) ?_
        subst e0
        exact ih (z + 1) _ _ (by omega) (by show _ = sumN z (frI v) + frI v z; rw [ea]; congr 1; unfold frI frB; first | (rw [decide_eq_true (show v.2 12 z < 0 by omega)]; rfl) | (rw [decide_eq_false (show ¬ v.2 12 z < 0 by omega)]; rfl)) (by omega) (by omega)
      · refine ev_s C dX7_free_27 (q := 28) rfl rfl ?_
        refine ev_goto C dX7_free_28 (tgt := 32) (by decide) ?_
        refine ev_s C dX7_free_32 (q := 33) rfl rfl ?_
        refine ev_s C dX7_free_33 (q := 34) rfl rfl ?_
        refine ev_s C dX7_free_34 (q := 37) rfl rfl ?_
        refine ev_goto C dX7_free_37 (tgt := 9) (by decide) ?_
        subst e0
        exact ih (z + 1) _ _ (by omega) (by show _ = sumN z (frI v) + frI v z; rw [ea]; congr 1; unfold frI frB; first | (rw [decide_eq_true (show v.2 12 z < 0 by omega)]; rfl) | (rw [decide_eq_false (show ¬ v.2 12 z < 0 by omega)]; rfl)) (by omega) (by omega)
set_option maxHeartbeats 4000000 in
set_option maxRecDepth 100000 in
theorem c_X7_free {u v : SS} {g : GH} (I : MI v) : Cn yX7_free (wsy yX7_free cX7_free 3 (some .int)) 0 0 0 nn [vR (some 0)] (mk u v g) (.inl (some (vI (sumN (v.1 11).toNat (frI v))), mk u (stS v 26 0) g)) := by
  refine con_j (lv := [(0, vR (some 0))]) (by decide) (fun ad => Nat.le_of_ble_eq_true rfl) (fun ad => rfl) rfl ?_
  intro k C hr hlv hmc hms hPo hPx htab
  refine ev_s C dX7_free_0 (q := 1) rfl rfl ?_
  refine ev_s C dX7_free_1 (q := 2) rfl rfl ?_
  refine mp_26 C dX7_free_2 (q := 5) rfl ?_
  refine ev_s C dX7_free_5 (q := 6) rfl rfl ?_
  refine ev_s C dX7_free_6 (q := 7) rfl rfl ?_
  refine ev_s C dX7_free_7 (q := 8) rfl rfl ?_
  refine ev_s C dX7_free_8 (q := 9) rfl rfl ?_
  have i11 := I.s11
  exact l_X7_free C (v := stS v 26 0) (MI_S I (by decide)) (N := (v.1 11).toNat) (by show v.1 11 = _; omega) hr hPo ((v.1 11).toNat + 1) 0 _ _ rfl rfl (Nat.zero_le _) (by omega)
set_option maxHeartbeats 4000000 in
set_option maxRecDepth 100000 in
theorem c_X7_storedAt_x {u v : SS} {g : GH} (I : MI v) {s : Int} (hs : rg s) (h : inB s 0 (v.1 16 - 1) = false) : Cn yX7_storedAt (wsy yX7_storedAt cX7_storedAt 2 (some .int)) 3 0 0 nn [vR (some 0), vI s] (mk u v g) (.inl (some (vI 0), mk u (stS v 26 1) g)) := by
  refine con_j (lv := [(0, vR (some 0)), (1, vI s)]) (by decide) (fun ad => Nat.le_of_ble_eq_true rfl) (fun ad => rfl) rfl ?_
  intro k C hr hlv hmc hms hPo hPx htab
  have i16 := I.s16
  refine ev_s C dX7_storedAt_0 (q := 1) rfl rfl ?_
  refine ev_s C dX7_storedAt_1 (q := 2) rfl rfl ?_
  refine ev_s C dX7_storedAt_2 (q := 3) rfl rfl ?_
  refine ev_s C dX7_storedAt_3 (q := 4) rfl rfl ?_
  refine mg_16 C dX7_storedAt_4 (q := 7) rfl ?_
  refine ev_s C dX7_storedAt_7 (q := 8) rfl rfl ?_
  refine ev_s C dX7_storedAt_8 (q := 9) rfl rfl ?_
  refine ev_cS C dX7_storedAt_9 (q := 12) rfl km_X7_71 ks_X7_in kc_X7_in (c_X7_in (by first | decide | (unfold rg; omega) | assumption | exact bAnd_rg _ _) (by first | decide | (unfold rg; omega) | assumption | exact bAnd_rg _ _) (by first | decide | (unfold rg; omega) | assumption | exact bAnd_rg _ _)) rfl rfl (by rw [hlv]; first | decide | omega) (by decide) (Nat.le_of_ble_eq_true rfl) (Nat.zero_le _) (Nat.zero_le _) ?_
  refine ev_ifB_eq C dX7_storedAt_12 (tgt := 19) (q := 15) (by decide) rfl (fun b0 => ?_) (fun b0 => ?_)
  · refine ev_s C dX7_storedAt_19 (q := 20) rfl rfl ?_
    refine ev_cV C dX7_storedAt_20 (q := 23) rfl km_X7_79 kv_X7_fails kc_X7_fails (c_X7_fails (by first | decide | (unfold rg; omega) | assumption | exact bAnd_rg _ _)) rfl rfl vcX7 go_0 (by rw [hlv]; first | decide | omega) (by decide) (Nat.le_of_ble_eq_true rfl) (Nat.zero_le _) (Nat.zero_le _) ?_
    refine ev_ifB_eq C dX7_storedAt_23 (tgt := 30) (q := 26) (by decide) rfl (fun b1 => ?_) (fun b1 => ?_)
    · exact absurd b1 (by decide)
    · refine ev_s C dX7_storedAt_26 (q := 27) rfl rfl ?_
      refine ev_goto C dX7_storedAt_27 (tgt := 36) (by decide) ?_
      exact ev_iret C hr dX7_storedAt_36 (Nat.zero_le _) (Nat.zero_le _) (po_1 hPo (by first | rfl | simp [*]) rfl)
  · exact absurd (h.symm.trans b0) (by decide)
set_option maxHeartbeats 4000000 in
set_option maxRecDepth 100000 in
theorem c_X7_storedAt {u v : SS} {g : GH} (I : MI v) {s : Int} (hs : rg s) (h : 0 ≤ s ∧ s < v.1 16) : Cn yX7_storedAt (wsy yX7_storedAt cX7_storedAt 2 (some .int)) 3 0 0 nn [vR (some 0), vI s] (mk u v g) (.inl (some (vI (v.2 17 s.toNat)), mk u (stS v 26 0) g)) := by
  refine con_j (lv := [(0, vR (some 0)), (1, vI s)]) (by decide) (fun ad => Nat.le_of_ble_eq_true rfl) (fun ad => rfl) rfl ?_
  intro k C hr hlv hmc hms hPo hPx htab
  have i16 := I.s16
  refine ev_s C dX7_storedAt_0 (q := 1) rfl rfl ?_
  refine ev_s C dX7_storedAt_1 (q := 2) rfl rfl ?_
  refine ev_s C dX7_storedAt_2 (q := 3) rfl rfl ?_
  refine ev_s C dX7_storedAt_3 (q := 4) rfl rfl ?_
  refine mg_16 C dX7_storedAt_4 (q := 7) rfl ?_
  refine ev_s C dX7_storedAt_7 (q := 8) rfl rfl ?_
  refine ev_s C dX7_storedAt_8 (q := 9) rfl rfl ?_
  refine ev_cS C dX7_storedAt_9 (q := 12) rfl km_X7_71 ks_X7_in kc_X7_in (c_X7_in (by first | decide | (unfold rg; omega) | assumption | exact bAnd_rg _ _) (by first | decide | (unfold rg; omega) | assumption | exact bAnd_rg _ _) (by first | decide | (unfold rg; omega) | assumption | exact bAnd_rg _ _)) rfl rfl (by rw [hlv]; first | decide | omega) (by decide) (Nat.le_of_ble_eq_true rfl) (Nat.zero_le _) (Nat.zero_le _) ?_
  refine ev_ifB_eq C dX7_storedAt_12 (tgt := 19) (q := 15) (by decide) rfl (fun b0 => ?_) (fun b0 => ?_)
  · exact absurd b0 (by unfold inB; simp; omega)
  · refine ev_s C dX7_storedAt_15 (q := 16) rfl rfl ?_
    refine ev_goto C dX7_storedAt_16 (tgt := 20) (by decide) ?_
    refine ev_cV C dX7_storedAt_20 (q := 23) rfl km_X7_79 kv_X7_fails kc_X7_fails (c_X7_fails (by first | decide | (unfold rg; omega) | assumption | exact bAnd_rg _ _)) rfl rfl vcX7 go_0 (by rw [hlv]; first | decide | omega) (by decide) (Nat.le_of_ble_eq_true rfl) (Nat.zero_le _) (Nat.zero_le _) ?_
    refine ev_ifB_eq C dX7_storedAt_23 (tgt := 30) (q := 26) (by decide) rfl (fun b1 => ?_) (fun b1 => ?_)
    · refine ev_s C dX7_storedAt_30 (q := 31) rfl rfl ?_
      refine mg_17 C dX7_storedAt_31 (q := 34) rfl ?_
      refine ev_s C dX7_storedAt_34 (q := 35) rfl rfl ?_
      refine ml_17 C dX7_storedAt_35 (q := 36) rfl (by omega) ?_
      exact ev_iret C hr dX7_storedAt_36 (Nat.zero_le _) (Nat.zero_le _) (po_1 hPo rfl rfl)
    · exact absurd b1 (by decide)
set_option maxHeartbeats 4000000 in
set_option maxRecDepth 100000 in
theorem l_X7_onDisk {k : Kx} (C : CX k RX7 cX7_onDisk 3) (hlv : klev k = 1) {u v : SS} {g : GH} (I : MI v) {N : Nat} (hN : v.1 0 = (N : Int)) (hr : (kmeth k).sig.returnType = some .int) (hPo : kPo k = PoR (.inl (some (vI (sumN N (fun j => sumN 8 (ipf v j 3)))), mk u v g))) : ∀ (m z : Nat) (a iz : Int), iz = z → a = sumN z (fun j => sumN 8 (ipf v j 3)) → z ≤ N → N < z + m → EV k 9 [(0, vR (some 0)), (1, vI a), (2, vI iz)] [] (mk u v g) 0 0 := by
  intro m
  induction m with
  | zero =>
    intros
    exfalso
    omega
  | succ m ih =>
    intro z a iz e0 ea h1 h2
    have i0 := I.s0
    have ib := ipf_bd v iz 3
    have hsum := sumN_bd (N := z) (p := fun j => sumN 8 (ipf v j 3)) (a := 0) (b := 8) (fun j _ => ipf_bd v j 3)
    refine ev_s C dX7_onDisk_9 (q := 10) rfl rfl ?_
    refine ev_s C dX7_onDisk_10 (q := 11) rfl rfl ?_
    refine mg_0 C dX7_onDisk_11 (q := 14) rfl ?_
    refine ev_icmp_ge C dX7_onDisk_14 (tgt := 32) (q := 17) (by decide) rfl (by first | decide | (unfold rg; omega) | assumption | exact bAnd_rg _ _) (by first | decide | (unfold rg; omega) | assumption | exact bAnd_rg _ _) (fun b0 => ?_) (fun b0 => ?_)
    · refine ev_s C dX7_onDisk_32 (q := 33) rfl rfl ?_
      exact ev_iret C hr dX7_onDisk_33 (Nat.zero_le _) (Nat.zero_le _) (po_1 hPo (by (obtain rfl : z = N := (by omega)); rw [ea]) rfl)
    · refine ev_s C dX7_onDisk_17 (q := 18) rfl rfl ?_
      refine ev_s C dX7_onDisk_18 (q := 19) rfl rfl ?_
      refine ev_s C dX7_onDisk_19 (q := 20) rfl rfl ?_
      refine ev_s C dX7_onDisk_20 (q := 21) rfl rfl ?_
      refine ev_cV C dX7_onDisk_21 (q := 24) rfl km_X7_146 kv_X7_inPlace kc_X7_inPlace (c_X7_inPlace I (by omega) (by unfold rg; omega)) rfl rfl vcX7 go_0 (by rw [hlv]; first | decide | omega) (by decide) (Nat.le_of_ble_eq_true rfl) (Nat.zero_le _) (Nat.zero_le _) ?_
      refine ev_s C dX7_onDisk_24 (q := 25) rfl rfl ?_
      refine ev_s C dX7_onDisk_25 (q := 26) rfl rfl ?_
      refine ev_s C dX7_onDisk_26 (q := 29) rfl rfl ?_
      refine ev_goto C dX7_onDisk_29 (tgt := 9) (by decide) ?_
      subst e0
      exact ih (z + 1) _ _ (by omega) (by show _ = sumN z (fun j => sumN 8 (ipf v j 3)) + sumN 8 (ipf v z 3); rw [ea]) (by omega) (by omega)
set_option maxHeartbeats 4000000 in
set_option maxRecDepth 100000 in
theorem c_X7_onDisk {u v : SS} {g : GH} (I : MI v) : Cn yX7_onDisk (wsy yX7_onDisk cX7_onDisk 3 (some .int)) 1 0 0 nn [vR (some 0)] (mk u v g) (.inl (some (vI (sumN (v.1 0).toNat (fun j => sumN 8 (ipf v j 3)))), mk u (stS v 26 0) g)) := by
  refine con_j (lv := [(0, vR (some 0))]) (by decide) (fun ad => Nat.le_of_ble_eq_true rfl) (fun ad => rfl) rfl ?_
  intro k C hr hlv hmc hms hPo hPx htab
  refine ev_s C dX7_onDisk_0 (q := 1) rfl rfl ?_
  refine ev_s C dX7_onDisk_1 (q := 2) rfl rfl ?_
  refine mp_26 C dX7_onDisk_2 (q := 5) rfl ?_
  refine ev_s C dX7_onDisk_5 (q := 6) rfl rfl ?_
  refine ev_s C dX7_onDisk_6 (q := 7) rfl rfl ?_
  refine ev_s C dX7_onDisk_7 (q := 8) rfl rfl ?_
  refine ev_s C dX7_onDisk_8 (q := 9) rfl rfl ?_
  have i0 := I.s0
  exact l_X7_onDisk C hlv (v := stS v 26 0) (MI_S I (by decide)) (N := (v.1 0).toNat) (by show v.1 0 = _; omega) hr hPo ((v.1 0).toNat + 1) 0 _ _ rfl rfl (Nat.zero_le _) (by omega)
def plI (c : Int) : Int := if c = 102 then 1 else if c = 115 then 2 else if c = 100 then 3 else if c = 45 then 0 else -1
set_option maxHeartbeats 4000000 in
set_option maxRecDepth 100000 in
theorem c_X7_pagesIn_x1 {u v : SS} {g : GH} (I : MI v) {s c : Int} (hs : rg s) (hc : 0 ≤ c ∧ c < 65536) (h : nonB v s = true) : Cn yX7_pagesIn (wsy yX7_pagesIn cX7_pagesIn 4 (some .int)) 3 0 0 nn [vR (some 0), vI s, vI c] (mk u v g) (.inl (some (vI 0), mk u (stS v 26 1) g)) := by
  refine con_j (lv := [(0, vR (some 0)), (1, vI s), (2, vI c)]) (by decide) (fun ad => Nat.le_of_ble_eq_true rfl) (fun ad => rfl) rfl ?_
  intro k C hr hlv hmc hms hPo hPx htab
  have i0 := I.s0
  refine ev_s C dX7_pagesIn_0 (q := 1) rfl rfl ?_
  refine ev_s C dX7_pagesIn_1 (q := 3) rfl rfl ?_
  refine ev_icmp_ne C dX7_pagesIn_3 (tgt := 10) (q := 6) (by decide) rfl (by first | decide | (unfold rg; omega) | assumption | exact bAnd_rg _ _) (by first | decide | (unfold rg; omega) | assumption | exact bAnd_rg _ _) (fun b0 => ?_) (fun b0 => ?_)
  · refine ev_s C dX7_pagesIn_10 (q := 11) rfl rfl ?_
    refine ev_s C dX7_pagesIn_11 (q := 13) rfl rfl ?_
    refine ev_icmp_ne C dX7_pagesIn_13 (tgt := 20) (q := 16) (by decide) rfl (by first | decide | (unfold rg; omega) | assumption | exact bAnd_rg _ _) (by first | decide | (unfold rg; omega) | assumption | exact bAnd_rg _ _) (fun b1 => ?_) (fun b1 => ?_)
    · refine ev_s C dX7_pagesIn_20 (q := 21) rfl rfl ?_
      refine ev_s C dX7_pagesIn_21 (q := 23) rfl rfl ?_
      refine ev_icmp_ne C dX7_pagesIn_23 (tgt := 30) (q := 26) (by decide) rfl (by first | decide | (unfold rg; omega) | assumption | exact bAnd_rg _ _) (by first | decide | (unfold rg; omega) | assumption | exact bAnd_rg _ _) (fun b2 => ?_) (fun b2 => ?_)
      · refine ev_s C dX7_pagesIn_30 (q := 31) rfl rfl ?_
        refine ev_s C dX7_pagesIn_31 (q := 33) rfl rfl ?_
        refine ev_icmp_ne C dX7_pagesIn_33 (tgt := 40) (q := 36) (by decide) rfl (by first | decide | (unfold rg; omega) | assumption | exact bAnd_rg _ _) (by first | decide | (unfold rg; omega) | assumption | exact bAnd_rg _ _) (fun b3 => ?_) (fun b3 => ?_)
        · refine ev_s C dX7_pagesIn_40 (q := 41) rfl rfl ?_
          refine ev_s C dX7_pagesIn_41 (q := 42) rfl rfl ?_
          refine ev_s C dX7_pagesIn_42 (q := 43) rfl rfl ?_
          refine ev_s C dX7_pagesIn_43 (q := 44) rfl rfl ?_
          refine ev_s C dX7_pagesIn_44 (q := 45) rfl rfl ?_
          refine ev_cV C dX7_pagesIn_45 (q := 48) rfl km_X7_75 kv_X7_isNone kc_X7_isNone (c_X7_isNone I (by first | decide | (unfold rg; omega) | assumption | exact bAnd_rg _ _)) rfl rfl vcX7 go_0 (by rw [hlv]; first | decide | omega) (by decide) (Nat.le_of_ble_eq_true rfl) (Nat.zero_le _) (Nat.zero_le _) ?_
          refine ev_ifB_eq C dX7_pagesIn_48 (tgt := 55) (q := 51) (by decide) rfl (fun b4 => ?_) (fun b4 => ?_)
          · exact absurd (h.symm.trans b4) (by decide)
          · refine ev_s C dX7_pagesIn_51 (q := 52) rfl rfl ?_
            refine ev_goto C dX7_pagesIn_52 (tgt := 64) (by decide) ?_
            refine ev_cV C dX7_pagesIn_64 (q := 67) rfl km_X7_79 kv_X7_fails kc_X7_fails (c_X7_fails (by first | decide | (unfold rg; omega) | assumption | exact bAnd_rg _ _)) rfl rfl vcX7 go_0 (by rw [hlv]; first | decide | omega) (by decide) (Nat.le_of_ble_eq_true rfl) (Nat.zero_le _) (Nat.zero_le _) ?_
            refine ev_ifB_eq C dX7_pagesIn_67 (tgt := 74) (q := 70) (by decide) rfl (fun b5 => ?_) (fun b5 => ?_)
            · exact absurd b5 (by decide)
            · refine ev_s C dX7_pagesIn_70 (q := 71) rfl rfl ?_
              refine ev_goto C dX7_pagesIn_71 (tgt := 80) (by decide) ?_
              exact ev_iret C hr dX7_pagesIn_80 (Nat.zero_le _) (Nat.zero_le _) (po_1 hPo (by first | rfl | simp [*]) rfl)
        · refine ev_s C dX7_pagesIn_36 (q := 37) rfl rfl ?_
          refine ev_goto C dX7_pagesIn_37 (tgt := 41) (by decide) ?_
          refine ev_s C dX7_pagesIn_41 (q := 42) rfl rfl ?_
          refine ev_s C dX7_pagesIn_42 (q := 43) rfl rfl ?_
          refine ev_s C dX7_pagesIn_43 (q := 44) rfl rfl ?_
          refine ev_s C dX7_pagesIn_44 (q := 45) rfl rfl ?_
          refine ev_cV C dX7_pagesIn_45 (q := 48) rfl km_X7_75 kv_X7_isNone kc_X7_isNone (c_X7_isNone I (by first | decide | (unfold rg; omega) | assumption | exact bAnd_rg _ _)) rfl rfl vcX7 go_0 (by rw [hlv]; first | decide | omega) (by decide) (Nat.le_of_ble_eq_true rfl) (Nat.zero_le _) (Nat.zero_le _) ?_
          refine ev_ifB_eq C dX7_pagesIn_48 (tgt := 55) (q := 51) (by decide) rfl (fun b6 => ?_) (fun b6 => ?_)
          · exact absurd (h.symm.trans b6) (by decide)
          · refine ev_s C dX7_pagesIn_51 (q := 52) rfl rfl ?_
            refine ev_goto C dX7_pagesIn_52 (tgt := 64) (by decide) ?_
            refine ev_cV C dX7_pagesIn_64 (q := 67) rfl km_X7_79 kv_X7_fails kc_X7_fails (c_X7_fails (by first | decide | (unfold rg; omega) | assumption | exact bAnd_rg _ _)) rfl rfl vcX7 go_0 (by rw [hlv]; first | decide | omega) (by decide) (Nat.le_of_ble_eq_true rfl) (Nat.zero_le _) (Nat.zero_le _) ?_
            refine ev_ifB_eq C dX7_pagesIn_67 (tgt := 74) (q := 70) (by decide) rfl (fun b7 => ?_) (fun b7 => ?_)
            · exact absurd b7 (by decide)
            · refine ev_s C dX7_pagesIn_70 (q := 71) rfl rfl ?_
              refine ev_goto C dX7_pagesIn_71 (tgt := 80) (by decide) ?_
              exact ev_iret C hr dX7_pagesIn_80 (Nat.zero_le _) (Nat.zero_le _) (po_1 hPo (by first | rfl | simp [*]) rfl)
      · refine ev_s C dX7_pagesIn_26 (q := 27) rfl rfl ?_
        refine ev_goto C dX7_pagesIn_27 (tgt := 41) (by decide) ?_
        refine ev_s C dX7_pagesIn_41 (q := 42) rfl rfl ?_
        refine ev_s C dX7_pagesIn_42 (q := 43) rfl rfl ?_
        refine ev_s C dX7_pagesIn_43 (q := 44) rfl rfl ?_
        refine ev_s C dX7_pagesIn_44 (q := 45) rfl rfl ?_
        refine ev_cV C dX7_pagesIn_45 (q := 48) rfl km_X7_75 kv_X7_isNone kc_X7_isNone (c_X7_isNone I (by first | decide | (unfold rg; omega) | assumption | exact bAnd_rg _ _)) rfl rfl vcX7 go_0 (by rw [hlv]; first | decide | omega) (by decide) (Nat.le_of_ble_eq_true rfl) (Nat.zero_le _) (Nat.zero_le _) ?_
        refine ev_ifB_eq C dX7_pagesIn_48 (tgt := 55) (q := 51) (by decide) rfl (fun b8 => ?_) (fun b8 => ?_)
        · exact absurd (h.symm.trans b8) (by decide)
        · refine ev_s C dX7_pagesIn_51 (q := 52) rfl rfl ?_
          refine ev_goto C dX7_pagesIn_52 (tgt := 64) (by decide) ?_
          refine ev_cV C dX7_pagesIn_64 (q := 67) rfl km_X7_79 kv_X7_fails kc_X7_fails (c_X7_fails (by first | decide | (unfold rg; omega) | assumption | exact bAnd_rg _ _)) rfl rfl vcX7 go_0 (by rw [hlv]; first | decide | omega) (by decide) (Nat.le_of_ble_eq_true rfl) (Nat.zero_le _) (Nat.zero_le _) ?_
          refine ev_ifB_eq C dX7_pagesIn_67 (tgt := 74) (q := 70) (by decide) rfl (fun b9 => ?_) (fun b9 => ?_)
          · exact absurd b9 (by decide)
          · refine ev_s C dX7_pagesIn_70 (q := 71) rfl rfl ?_
            refine ev_goto C dX7_pagesIn_71 (tgt := 80) (by decide) ?_
            exact ev_iret C hr dX7_pagesIn_80 (Nat.zero_le _) (Nat.zero_le _) (po_1 hPo (by first | rfl | simp [*]) rfl)
    · refine ev_s C dX7_pagesIn_16 (q := 17) rfl rfl ?_
      refine ev_goto C dX7_pagesIn_17 (tgt := 41) (by decide) ?_
      refine ev_s C dX7_pagesIn_41 (q := 42) rfl rfl ?_
      refine ev_s C dX7_pagesIn_42 (q := 43) rfl rfl ?_
      refine ev_s C dX7_pagesIn_43 (q := 44) rfl rfl ?_
      refine ev_s C dX7_pagesIn_44 (q := 45) rfl rfl ?_
      refine ev_cV C dX7_pagesIn_45 (q := 48) rfl km_X7_75 kv_X7_isNone kc_X7_isNone (c_X7_isNone I (by first | decide | (unfold rg; omega) | assumption | exact bAnd_rg _ _)) rfl rfl vcX7 go_0 (by rw [hlv]; first | decide | omega) (by decide) (Nat.le_of_ble_eq_true rfl) (Nat.zero_le _) (Nat.zero_le _) ?_
      refine ev_ifB_eq C dX7_pagesIn_48 (tgt := 55) (q := 51) (by decide) rfl (fun b10 => ?_) (fun b10 => ?_)
      · exact absurd (h.symm.trans b10) (by decide)
      · refine ev_s C dX7_pagesIn_51 (q := 52) rfl rfl ?_
        refine ev_goto C dX7_pagesIn_52 (tgt := 64) (by decide) ?_
        refine ev_cV C dX7_pagesIn_64 (q := 67) rfl km_X7_79 kv_X7_fails kc_X7_fails (c_X7_fails (by first | decide | (unfold rg; omega) | assumption | exact bAnd_rg _ _)) rfl rfl vcX7 go_0 (by rw [hlv]; first | decide | omega) (by decide) (Nat.le_of_ble_eq_true rfl) (Nat.zero_le _) (Nat.zero_le _) ?_
        refine ev_ifB_eq C dX7_pagesIn_67 (tgt := 74) (q := 70) (by decide) rfl (fun b11 => ?_) (fun b11 => ?_)
        · exact absurd b11 (by decide)
        · refine ev_s C dX7_pagesIn_70 (q := 71) rfl rfl ?_
          refine ev_goto C dX7_pagesIn_71 (tgt := 80) (by decide) ?_
          exact ev_iret C hr dX7_pagesIn_80 (Nat.zero_le _) (Nat.zero_le _) (po_1 hPo (by first | rfl | simp [*]) rfl)
  · refine ev_s C dX7_pagesIn_6 (q := 7) rfl rfl ?_
    refine ev_goto C dX7_pagesIn_7 (tgt := 41) (by decide) ?_
    refine ev_s C dX7_pagesIn_41 (q := 42) rfl rfl ?_
    refine ev_s C dX7_pagesIn_42 (q := 43) rfl rfl ?_
    refine ev_s C dX7_pagesIn_43 (q := 44) rfl rfl ?_
    refine ev_s C dX7_pagesIn_44 (q := 45) rfl rfl ?_
    refine ev_cV C dX7_pagesIn_45 (q := 48) rfl km_X7_75 kv_X7_isNone kc_X7_isNone (c_X7_isNone I (by first | decide | (unfold rg; omega) | assumption | exact bAnd_rg _ _)) rfl rfl vcX7 go_0 (by rw [hlv]; first | decide | omega) (by decide) (Nat.le_of_ble_eq_true rfl) (Nat.zero_le _) (Nat.zero_le _) ?_
    refine ev_ifB_eq C dX7_pagesIn_48 (tgt := 55) (q := 51) (by decide) rfl (fun b12 => ?_) (fun b12 => ?_)
    · exact absurd (h.symm.trans b12) (by decide)
    · refine ev_s C dX7_pagesIn_51 (q := 52) rfl rfl ?_
      refine ev_goto C dX7_pagesIn_52 (tgt := 64) (by decide) ?_
      refine ev_cV C dX7_pagesIn_64 (q := 67) rfl km_X7_79 kv_X7_fails kc_X7_fails (c_X7_fails (by first | decide | (unfold rg; omega) | assumption | exact bAnd_rg _ _)) rfl rfl vcX7 go_0 (by rw [hlv]; first | decide | omega) (by decide) (Nat.le_of_ble_eq_true rfl) (Nat.zero_le _) (Nat.zero_le _) ?_
      refine ev_ifB_eq C dX7_pagesIn_67 (tgt := 74) (q := 70) (by decide) rfl (fun b13 => ?_) (fun b13 => ?_)
      · exact absurd b13 (by decide)
      · refine ev_s C dX7_pagesIn_70 (q := 71) rfl rfl ?_
        refine ev_goto C dX7_pagesIn_71 (tgt := 80) (by decide) ?_
        exact ev_iret C hr dX7_pagesIn_80 (Nat.zero_le _) (Nat.zero_le _) (po_1 hPo (by first | rfl | simp [*]) rfl)
set_option maxHeartbeats 4000000 in
set_option maxRecDepth 100000 in
theorem c_X7_pagesIn_x2 {u v : SS} {g : GH} (I : MI v) {s c : Int} (hs : rg s) (hc : 0 ≤ c ∧ c < 65536) (h : nonB v s = false) (h2 : plI c < 0) : Cn yX7_pagesIn (wsy yX7_pagesIn cX7_pagesIn 4 (some .int)) 3 0 0 nn [vR (some 0), vI s, vI c] (mk u v g) (.inl (some (vI 0), mk u (stS v 26 2) g)) := by
  refine con_j (lv := [(0, vR (some 0)), (1, vI s), (2, vI c)]) (by decide) (fun ad => Nat.le_of_ble_eq_true rfl) (fun ad => rfl) rfl ?_
  intro k C hr hlv hmc hms hPo hPx htab
  have hq := nonB_f h
  have i0 := I.s0
  have J : MI (stS v 26 0) := MI_S I (by decide)
  unfold plI at h2
  refine ev_s C dX7_pagesIn_0 (q := 1) rfl rfl ?_
  refine ev_s C dX7_pagesIn_1 (q := 3) rfl rfl ?_
  refine ev_icmp_ne C dX7_pagesIn_3 (tgt := 10) (q := 6) (by decide) rfl (by first | decide | (unfold rg; omega) | assumption | exact bAnd_rg _ _) (by first | decide | (unfold rg; omega) | assumption | exact bAnd_rg _ _) (fun b0 => ?_) (fun b0 => ?_)
  · refine ev_s C dX7_pagesIn_10 (q := 11) rfl rfl ?_
    refine ev_s C dX7_pagesIn_11 (q := 13) rfl rfl ?_
    refine ev_icmp_ne C dX7_pagesIn_13 (tgt := 20) (q := 16) (by decide) rfl (by first | decide | (unfold rg; omega) | assumption | exact bAnd_rg _ _) (by first | decide | (unfold rg; omega) | assumption | exact bAnd_rg _ _) (fun b1 => ?_) (fun b1 => ?_)
    · refine ev_s C dX7_pagesIn_20 (q := 21) rfl rfl ?_
      refine ev_s C dX7_pagesIn_21 (q := 23) rfl rfl ?_
      refine ev_icmp_ne C dX7_pagesIn_23 (tgt := 30) (q := 26) (by decide) rfl (by first | decide | (unfold rg; omega) | assumption | exact bAnd_rg _ _) (by first | decide | (unfold rg; omega) | assumption | exact bAnd_rg _ _) (fun b2 => ?_) (fun b2 => ?_)
      · refine ev_s C dX7_pagesIn_30 (q := 31) rfl rfl ?_
        refine ev_s C dX7_pagesIn_31 (q := 33) rfl rfl ?_
        refine ev_icmp_ne C dX7_pagesIn_33 (tgt := 40) (q := 36) (by decide) rfl (by first | decide | (unfold rg; omega) | assumption | exact bAnd_rg _ _) (by first | decide | (unfold rg; omega) | assumption | exact bAnd_rg _ _) (fun b3 => ?_) (fun b3 => ?_)
        · refine ev_s C dX7_pagesIn_40 (q := 41) rfl rfl ?_
          refine ev_s C dX7_pagesIn_41 (q := 42) rfl rfl ?_
          refine ev_s C dX7_pagesIn_42 (q := 43) rfl rfl ?_
          refine ev_s C dX7_pagesIn_43 (q := 44) rfl rfl ?_
          refine ev_s C dX7_pagesIn_44 (q := 45) rfl rfl ?_
          refine ev_cV C dX7_pagesIn_45 (q := 48) rfl km_X7_75 kv_X7_isNone kc_X7_isNone (c_X7_isNone I (by first | decide | (unfold rg; omega) | assumption | exact bAnd_rg _ _)) rfl rfl vcX7 go_0 (by rw [hlv]; first | decide | omega) (by decide) (Nat.le_of_ble_eq_true rfl) (Nat.zero_le _) (Nat.zero_le _) ?_
          refine ev_ifB_eq C dX7_pagesIn_48 (tgt := 55) (q := 51) (by decide) rfl (fun b4 => ?_) (fun b4 => ?_)
          · refine ev_s C dX7_pagesIn_55 (q := 56) rfl rfl ?_
            refine ev_if_ge C dX7_pagesIn_56 (tgt := 63) (q := 59) (by decide) rfl (by first | decide | (unfold rg; omega) | assumption | exact bAnd_rg _ _) (fun b5 => ?_) (fun b5 => ?_)
            · exact absurd b5 (by decide)
            · refine ev_s C dX7_pagesIn_59 (q := 60) rfl rfl ?_
              refine ev_goto C dX7_pagesIn_60 (tgt := 64) (by decide) ?_
              refine ev_cV C dX7_pagesIn_64 (q := 67) rfl km_X7_79 kv_X7_fails kc_X7_fails (c_X7_fails (by first | decide | (unfold rg; omega) | assumption | exact bAnd_rg _ _)) rfl rfl vcX7 go_0 (by rw [hlv]; first | decide | omega) (by decide) (Nat.le_of_ble_eq_true rfl) (Nat.zero_le _) (Nat.zero_le _) ?_
              refine ev_ifB_eq C dX7_pagesIn_67 (tgt := 74) (q := 70) (by decide) rfl (fun b6 => ?_) (fun b6 => ?_)
              · exact absurd b6 (by decide)
              · refine ev_s C dX7_pagesIn_70 (q := 71) rfl rfl ?_
                refine ev_goto C dX7_pagesIn_71 (tgt := 80) (by decide) ?_
                exact ev_iret C hr dX7_pagesIn_80 (Nat.zero_le _) (Nat.zero_le _) (po_1 hPo (by first | rfl | simp [*]) rfl)
          · exact absurd (h.symm.trans b4) (by decide)
        · refine ev_s C dX7_pagesIn_36 (q := 37) rfl rfl ?_
          refine ev_goto C dX7_pagesIn_37 (tgt := 41) (by decide) ?_
          refine ev_s C dX7_pagesIn_41 (q := 42) rfl rfl ?_
          refine ev_s C dX7_pagesIn_42 (q := 43) rfl rfl ?_
          refine ev_s C dX7_pagesIn_43 (q := 44) rfl rfl ?_
          refine ev_s C dX7_pagesIn_44 (q := 45) rfl rfl ?_
          refine ev_cV C dX7_pagesIn_45 (q := 48) rfl km_X7_75 kv_X7_isNone kc_X7_isNone (c_X7_isNone I (by first | decide | (unfold rg; omega) | assumption | exact bAnd_rg _ _)) rfl rfl vcX7 go_0 (by rw [hlv]; first | decide | omega) (by decide) (Nat.le_of_ble_eq_true rfl) (Nat.zero_le _) (Nat.zero_le _) ?_
          refine ev_ifB_eq C dX7_pagesIn_48 (tgt := 55) (q := 51) (by decide) rfl (fun b7 => ?_) (fun b7 => ?_)
          · refine ev_s C dX7_pagesIn_55 (q := 56) rfl rfl ?_
            refine ev_if_ge C dX7_pagesIn_56 (tgt := 63) (q := 59) (by decide) rfl (by first | decide | (unfold rg; omega) | assumption | exact bAnd_rg _ _) (fun b8 => ?_) (fun b8 => ?_)
            · exfalso; simp [*] at h2
            · exact absurd b8 (by decide)
          · exact absurd (h.symm.trans b7) (by decide)
      · refine ev_s C dX7_pagesIn_26 (q := 27) rfl rfl ?_
        refine ev_goto C dX7_pagesIn_27 (tgt := 41) (by decide) ?_
        refine ev_s C dX7_pagesIn_41 (q := 42) rfl rfl ?_
        refine ev_s C dX7_pagesIn_42 (q := 43) rfl rfl ?_
        refine ev_s C dX7_pagesIn_43 (q := 44) rfl rfl ?_
        refine ev_s C dX7_pagesIn_44 (q := 45) rfl rfl ?_
        refine ev_cV C dX7_pagesIn_45 (q := 48) rfl km_X7_75 kv_X7_isNone kc_X7_isNone (c_X7_isNone I (by first | decide | (unfold rg; omega) | assumption | exact bAnd_rg _ _)) rfl rfl vcX7 go_0 (by rw [hlv]; first | decide | omega) (by decide) (Nat.le_of_ble_eq_true rfl) (Nat.zero_le _) (Nat.zero_le _) ?_
        refine ev_ifB_eq C dX7_pagesIn_48 (tgt := 55) (q := 51) (by decide) rfl (fun b9 => ?_) (fun b9 => ?_)
        · refine ev_s C dX7_pagesIn_55 (q := 56) rfl rfl ?_
          refine ev_if_ge C dX7_pagesIn_56 (tgt := 63) (q := 59) (by decide) rfl (by first | decide | (unfold rg; omega) | assumption | exact bAnd_rg _ _) (fun b10 => ?_) (fun b10 => ?_)
          · exfalso; simp [*] at h2
          · exact absurd b10 (by decide)
        · exact absurd (h.symm.trans b9) (by decide)
    · refine ev_s C dX7_pagesIn_16 (q := 17) rfl rfl ?_
      refine ev_goto C dX7_pagesIn_17 (tgt := 41) (by decide) ?_
      refine ev_s C dX7_pagesIn_41 (q := 42) rfl rfl ?_
      refine ev_s C dX7_pagesIn_42 (q := 43) rfl rfl ?_
      refine ev_s C dX7_pagesIn_43 (q := 44) rfl rfl ?_
      refine ev_s C dX7_pagesIn_44 (q := 45) rfl rfl ?_
      refine ev_cV C dX7_pagesIn_45 (q := 48) rfl km_X7_75 kv_X7_isNone kc_X7_isNone (c_X7_isNone I (by first | decide | (unfold rg; omega) | assumption | exact bAnd_rg _ _)) rfl rfl vcX7 go_0 (by rw [hlv]; first | decide | omega) (by decide) (Nat.le_of_ble_eq_true rfl) (Nat.zero_le _) (Nat.zero_le _) ?_
      refine ev_ifB_eq C dX7_pagesIn_48 (tgt := 55) (q := 51) (by decide) rfl (fun b11 => ?_) (fun b11 => ?_)
      · refine ev_s C dX7_pagesIn_55 (q := 56) rfl rfl ?_
        refine ev_if_ge C dX7_pagesIn_56 (tgt := 63) (q := 59) (by decide) rfl (by first | decide | (unfold rg; omega) | assumption | exact bAnd_rg _ _) (fun b12 => ?_) (fun b12 => ?_)
        · exfalso; simp [*] at h2
        · exact absurd b12 (by decide)
      · exact absurd (h.symm.trans b11) (by decide)
  · refine ev_s C dX7_pagesIn_6 (q := 7) rfl rfl ?_
    refine ev_goto C dX7_pagesIn_7 (tgt := 41) (by decide) ?_
    refine ev_s C dX7_pagesIn_41 (q := 42) rfl rfl ?_
    refine ev_s C dX7_pagesIn_42 (q := 43) rfl rfl ?_
    refine ev_s C dX7_pagesIn_43 (q := 44) rfl rfl ?_
    refine ev_s C dX7_pagesIn_44 (q := 45) rfl rfl ?_
    refine ev_cV C dX7_pagesIn_45 (q := 48) rfl km_X7_75 kv_X7_isNone kc_X7_isNone (c_X7_isNone I (by first | decide | (unfold rg; omega) | assumption | exact bAnd_rg _ _)) rfl rfl vcX7 go_0 (by rw [hlv]; first | decide | omega) (by decide) (Nat.le_of_ble_eq_true rfl) (Nat.zero_le _) (Nat.zero_le _) ?_
    refine ev_ifB_eq C dX7_pagesIn_48 (tgt := 55) (q := 51) (by decide) rfl (fun b13 => ?_) (fun b13 => ?_)
    · refine ev_s C dX7_pagesIn_55 (q := 56) rfl rfl ?_
      refine ev_if_ge C dX7_pagesIn_56 (tgt := 63) (q := 59) (by decide) rfl (by first | decide | (unfold rg; omega) | assumption | exact bAnd_rg _ _) (fun b14 => ?_) (fun b14 => ?_)
      · exfalso; simp [*] at h2
      · exact absurd b14 (by decide)
    · exact absurd (h.symm.trans b13) (by decide)
set_option maxHeartbeats 4000000 in
set_option maxRecDepth 100000 in
theorem c_X7_pagesIn {u v : SS} {g : GH} (I : MI v) {s c : Int} (hs : rg s) (hc : 0 ≤ c ∧ c < 65536) (h : nonB v s = false) (h2 : 0 ≤ plI c) : Cn yX7_pagesIn (wsy yX7_pagesIn cX7_pagesIn 4 (some .int)) 3 0 0 nn [vR (some 0), vI s, vI c] (mk u v g) (.inl (some (vI (sumN 8 (ipf v s (plI c)))), mk u (stS v 26 0) g)) := by
  refine con_j (lv := [(0, vR (some 0)), (1, vI s), (2, vI c)]) (by decide) (fun ad => Nat.le_of_ble_eq_true rfl) (fun ad => rfl) rfl ?_
  intro k C hr hlv hmc hms hPo hPx htab
  have hq := nonB_f h
  have i0 := I.s0
  have J : MI (stS v 26 0) := MI_S I (by decide)
  have h3 : plI c = plI c := rfl
  unfold plI at h2
  refine ev_s C dX7_pagesIn_0 (q := 1) rfl rfl ?_
  refine ev_s C dX7_pagesIn_1 (q := 3) rfl rfl ?_
  refine ev_icmp_ne C dX7_pagesIn_3 (tgt := 10) (q := 6) (by decide) rfl (by first | decide | (unfold rg; omega) | assumption | exact bAnd_rg _ _) (by first | decide | (unfold rg; omega) | assumption | exact bAnd_rg _ _) (fun b0 => ?_) (fun b0 => ?_)
  · refine ev_s C dX7_pagesIn_10 (q := 11) rfl rfl ?_
    refine ev_s C dX7_pagesIn_11 (q := 13) rfl rfl ?_
    refine ev_icmp_ne C dX7_pagesIn_13 (tgt := 20) (q := 16) (by decide) rfl (by first | decide | (unfold rg; omega) | assumption | exact bAnd_rg _ _) (by first | decide | (unfold rg; omega) | assumption | exact bAnd_rg _ _) (fun b1 => ?_) (fun b1 => ?_)
    · refine ev_s C dX7_pagesIn_20 (q := 21) rfl rfl ?_
      refine ev_s C dX7_pagesIn_21 (q := 23) rfl rfl ?_
      refine ev_icmp_ne C dX7_pagesIn_23 (tgt := 30) (q := 26) (by decide) rfl (by first | decide | (unfold rg; omega) | assumption | exact bAnd_rg _ _) (by first | decide | (unfold rg; omega) | assumption | exact bAnd_rg _ _) (fun b2 => ?_) (fun b2 => ?_)
      · refine ev_s C dX7_pagesIn_30 (q := 31) rfl rfl ?_
        refine ev_s C dX7_pagesIn_31 (q := 33) rfl rfl ?_
        refine ev_icmp_ne C dX7_pagesIn_33 (tgt := 40) (q := 36) (by decide) rfl (by first | decide | (unfold rg; omega) | assumption | exact bAnd_rg _ _) (by first | decide | (unfold rg; omega) | assumption | exact bAnd_rg _ _) (fun b3 => ?_) (fun b3 => ?_)
        · refine ev_s C dX7_pagesIn_40 (q := 41) rfl rfl ?_
          refine ev_s C dX7_pagesIn_41 (q := 42) rfl rfl ?_
          refine ev_s C dX7_pagesIn_42 (q := 43) rfl rfl ?_
          refine ev_s C dX7_pagesIn_43 (q := 44) rfl rfl ?_
          refine ev_s C dX7_pagesIn_44 (q := 45) rfl rfl ?_
          refine ev_cV C dX7_pagesIn_45 (q := 48) rfl km_X7_75 kv_X7_isNone kc_X7_isNone (c_X7_isNone I (by first | decide | (unfold rg; omega) | assumption | exact bAnd_rg _ _)) rfl rfl vcX7 go_0 (by rw [hlv]; first | decide | omega) (by decide) (Nat.le_of_ble_eq_true rfl) (Nat.zero_le _) (Nat.zero_le _) ?_
          refine ev_ifB_eq C dX7_pagesIn_48 (tgt := 55) (q := 51) (by decide) rfl (fun b4 => ?_) (fun b4 => ?_)
          · refine ev_s C dX7_pagesIn_55 (q := 56) rfl rfl ?_
            refine ev_if_ge C dX7_pagesIn_56 (tgt := 63) (q := 59) (by decide) rfl (by first | decide | (unfold rg; omega) | assumption | exact bAnd_rg _ _) (fun b5 => ?_) (fun b5 => ?_)
            · exact absurd b5 (by decide)
            · exfalso; simp [*] at h2
          · exact absurd (h.symm.trans b4) (by decide)
        · refine ev_s C dX7_pagesIn_36 (q := 37) rfl rfl ?_
          refine ev_goto C dX7_pagesIn_37 (tgt := 41) (by decide) ?_
          refine ev_s C dX7_pagesIn_41 (q := 42) rfl rfl ?_
          refine ev_s C dX7_pagesIn_42 (q := 43) rfl rfl ?_
          refine ev_s C dX7_pagesIn_43 (q := 44) rfl rfl ?_
          refine ev_s C dX7_pagesIn_44 (q := 45) rfl rfl ?_
          refine ev_cV C dX7_pagesIn_45 (q := 48) rfl km_X7_75 kv_X7_isNone kc_X7_isNone (c_X7_isNone I (by first | decide | (unfold rg; omega) | assumption | exact bAnd_rg _ _)) rfl rfl vcX7 go_0 (by rw [hlv]; first | decide | omega) (by decide) (Nat.le_of_ble_eq_true rfl) (Nat.zero_le _) (Nat.zero_le _) ?_
          refine ev_ifB_eq C dX7_pagesIn_48 (tgt := 55) (q := 51) (by decide) rfl (fun b6 => ?_) (fun b6 => ?_)
          · refine ev_s C dX7_pagesIn_55 (q := 56) rfl rfl ?_
            refine ev_if_ge C dX7_pagesIn_56 (tgt := 63) (q := 59) (by decide) rfl (by first | decide | (unfold rg; omega) | assumption | exact bAnd_rg _ _) (fun b7 => ?_) (fun b7 => ?_)
            · refine ev_s C dX7_pagesIn_63 (q := 64) rfl rfl ?_
              refine ev_cV C dX7_pagesIn_64 (q := 67) rfl km_X7_79 kv_X7_fails kc_X7_fails (c_X7_fails (by first | decide | (unfold rg; omega) | assumption | exact bAnd_rg _ _)) rfl rfl vcX7 go_0 (by rw [hlv]; first | decide | omega) (by decide) (Nat.le_of_ble_eq_true rfl) (Nat.zero_le _) (Nat.zero_le _) ?_
              refine ev_ifB_eq C dX7_pagesIn_67 (tgt := 74) (q := 70) (by decide) rfl (fun b8 => ?_) (fun b8 => ?_)
              · refine ev_s C dX7_pagesIn_74 (q := 75) rfl rfl ?_
                refine ev_s C dX7_pagesIn_75 (q := 76) rfl rfl ?_
                refine ev_s C dX7_pagesIn_76 (q := 77) rfl rfl ?_
                refine ev_cV C dX7_pagesIn_77 (q := 80) rfl km_X7_146 kv_X7_inPlace kc_X7_inPlace (c_X7_inPlace J (pl := 0) (by omega) (by unfold rg; omega)) rfl rfl vcX7 go_0 (by rw [hlv]; first | decide | omega) (by decide) (Nat.le_of_ble_eq_true rfl) (Nat.zero_le _) (Nat.zero_le _) ?_
                exact ev_iret C hr dX7_pagesIn_80 (Nat.zero_le _) (Nat.zero_le _) (po_1 hPo (by unfold plI; simp [*]; rfl) rfl)
              · exact absurd b8 (by decide)
            · exact absurd b7 (by decide)
          · exact absurd (h.symm.trans b6) (by decide)
      · refine ev_s C dX7_pagesIn_26 (q := 27) rfl rfl ?_
        refine ev_goto C dX7_pagesIn_27 (tgt := 41) (by decide) ?_
        refine ev_s C dX7_pagesIn_41 (q := 42) rfl rfl ?_
        refine ev_s C dX7_pagesIn_42 (q := 43) rfl rfl ?_
        refine ev_s C dX7_pagesIn_43 (q := 44) rfl rfl ?_
        refine ev_s C dX7_pagesIn_44 (q := 45) rfl rfl ?_
        refine ev_cV C dX7_pagesIn_45 (q := 48) rfl km_X7_75 kv_X7_isNone kc_X7_isNone (c_X7_isNone I (by first | decide | (unfold rg; omega) | assumption | exact bAnd_rg _ _)) rfl rfl vcX7 go_0 (by rw [hlv]; first | decide | omega) (by decide) (Nat.le_of_ble_eq_true rfl) (Nat.zero_le _) (Nat.zero_le _) ?_
        refine ev_ifB_eq C dX7_pagesIn_48 (tgt := 55) (q := 51) (by decide) rfl (fun b9 => ?_) (fun b9 => ?_)
        · refine ev_s C dX7_pagesIn_55 (q := 56) rfl rfl ?_
          refine ev_if_ge C dX7_pagesIn_56 (tgt := 63) (q := 59) (by decide) rfl (by first | decide | (unfold rg; omega) | assumption | exact bAnd_rg _ _) (fun b10 => ?_) (fun b10 => ?_)
          · refine ev_s C dX7_pagesIn_63 (q := 64) rfl rfl ?_
            refine ev_cV C dX7_pagesIn_64 (q := 67) rfl km_X7_79 kv_X7_fails kc_X7_fails (c_X7_fails (by first | decide | (unfold rg; omega) | assumption | exact bAnd_rg _ _)) rfl rfl vcX7 go_0 (by rw [hlv]; first | decide | omega) (by decide) (Nat.le_of_ble_eq_true rfl) (Nat.zero_le _) (Nat.zero_le _) ?_
            refine ev_ifB_eq C dX7_pagesIn_67 (tgt := 74) (q := 70) (by decide) rfl (fun b11 => ?_) (fun b11 => ?_)
            · refine ev_s C dX7_pagesIn_74 (q := 75) rfl rfl ?_
              refine ev_s C dX7_pagesIn_75 (q := 76) rfl rfl ?_
              refine ev_s C dX7_pagesIn_76 (q := 77) rfl rfl ?_
              refine ev_cV C dX7_pagesIn_77 (q := 80) rfl km_X7_146 kv_X7_inPlace kc_X7_inPlace (c_X7_inPlace J (pl := 3) (by omega) (by unfold rg; omega)) rfl rfl vcX7 go_0 (by rw [hlv]; first | decide | omega) (by decide) (Nat.le_of_ble_eq_true rfl) (Nat.zero_le _) (Nat.zero_le _) ?_
              exact ev_iret C hr dX7_pagesIn_80 (Nat.zero_le _) (Nat.zero_le _) (po_1 hPo (by unfold plI; simp [*]; rfl) rfl)
            · exact absurd b11 (by decide)
          · exact absurd b10 (by decide)
        · exact absurd (h.symm.trans b9) (by decide)
    · refine ev_s C dX7_pagesIn_16 (q := 17) rfl rfl ?_
      refine ev_goto C dX7_pagesIn_17 (tgt := 41) (by decide) ?_
      refine ev_s C dX7_pagesIn_41 (q := 42) rfl rfl ?_
      refine ev_s C dX7_pagesIn_42 (q := 43) rfl rfl ?_
      refine ev_s C dX7_pagesIn_43 (q := 44) rfl rfl ?_
      refine ev_s C dX7_pagesIn_44 (q := 45) rfl rfl ?_
      refine ev_cV C dX7_pagesIn_45 (q := 48) rfl km_X7_75 kv_X7_isNone kc_X7_isNone (c_X7_isNone I (by first | decide | (unfold rg; omega) | assumption | exact bAnd_rg _ _)) rfl rfl vcX7 go_0 (by rw [hlv]; first | decide | omega) (by decide) (Nat.le_of_ble_eq_true rfl) (Nat.zero_le _) (Nat.zero_le _) ?_
      refine ev_ifB_eq C dX7_pagesIn_48 (tgt := 55) (q := 51) (by decide) rfl (fun b12 => ?_) (fun b12 => ?_)
      · refine ev_s C dX7_pagesIn_55 (q := 56) rfl rfl ?_
        refine ev_if_ge C dX7_pagesIn_56 (tgt := 63) (q := 59) (by decide) rfl (by first | decide | (unfold rg; omega) | assumption | exact bAnd_rg _ _) (fun b13 => ?_) (fun b13 => ?_)
        · refine ev_s C dX7_pagesIn_63 (q := 64) rfl rfl ?_
          refine ev_cV C dX7_pagesIn_64 (q := 67) rfl km_X7_79 kv_X7_fails kc_X7_fails (c_X7_fails (by first | decide | (unfold rg; omega) | assumption | exact bAnd_rg _ _)) rfl rfl vcX7 go_0 (by rw [hlv]; first | decide | omega) (by decide) (Nat.le_of_ble_eq_true rfl) (Nat.zero_le _) (Nat.zero_le _) ?_
          refine ev_ifB_eq C dX7_pagesIn_67 (tgt := 74) (q := 70) (by decide) rfl (fun b14 => ?_) (fun b14 => ?_)
          · refine ev_s C dX7_pagesIn_74 (q := 75) rfl rfl ?_
            refine ev_s C dX7_pagesIn_75 (q := 76) rfl rfl ?_
            refine ev_s C dX7_pagesIn_76 (q := 77) rfl rfl ?_
            refine ev_cV C dX7_pagesIn_77 (q := 80) rfl km_X7_146 kv_X7_inPlace kc_X7_inPlace (c_X7_inPlace J (pl := 2) (by omega) (by unfold rg; omega)) rfl rfl vcX7 go_0 (by rw [hlv]; first | decide | omega) (by decide) (Nat.le_of_ble_eq_true rfl) (Nat.zero_le _) (Nat.zero_le _) ?_
            exact ev_iret C hr dX7_pagesIn_80 (Nat.zero_le _) (Nat.zero_le _) (po_1 hPo (by unfold plI; simp [*]; rfl) rfl)
          · exact absurd b14 (by decide)
        · exact absurd b13 (by decide)
      · exact absurd (h.symm.trans b12) (by decide)
  · refine ev_s C dX7_pagesIn_6 (q := 7) rfl rfl ?_
    refine ev_goto C dX7_pagesIn_7 (tgt := 41) (by decide) ?_
    refine ev_s C dX7_pagesIn_41 (q := 42) rfl rfl ?_
    refine ev_s C dX7_pagesIn_42 (q := 43) rfl rfl ?_
    refine ev_s C dX7_pagesIn_43 (q := 44) rfl rfl ?_
    refine ev_s C dX7_pagesIn_44 (q := 45) rfl rfl ?_
    refine ev_cV C dX7_pagesIn_45 (q := 48) rfl km_X7_75 kv_X7_isNone kc_X7_isNone (c_X7_isNone I (by first | decide | (unfold rg; omega) | assumption | exact bAnd_rg _ _)) rfl rfl vcX7 go_0 (by rw [hlv]; first | decide | omega) (by decide) (Nat.le_of_ble_eq_true rfl) (Nat.zero_le _) (Nat.zero_le _) ?_
    refine ev_ifB_eq C dX7_pagesIn_48 (tgt := 55) (q := 51) (by decide) rfl (fun b15 => ?_) (fun b15 => ?_)
    · refine ev_s C dX7_pagesIn_55 (q := 56) rfl rfl ?_
      refine ev_if_ge C dX7_pagesIn_56 (tgt := 63) (q := 59) (by decide) rfl (by first | decide | (unfold rg; omega) | assumption | exact bAnd_rg _ _) (fun b16 => ?_) (fun b16 => ?_)
      · refine ev_s C dX7_pagesIn_63 (q := 64) rfl rfl ?_
        refine ev_cV C dX7_pagesIn_64 (q := 67) rfl km_X7_79 kv_X7_fails kc_X7_fails (c_X7_fails (by first | decide | (unfold rg; omega) | assumption | exact bAnd_rg _ _)) rfl rfl vcX7 go_0 (by rw [hlv]; first | decide | omega) (by decide) (Nat.le_of_ble_eq_true rfl) (Nat.zero_le _) (Nat.zero_le _) ?_
        refine ev_ifB_eq C dX7_pagesIn_67 (tgt := 74) (q := 70) (by decide) rfl (fun b17 => ?_) (fun b17 => ?_)
        · refine ev_s C dX7_pagesIn_74 (q := 75) rfl rfl ?_
          refine ev_s C dX7_pagesIn_75 (q := 76) rfl rfl ?_
          refine ev_s C dX7_pagesIn_76 (q := 77) rfl rfl ?_
          refine ev_cV C dX7_pagesIn_77 (q := 80) rfl km_X7_146 kv_X7_inPlace kc_X7_inPlace (c_X7_inPlace J (pl := 1) (by omega) (by unfold rg; omega)) rfl rfl vcX7 go_0 (by rw [hlv]; first | decide | omega) (by decide) (Nat.le_of_ble_eq_true rfl) (Nat.zero_le _) (Nat.zero_le _) ?_
          exact ev_iret C hr dX7_pagesIn_80 (Nat.zero_le _) (Nat.zero_le _) (po_1 hPo (by unfold plI; simp [*]; rfl) rfl)
        · exact absurd b17 (by decide)
      · exact absurd b16 (by decide)
    · exact absurd (h.symm.trans b15) (by decide)
set_option maxHeartbeats 4000000 in
set_option maxRecDepth 100000 in
theorem c_X7_stallsOf_x {u v : SS} {g : GH} (I : MI v) {s : Int} (hs : rg s) (h : nonB v s = true) : Cn yX7_stallsOf (wsy yX7_stallsOf cX7_stallsOf 2 (some .long)) 3 0 0 nn [vR (some 0), vI s] (mk u v g) (.inl (some (vL 0), mk u (stS v 26 1) g)) := by
  refine con_j (lv := [(0, vR (some 0)), (1, vI s)]) (by decide) (fun ad => Nat.le_of_ble_eq_true rfl) (fun ad => rfl) rfl ?_
  intro k C hr hlv hmc hms hPo hPx htab
  refine ev_s C dX7_stallsOf_0 (q := 1) rfl rfl ?_
  refine ev_s C dX7_stallsOf_1 (q := 2) rfl rfl ?_
  refine ev_cV C dX7_stallsOf_2 (q := 5) rfl km_X7_178 kv_X7_isNobody kc_X7_isNobody (c_X7_isNobody I (by first | decide | (unfold rg; omega) | assumption | exact bAnd_rg _ _)) rfl rfl vcX7 go_0 (by rw [hlv]; first | decide | omega) (by decide) (Nat.le_of_ble_eq_true rfl) (Nat.zero_le _) (Nat.zero_le _) ?_
  rw [h]
  refine ev_eq (G := mk u (stS v 26 1) g) rfl ?_
  refine ev_ifB_eq C dX7_stallsOf_5 (tgt := 12) (q := 8) (by decide) rfl (fun b0 => ?_) (fun b0 => ?_)
  · exact absurd b0 (by decide)
  · refine ev_s C dX7_stallsOf_8 (q := 9) rfl rfl ?_
    refine ev_goto C dX7_stallsOf_9 (tgt := 18) (by decide) ?_
    exact ev_lret C hr dX7_stallsOf_18 (Nat.zero_le _) (Nat.zero_le _) (po_1 hPo (by first | rfl | simp [*]) rfl)
set_option maxHeartbeats 4000000 in
set_option maxRecDepth 100000 in
theorem c_X7_stallsOf {u v : SS} {g : GH} (I : MI v) {s : Int} (hs : rg s) (h : nonB v s = false) : Cn yX7_stallsOf (wsy yX7_stallsOf cX7_stallsOf 2 (some .long)) 3 0 0 nn [vR (some 0), vI s] (mk u v g) (.inl (some (vL (v.2 8 s.toNat)), mk u (stS v 26 0) g)) := by
  refine con_j (lv := [(0, vR (some 0)), (1, vI s)]) (by decide) (fun ad => Nat.le_of_ble_eq_true rfl) (fun ad => rfl) rfl ?_
  intro k C hr hlv hmc hms hPo hPx htab
  have hq := nonB_f h
  have i0 := I.s0
  have J : MI (stS v 26 0) := MI_S I (by decide)
  refine ev_s C dX7_stallsOf_0 (q := 1) rfl rfl ?_
  refine ev_s C dX7_stallsOf_1 (q := 2) rfl rfl ?_
  refine ev_cV C dX7_stallsOf_2 (q := 5) rfl km_X7_178 kv_X7_isNobody kc_X7_isNobody (c_X7_isNobody I (by first | decide | (unfold rg; omega) | assumption | exact bAnd_rg _ _)) rfl rfl vcX7 go_0 (by rw [hlv]; first | decide | omega) (by decide) (Nat.le_of_ble_eq_true rfl) (Nat.zero_le _) (Nat.zero_le _) ?_
  rw [h]
  refine ev_eq (G := mk u (stS v 26 0) g) rfl ?_
  refine ev_ifB_eq C dX7_stallsOf_5 (tgt := 12) (q := 8) (by decide) rfl (fun b0 => ?_) (fun b0 => ?_)
  · refine ev_s C dX7_stallsOf_12 (q := 13) rfl rfl ?_
    refine mg_8 C dX7_stallsOf_13 (q := 16) rfl ?_
    refine ev_s C dX7_stallsOf_16 (q := 17) rfl rfl ?_
    refine ml_8 C dX7_stallsOf_17 (q := 18) rfl (by omega) ?_
    exact ev_lret C hr dX7_stallsOf_18 (Nat.zero_le _) (Nat.zero_le _) (po_1 hPo rfl rfl)
  · exact absurd b0 (by decide)
set_option maxHeartbeats 4000000 in
set_option maxRecDepth 100000 in
theorem c_X7_starts_x {u v : SS} {g : GH} (I : MI v) {s : Int} (hs : rg s) (h : nonB v s = true) : Cn yX7_starts (wsy yX7_starts cX7_starts 2 (some .int)) 3 0 0 nn [vR (some 0), vI s] (mk u v g) (.inl (some (vI 0), mk u (stS v 26 1) g)) := by
  refine con_j (lv := [(0, vR (some 0)), (1, vI s)]) (by decide) (fun ad => Nat.le_of_ble_eq_true rfl) (fun ad => rfl) rfl ?_
  intro k C hr hlv hmc hms hPo hPx htab
  refine ev_s C dX7_starts_0 (q := 1) rfl rfl ?_
  refine ev_s C dX7_starts_1 (q := 2) rfl rfl ?_
  refine ev_cV C dX7_starts_2 (q := 5) rfl km_X7_178 kv_X7_isNobody kc_X7_isNobody (c_X7_isNobody I (by first | decide | (unfold rg; omega) | assumption | exact bAnd_rg _ _)) rfl rfl vcX7 go_0 (by rw [hlv]; first | decide | omega) (by decide) (Nat.le_of_ble_eq_true rfl) (Nat.zero_le _) (Nat.zero_le _) ?_
  rw [h]
  refine ev_eq (G := mk u (stS v 26 1) g) rfl ?_
  refine ev_ifB_eq C dX7_starts_5 (tgt := 12) (q := 8) (by decide) rfl (fun b0 => ?_) (fun b0 => ?_)
  · exact absurd b0 (by decide)
  · refine ev_s C dX7_starts_8 (q := 9) rfl rfl ?_
    refine ev_goto C dX7_starts_9 (tgt := 18) (by decide) ?_
    exact ev_iret C hr dX7_starts_18 (Nat.zero_le _) (Nat.zero_le _) (po_1 hPo (by first | rfl | simp [*]) rfl)
set_option maxHeartbeats 4000000 in
set_option maxRecDepth 100000 in
theorem c_X7_starts {u v : SS} {g : GH} (I : MI v) {s : Int} (hs : rg s) (h : nonB v s = false) : Cn yX7_starts (wsy yX7_starts cX7_starts 2 (some .int)) 3 0 0 nn [vR (some 0), vI s] (mk u v g) (.inl (some (vI (v.2 6 s.toNat)), mk u (stS v 26 0) g)) := by
  refine con_j (lv := [(0, vR (some 0)), (1, vI s)]) (by decide) (fun ad => Nat.le_of_ble_eq_true rfl) (fun ad => rfl) rfl ?_
  intro k C hr hlv hmc hms hPo hPx htab
  have hq := nonB_f h
  have i0 := I.s0
  have J : MI (stS v 26 0) := MI_S I (by decide)
  refine ev_s C dX7_starts_0 (q := 1) rfl rfl ?_
  refine ev_s C dX7_starts_1 (q := 2) rfl rfl ?_
  refine ev_cV C dX7_starts_2 (q := 5) rfl km_X7_178 kv_X7_isNobody kc_X7_isNobody (c_X7_isNobody I (by first | decide | (unfold rg; omega) | assumption | exact bAnd_rg _ _)) rfl rfl vcX7 go_0 (by rw [hlv]; first | decide | omega) (by decide) (Nat.le_of_ble_eq_true rfl) (Nat.zero_le _) (Nat.zero_le _) ?_
  rw [h]
  refine ev_eq (G := mk u (stS v 26 0) g) rfl ?_
  refine ev_ifB_eq C dX7_starts_5 (tgt := 12) (q := 8) (by decide) rfl (fun b0 => ?_) (fun b0 => ?_)
  · refine ev_s C dX7_starts_12 (q := 13) rfl rfl ?_
    refine mg_6 C dX7_starts_13 (q := 16) rfl ?_
    refine ev_s C dX7_starts_16 (q := 17) rfl rfl ?_
    refine ml_6 C dX7_starts_17 (q := 18) rfl (by omega) ?_
    exact ev_iret C hr dX7_starts_18 (Nat.zero_le _) (Nat.zero_le _) (po_1 hPo rfl rfl)
  · exact absurd b0 (by decide)
set_option maxHeartbeats 4000000 in
set_option maxRecDepth 100000 in
theorem c_X7_score_x {u v : SS} {g : GH} (I : MI v) {s : Int} (hs : rg s) (h : nonB v s = true) : Cn yX7_score (wsy yX7_score cX7_score 2 (some .int)) 3 0 0 nn [vR (some 0), vI s] (mk u v g) (.inl (some (vI 0), mk u (stS v 26 1) g)) := by
  refine con_j (lv := [(0, vR (some 0)), (1, vI s)]) (by decide) (fun ad => Nat.le_of_ble_eq_true rfl) (fun ad => rfl) rfl ?_
  intro k C hr hlv hmc hms hPo hPx htab
  refine ev_s C dX7_score_0 (q := 1) rfl rfl ?_
  refine ev_s C dX7_score_1 (q := 2) rfl rfl ?_
  refine ev_cV C dX7_score_2 (q := 5) rfl km_X7_178 kv_X7_isNobody kc_X7_isNobody (c_X7_isNobody I (by first | decide | (unfold rg; omega) | assumption | exact bAnd_rg _ _)) rfl rfl vcX7 go_0 (by rw [hlv]; first | decide | omega) (by decide) (Nat.le_of_ble_eq_true rfl) (Nat.zero_le _) (Nat.zero_le _) ?_
  rw [h]
  refine ev_eq (G := mk u (stS v 26 1) g) rfl ?_
  refine ev_ifB_eq C dX7_score_5 (tgt := 12) (q := 8) (by decide) rfl (fun b0 => ?_) (fun b0 => ?_)
  · exact absurd b0 (by decide)
  · refine ev_s C dX7_score_8 (q := 9) rfl rfl ?_
    refine ev_goto C dX7_score_9 (tgt := 17) (by decide) ?_
    exact ev_iret C hr dX7_score_17 (Nat.zero_le _) (Nat.zero_le _) (po_1 hPo (by first | rfl | simp [*]) rfl)
set_option maxHeartbeats 4000000 in
set_option maxRecDepth 100000 in
theorem c_X7_score {u v : SS} {g : GH} (I : MI v) {s : Int} (hs : rg s) (h : nonB v s = false) : Cn yX7_score (wsy yX7_score cX7_score 2 (some .int)) 3 0 0 nn [vR (some 0), vI s] (mk u v g) (.inl (some (vI (scM v s)), mk u (stS v 26 0) g)) := by
  refine con_j (lv := [(0, vR (some 0)), (1, vI s)]) (by decide) (fun ad => Nat.le_of_ble_eq_true rfl) (fun ad => rfl) rfl ?_
  intro k C hr hlv hmc hms hPo hPx htab
  have hq := nonB_f h
  have i0 := I.s0
  have J : MI (stS v 26 0) := MI_S I (by decide)
  refine ev_s C dX7_score_0 (q := 1) rfl rfl ?_
  refine ev_s C dX7_score_1 (q := 2) rfl rfl ?_
  refine ev_cV C dX7_score_2 (q := 5) rfl km_X7_178 kv_X7_isNobody kc_X7_isNobody (c_X7_isNobody I (by first | decide | (unfold rg; omega) | assumption | exact bAnd_rg _ _)) rfl rfl vcX7 go_0 (by rw [hlv]; first | decide | omega) (by decide) (Nat.le_of_ble_eq_true rfl) (Nat.zero_le _) (Nat.zero_le _) ?_
  rw [h]
  refine ev_eq (G := mk u (stS v 26 0) g) rfl ?_
  refine ev_ifB_eq C dX7_score_5 (tgt := 12) (q := 8) (by decide) rfl (fun b0 => ?_) (fun b0 => ?_)
  · refine ev_s C dX7_score_12 (q := 13) rfl rfl ?_
    refine ev_s C dX7_score_13 (q := 14) rfl rfl ?_
    refine ev_cV C dX7_score_14 (q := 17) rfl km_X7_150 kv_X7_scoreOf kc_X7_scoreOf (c_X7_scoreOf J (by omega)) rfl rfl vcX7 go_0 (by rw [hlv]; first | decide | omega) (by decide) (Nat.le_of_ble_eq_true rfl) (Nat.zero_le _) (Nat.zero_le _) ?_
    exact ev_iret C hr dX7_score_17 (Nat.zero_le _) (Nat.zero_le _) (po_1 hPo rfl rfl)
  · exact absurd b0 (by decide)
set_option maxHeartbeats 4000000 in
set_option maxRecDepth 100000 in
theorem c_X7_isNeeded_x {u v : SS} {g : GH} (I : MI v) {s : Int} (hs : rg s) (h : nonB v s = true) : Cn yX7_isNeeded (wsy yX7_isNeeded cX7_isNeeded 2 (some .boolean)) 3 0 0 nn [vR (some 0), vI s] (mk u v g) (.inl (some (vI (bI false)), mk u (stS v 26 1) g)) := by
  refine con_j (lv := [(0, vR (some 0)), (1, vI s)]) (by decide) (fun ad => Nat.le_of_ble_eq_true rfl) (fun ad => rfl) rfl ?_
  intro k C hr hlv hmc hms hPo hPx htab
  refine ev_s C dX7_isNeeded_0 (q := 1) rfl rfl ?_
  refine ev_s C dX7_isNeeded_1 (q := 2) rfl rfl ?_
  refine ev_cV C dX7_isNeeded_2 (q := 5) rfl km_X7_178 kv_X7_isNobody kc_X7_isNobody (c_X7_isNobody I (by first | decide | (unfold rg; omega) | assumption | exact bAnd_rg _ _)) rfl rfl vcX7 go_0 (by rw [hlv]; first | decide | omega) (by decide) (Nat.le_of_ble_eq_true rfl) (Nat.zero_le _) (Nat.zero_le _) ?_
  rw [h]
  refine ev_eq (G := mk u (stS v 26 1) g) rfl ?_
  refine ev_ifB_ne C dX7_isNeeded_5 (tgt := 20) (q := 8) (by decide) rfl (fun b0 => ?_) (fun b0 => ?_)
  · refine ev_s C dX7_isNeeded_20 (q := 21) rfl rfl ?_
    exact ev_zret C hr (fit_Z (by first | decide | exact bI_01 _ | assumption)) dX7_isNeeded_21 (Nat.zero_le _) (Nat.zero_le _) (po_1 hPo rfl rfl)
  · exact absurd b0 (by decide)
set_option maxHeartbeats 4000000 in
set_option maxRecDepth 100000 in
theorem c_X7_isNeeded {u v : SS} {g : GH} (I : MI v) {s : Int} (hs : rg s) (h : nonB v s = false) : Cn yX7_isNeeded (wsy yX7_isNeeded cX7_isNeeded 2 (some .boolean)) 3 0 0 nn [vR (some 0), vI s] (mk u v g) (.inl (some (vI (bI (anyN (v.1 0).toNat (wtB v s)))), mk u (stS v 26 0) g)) := by
  refine con_j (lv := [(0, vR (some 0)), (1, vI s)]) (by decide) (fun ad => Nat.le_of_ble_eq_true rfl) (fun ad => rfl) rfl ?_
  intro k C hr hlv hmc hms hPo hPx htab
  have hq := nonB_f h
  have i0 := I.s0
  have J : MI (stS v 26 0) := MI_S I (by decide)
  refine ev_s C dX7_isNeeded_0 (q := 1) rfl rfl ?_
  refine ev_s C dX7_isNeeded_1 (q := 2) rfl rfl ?_
  refine ev_cV C dX7_isNeeded_2 (q := 5) rfl km_X7_178 kv_X7_isNobody kc_X7_isNobody (c_X7_isNobody I (by first | decide | (unfold rg; omega) | assumption | exact bAnd_rg _ _)) rfl rfl vcX7 go_0 (by rw [hlv]; first | decide | omega) (by decide) (Nat.le_of_ble_eq_true rfl) (Nat.zero_le _) (Nat.zero_le _) ?_
  rw [h]
  refine ev_eq (G := mk u (stS v 26 0) g) rfl ?_
  refine ev_ifB_ne C dX7_isNeeded_5 (tgt := 20) (q := 8) (by decide) rfl (fun b0 => ?_) (fun b0 => ?_)
  · exact absurd b0 (by decide)
  · refine ev_s C dX7_isNeeded_8 (q := 9) rfl rfl ?_
    refine ev_s C dX7_isNeeded_9 (q := 10) rfl rfl ?_
    refine ev_cV C dX7_isNeeded_10 (q := 13) rfl km_X7_165 kv_X7_isWanted kc_X7_isWanted (c_X7_isWanted J) rfl rfl vcX7 go_0 (by rw [hlv]; first | decide | omega) (by decide) (Nat.le_of_ble_eq_true rfl) (Nat.zero_le _) (Nat.zero_le _) ?_
    refine ev_ifB_eq C dX7_isNeeded_13 (tgt := 20) (q := 16) (by decide) rfl (fun b1 => ?_) (fun b1 => ?_)
    · have b9 : anyN (v.1 0).toNat (wtB v s) = false := b1
      refine ev_s C dX7_isNeeded_20 (q := 21) rfl rfl ?_
      exact ev_zret C hr (fit_Z (by first | decide | exact bI_01 _ | assumption)) dX7_isNeeded_21 (Nat.zero_le _) (Nat.zero_le _) (po_1 hPo (by simp [bI, *]) rfl)
    · have b9 : anyN (v.1 0).toNat (wtB v s) = true := b1
      refine ev_s C dX7_isNeeded_16 (q := 17) rfl rfl ?_
      refine ev_goto C dX7_isNeeded_17 (tgt := 21) (by decide) ?_
      exact ev_zret C hr (fit_Z (by first | decide | exact bI_01 _ | assumption)) dX7_isNeeded_21 (Nat.zero_le _) (Nat.zero_le _) (po_1 hPo (by simp [bI, *]) rfl)
set_option maxHeartbeats 4000000 in
set_option maxRecDepth 100000 in
theorem c_X7_stateOf_x {u v : SS} {g : GH} (I : MI v) {s : Int} (hs : rg s) (h : nonB v s = true) : Cn yX7_stateOf (wsy yX7_stateOf cX7_stateOf 2 (some .char)) 8 0 0 nn [vR (some 0), vI s] (mk u v g) (.inl (some (vI 97), mk u (stS v 26 1) g)) := by
  refine con_j (lv := [(0, vR (some 0)), (1, vI s)]) (by decide) (fun ad => Nat.le_of_ble_eq_true rfl) (fun ad => rfl) rfl ?_
  intro k C hr hlv hmc hms hPo hPx htab
  refine ev_s C dX7_stateOf_0 (q := 1) rfl rfl ?_
  refine ev_s C dX7_stateOf_1 (q := 2) rfl rfl ?_
  refine ev_cV C dX7_stateOf_2 (q := 5) rfl km_X7_178 kv_X7_isNobody kc_X7_isNobody (c_X7_isNobody I (by first | decide | (unfold rg; omega) | assumption | exact bAnd_rg _ _)) rfl rfl vcX7 go_0 (by rw [hlv]; first | decide | omega) (by decide) (Nat.le_of_ble_eq_true rfl) (Nat.zero_le _) (Nat.zero_le _) ?_
  rw [h]
  refine ev_eq (G := mk u (stS v 26 1) g) rfl ?_
  refine ev_ifB_eq C dX7_stateOf_5 (tgt := 13) (q := 8) (by decide) rfl (fun b0 => ?_) (fun b0 => ?_)
  · exact absurd b0 (by decide)
  · refine ev_s C dX7_stateOf_8 (q := 10) rfl rfl ?_
    refine ev_goto C dX7_stateOf_10 (tgt := 42) (by decide) ?_
    exact ev_zret C hr (fit_C (by first | decide | omega | assumption)) dX7_stateOf_42 (Nat.zero_le _) (Nat.zero_le _) (po_1 hPo rfl rfl)
set_option maxHeartbeats 4000000 in
set_option maxRecDepth 100000 in
theorem c_X7_stateOf {u v : SS} {g : GH} (I : MI v) {rk : Nat → Nat} (hk : RK v rk) {s : Int} (hs : rg s) (h : nonB v s = false) : Cn yX7_stateOf (wsy yX7_stateOf cX7_stateOf 2 (some .char)) 8 0 0 nn [vR (some 0), vI s] (mk u v g) (.inl (some (vI (if v.2 4 s.toNat ≠ 0 then 100 else if rn v 6 s.toNat = true then 114 else 119)), mk u (stS v 26 0) g)) := by
  refine con_j (lv := [(0, vR (some 0)), (1, vI s)]) (by decide) (fun ad => Nat.le_of_ble_eq_true rfl) (fun ad => rfl) rfl ?_
  intro k C hr hlv hmc hms hPo hPx htab
  have hq := nonB_f h
  have i0 := I.s0
  have J : MI (stS v 26 0) := MI_S I (by decide)
  obtain ⟨z, rfl⟩ : ∃ z : Nat, s = z := ⟨s.toNat, by omega⟩
  have ja := I.a4 z
  refine ev_s C dX7_stateOf_0 (q := 1) rfl rfl ?_
  refine ev_s C dX7_stateOf_1 (q := 2) rfl rfl ?_
  refine ev_cV C dX7_stateOf_2 (q := 5) rfl km_X7_178 kv_X7_isNobody kc_X7_isNobody (c_X7_isNobody I (by first | decide | (unfold rg; omega) | assumption | exact bAnd_rg _ _)) rfl rfl vcX7 go_0 (by rw [hlv]; first | decide | omega) (by decide) (Nat.le_of_ble_eq_true rfl) (Nat.zero_le _) (Nat.zero_le _) ?_
  rw [h]
  refine ev_eq (G := mk u (stS v 26 0) g) rfl ?_
  refine ev_ifB_eq C dX7_stateOf_5 (tgt := 13) (q := 8) (by decide) rfl (fun b0 => ?_) (fun b0 => ?_)
  · refine ev_s C dX7_stateOf_13 (q := 14) rfl rfl ?_
    refine mg_4 C dX7_stateOf_14 (q := 17) rfl ?_
    refine ev_s C dX7_stateOf_17 (q := 18) rfl rfl ?_
    refine ml_4 C dX7_stateOf_18 (q := 19) rfl (by omega) ?_
    show EV k 19 _ (vI (v.2 4 z) :: []) _ _ _
    refine ev_if_eq C dX7_stateOf_19 (tgt := 27) (q := 22) (by decide) rfl (by first | decide | (unfold rg; omega) | assumption | exact bAnd_rg _ _) (fun b1 => ?_) (fun b1 => ?_)
    · have b9 : v.2 4 z = 0 := b1
      refine ev_s C dX7_stateOf_27 (q := 28) rfl rfl ?_
      refine ev_s C dX7_stateOf_28 (q := 29) rfl rfl ?_
      refine ev_cV C dX7_stateOf_29 (q := 32) rfl km_X7_88 kv_X7_runs kc_X7_runs (c_X7_runs J (rk := rk) hk 6 z (by show (z : Int) < v.1 0; omega) (hk.1 _)) rfl rfl vcX7 go_0 (by rw [hlv]; first | decide | omega) (by decide) (Nat.le_of_ble_eq_true rfl) (Nat.zero_le _) (Nat.zero_le _) ?_
      refine ev_ifB_eq C dX7_stateOf_32 (tgt := 40) (q := 35) (by decide) rfl (fun b2 => ?_) (fun b2 => ?_)
      · have b8 : rn v 6 z = false := rn_26.symm.trans b2
        refine ev_s C dX7_stateOf_40 (q := 42) rfl rfl ?_
        exact ev_zret C hr (fit_C (by first | decide | omega | assumption)) dX7_stateOf_42 (Nat.zero_le _) (Nat.zero_le _) (po_1 hPo (by simp [*]) rfl)
      · have b8 : rn v 6 z = true := rn_26.symm.trans b2
        refine ev_s C dX7_stateOf_35 (q := 37) rfl rfl ?_
        refine ev_goto C dX7_stateOf_37 (tgt := 42) (by decide) ?_
        exact ev_zret C hr (fit_C (by first | decide | omega | assumption)) dX7_stateOf_42 (Nat.zero_le _) (Nat.zero_le _) (po_1 hPo (by simp [*]) rfl)
    · have b9 : v.2 4 z ≠ 0 := b1
      refine ev_s C dX7_stateOf_22 (q := 24) rfl rfl ?_
      refine ev_goto C dX7_stateOf_24 (tgt := 42) (by decide) ?_
      exact ev_zret C hr (fit_C (by first | decide | omega | assumption)) dX7_stateOf_42 (Nat.zero_le _) (Nat.zero_le _) (po_1 hPo (by simp [*]) rfl)
  · exact absurd b0 (by decide)
set_option maxHeartbeats 4000000 in
set_option maxRecDepth 100000 in
theorem c_X7_waitsFor_x {u v : SS} {g : GH} (I : MI v) {s : Int} (hs : rg s) (h : nonB v s = true) : Cn yX7_waitsFor (wsy yX7_waitsFor cX7_waitsFor 3 (some .int)) 8 0 0 nn [vR (some 0), vI s] (mk u v g) (.inl (some (vI 0), mk u (stS v 26 1) g)) := by
  refine con_j (lv := [(0, vR (some 0)), (1, vI s)]) (by decide) (fun ad => Nat.le_of_ble_eq_true rfl) (fun ad => rfl) rfl ?_
  intro k C hr hlv hmc hms hPo hPx htab
  refine ev_s C dX7_waitsFor_0 (q := 1) rfl rfl ?_
  refine ev_s C dX7_waitsFor_1 (q := 2) rfl rfl ?_
  refine ev_cV C dX7_waitsFor_2 (q := 5) rfl km_X7_178 kv_X7_isNobody kc_X7_isNobody (c_X7_isNobody I (by first | decide | (unfold rg; omega) | assumption | exact bAnd_rg _ _)) rfl rfl vcX7 go_0 (by rw [hlv]; first | decide | omega) (by decide) (Nat.le_of_ble_eq_true rfl) (Nat.zero_le _) (Nat.zero_le _) ?_
  rw [h]
  refine ev_eq (G := mk u (stS v 26 1) g) rfl ?_
  refine ev_ifB_eq C dX7_waitsFor_5 (tgt := 10) (q := 8) (by decide) rfl (fun b0 => ?_) (fun b0 => ?_)
  · exact absurd b0 (by decide)
  · refine ev_s C dX7_waitsFor_8 (q := 9) rfl rfl ?_
    exact ev_iret C hr dX7_waitsFor_9 (Nat.zero_le _) (Nat.zero_le _) (po_1 hPo rfl rfl)
def wfB (v : SS) (s k : Nat) : Bool := ndB v s k && !rn v 6 k
set_option maxHeartbeats 4000000 in
set_option maxRecDepth 100000 in
theorem l_X7_waitsFor {k : Kx} (C : CX k RX7 cX7_waitsFor 3) (hlv : klev k = 8) {u v : SS} {g : GH} (I : MI v) {rk : Nat → Nat} (hk : RK v rk) {s N : Nat} (hs : s < 6) (hN : v.1 0 = (N : Int)) (hr : (kmeth k).sig.returnType = some .int) {r : Rs} (hPo : kPo k = PoR r) (hr1 : fnd (wfB v s) N < 0 → r = .inl (some (vI 0), mk u (stS v 26 2) g)) (hr2 : 0 ≤ fnd (wfB v s) N → r = .inl (some (vI (fnd (wfB v s) N)), mk u v g)) : ∀ (m z : Nat), z ≤ N → N < z + m → (∀ j, j < z → wfB v s j = false) → EV k 12 [(0, vR (some 0)), (1, vI (s : Int)), (2, vI (z : Int))] [] (mk u v g) 0 0 := by
  intro m
  induction m with
  | zero =>
    intros
    exfalso
    omega
  | succ m ih =>
    intro z h1 h2 h3
    have i0 := I.s0
    refine ev_s C dX7_waitsFor_12 (q := 13) rfl rfl ?_
    refine ev_s C dX7_waitsFor_13 (q := 14) rfl rfl ?_
    refine mg_0 C dX7_waitsFor_14 (q := 17) rfl ?_
    refine ev_icmp_ge C dX7_waitsFor_17 (tgt := 45) (q := 20) (by decide) rfl (by first | decide | (unfold rg; omega) | assumption | exact bAnd_rg _ _) (by first | decide | (unfold rg; omega) | assumption | exact bAnd_rg _ _) (fun b0 => ?_) (fun b0 => ?_)
    · obtain rfl : z = N := by omega
      rw [hr1 (by rw [fnd_none h3]; decide)] at hPo
      refine ev_s C dX7_waitsFor_45 (q := 46) rfl rfl ?_
      refine ev_s C dX7_waitsFor_46 (q := 47) rfl rfl ?_
      refine mp_26 C dX7_waitsFor_47 (q := 50) rfl ?_
      refine ev_s C dX7_waitsFor_50 (q := 51) rfl rfl ?_
      exact ev_iret C hr dX7_waitsFor_51 (Nat.zero_le _) (Nat.zero_le _) (po_1 hPo rfl rfl)
    · refine ev_s C dX7_waitsFor_20 (q := 21) rfl rfl ?_
      refine ev_s C dX7_waitsFor_21 (q := 22) rfl rfl ?_
      refine ev_s C dX7_waitsFor_22 (q := 23) rfl rfl ?_
      refine ev_cV C dX7_waitsFor_23 (q := 26) rfl km_X7_82 kv_X7_needs kc_X7_needs (c_X7_needs (by omega)) rfl rfl vcX7 go_0 (by rw [hlv]; first | decide | omega) (by decide) (Nat.le_of_ble_eq_true rfl) (Nat.zero_le _) (Nat.zero_le _) ?_
      refine ev_ifB_eq C dX7_waitsFor_26 (tgt := 39) (q := 29) (by decide) rfl (fun b1 => ?_) (fun b1 => ?_)
      · refine ev_s C dX7_waitsFor_39 (q := 42) rfl rfl ?_
        refine ev_goto C dX7_waitsFor_42 (tgt := 12) (by decide) ?_
        exact ih (z + 1) (by omega) (by omega) (fun j hj => by
          by_cases e : j = z
          · subst e; unfold wfB; simp [*]
          · exact h3 j (by omega))
      · refine ev_s C dX7_waitsFor_29 (q := 30) rfl rfl ?_
        refine ev_s C dX7_waitsFor_30 (q := 31) rfl rfl ?_
        refine ev_cV C dX7_waitsFor_31 (q := 34) rfl km_X7_88 kv_X7_runs kc_X7_runs (c_X7_runs I hk 6 z (by omega) (hk.1 _)) rfl rfl vcX7 go_0 (by rw [hlv]; first | decide | omega) (by decide) (Nat.le_of_ble_eq_true rfl) (Nat.zero_le _) (Nat.zero_le _) ?_
        refine ev_ifB_ne C dX7_waitsFor_34 (tgt := 39) (q := 37) (by decide) rfl (fun b2 => ?_) (fun b2 => ?_)
        · refine ev_s C dX7_waitsFor_39 (q := 42) rfl rfl ?_
          refine ev_goto C dX7_waitsFor_42 (tgt := 12) (by decide) ?_
          exact ih (z + 1) (by omega) (by omega) (fun j hj => by
            by_cases e : j = z
            · subst e; unfold wfB; simp [*]
            · exact h3 j (by omega))
        · have he : fnd (wfB v s) N = z := fnd_hit (z := z) h3 (by unfold wfB; simp [*]) (by omega)
          rw [hr2 (by omega), he] at hPo
          refine ev_s C dX7_waitsFor_37 (q := 38) rfl rfl ?_
          exact ev_iret C hr dX7_waitsFor_38 (Nat.zero_le _) (Nat.zero_le _) (po_1 hPo rfl rfl)
set_option maxHeartbeats 4000000 in
set_option maxRecDepth 100000 in
theorem c_X7_waitsFor_x2 {u v : SS} {g : GH} (I : MI v) {rk : Nat → Nat} (hk : RK v rk) {s : Nat} (hs : rg (s : Int)) (h : nonB v s = false) (h2 : fnd (wfB (stS v 26 0) s) (v.1 0).toNat < 0) : Cn yX7_waitsFor (wsy yX7_waitsFor cX7_waitsFor 3 (some .int)) 8 0 0 nn [vR (some 0), vI (s : Int)] (mk u v g) (.inl (some (vI 0), mk u (stS (stS v 26 0) 26 2) g)) := by
  refine con_j (lv := [(0, vR (some 0)), (1, vI (s : Int))]) (by decide) (fun ad => Nat.le_of_ble_eq_true rfl) (fun ad => rfl) rfl ?_
  intro k C hr hlv hmc hms hPo hPx htab
  have hq := nonB_f h
  have i0 := I.s0
  have J : MI (stS v 26 0) := MI_S I (by decide)
  refine ev_s C dX7_waitsFor_0 (q := 1) rfl rfl ?_
  refine ev_s C dX7_waitsFor_1 (q := 2) rfl rfl ?_
  refine ev_cV C dX7_waitsFor_2 (q := 5) rfl km_X7_178 kv_X7_isNobody kc_X7_isNobody (c_X7_isNobody I (by first | decide | (unfold rg; omega) | assumption | exact bAnd_rg _ _)) rfl rfl vcX7 go_0 (by rw [hlv]; first | decide | omega) (by decide) (Nat.le_of_ble_eq_true rfl) (Nat.zero_le _) (Nat.zero_le _) ?_
  rw [h]
  refine ev_eq (G := mk u (stS v 26 0) g) rfl ?_
  refine ev_ifB_eq C dX7_waitsFor_5 (tgt := 10) (q := 8) (by decide) rfl (fun b0 => ?_) (fun b0 => ?_)
  · refine ev_s C dX7_waitsFor_10 (q := 11) rfl rfl ?_
    refine ev_s C dX7_waitsFor_11 (q := 12) rfl rfl ?_
    exact l_X7_waitsFor C hlv J (rk := rk) hk (N := (v.1 0).toNat) (by omega) (by show v.1 0 = _; omega) hr hPo (fun h => by first | rfl | omega) (fun h => by first | rfl | omega) ((v.1 0).toNat + 1) 0 (Nat.zero_le _) (by omega) (fun j hj => absurd hj (Nat.not_lt_zero _))
  · exact absurd b0 (by decide)
set_option maxHeartbeats 4000000 in
set_option maxRecDepth 100000 in
theorem c_X7_waitsFor {u v : SS} {g : GH} (I : MI v) {rk : Nat → Nat} (hk : RK v rk) {s : Nat} (hs : rg (s : Int)) (h : nonB v s = false) (h2 : 0 ≤ fnd (wfB (stS v 26 0) s) (v.1 0).toNat) : Cn yX7_waitsFor (wsy yX7_waitsFor cX7_waitsFor 3 (some .int)) 8 0 0 nn [vR (some 0), vI (s : Int)] (mk u v g) (.inl (some (vI (fnd (wfB (stS v 26 0) s) (v.1 0).toNat)), mk u (stS v 26 0) g)) := by
  refine con_j (lv := [(0, vR (some 0)), (1, vI (s : Int))]) (by decide) (fun ad => Nat.le_of_ble_eq_true rfl) (fun ad => rfl) rfl ?_
  intro k C hr hlv hmc hms hPo hPx htab
  have hq := nonB_f h
  have i0 := I.s0
  have J : MI (stS v 26 0) := MI_S I (by decide)
  refine ev_s C dX7_waitsFor_0 (q := 1) rfl rfl ?_
  refine ev_s C dX7_waitsFor_1 (q := 2) rfl rfl ?_
  refine ev_cV C dX7_waitsFor_2 (q := 5) rfl km_X7_178 kv_X7_isNobody kc_X7_isNobody (c_X7_isNobody I (by first | decide | (unfold rg; omega) | assumption | exact bAnd_rg _ _)) rfl rfl vcX7 go_0 (by rw [hlv]; first | decide | omega) (by decide) (Nat.le_of_ble_eq_true rfl) (Nat.zero_le _) (Nat.zero_le _) ?_
  rw [h]
  refine ev_eq (G := mk u (stS v 26 0) g) rfl ?_
  refine ev_ifB_eq C dX7_waitsFor_5 (tgt := 10) (q := 8) (by decide) rfl (fun b0 => ?_) (fun b0 => ?_)
  · refine ev_s C dX7_waitsFor_10 (q := 11) rfl rfl ?_
    refine ev_s C dX7_waitsFor_11 (q := 12) rfl rfl ?_
    exact l_X7_waitsFor C hlv J (rk := rk) hk (N := (v.1 0).toNat) (by omega) (by show v.1 0 = _; omega) hr hPo (fun h => by first | rfl | omega) (fun h => by first | rfl | omega) ((v.1 0).toNat + 1) 0 (Nat.zero_le _) (by omega) (fun j hj => absurd hj (Nat.not_lt_zero _))
  · exact absurd b0 (by decide)
set_option maxHeartbeats 4000000 in
set_option maxRecDepth 100000 in
theorem c_X7_startsIn_x1 {u v : SS} {g : GH} (I : MI v) {s : Int} (hs : rg s) (h : nonB v s = true) : Cn yX7_startsIn (wsy yX7_startsIn cX7_startsIn 3 (some .int)) 3 0 0 nn [vR (some 0), vI s] (mk u v g) (.inl (some (vI 0), mk u (stS v 26 1) g)) := by
  refine con_j (lv := [(0, vR (some 0)), (1, vI s)]) (by decide) (fun ad => Nat.le_of_ble_eq_true rfl) (fun ad => rfl) rfl ?_
  intro k C hr hlv hmc hms hPo hPx htab
  refine ev_s C dX7_startsIn_0 (q := 1) rfl rfl ?_
  refine ev_s C dX7_startsIn_1 (q := 2) rfl rfl ?_
  refine ev_cV C dX7_startsIn_2 (q := 5) rfl km_X7_178 kv_X7_isNobody kc_X7_isNobody (c_X7_isNobody I (by first | decide | (unfold rg; omega) | assumption | exact bAnd_rg _ _)) rfl rfl vcX7 go_0 (by rw [hlv]; first | decide | omega) (by decide) (Nat.le_of_ble_eq_true rfl) (Nat.zero_le _) (Nat.zero_le _) ?_
  rw [h]
  refine ev_eq (G := mk u (stS v 26 1) g) rfl ?_
  refine ev_ifB_ne C dX7_startsIn_5 (tgt := 29) (q := 8) (by decide) rfl (fun b0 => ?_) (fun b0 => ?_)
  · refine ev_s C dX7_startsIn_29 (q := 30) rfl rfl ?_
    exact ev_iret C hr dX7_startsIn_30 (Nat.zero_le _) (Nat.zero_le _) (po_1 hPo rfl rfl)
  · exact absurd b0 (by decide)
set_option maxHeartbeats 4000000 in
set_option maxRecDepth 100000 in
theorem c_X7_startsIn_x2 {u v : SS} {g : GH} (I : MI v) {s : Int} (hs : rg s) (h : nonB v s = false) (h2 : v.2 4 s.toNat = 0) : Cn yX7_startsIn (wsy yX7_startsIn cX7_startsIn 3 (some .int)) 3 0 0 nn [vR (some 0), vI s] (mk u v g) (.inl (some (vI 0), mk u (stS (stS v 26 0) 26 2) g)) := by
  refine con_j (lv := [(0, vR (some 0)), (1, vI s)]) (by decide) (fun ad => Nat.le_of_ble_eq_true rfl) (fun ad => rfl) rfl ?_
  intro k C hr hlv hmc hms hPo hPx htab
  have hq := nonB_f h
  have i0 := I.s0
  have J : MI (stS v 26 0) := MI_S I (by decide)
  have ja := J.a4 s.toNat
  refine ev_s C dX7_startsIn_0 (q := 1) rfl rfl ?_
  refine ev_s C dX7_startsIn_1 (q := 2) rfl rfl ?_
  refine ev_cV C dX7_startsIn_2 (q := 5) rfl km_X7_178 kv_X7_isNobody kc_X7_isNobody (c_X7_isNobody I (by first | decide | (unfold rg; omega) | assumption | exact bAnd_rg _ _)) rfl rfl vcX7 go_0 (by rw [hlv]; first | decide | omega) (by decide) (Nat.le_of_ble_eq_true rfl) (Nat.zero_le _) (Nat.zero_le _) ?_
  rw [h]
  refine ev_eq (G := mk u (stS v 26 0) g) rfl ?_
  refine ev_ifB_ne C dX7_startsIn_5 (tgt := 29) (q := 8) (by decide) rfl (fun b0 => ?_) (fun b0 => ?_)
  · exact absurd b0 (by decide)
  · refine ev_s C dX7_startsIn_8 (q := 9) rfl rfl ?_
    refine ev_s C dX7_startsIn_9 (q := 10) rfl rfl ?_
    refine mg_4 C dX7_startsIn_10 (q := 13) rfl ?_
    refine ev_s C dX7_startsIn_13 (q := 14) rfl rfl ?_
    refine ml_4 C dX7_startsIn_14 (q := 15) rfl (by omega) ?_
    refine ev_if_eq C dX7_startsIn_15 (tgt := 22) (q := 18) (by decide) rfl (by first | decide | (unfold rg; omega) | assumption | exact bAnd_rg _ _) (fun b1 => ?_) (fun b1 => ?_)
    · refine ev_s C dX7_startsIn_22 (q := 23) rfl rfl ?_
      refine ev_cV C dX7_startsIn_23 (q := 26) rfl km_X7_79 kv_X7_fails kc_X7_fails (c_X7_fails (by first | decide | (unfold rg; omega) | assumption | exact bAnd_rg _ _)) rfl rfl vcX7 go_0 (by rw [hlv]; first | decide | omega) (by decide) (Nat.le_of_ble_eq_true rfl) (Nat.zero_le _) (Nat.zero_le _) ?_
      refine ev_ifB_eq C dX7_startsIn_26 (tgt := 31) (q := 29) (by decide) rfl (fun b2 => ?_) (fun b2 => ?_)
      · exact absurd b2 (by decide)
      · refine ev_s C dX7_startsIn_29 (q := 30) rfl rfl ?_
        exact ev_iret C hr dX7_startsIn_30 (Nat.zero_le _) (Nat.zero_le _) (po_1 hPo rfl rfl)
    · exact absurd h2 b1
set_option maxHeartbeats 4000000 in
set_option maxRecDepth 100000 in
theorem c_X7_startsIn {u v : SS} {g : GH} (I : MI v) {s : Int} (hs : rg s) (h : nonB v s = false) (h2 : v.2 4 s.toNat ≠ 0) : Cn yX7_startsIn (wsy yX7_startsIn cX7_startsIn 3 (some .int)) 3 0 0 nn [vR (some 0), vI s] (mk u v g) (.inl (some (vI (if v.2 3 s.toNat - (v.1 19 - v.2 5 s.toNat) < 1 then 1 else v.2 3 s.toNat - (v.1 19 - v.2 5 s.toNat))), mk u (stS (stS v 26 0) 26 0) g)) := by
  refine con_j (lv := [(0, vR (some 0)), (1, vI s)]) (by decide) (fun ad => Nat.le_of_ble_eq_true rfl) (fun ad => rfl) rfl ?_
  intro k C hr hlv hmc hms hPo hPx htab
  have hq := nonB_f h
  have i0 := I.s0
  have J : MI (stS v 26 0) := MI_S I (by decide)
  have ja := J.a4 s.toNat
  have K : MI (stS (stS v 26 0) 26 0) := MI_S J (by decide)
  have k3 := K.a3 s.toNat
  have k5 := K.a5 s.toNat
  have k19 := K.s19
  refine ev_s C dX7_startsIn_0 (q := 1) rfl rfl ?_
  refine ev_s C dX7_startsIn_1 (q := 2) rfl rfl ?_
  refine ev_cV C dX7_startsIn_2 (q := 5) rfl km_X7_178 kv_X7_isNobody kc_X7_isNobody (c_X7_isNobody I (by first | decide | (unfold rg; omega) | assumption | exact bAnd_rg _ _)) rfl rfl vcX7 go_0 (by rw [hlv]; first | decide | omega) (by decide) (Nat.le_of_ble_eq_true rfl) (Nat.zero_le _) (Nat.zero_le _) ?_
  rw [h]
  refine ev_eq (G := mk u (stS v 26 0) g) rfl ?_
  refine ev_ifB_ne C dX7_startsIn_5 (tgt := 29) (q := 8) (by decide) rfl (fun b0 => ?_) (fun b0 => ?_)
  · exact absurd b0 (by decide)
  · refine ev_s C dX7_startsIn_8 (q := 9) rfl rfl ?_
    refine ev_s C dX7_startsIn_9 (q := 10) rfl rfl ?_
    refine mg_4 C dX7_startsIn_10 (q := 13) rfl ?_
    refine ev_s C dX7_startsIn_13 (q := 14) rfl rfl ?_
    refine ml_4 C dX7_startsIn_14 (q := 15) rfl (by omega) ?_
    refine ev_if_eq C dX7_startsIn_15 (tgt := 22) (q := 18) (by decide) rfl (by first | decide | (unfold rg; omega) | assumption | exact bAnd_rg _ _) (fun b1 => ?_) (fun b1 => ?_)
    · exact absurd b1 h2
    · refine ev_s C dX7_startsIn_18 (q := 19) rfl rfl ?_
      refine ev_goto C dX7_startsIn_19 (tgt := 23) (by decide) ?_
      refine ev_cV C dX7_startsIn_23 (q := 26) rfl km_X7_79 kv_X7_fails kc_X7_fails (c_X7_fails (by first | decide | (unfold rg; omega) | assumption | exact bAnd_rg _ _)) rfl rfl vcX7 go_0 (by rw [hlv]; first | decide | omega) (by decide) (Nat.le_of_ble_eq_true rfl) (Nat.zero_le _) (Nat.zero_le _) ?_
      refine ev_ifB_eq C dX7_startsIn_26 (tgt := 31) (q := 29) (by decide) rfl (fun b2 => ?_) (fun b2 => ?_)
      · refine ev_s C dX7_startsIn_31 (q := 32) rfl rfl ?_
        refine mg_3 C dX7_startsIn_32 (q := 35) rfl ?_
        refine ev_s C dX7_startsIn_35 (q := 36) rfl rfl ?_
        refine ml_3 C dX7_startsIn_36 (q := 37) rfl (by omega) ?_
        refine ev_s C dX7_startsIn_37 (q := 38) rfl rfl ?_
        refine mg_19 C dX7_startsIn_38 (q := 41) rfl ?_
        refine ev_s C dX7_startsIn_41 (q := 42) rfl rfl ?_
        refine mg_5 C dX7_startsIn_42 (q := 45) rfl ?_
        refine ev_s C dX7_startsIn_45 (q := 46) rfl rfl ?_
        refine ml_5 C dX7_startsIn_46 (q := 47) rfl (by omega) ?_
        refine ev_s C dX7_startsIn_47 (q := 48) rfl rfl ?_
        refine ev_s C dX7_startsIn_48 (q := 49) rfl rfl ?_
        refine ev_s C dX7_startsIn_49 (q := 50) rfl rfl ?_
        refine ev_s C dX7_startsIn_50 (q := 51) rfl rfl ?_
        refine ev_s C dX7_startsIn_51 (q := 52) rfl rfl ?_
        refine ev_icmp_ge C dX7_startsIn_52 (tgt := 59) (q := 55) (by decide) rfl (by first | decide | (unfold rg; omega) | assumption | exact bAnd_rg _ _) (by first | decide | (unfold rg; omega) | assumption | exact bAnd_rg _ _) (fun b3 => ?_) (fun b3 => ?_)
        · have b9 : ¬ v.2 3 s.toNat - (v.1 19 - v.2 5 s.toNat) < 1 := by have := b3; show ¬ (stS (stS v 26 0) 26 0).2 3 s.toNat - ((stS (stS v 26 0) 26 0).1 19 - (stS (stS v 26 0) 26 0).2 5 s.toNat) < 1; omega
          refine ev_s C dX7_startsIn_59 (q := 60) rfl rfl ?_
          exact ev_iret C hr dX7_startsIn_60 (Nat.zero_le _) (Nat.zero_le _) (po_1 hPo (by first | (rw [if_pos b9]; done) | (rw [if_neg b9]; rfl) | (rw [if_neg b9]; done)) rfl)
        · have b9 : v.2 3 s.toNat - (v.1 19 - v.2 5 s.toNat) < 1 := by have := b3; show (stS (stS v 26 0) 26 0).2 3 s.toNat - ((stS (stS v 26 0) 26 0).1 19 - (stS (stS v 26 0) 26 0).2 5 s.toNat) < 1; omega
          refine ev_s C dX7_startsIn_55 (q := 56) rfl rfl ?_
          refine ev_goto C dX7_startsIn_56 (tgt := 60) (by decide) ?_
          exact ev_iret C hr dX7_startsIn_60 (Nat.zero_le _) (Nat.zero_le _) (po_1 hPo (by first | (rw [if_pos b9]; done) | (rw [if_neg b9]; rfl) | (rw [if_neg b9]; done)) rfl)
      · exact absurd b2 (by decide)
theorem wst_26 {v : SS} {x : Int} : ∀ n : Nat, wst (stS v 26 x) n = wst v n
  | 0 => rfl
  | n + 1 => by unfold wst; rw [wst_26 n]; rfl
set_option maxHeartbeats 4000000 in
set_option maxRecDepth 100000 in
theorem c_X7_victim_x {u v : SS} {g : GH} (I : MI v) (h : wst v (v.1 0).toNat < 0) : Cn yX7_victim (wsy yX7_victim cX7_victim 1 (some .int)) 3 0 0 nn [vR (some 0)] (mk u v g) (.inl (some (vI 0), mk u (stS v 26 1) g)) := by
  refine con_j (lv := [(0, vR (some 0))]) (by decide) (fun ad => Nat.le_of_ble_eq_true rfl) (fun ad => rfl) rfl ?_
  intro k C hr hlv hmc hms hPo hPx htab
  have hw := wst_bd v (v.1 0).toNat
  have i0 := I.s0
  refine ev_s C dX7_victim_0 (q := 1) rfl rfl ?_
  refine ev_s C dX7_victim_1 (q := 2) rfl rfl ?_
  refine ev_cV C dX7_victim_2 (q := 5) rfl km_X7_159 kv_X7_worst kc_X7_worst (c_X7_worst I) rfl rfl vcX7 go_0 (by rw [hlv]; first | decide | omega) (by decide) (Nat.le_of_ble_eq_true rfl) (Nat.zero_le _) (Nat.zero_le _) ?_
  refine ev_if_ge C dX7_victim_5 (tgt := 12) (q := 8) (by decide) rfl (by first | decide | (unfold rg; omega) | assumption | exact bAnd_rg _ _) (fun b0 => ?_) (fun b0 => ?_)
  · exact absurd h (Int.not_lt.mpr b0)
  · refine ev_s C dX7_victim_8 (q := 9) rfl rfl ?_
    refine ev_goto C dX7_victim_9 (tgt := 13) (by decide) ?_
    refine ev_cV C dX7_victim_13 (q := 16) rfl km_X7_79 kv_X7_fails kc_X7_fails (c_X7_fails (by first | decide | (unfold rg; omega) | assumption | exact bAnd_rg _ _)) rfl rfl vcX7 go_0 (by rw [hlv]; first | decide | omega) (by decide) (Nat.le_of_ble_eq_true rfl) (Nat.zero_le _) (Nat.zero_le _) ?_
    refine ev_ifB_eq C dX7_victim_16 (tgt := 23) (q := 19) (by decide) rfl (fun b1 => ?_) (fun b1 => ?_)
    · exact absurd b1 (by decide)
    · refine ev_s C dX7_victim_19 (q := 20) rfl rfl ?_
      refine ev_goto C dX7_victim_20 (tgt := 27) (by decide) ?_
      exact ev_iret C hr dX7_victim_27 (Nat.zero_le _) (Nat.zero_le _) (po_1 hPo rfl rfl)
set_option maxHeartbeats 4000000 in
set_option maxRecDepth 100000 in
theorem c_X7_victim {u v : SS} {g : GH} (I : MI v) (h : 0 ≤ wst v (v.1 0).toNat) : Cn yX7_victim (wsy yX7_victim cX7_victim 1 (some .int)) 3 0 0 nn [vR (some 0)] (mk u v g) (.inl (some (vI (wst v (v.1 0).toNat)), mk u (stS v 26 0) g)) := by
  refine con_j (lv := [(0, vR (some 0))]) (by decide) (fun ad => Nat.le_of_ble_eq_true rfl) (fun ad => rfl) rfl ?_
  intro k C hr hlv hmc hms hPo hPx htab
  have hw := wst_bd v (v.1 0).toNat
  have i0 := I.s0
  refine ev_s C dX7_victim_0 (q := 1) rfl rfl ?_
  refine ev_s C dX7_victim_1 (q := 2) rfl rfl ?_
  refine ev_cV C dX7_victim_2 (q := 5) rfl km_X7_159 kv_X7_worst kc_X7_worst (c_X7_worst I) rfl rfl vcX7 go_0 (by rw [hlv]; first | decide | omega) (by decide) (Nat.le_of_ble_eq_true rfl) (Nat.zero_le _) (Nat.zero_le _) ?_
  refine ev_if_ge C dX7_victim_5 (tgt := 12) (q := 8) (by decide) rfl (by first | decide | (unfold rg; omega) | assumption | exact bAnd_rg _ _) (fun b0 => ?_) (fun b0 => ?_)
  · refine ev_s C dX7_victim_12 (q := 13) rfl rfl ?_
    refine ev_cV C dX7_victim_13 (q := 16) rfl km_X7_79 kv_X7_fails kc_X7_fails (c_X7_fails (by first | decide | (unfold rg; omega) | assumption | exact bAnd_rg _ _)) rfl rfl vcX7 go_0 (by rw [hlv]; first | decide | omega) (by decide) (Nat.le_of_ble_eq_true rfl) (Nat.zero_le _) (Nat.zero_le _) ?_
    refine ev_ifB_eq C dX7_victim_16 (tgt := 23) (q := 19) (by decide) rfl (fun b1 => ?_) (fun b1 => ?_)
    · refine ev_s C dX7_victim_23 (q := 24) rfl rfl ?_
      refine ev_cV C dX7_victim_24 (q := 27) rfl km_X7_159 kv_X7_worst kc_X7_worst (c_X7_worst (MI_S I (by decide))) rfl rfl vcX7 go_0 (by rw [hlv]; first | decide | omega) (by decide) (Nat.le_of_ble_eq_true rfl) (Nat.zero_le _) (Nat.zero_le _) ?_
      exact ev_iret C hr dX7_victim_27 (Nat.zero_le _) (Nat.zero_le _) (po_1 hPo (by rw [wst_26]; rfl) rfl)
    · exact absurd b1 (by decide)
  · exact absurd h b0
