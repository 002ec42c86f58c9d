/-! THE CLASS: questions -/
set_option maxHeartbeats 4000000 in
set_option maxRecDepth 100000 in
theorem c_X6_time {u v : SS} {g : GH} (I : CI u) : Cn yX6_time (wsy yX6_time cX6_time 1 (some .int)) 0 0 0 nn [vR (some 1000)] (mk u v g) (.inl (some (vI (u.1 1)), mk u v g)) := by
  refine con_j (lv := [(0, vR (some 1000))]) (by decide) (fun ad => Nat.le_of_ble_eq_true rfl) (fun ad => rfl) rfl ?_
  intro k C hr hlv hmc hms hPo hPx htab
  refine ev_s C dX6_time_0 (q := 1) rfl rfl ?_
  refine cg_1000_6 C dX6_time_1 kf_X6_165 (q := 4) rfl ?_
  exact ev_iret C hr dX6_time_4 (Nat.zero_le _) (Nat.zero_le _) (po_1 hPo rfl rfl)
set_option maxHeartbeats 4000000 in
set_option maxRecDepth 100000 in
theorem c_X6_deaths {u v : SS} {g : GH} (I : CI u) : Cn yX6_deaths (wsy yX6_deaths cX6_deaths 1 (some .int)) 0 0 0 nn [vR (some 1000)] (mk u v g) (.inl (some (vI (u.1 2)), mk u v g)) := by
  refine con_j (lv := [(0, vR (some 1000))]) (by decide) (fun ad => Nat.le_of_ble_eq_true rfl) (fun ad => rfl) rfl ?_
  intro k C hr hlv hmc hms hPo hPx htab
  refine ev_s C dX6_deaths_0 (q := 1) rfl rfl ?_
  refine cg_1000_7 C dX6_deaths_1 kf_X6_159 (q := 4) rfl ?_
  exact ev_iret C hr dX6_deaths_4 (Nat.zero_le _) (Nat.zero_le _) (po_1 hPo rfl rfl)
set_option maxHeartbeats 4000000 in
set_option maxRecDepth 100000 in
theorem c_X6_hand {u v : SS} {g : GH} (I : CI u) : Cn yX6_hand (wsy yX6_hand cX6_hand 1 (some .int)) 0 0 0 nn [vR (some 1000)] (mk u v g) (.inl (some (vI (u.1 8)), mk u v g)) := by
  refine con_j (lv := [(0, vR (some 1000))]) (by decide) (fun ad => Nat.le_of_ble_eq_true rfl) (fun ad => rfl) rfl ?_
  intro k C hr hlv hmc hms hPo hPx htab
  refine ev_s C dX6_hand_0 (q := 1) rfl rfl ?_
  refine cg_1000_1 C dX6_hand_1 kf_X6_19 (q := 4) rfl ?_
  refine cg_1004_2 C dX6_hand_4 kf_X6_186 (q := 7) rfl ?_
  exact ev_iret C hr dX6_hand_7 (Nat.zero_le _) (Nat.zero_le _) (po_1 hPo rfl rfl)
set_option maxHeartbeats 4000000 in
set_option maxRecDepth 100000 in
theorem c_X6_free {u v : SS} {g : GH} (I : CI u) : Cn yX6_free (wsy yX6_free cX6_free 1 (some .int)) 1 0 0 nn [vR (some 1000)] (mk u v g) (.inl (some (vI (sumN (u.1 7).toNat (clI u))), mk u v g)) := by
  refine con_j (lv := [(0, vR (some 1000))]) (by decide) (fun ad => Nat.le_of_ble_eq_true rfl) (fun ad => rfl) rfl ?_
  intro k C hr hlv hmc hms hPo hPx htab
  refine ev_s C dX6_free_0 (q := 1) rfl rfl ?_
  refine cg_1000_1 C dX6_free_1 kf_X6_19 (q := 4) rfl ?_
  refine ev_cV C dX6_free_4 (q := 7) rfl km_X6_189 kv_X0_countFree kc_X0_countFree (c_X0_countFree I) rfl rfl vcX0 rfl (by rw [hlv]; first | decide | omega) (by decide) (Nat.le_of_ble_eq_true rfl) (by first | exact Nat.zero_le _ | (rw [hmc]; decide) | (rw [hmc]; omega)) (by first | exact Nat.zero_le _ | (rw [hms]; decide) | (rw [hms]; omega)) ?_
  exact ev_iret C hr dX6_free_7 (Nat.zero_le _) (Nat.zero_le _) (po_1 hPo rfl rfl)
set_option maxHeartbeats 4000000 in
set_option maxRecDepth 100000 in
theorem c_X6_stored {u v : SS} {g : GH} (I : CI u) : Cn yX6_stored (wsy yX6_stored cX6_stored 1 (some .int)) 4 0 0 nn [vR (some 1000)] (mk u v g) (.inl (some (vI (ctk u)), mk u v g)) := by
  refine con_j (lv := [(0, vR (some 1000))]) (by decide) (fun ad => Nat.le_of_ble_eq_true rfl) (fun ad => rfl) rfl ?_
  intro k C hr hlv hmc hms hPo hPx htab
  refine ev_s C dX6_stored_0 (q := 1) rfl rfl ?_
  refine cg_1000_2 C dX6_stored_1 kf_X6_26 (q := 4) rfl ?_
  refine ev_cV C dX6_stored_4 (q := 7) rfl km_X6_192 kv_X5_takenRoom kc_X5_takenRoom (c_X5_takenRoom I) rfl rfl vcX5 rfl (by rw [hlv]; first | decide | omega) (by decide) (Nat.le_of_ble_eq_true rfl) (by first | exact Nat.zero_le _ | (rw [hmc]; decide) | (rw [hmc]; omega)) (by first | exact Nat.zero_le _ | (rw [hms]; decide) | (rw [hms]; omega)) ?_
  exact ev_iret C hr dX6_stored_7 (Nat.zero_le _) (Nat.zero_le _) (po_1 hPo rfl rfl)
set_option maxHeartbeats 4000000 in
set_option maxRecDepth 100000 in
theorem c_X6_pressure {u v : SS} {g : GH} (I : CI u) : Cn yX6_pressure (wsy yX6_pressure cX6_pressure 1 (some .int)) 1 0 0 nn [vR (some 1000)] (mk u v g) (.inl (some (vI (csum u)), mk u v g)) := by
  refine con_j (lv := [(0, vR (some 1000))]) (by decide) (fun ad => Nat.le_of_ble_eq_true rfl) (fun ad => rfl) rfl ?_
  intro k C hr hlv hmc hms hPo hPx htab
  refine ev_s C dX6_pressure_0 (q := 1) rfl rfl ?_
  refine cg_1000_3 C dX6_pressure_1 kf_X6_33 (q := 4) rfl ?_
  refine ev_cV C dX6_pressure_4 (q := 7) rfl km_X6_210 kv_X3_sum kc_X3_sum (c_X3_sum I) rfl rfl vcX3 rfl (by rw [hlv]; first | decide | omega) (by decide) (Nat.le_of_ble_eq_true rfl) (by first | exact Nat.zero_le _ | (rw [hmc]; decide) | (rw [hmc]; omega)) (by first | exact Nat.zero_le _ | (rw [hms]; decide) | (rw [hms]; omega)) ?_
  exact ev_iret C hr dX6_pressure_7 (Nat.zero_le _) (Nat.zero_le _) (po_1 hPo rfl rfl)
set_option maxHeartbeats 4000000 in
set_option maxRecDepth 100000 in
theorem c_X6_stallsOf_x1 {u v : SS} {g : GH} (I : CI u) {s : Int} (hs : rg s) (h : ¬ (0 ≤ s ∧ s < u.1 14)) : Cn yX6_stallsOf (wsy yX6_stallsOf cX6_stallsOf 2 (some .long)) 4 1 6 nn [vR (some 1000), vI s] (mk u v g) (.inr ("java/lang/IndexOutOfBoundsException", mk u v g)) := by
  refine con_j (lv := [(0, vR (some 1000)), (1, vI s)]) (by decide) (fun ad => Nat.le_of_ble_eq_true rfl) (fun ad => rfl) rfl ?_
  intro k C hr hlv hmc hms hPo hPx htab
  refine ev_s C dX6_stallsOf_0 (q := 1) rfl rfl ?_
  refine ev_s C dX6_stallsOf_1 (q := 2) rfl rfl ?_
  refine ev_cVx C dX6_stallsOf_2 (q := 5) rfl km_X6_77 kv_X6_serviceAt kc_X6_serviceAt (c_X6_serviceAt_x I hs h) rfl rfl vcX6 rfl (by rw [hlv]; first | decide | omega) (by decide) (Nat.le_of_ble_eq_true rfl) (by first | exact Nat.zero_le _ | (rw [hmc]; decide) | (rw [hmc]; omega)) (by first | exact Nat.zero_le _ | (rw [hms]; decide) | (rw [hms]; omega)) (fun E G1 h => by cases h; exact ex_out C htab (by first | exact Nat.zero_le _ | (rw [hmc]; decide) | (rw [hmc]; omega)) (by first | exact Nat.zero_le _ | (rw [hms]; decide) | (rw [hms]; omega)) (px_1 hPx rfl rfl)) (fun a G1 h => nomatch h)
set_option maxHeartbeats 4000000 in
set_option maxRecDepth 100000 in
theorem c_X6_stallsOf {u v : SS} {g : GH} (I : CI u) {s : Nat} (hs : (s : Int) < u.1 14) : Cn yX6_stallsOf (wsy yX6_stallsOf cX6_stallsOf 2 (some .long)) 4 0 0 nn [vR (some 1000), vI (s : Int)] (mk u v g) (.inl (some (vL (u.2 19 s)), mk u v g)) := by
  refine con_j (lv := [(0, vR (some 1000)), (1, vI (s : Int))]) (by decide) (fun ad => Nat.le_of_ble_eq_true rfl) (fun ad => rfl) rfl ?_
  intro k C hr hlv hmc hms hPo hPx htab
  have i14 := I.s14
  have h48 : s < 6 := by omega
  refine ev_s C dX6_stallsOf_0 (q := 1) rfl rfl ?_
  refine ev_s C dX6_stallsOf_1 (q := 2) rfl rfl ?_
  refine ev_cV C dX6_stallsOf_2 (q := 5) rfl km_X6_77 kv_X6_serviceAt kc_X6_serviceAt (c_X6_serviceAt I hs) rfl rfl vcX6 rfl (by rw [hlv]; first | decide | omega) (by decide) (Nat.le_of_ble_eq_true rfl) (by first | exact Nat.zero_le _ | (rw [hmc]; decide) | (rw [hmc]; omega)) (by first | exact Nat.zero_le _ | (rw [hms]; decide) | (rw [hms]; omega)) ?_
  refine cgs_9 C dX6_stallsOf_5 kf_X6_213 (q := 8) rfl (by show (_ : Int) < u.1 14; omega) (by omega) ?_
  exact ev_lret C hr dX6_stallsOf_8 (Nat.zero_le _) (Nat.zero_le _) (po_1 hPo rfl rfl)
set_option maxHeartbeats 4000000 in
set_option maxRecDepth 100000 in
theorem c_X6_starts_x1 {u v : SS} {g : GH} (I : CI u) {s : Int} (hs : rg s) (h : ¬ (0 ≤ s ∧ s < u.1 14)) : Cn yX6_starts (wsy yX6_starts cX6_starts 2 (some .int)) 4 1 6 nn [vR (some 1000), vI s] (mk u v g) (.inr ("java/lang/IndexOutOfBoundsException", mk u v g)) := by
  refine con_j (lv := [(0, vR (some 1000)), (1, vI s)]) (by decide) (fun ad => Nat.le_of_ble_eq_true rfl) (fun ad => rfl) rfl ?_
  intro k C hr hlv hmc hms hPo hPx htab
  refine ev_s C dX6_starts_0 (q := 1) rfl rfl ?_
  refine ev_s C dX6_starts_1 (q := 2) rfl rfl ?_
  refine ev_cVx C dX6_starts_2 (q := 5) rfl km_X6_77 kv_X6_serviceAt kc_X6_serviceAt (c_X6_serviceAt_x I hs h) rfl rfl vcX6 rfl (by rw [hlv]; first | decide | omega) (by decide) (Nat.le_of_ble_eq_true rfl) (by first | exact Nat.zero_le _ | (rw [hmc]; decide) | (rw [hmc]; omega)) (by first | exact Nat.zero_le _ | (rw [hms]; decide) | (rw [hms]; omega)) (fun E G1 h => by cases h; exact ex_out C htab (by first | exact Nat.zero_le _ | (rw [hmc]; decide) | (rw [hmc]; omega)) (by first | exact Nat.zero_le _ | (rw [hms]; decide) | (rw [hms]; omega)) (px_1 hPx rfl rfl)) (fun a G1 h => nomatch h)
set_option maxHeartbeats 4000000 in
set_option maxRecDepth 100000 in
theorem c_X6_starts {u v : SS} {g : GH} (I : CI u) {s : Nat} (hs : (s : Int) < u.1 14) : Cn yX6_starts (wsy yX6_starts cX6_starts 2 (some .int)) 4 0 0 nn [vR (some 1000), vI (s : Int)] (mk u v g) (.inl (some (vI (u.2 18 s)), mk u v g)) := by
  refine con_j (lv := [(0, vR (some 1000)), (1, vI (s : Int))]) (by decide) (fun ad => Nat.le_of_ble_eq_true rfl) (fun ad => rfl) rfl ?_
  intro k C hr hlv hmc hms hPo hPx htab
  have i14 := I.s14
  have h48 : s < 6 := by omega
  refine ev_s C dX6_starts_0 (q := 1) rfl rfl ?_
  refine ev_s C dX6_starts_1 (q := 2) rfl rfl ?_
  refine ev_cV C dX6_starts_2 (q := 5) rfl km_X6_77 kv_X6_serviceAt kc_X6_serviceAt (c_X6_serviceAt I hs) rfl rfl vcX6 rfl (by rw [hlv]; first | decide | omega) (by decide) (Nat.le_of_ble_eq_true rfl) (by first | exact Nat.zero_le _ | (rw [hmc]; decide) | (rw [hmc]; omega)) (by first | exact Nat.zero_le _ | (rw [hms]; decide) | (rw [hms]; omega)) ?_
  refine cgs_8 C dX6_starts_5 kf_X6_236 (q := 8) rfl (by show (_ : Int) < u.1 14; omega) (by omega) ?_
  exact ev_iret C hr dX6_starts_8 (Nat.zero_le _) (Nat.zero_le _) (po_1 hPo rfl rfl)
set_option maxHeartbeats 4000000 in
set_option maxRecDepth 100000 in
theorem c_X6_score_x1 {u v : SS} {g : GH} (I : CI u) {s : Int} (hs : rg s) (h : ¬ (0 ≤ s ∧ s < u.1 14)) : Cn yX6_score (wsy yX6_score cX6_score 2 (some .int)) 4 1 6 nn [vR (some 1000), vI s] (mk u v g) (.inr ("java/lang/IndexOutOfBoundsException", mk u v g)) := by
  refine con_j (lv := [(0, vR (some 1000)), (1, vI s)]) (by decide) (fun ad => Nat.le_of_ble_eq_true rfl) (fun ad => rfl) rfl ?_
  intro k C hr hlv hmc hms hPo hPx htab
  refine ev_s C dX6_score_0 (q := 1) rfl rfl ?_
  refine ev_s C dX6_score_1 (q := 2) rfl rfl ?_
  refine ev_cVx C dX6_score_2 (q := 5) rfl km_X6_77 kv_X6_serviceAt kc_X6_serviceAt (c_X6_serviceAt_x I hs h) rfl rfl vcX6 rfl (by rw [hlv]; first | decide | omega) (by decide) (Nat.le_of_ble_eq_true rfl) (by first | exact Nat.zero_le _ | (rw [hmc]; decide) | (rw [hmc]; omega)) (by first | exact Nat.zero_le _ | (rw [hms]; decide) | (rw [hms]; omega)) (fun E G1 h => by cases h; exact ex_out C htab (by first | exact Nat.zero_le _ | (rw [hmc]; decide) | (rw [hmc]; omega)) (by first | exact Nat.zero_le _ | (rw [hms]; decide) | (rw [hms]; omega)) (px_1 hPx rfl rfl)) (fun a G1 h => nomatch h)
set_option maxHeartbeats 4000000 in
set_option maxRecDepth 100000 in
theorem c_X6_score {u v : SS} {g : GH} (I : CI u) {s : Nat} (hs : (s : Int) < u.1 14) : Cn yX6_score (wsy yX6_score cX6_score 2 (some .int)) 4 0 0 nn [vR (some 1000), vI (s : Int)] (mk u v g) (.inl (some (vI (csc u s)), mk u v g)) := by
  refine con_j (lv := [(0, vR (some 1000)), (1, vI (s : Int))]) (by decide) (fun ad => Nat.le_of_ble_eq_true rfl) (fun ad => rfl) rfl ?_
  intro k C hr hlv hmc hms hPo hPx htab
  have i14 := I.s14
  have h48 : s < 6 := by omega
  refine ev_s C dX6_score_0 (q := 1) rfl rfl ?_
  refine ev_s C dX6_score_1 (q := 2) rfl rfl ?_
  refine ev_cV C dX6_score_2 (q := 5) rfl km_X6_77 kv_X6_serviceAt kc_X6_serviceAt (c_X6_serviceAt I hs) rfl rfl vcX6 rfl (by rw [hlv]; first | decide | omega) (by decide) (Nat.le_of_ble_eq_true rfl) (by first | exact Nat.zero_le _ | (rw [hmc]; decide) | (rw [hmc]; omega)) (by first | exact Nat.zero_le _ | (rw [hms]; decide) | (rw [hms]; omega)) ?_
  refine ev_cV C dX6_score_5 (q := 8) rfl km_X6_239 kv_X4_killScore kc_X4_killScore (c_X4_killScore I hs) rfl rfl vcX4 (gs_ (by show (_ : Int) < u.1 14; omega) (by omega)) (by rw [hlv]; first | decide | omega) (by decide) (Nat.le_of_ble_eq_true rfl) (by first | exact Nat.zero_le _ | (rw [hmc]; decide) | (rw [hmc]; omega)) (by first | exact Nat.zero_le _ | (rw [hms]; decide) | (rw [hms]; omega)) ?_
  exact ev_iret C hr dX6_score_8 (Nat.zero_le _) (Nat.zero_le _) (po_1 hPo rfl rfl)
set_option maxHeartbeats 4000000 in
set_option maxRecDepth 100000 in
theorem c_X6_isNeeded_x1 {u v : SS} {g : GH} (I : CI u) {s : Int} (hs : rg s) (h : ¬ (0 ≤ s ∧ s < u.1 14)) : Cn yX6_isNeeded (wsy yX6_isNeeded cX6_isNeeded 2 (some .boolean)) 4 1 6 nn [vR (some 1000), vI s] (mk u v g) (.inr ("java/lang/IndexOutOfBoundsException", mk u v g)) := by
  refine con_j (lv := [(0, vR (some 1000)), (1, vI s)]) (by decide) (fun ad => Nat.le_of_ble_eq_true rfl) (fun ad => rfl) rfl ?_
  intro k C hr hlv hmc hms hPo hPx htab
  refine ev_s C dX6_isNeeded_0 (q := 1) rfl rfl ?_
  refine ev_s C dX6_isNeeded_1 (q := 2) rfl rfl ?_
  refine ev_cVx C dX6_isNeeded_2 (q := 5) rfl km_X6_81 kv_X6_requireService kc_X6_requireService (c_X6_requireService_x I hs h) rfl rfl vcX6 rfl (by rw [hlv]; first | decide | omega) (by decide) (Nat.le_of_ble_eq_true rfl) (by first | exact Nat.zero_le _ | (rw [hmc]; decide) | (rw [hmc]; omega)) (by first | exact Nat.zero_le _ | (rw [hms]; decide) | (rw [hms]; omega)) (fun E G1 h => by cases h; exact ex_out C htab (by first | exact Nat.zero_le _ | (rw [hmc]; decide) | (rw [hmc]; omega)) (by first | exact Nat.zero_le _ | (rw [hms]; decide) | (rw [hms]; omega)) (px_1 hPx rfl rfl)) (fun a G1 h => nomatch h)
set_option maxHeartbeats 4000000 in
set_option maxRecDepth 100000 in
theorem c_X6_isNeeded {u v : SS} {g : GH} (I : CI u) {s : Nat} (hs : (s : Int) < u.1 14) : Cn yX6_isNeeded (wsy yX6_isNeeded cX6_isNeeded 2 (some .boolean)) 4 0 0 nn [vR (some 1000), vI (s : Int)] (mk u v g) (.inl (some (vI (bI (anyN (u.1 14).toNat (inP u s)))), mk u v g)) := by
  refine con_j (lv := [(0, vR (some 1000)), (1, vI (s : Int))]) (by decide) (fun ad => Nat.le_of_ble_eq_true rfl) (fun ad => rfl) rfl ?_
  intro k C hr hlv hmc hms hPo hPx htab
  have i14 := I.s14
  have h48 : s < 6 := by omega
  refine ev_s C dX6_isNeeded_0 (q := 1) rfl rfl ?_
  refine ev_s C dX6_isNeeded_1 (q := 2) rfl rfl ?_
  refine ev_cV C dX6_isNeeded_2 (q := 5) rfl km_X6_81 kv_X6_requireService kc_X6_requireService (c_X6_requireService I (by unfold rg; omega) (by omega)) rfl rfl vcX6 rfl (by rw [hlv]; first | decide | omega) (by decide) (Nat.le_of_ble_eq_true rfl) (by first | exact Nat.zero_le _ | (rw [hmc]; decide) | (rw [hmc]; omega)) (by first | exact Nat.zero_le _ | (rw [hms]; decide) | (rw [hms]; omega)) ?_
  refine ev_s C dX6_isNeeded_5 (q := 6) rfl rfl ?_
  refine ev_s C dX6_isNeeded_6 (q := 7) rfl rfl ?_
  refine ev_cV C dX6_isNeeded_7 (q := 10) rfl km_X6_222 kv_X6_isNeededByLiving kc_X6_isNeededByLiving (c_X6_isNeededByLiving I) rfl rfl vcX6 rfl (by rw [hlv]; first | decide | omega) (by decide) (Nat.le_of_ble_eq_true rfl) (by first | exact Nat.zero_le _ | (rw [hmc]; decide) | (rw [hmc]; omega)) (by first | exact Nat.zero_le _ | (rw [hms]; decide) | (rw [hms]; omega)) ?_
  exact ev_zret C hr (fit_Z (by first | decide | exact bI_01 _ | assumption)) dX6_isNeeded_10 (Nat.zero_le _) (Nat.zero_le _) (po_1 hPo rfl rfl)
set_option maxHeartbeats 4000000 in
set_option maxRecDepth 100000 in
theorem c_X6_startsIn_x1 {u v : SS} {g : GH} (I : CI u) {s : Int} (hs : rg s) (h : ¬ (0 ≤ s ∧ s < u.1 14)) : Cn yX6_startsIn (wsy yX6_startsIn cX6_startsIn 3 (some .int)) 4 1 6 nn [vR (some 1000), vI s] (mk u v g) (.inr ("java/lang/IndexOutOfBoundsException", mk u v g)) := by
  refine con_j (lv := [(0, vR (some 1000)), (1, vI s)]) (by decide) (fun ad => Nat.le_of_ble_eq_true rfl) (fun ad => rfl) rfl ?_
  intro k C hr hlv hmc hms hPo hPx htab
  refine ev_s C dX6_startsIn_0 (q := 1) rfl rfl ?_
  refine ev_s C dX6_startsIn_1 (q := 2) rfl rfl ?_
  refine ev_cVx C dX6_startsIn_2 (q := 5) rfl km_X6_77 kv_X6_serviceAt kc_X6_serviceAt (c_X6_serviceAt_x I hs h) rfl rfl vcX6 rfl (by rw [hlv]; first | decide | omega) (by decide) (Nat.le_of_ble_eq_true rfl) (by first | exact Nat.zero_le _ | (rw [hmc]; decide) | (rw [hmc]; omega)) (by first | exact Nat.zero_le _ | (rw [hms]; decide) | (rw [hms]; omega)) (fun E G1 h => by cases h; exact ex_out C htab (by first | exact Nat.zero_le _ | (rw [hmc]; decide) | (rw [hmc]; omega)) (by first | exact Nat.zero_le _ | (rw [hms]; decide) | (rw [hms]; omega)) (px_1 hPx rfl rfl)) (fun a G1 h => nomatch h)
set_option maxHeartbeats 4000000 in
set_option maxRecDepth 100000 in
theorem c_X6_startsIn_x2 {u v : SS} {g : GH} (I : CI u) {s : Nat} (hs : (s : Int) < u.1 14) (h : u.2 16 s = 0) : Cn yX6_startsIn (wsy yX6_startsIn cX6_startsIn 3 (some .int)) 4 1 6 nn [vR (some 1000), vI (s : Int)] (mk u v g) (.inr ("java/lang/IllegalStateException", mk u v g)) := by
  refine con_j (lv := [(0, vR (some 1000)), (1, vI (s : Int))]) (by decide) (fun ad => Nat.le_of_ble_eq_true rfl) (fun ad => rfl) rfl ?_
  intro k C hr hlv hmc hms hPo hPx htab
  have i14 := I.s14
  have h48 : s < 6 := by omega
  have ia := I.a16 s
  refine ev_s C dX6_startsIn_0 (q := 1) rfl rfl ?_
  refine ev_s C dX6_startsIn_1 (q := 2) rfl rfl ?_
  refine ev_cV C dX6_startsIn_2 (q := 5) rfl km_X6_77 kv_X6_serviceAt kc_X6_serviceAt (c_X6_serviceAt I hs) rfl rfl vcX6 rfl (by rw [hlv]; first | decide | omega) (by decide) (Nat.le_of_ble_eq_true rfl) (by first | exact Nat.zero_le _ | (rw [hmc]; decide) | (rw [hmc]; omega)) (by first | exact Nat.zero_le _ | (rw [hms]; decide) | (rw [hms]; omega)) ?_
  refine ev_s C dX6_startsIn_5 (q := 6) rfl rfl ?_
  refine ev_s C dX6_startsIn_6 (q := 7) rfl rfl ?_
  refine cgs_6 C dX6_startsIn_7 kf_X6_217 (q := 10) rfl (by show (_ : Int) < u.1 14; omega) (by omega) ?_
  refine ev_if_ne C dX6_startsIn_10 (tgt := 23) (q := 13) (by decide) rfl (by first | decide | (unfold rg; omega) | assumption | exact bAnd_rg _ _) (fun b0 => ?_) (fun b0 => ?_)
  · exact absurd h b0
  · exact ev_throw C htab kt_63_67 (text := "the service is not dead") (by decide) dX6_startsIn_13 dX6_startsIn_16 dX6_startsIn_17 dX6_startsIn_19 dX6_startsIn_22 (Nat.le_of_ble_eq_true rfl) (by rw [hmc]; decide) (by rw [hms]; decide) (px_1 hPx rfl rfl)
set_option maxHeartbeats 4000000 in
set_option maxRecDepth 100000 in
theorem c_X6_startsIn {u v : SS} {g : GH} (I : CI u) {s : Nat} (hs : (s : Int) < u.1 14) (h : u.2 16 s ≠ 0) : Cn yX6_startsIn (wsy yX6_startsIn cX6_startsIn 3 (some .int)) 4 0 0 nn [vR (some 1000), vI (s : Int)] (mk u v g) (.inl (some (vI (if 1 < u.2 13 s - (u.1 1 - u.2 17 s) then u.2 13 s - (u.1 1 - u.2 17 s) else 1)), mk u v g)) := by
  refine con_j (lv := [(0, vR (some 1000)), (1, vI (s : Int))]) (by decide) (fun ad => Nat.le_of_ble_eq_true rfl) (fun ad => rfl) rfl ?_
  intro k C hr hlv hmc hms hPo hPx htab
  have i14 := I.s14
  have h48 : s < 6 := by omega
  have ia := I.a16 s
  have ib := I.a13 s
  have ic := I.a17 s
  have i1 := I.s1
  refine ev_s C dX6_startsIn_0 (q := 1) rfl rfl ?_
  refine ev_s C dX6_startsIn_1 (q := 2) rfl rfl ?_
  refine ev_cV C dX6_startsIn_2 (q := 5) rfl km_X6_77 kv_X6_serviceAt kc_X6_serviceAt (c_X6_serviceAt I hs) rfl rfl vcX6 rfl (by rw [hlv]; first | decide | omega) (by decide) (Nat.le_of_ble_eq_true rfl) (by first | exact Nat.zero_le _ | (rw [hmc]; decide) | (rw [hmc]; omega)) (by first | exact Nat.zero_le _ | (rw [hms]; decide) | (rw [hms]; omega)) ?_
  refine ev_s C dX6_startsIn_5 (q := 6) rfl rfl ?_
  refine ev_s C dX6_startsIn_6 (q := 7) rfl rfl ?_
  refine cgs_6 C dX6_startsIn_7 kf_X6_217 (q := 10) rfl (by show (_ : Int) < u.1 14; omega) (by omega) ?_
  refine ev_if_ne C dX6_startsIn_10 (tgt := 23) (q := 13) (by decide) rfl (by first | decide | (unfold rg; omega) | assumption | exact bAnd_rg _ _) (fun b0 => ?_) (fun b0 => ?_)
  · refine ev_s C dX6_startsIn_23 (q := 24) rfl rfl ?_
    refine ev_s C dX6_startsIn_24 (q := 25) rfl rfl ?_
    refine ev_s C dX6_startsIn_25 (q := 26) rfl rfl ?_
    refine cg_1000_6 C dX6_startsIn_26 kf_X6_165 (q := 29) rfl ?_
    refine ev_cV C dX6_startsIn_29 (q := 32) rfl km_X6_227 kv_X4_delayLeft kc_X4_delayLeft (c_X4_delayLeft I hs) rfl rfl vcX4 (gs_ (by show (_ : Int) < u.1 14; omega) (by omega)) (by rw [hlv]; first | decide | omega) (by decide) (Nat.le_of_ble_eq_true rfl) (by first | exact Nat.zero_le _ | (rw [hmc]; decide) | (rw [hmc]; omega)) (by first | exact Nat.zero_le _ | (rw [hms]; decide) | (rw [hms]; omega)) ?_
    refine ev_mmax C dX6_startsIn_32 (q := 35) rfl km_X6_230 (by first | decide | (unfold rg; omega) | assumption | exact bAnd_rg _ _) (by first | decide | (unfold rg; omega) | assumption | exact bAnd_rg _ _) (Nat.le_of_ble_eq_true rfl) (by first | exact Nat.zero_le _ | (rw [hmc]; decide) | (rw [hmc]; omega)) (by first | exact Nat.zero_le _ | (rw [hms]; decide) | (rw [hms]; omega)) ?_
    exact ev_iret C hr dX6_startsIn_35 (Nat.zero_le _) (Nat.zero_le _) (po_1 hPo rfl rfl)
  · exact absurd b0 h
set_option maxHeartbeats 4000000 in
set_option maxRecDepth 100000 in
theorem c_X6_stateOf_x1 {u v : SS} {g : GH} (I : CI u) {s : Int} (hs : rg s) (h : ¬ (0 ≤ s ∧ s < u.1 14)) : Cn yX6_stateOf (wsy yX6_stateOf cX6_stateOf 2 (some .char)) 6 1 6 nn [vR (some 1000), vI s] (mk u v g) (.inr ("java/lang/IndexOutOfBoundsException", mk u v g)) := by
  refine con_j (lv := [(0, vR (some 1000)), (1, vI s)]) (by decide) (fun ad => Nat.le_of_ble_eq_true rfl) (fun ad => rfl) rfl ?_
  intro k C hr hlv hmc hms hPo hPx htab
  refine ev_s C dX6_stateOf_0 (q := 1) rfl rfl ?_
  refine ev_s C dX6_stateOf_1 (q := 2) rfl rfl ?_
  refine ev_cVx C dX6_stateOf_2 (q := 5) rfl km_X6_77 kv_X6_serviceAt kc_X6_serviceAt (c_X6_serviceAt_x I hs h) rfl rfl vcX6 rfl (by rw [hlv]; first | decide | omega) (by decide) (Nat.le_of_ble_eq_true rfl) (by first | exact Nat.zero_le _ | (rw [hmc]; decide) | (rw [hmc]; omega)) (by first | exact Nat.zero_le _ | (rw [hms]; decide) | (rw [hms]; omega)) (fun E G1 h => by cases h; exact ex_out C htab (by first | exact Nat.zero_le _ | (rw [hmc]; decide) | (rw [hmc]; omega)) (by first | exact Nat.zero_le _ | (rw [hms]; decide) | (rw [hms]; omega)) (px_1 hPx rfl rfl)) (fun a G1 h => nomatch h)
set_option maxHeartbeats 4000000 in
set_option maxRecDepth 100000 in
theorem c_X6_stateOf {u v : SS} {g : GH} (I : CI u) {s : Nat} (hs : (s : Int) < u.1 14) : Cn yX6_stateOf (wsy yX6_stateOf cX6_stateOf 2 (some .char)) 6 0 0 nn [vR (some 1000), vI (s : Int)] (mk u v g) (.inl (some (vI (if u.2 16 s ≠ 0 then 100 else if irB u s = true then 114 else 119)), mk u v g)) := by
  refine con_j (lv := [(0, vR (some 1000)), (1, vI (s : Int))]) (by decide) (fun ad => Nat.le_of_ble_eq_true rfl) (fun ad => rfl) rfl ?_
  intro k C hr hlv hmc hms hPo hPx htab
  have i14 := I.s14
  have h48 : s < 6 := by omega
  have ia := I.a16 s
  refine ev_s C dX6_stateOf_0 (q := 1) rfl rfl ?_
  refine ev_s C dX6_stateOf_1 (q := 2) rfl rfl ?_
  refine ev_cV C dX6_stateOf_2 (q := 5) rfl km_X6_77 kv_X6_serviceAt kc_X6_serviceAt (c_X6_serviceAt I hs) rfl rfl vcX6 rfl (by rw [hlv]; first | decide | omega) (by decide) (Nat.le_of_ble_eq_true rfl) (by first | exact Nat.zero_le _ | (rw [hmc]; decide) | (rw [hmc]; omega)) (by first | exact Nat.zero_le _ | (rw [hms]; decide) | (rw [hms]; omega)) ?_
  refine cgs_6 C dX6_stateOf_5 kf_X6_217 (q := 8) rfl (by show (_ : Int) < u.1 14; omega) (by omega) ?_
  refine ev_if_eq C dX6_stateOf_8 (tgt := 14) (q := 11) (by decide) rfl (by first | decide | (unfold rg; omega) | assumption | exact bAnd_rg _ _) (fun b0 => ?_) (fun b0 => ?_)
  · refine ev_s C dX6_stateOf_14 (q := 15) rfl rfl ?_
    refine ev_s C dX6_stateOf_15 (q := 16) rfl rfl ?_
    refine ev_cV C dX6_stateOf_16 (q := 19) rfl km_X6_142 kv_X6_isRunning kc_X6_isRunning (c_X6_isRunning I hs) rfl rfl vcX6 rfl (by rw [hlv]; first | decide | omega) (by decide) (Nat.le_of_ble_eq_true rfl) (by first | exact Nat.zero_le _ | (rw [hmc]; decide) | (rw [hmc]; omega)) (by first | exact Nat.zero_le _ | (rw [hms]; decide) | (rw [hms]; omega)) ?_
    refine ev_ifB_eq C dX6_stateOf_19 (tgt := 27) (q := 22) (by decide) rfl (fun b1 => ?_) (fun b1 => ?_)
    · refine ev_s C dX6_stateOf_27 (q := 29) rfl rfl ?_
      exact ev_zret C hr (fit_C (by first | decide | omega | assumption)) dX6_stateOf_29 (Nat.zero_le _) (Nat.zero_le _) (po_1 hPo (by simp [*]) rfl)
    · refine ev_s C dX6_stateOf_22 (q := 24) rfl rfl ?_
      refine ev_goto C dX6_stateOf_24 (tgt := 29) (by decide) ?_
      exact ev_zret C hr (fit_C (by first | decide | omega | assumption)) dX6_stateOf_29 (Nat.zero_le _) (Nat.zero_le _) (po_1 hPo (by simp [*]) rfl)
  · refine ev_s C dX6_stateOf_11 (q := 13) rfl rfl ?_
    exact ev_zret C hr (fit_C (by first | decide | omega | assumption)) dX6_stateOf_13 (Nat.zero_le _) (Nat.zero_le _) (po_1 hPo (by simp [*]) rfl)
set_option maxHeartbeats 4000000 in
set_option maxRecDepth 100000 in
theorem c_X6_pagesIn_x1 {u v : SS} {g : GH} (I : CI u) {s : Int} (hs : rg s) (h : ¬ (0 ≤ s ∧ s < u.1 14)) {c : Int} : Cn yX6_pagesIn (wsy yX6_pagesIn cX6_pagesIn 4 (some .int)) 4 1 6 nn [vR (some 1000), vI s, vI c] (mk u v g) (.inr ("java/lang/IndexOutOfBoundsException", mk u v g)) := by
  refine con_j (lv := [(0, vR (some 1000)), (1, vI s), (2, vI c)]) (by decide) (fun ad => Nat.le_of_ble_eq_true rfl) (fun ad => rfl) rfl ?_
  intro k C hr hlv hmc hms hPo hPx htab
  refine ev_s C dX6_pagesIn_0 (q := 1) rfl rfl ?_
  refine ev_s C dX6_pagesIn_1 (q := 2) rfl rfl ?_
  refine ev_cVx C dX6_pagesIn_2 (q := 5) rfl km_X6_77 kv_X6_serviceAt kc_X6_serviceAt (c_X6_serviceAt_x I hs h) rfl rfl vcX6 rfl (by rw [hlv]; first | decide | omega) (by decide) (Nat.le_of_ble_eq_true rfl) (by first | exact Nat.zero_le _ | (rw [hmc]; decide) | (rw [hmc]; omega)) (by first | exact Nat.zero_le _ | (rw [hms]; decide) | (rw [hms]; omega)) (fun E G1 h => by cases h; exact ex_out C htab (by first | exact Nat.zero_le _ | (rw [hmc]; decide) | (rw [hmc]; omega)) (by first | exact Nat.zero_le _ | (rw [hms]; decide) | (rw [hms]; omega)) (px_1 hPx rfl rfl)) (fun a G1 h => nomatch h)
set_option maxHeartbeats 4000000 in
set_option maxRecDepth 100000 in
theorem c_X6_pagesIn_x2 {u v : SS} {g : GH} (I : CI u) {s : Nat} (hs : (s : Int) < u.1 14) {c : Int} (hc : 0 ≤ c ∧ c < 65536) (h : c ≠ 102 ∧ c ≠ 115 ∧ c ≠ 100 ∧ c ≠ 45) : Cn yX6_pagesIn (wsy yX6_pagesIn cX6_pagesIn 4 (some .int)) 4 1 6 nn [vR (some 1000), vI (s : Int), vI c] (mk u v g) (.inr ("java/lang/IllegalArgumentException", mk u v g)) := by
  refine con_j (lv := [(0, vR (some 1000)), (1, vI (s : Int)), (2, vI c)]) (by decide) (fun ad => Nat.le_of_ble_eq_true rfl) (fun ad => rfl) rfl ?_
  intro k C hr hlv hmc hms hPo hPx htab
  have i14 := I.s14
  have h48 : s < 6 := by omega
  refine ev_s C dX6_pagesIn_0 (q := 1) rfl rfl ?_
  refine ev_s C dX6_pagesIn_1 (q := 2) rfl rfl ?_
  refine ev_cV C dX6_pagesIn_2 (q := 5) rfl km_X6_77 kv_X6_serviceAt kc_X6_serviceAt (c_X6_serviceAt I hs) rfl rfl vcX6 rfl (by rw [hlv]; first | decide | omega) (by decide) (Nat.le_of_ble_eq_true rfl) (by first | exact Nat.zero_le _ | (rw [hmc]; decide) | (rw [hmc]; omega)) (by first | exact Nat.zero_le _ | (rw [hms]; decide) | (rw [hms]; omega)) ?_
  refine ev_s C dX6_pagesIn_5 (q := 6) rfl rfl ?_
  refine ev_s C dX6_pagesIn_6 (q := 7) rfl rfl ?_
  refine ev_s C dX6_pagesIn_7 (q := 9) rfl rfl ?_
  refine ev_icmp_eq C dX6_pagesIn_9 (tgt := 40) (q := 12) (by decide) rfl (by first | decide | (unfold rg; omega) | assumption | exact bAnd_rg _ _) (by first | decide | (unfold rg; omega) | assumption | exact bAnd_rg _ _) (fun b0 => ?_) (fun b0 => ?_)
  · exact absurd b0 h.1
  · refine ev_s C dX6_pagesIn_12 (q := 13) rfl rfl ?_
    refine ev_s C dX6_pagesIn_13 (q := 15) rfl rfl ?_
    refine ev_icmp_eq C dX6_pagesIn_15 (tgt := 40) (q := 18) (by decide) rfl (by first | decide | (unfold rg; omega) | assumption | exact bAnd_rg _ _) (by first | decide | (unfold rg; omega) | assumption | exact bAnd_rg _ _) (fun b1 => ?_) (fun b1 => ?_)
    · exact absurd b1 h.2.1
    · refine ev_s C dX6_pagesIn_18 (q := 19) rfl rfl ?_
      refine ev_s C dX6_pagesIn_19 (q := 21) rfl rfl ?_
      refine ev_icmp_eq C dX6_pagesIn_21 (tgt := 40) (q := 24) (by decide) rfl (by first | decide | (unfold rg; omega) | assumption | exact bAnd_rg _ _) (by first | decide | (unfold rg; omega) | assumption | exact bAnd_rg _ _) (fun b2 => ?_) (fun b2 => ?_)
      · exact absurd b2 h.2.2.1
      · refine ev_s C dX6_pagesIn_24 (q := 25) rfl rfl ?_
        refine ev_s C dX6_pagesIn_25 (q := 27) rfl rfl ?_
        refine ev_icmp_eq C dX6_pagesIn_27 (tgt := 40) (q := 30) (by decide) rfl (by first | decide | (unfold rg; omega) | assumption | exact bAnd_rg _ _) (by first | decide | (unfold rg; omega) | assumption | exact bAnd_rg _ _) (fun b3 => ?_) (fun b3 => ?_)
        · exact absurd b3 h.2.2.2
        · exact ev_throw C htab kt_52_56 (text := "no such place") (by decide) dX6_pagesIn_30 dX6_pagesIn_33 dX6_pagesIn_34 dX6_pagesIn_36 dX6_pagesIn_39 (Nat.le_of_ble_eq_true rfl) (by rw [hmc]; decide) (by rw [hms]; decide) (px_1 hPx rfl rfl)
set_option maxHeartbeats 4000000 in
set_option maxRecDepth 100000 in
theorem c_X6_pagesIn {u v : SS} {g : GH} (I : CI u) {s : Nat} (hs : (s : Int) < u.1 14) {c : Int} (hc : 0 ≤ c ∧ c < 65536) (h : c = 102 ∨ c = 115 ∨ c = 100 ∨ c = 45) : Cn yX6_pagesIn (wsy yX6_pagesIn cX6_pagesIn 4 (some .int)) 4 0 0 nn [vR (some 1000), vI (s : Int), vI c] (mk u v g) (.inl (some (vI (cpN u s c)), mk u v g)) := by
  refine con_j (lv := [(0, vR (some 1000)), (1, vI (s : Int)), (2, vI c)]) (by decide) (fun ad => Nat.le_of_ble_eq_true rfl) (fun ad => rfl) rfl ?_
  intro k C hr hlv hmc hms hPo hPx htab
  have i14 := I.s14
  have h48 : s < 6 := by omega
  refine ev_s C dX6_pagesIn_0 (q := 1) rfl rfl ?_
  refine ev_s C dX6_pagesIn_1 (q := 2) rfl rfl ?_
  refine ev_cV C dX6_pagesIn_2 (q := 5) rfl km_X6_77 kv_X6_serviceAt kc_X6_serviceAt (c_X6_serviceAt I hs) rfl rfl vcX6 rfl (by rw [hlv]; first | decide | omega) (by decide) (Nat.le_of_ble_eq_true rfl) (by first | exact Nat.zero_le _ | (rw [hmc]; decide) | (rw [hmc]; omega)) (by first | exact Nat.zero_le _ | (rw [hms]; decide) | (rw [hms]; omega)) ?_
  refine ev_s C dX6_pagesIn_5 (q := 6) rfl rfl ?_
  refine ev_s C dX6_pagesIn_6 (q := 7) rfl rfl ?_
  refine ev_s C dX6_pagesIn_7 (q := 9) rfl rfl ?_
  refine ev_icmp_eq C dX6_pagesIn_9 (tgt := 40) (q := 12) (by decide) rfl (by first | decide | (unfold rg; omega) | assumption | exact bAnd_rg _ _) (by first | decide | (unfold rg; omega) | assumption | exact bAnd_rg _ _) (fun b0 => ?_) (fun b0 => ?_)
  · refine ev_s C dX6_pagesIn_40 (q := 41) rfl rfl ?_
    refine ev_s C dX6_pagesIn_41 (q := 42) rfl rfl ?_
    refine ev_cV C dX6_pagesIn_42 (q := 45) rfl km_X6_204 kv_X4_countPages kc_X4_countPages (c_X4_countPages I hs (by unfold rg; omega)) rfl rfl vcX4 (gs_ (by show (_ : Int) < u.1 14; omega) (by omega)) (by rw [hlv]; first | decide | omega) (by decide) (Nat.le_of_ble_eq_true rfl) (by first | exact Nat.zero_le _ | (rw [hmc]; decide) | (rw [hmc]; omega)) (by first | exact Nat.zero_le _ | (rw [hms]; decide) | (rw [hms]; omega)) ?_
    exact ev_iret C hr dX6_pagesIn_45 (Nat.zero_le _) (Nat.zero_le _) (po_1 hPo rfl rfl)
  · refine ev_s C dX6_pagesIn_12 (q := 13) rfl rfl ?_
    refine ev_s C dX6_pagesIn_13 (q := 15) rfl rfl ?_
    refine ev_icmp_eq C dX6_pagesIn_15 (tgt := 40) (q := 18) (by decide) rfl (by first | decide | (unfold rg; omega) | assumption | exact bAnd_rg _ _) (by first | decide | (unfold rg; omega) | assumption | exact bAnd_rg _ _) (fun b1 => ?_) (fun b1 => ?_)
    · refine ev_s C dX6_pagesIn_40 (q := 41) rfl rfl ?_
      refine ev_s C dX6_pagesIn_41 (q := 42) rfl rfl ?_
      refine ev_cV C dX6_pagesIn_42 (q := 45) rfl km_X6_204 kv_X4_countPages kc_X4_countPages (c_X4_countPages I hs (by unfold rg; omega)) rfl rfl vcX4 (gs_ (by show (_ : Int) < u.1 14; omega) (by omega)) (by rw [hlv]; first | decide | omega) (by decide) (Nat.le_of_ble_eq_true rfl) (by first | exact Nat.zero_le _ | (rw [hmc]; decide) | (rw [hmc]; omega)) (by first | exact Nat.zero_le _ | (rw [hms]; decide) | (rw [hms]; omega)) ?_
      exact ev_iret C hr dX6_pagesIn_45 (Nat.zero_le _) (Nat.zero_le _) (po_1 hPo rfl rfl)
    · refine ev_s C dX6_pagesIn_18 (q := 19) rfl rfl ?_
      refine ev_s C dX6_pagesIn_19 (q := 21) rfl rfl ?_
      refine ev_icmp_eq C dX6_pagesIn_21 (tgt := 40) (q := 24) (by decide) rfl (by first | decide | (unfold rg; omega) | assumption | exact bAnd_rg _ _) (by first | decide | (unfold rg; omega) | assumption | exact bAnd_rg _ _) (fun b2 => ?_) (fun b2 => ?_)
      · refine ev_s C dX6_pagesIn_40 (q := 41) rfl rfl ?_
        refine ev_s C dX6_pagesIn_41 (q := 42) rfl rfl ?_
        refine ev_cV C dX6_pagesIn_42 (q := 45) rfl km_X6_204 kv_X4_countPages kc_X4_countPages (c_X4_countPages I hs (by unfold rg; omega)) rfl rfl vcX4 (gs_ (by show (_ : Int) < u.1 14; omega) (by omega)) (by rw [hlv]; first | decide | omega) (by decide) (Nat.le_of_ble_eq_true rfl) (by first | exact Nat.zero_le _ | (rw [hmc]; decide) | (rw [hmc]; omega)) (by first | exact Nat.zero_le _ | (rw [hms]; decide) | (rw [hms]; omega)) ?_
        exact ev_iret C hr dX6_pagesIn_45 (Nat.zero_le _) (Nat.zero_le _) (po_1 hPo rfl rfl)
      · refine ev_s C dX6_pagesIn_24 (q := 25) rfl rfl ?_
        refine ev_s C dX6_pagesIn_25 (q := 27) rfl rfl ?_
        refine ev_icmp_eq C dX6_pagesIn_27 (tgt := 40) (q := 30) (by decide) rfl (by first | decide | (unfold rg; omega) | assumption | exact bAnd_rg _ _) (by first | decide | (unfold rg; omega) | assumption | exact bAnd_rg _ _) (fun b3 => ?_) (fun b3 => ?_)
        · refine ev_s C dX6_pagesIn_40 (q := 41) rfl rfl ?_
          refine ev_s C dX6_pagesIn_41 (q := 42) rfl rfl ?_
          refine ev_cV C dX6_pagesIn_42 (q := 45) rfl km_X6_204 kv_X4_countPages kc_X4_countPages (c_X4_countPages I hs (by unfold rg; omega)) rfl rfl vcX4 (gs_ (by show (_ : Int) < u.1 14; omega) (by omega)) (by rw [hlv]; first | decide | omega) (by decide) (Nat.le_of_ble_eq_true rfl) (by first | exact Nat.zero_le _ | (rw [hmc]; decide) | (rw [hmc]; omega)) (by first | exact Nat.zero_le _ | (rw [hms]; decide) | (rw [hms]; omega)) ?_
          exact ev_iret C hr dX6_pagesIn_45 (Nat.zero_le _) (Nat.zero_le _) (po_1 hPo rfl rfl)
        · exfalso; omega
set_option maxHeartbeats 4000000 in
set_option maxRecDepth 100000 in
theorem l_X6_onDisk {k : Kx} (C : CX k RX6 cX6_onDisk 3) (hlv : klev k = 3) {u v : SS} {g : GH} (I : CI u) {N : Nat} (hN : u.1 14 = (N : Int)) (hr : (kmeth k).sig.returnType = some .int) (hPo : kPo k = PoR (.inl (some (vI (sumN N (fun j => cpN u j 100))), mk u v g))) : ∀ (m z : Nat) (a iz : Int), iz = z → a = sumN z (fun j => cpN u j 100) → z ≤ N → N < z + m → EV k 4 [(0, vR (some 1000)), (1, vI a), (2, vI iz)] [] (mk u v g) 0 0 := by
  intro m
  induction m with
  | zero =>
    intros
    exfalso
    omega
  | succ m ih =>
    intro z a iz e0 ea h1 h2
    have i14 := I.s14
    have hsum := sumN_bd (N := z) (p := fun j => cpN u j 100) (a := 0) (b := 8) (fun j _ => cpI_bd u j 100 8)
    subst e0
    refine ev_s C dX6_onDisk_4 (q := 5) rfl rfl ?_
    refine ev_s C dX6_onDisk_5 (q := 6) rfl rfl ?_
    refine cg_1000_4 C dX6_onDisk_6 kf_X6_40 (q := 9) rfl ?_
    refine ev_cV C dX6_onDisk_9 (q := 12) rfl km_X6_59 kv_Jx4a65c_size_8abf5 kc_Jx4a65c_size_8abf5 (c_size_s) rfl rfl vcJx4a65c rfl (by rw [hlv]; first | decide | omega) (by decide) (Nat.le_of_ble_eq_true rfl) (by first | exact Nat.zero_le _ | (rw [hmc]; decide) | (rw [hmc]; omega)) (by first | exact Nat.zero_le _ | (rw [hms]; decide) | (rw [hms]; omega)) ?_
    refine ev_icmp_ge C dX6_onDisk_12 (tgt := 40) (q := 15) (by decide) rfl (by first | decide | (unfold rg; omega) | assumption | exact bAnd_rg _ _) (by first | decide | (unfold rg; omega) | assumption | exact bAnd_rg _ _) (fun b0 => ?_) (fun b0 => ?_)
    · refine ev_s C dX6_onDisk_40 (q := 41) rfl rfl ?_
      exact ev_iret C hr dX6_onDisk_41 (Nat.zero_le _) (Nat.zero_le _) (po_1 hPo (by (obtain rfl : z = N := (by omega)); rw [ea]) rfl)
    · refine ev_s C dX6_onDisk_15 (q := 16) rfl rfl ?_
      refine ev_s C dX6_onDisk_16 (q := 17) rfl rfl ?_
      refine cg_1000_4 C dX6_onDisk_17 kf_X6_40 (q := 20) rfl ?_
      refine ev_s C dX6_onDisk_20 (q := 21) rfl rfl ?_
      refine ev_cV C dX6_onDisk_21 (q := 24) rfl km_X6_200 kv_Jx4a65c_get_915e3 kc_Jx4a65c_get_915e3 (c_get_s I (i := z) (by omega)) rfl rfl vcJx4a65c rfl (by rw [hlv]; first | decide | omega) (by decide) (Nat.le_of_ble_eq_true rfl) (by first | exact Nat.zero_le _ | (rw [hmc]; decide) | (rw [hmc]; omega)) (by first | exact Nat.zero_le _ | (rw [hms]; decide) | (rw [hms]; omega)) ?_
      refine ev_chk C dX6_onDisk_24 (q := 27) rfl vcX4 kl_X6_68 (fun n h => by cases h; exact ⟨_, gs_ (by show (_ : Int) < u.1 14; omega) (by omega)⟩) ?_
      refine ev_s C dX6_onDisk_27 (q := 29) rfl rfl ?_
      refine ev_cV C dX6_onDisk_29 (q := 32) rfl km_X6_204 kv_X4_countPages kc_X4_countPages (c_X4_countPages I (s := z) (by omega) (by unfold rg; decide)) rfl rfl vcX4 (gs_ (by show (_ : Int) < u.1 14; omega) (by omega)) (by rw [hlv]; first | decide | omega) (by decide) (Nat.le_of_ble_eq_true rfl) (by first | exact Nat.zero_le _ | (rw [hmc]; decide) | (rw [hmc]; omega)) (by first | exact Nat.zero_le _ | (rw [hms]; decide) | (rw [hms]; omega)) ?_
      refine ev_s C dX6_onDisk_32 (q := 33) rfl rfl ?_
      refine ev_s C dX6_onDisk_33 (q := 34) rfl rfl ?_
      refine ev_s C dX6_onDisk_34 (q := 37) rfl rfl ?_
      refine ev_goto C dX6_onDisk_37 (tgt := 4) (by decide) ?_
      exact ih (z + 1) _ _ (by omega) (by show _ = sumN z (fun j => cpN u j 100) + cpN u z 100; rw [ea]) (by omega) (by omega)
set_option maxHeartbeats 4000000 in
set_option maxRecDepth 100000 in
theorem c_X6_onDisk {u v : SS} {g : GH} (I : CI u) : Cn yX6_onDisk (wsy yX6_onDisk cX6_onDisk 3 (some .int)) 3 0 0 nn [vR (some 1000)] (mk u v g) (.inl (some (vI (sumN (u.1 14).toNat (fun j => cpN u j 100))), mk u v g)) := by
  refine con_j (lv := [(0, vR (some 1000))]) (by decide) (fun ad => Nat.le_of_ble_eq_true rfl) (fun ad => rfl) rfl ?_
  intro k C hr hlv hmc hms hPo hPx htab
  refine ev_s C dX6_onDisk_0 (q := 1) rfl rfl ?_
  refine ev_s C dX6_onDisk_1 (q := 2) rfl rfl ?_
  refine ev_s C dX6_onDisk_2 (q := 3) rfl rfl ?_
  refine ev_s C dX6_onDisk_3 (q := 4) rfl rfl ?_
  have i14 := I.s14
  exact l_X6_onDisk C hlv I (N := (u.1 14).toNat) (by omega) hr hPo ((u.1 14).toNat + 1) 0 _ _ rfl rfl (Nat.zero_le _) (by omega)
set_option maxHeartbeats 4000000 in
set_option maxRecDepth 100000 in
theorem c_X6_placeOf_x1 {u v : SS} {g : GH} (I : CI u) {s p : Int} (hs : rg s) (h : ¬ (0 ≤ s ∧ s < u.1 14)) : Cn yX6_placeOf (wsy yX6_placeOf cX6_placeOf 3 (some .char)) 5 1 6 nn [vR (some 1000), vI s, vI p] (mk u v g) (.inr ("java/lang/IndexOutOfBoundsException", mk u v g)) := by
  refine con_j (lv := [(0, vR (some 1000)), (1, vI s), (2, vI p)]) (by decide) (fun ad => Nat.le_of_ble_eq_true rfl) (fun ad => rfl) rfl ?_
  intro k C hr hlv hmc hms hPo hPx htab
  refine ev_s C dX6_placeOf_0 (q := 1) rfl rfl ?_
  refine ev_s C dX6_placeOf_1 (q := 2) rfl rfl ?_
  refine ev_s C dX6_placeOf_2 (q := 3) rfl rfl ?_
  refine ev_cVx C dX6_placeOf_3 (q := 6) rfl km_X6_108 kv_X6_pageAt kc_X6_pageAt (c_X6_pageAt_x1 I hs h) rfl rfl vcX6 rfl (by rw [hlv]; first | decide | omega) (by decide) (Nat.le_of_ble_eq_true rfl) (by first | exact Nat.zero_le _ | (rw [hmc]; decide) | (rw [hmc]; omega)) (by first | exact Nat.zero_le _ | (rw [hms]; decide) | (rw [hms]; omega)) (fun E G1 h => by cases h; exact ex_out C htab (by first | exact Nat.zero_le _ | (rw [hmc]; decide) | (rw [hmc]; omega)) (by first | exact Nat.zero_le _ | (rw [hms]; decide) | (rw [hms]; omega)) (px_1 hPx rfl rfl)) (fun a G1 h => nomatch h)
set_option maxHeartbeats 4000000 in
set_option maxRecDepth 100000 in
theorem c_X6_placeOf_x2 {u v : SS} {g : GH} (I : CI u) {s : Nat} (hs : (s : Int) < u.1 14) {p : Int} (hp : rg p) (h : ¬ (0 ≤ p ∧ p < 8)) : Cn yX6_placeOf (wsy yX6_placeOf cX6_placeOf 3 (some .char)) 5 1 6 nn [vR (some 1000), vI (s : Int), vI p] (mk u v g) (.inr ("java/lang/IndexOutOfBoundsException", mk u v g)) := by
  refine con_j (lv := [(0, vR (some 1000)), (1, vI (s : Int)), (2, vI p)]) (by decide) (fun ad => Nat.le_of_ble_eq_true rfl) (fun ad => rfl) rfl ?_
  intro k C hr hlv hmc hms hPo hPx htab
  refine ev_s C dX6_placeOf_0 (q := 1) rfl rfl ?_
  refine ev_s C dX6_placeOf_1 (q := 2) rfl rfl ?_
  refine ev_s C dX6_placeOf_2 (q := 3) rfl rfl ?_
  refine ev_cVx C dX6_placeOf_3 (q := 6) rfl km_X6_108 kv_X6_pageAt kc_X6_pageAt (c_X6_pageAt_x2 I hs hp h) rfl rfl vcX6 rfl (by rw [hlv]; first | decide | omega) (by decide) (Nat.le_of_ble_eq_true rfl) (by first | exact Nat.zero_le _ | (rw [hmc]; decide) | (rw [hmc]; omega)) (by first | exact Nat.zero_le _ | (rw [hms]; decide) | (rw [hms]; omega)) (fun E G1 h => by cases h; exact ex_out C htab (by first | exact Nat.zero_le _ | (rw [hmc]; decide) | (rw [hmc]; omega)) (by first | exact Nat.zero_le _ | (rw [hms]; decide) | (rw [hms]; omega)) (px_1 hPx rfl rfl)) (fun a G1 h => nomatch h)
set_option maxHeartbeats 4000000 in
set_option maxRecDepth 100000 in
theorem c_X6_placeOf {u v : SS} {g : GH} (I : CI u) {s : Nat} (hs : (s : Int) < u.1 14) {p : Nat} (hp : p < 8) : Cn yX6_placeOf (wsy yX6_placeOf cX6_placeOf 3 (some .char)) 5 0 0 nn [vR (some 1000), vI (s : Int), vI (p : Int)] (mk u v g) (.inl (some (vI (u.2 23 (8 * s + p))), mk u v g)) := by
  refine con_j (lv := [(0, vR (some 1000)), (1, vI (s : Int)), (2, vI (p : Int))]) (by decide) (fun ad => Nat.le_of_ble_eq_true rfl) (fun ad => rfl) rfl ?_
  intro k C hr hlv hmc hms hPo hPx htab
  have i14 := I.s14
  have ic := I.a23 (8 * s + p)
  have ir := I.a25 (8 * s + p)
  have ir2 : u.2 25 (8 * s + p) = 0 ∨ u.2 25 (8 * s + p) = 1 := by omega
  have ic2 : 0 ≤ u.2 23 (8 * s + p) ∧ u.2 23 (8 * s + p) < 65536 := by omega
  have h48 : 8 * s + p < 48 := by omega
  refine ev_s C dX6_placeOf_0 (q := 1) rfl rfl ?_
  refine ev_s C dX6_placeOf_1 (q := 2) rfl rfl ?_
  refine ev_s C dX6_placeOf_2 (q := 3) rfl rfl ?_
  refine ev_cV C dX6_placeOf_3 (q := 6) rfl km_X6_108 kv_X6_pageAt kc_X6_pageAt (c_X6_pageAt I hs hp) rfl rfl vcX6 rfl (by rw [hlv]; first | decide | omega) (by decide) (Nat.le_of_ble_eq_true rfl) (by first | exact Nat.zero_le _ | (rw [hmc]; decide) | (rw [hmc]; omega)) (by first | exact Nat.zero_le _ | (rw [hms]; decide) | (rw [hms]; omega)) ?_
  refine cgp_3 C dX6_placeOf_6 kf_X6_112 (q := 9) rfl (by show (_ : Int) < 8 * u.1 14; omega) ?_
  exact ev_zret C hr (fit_C (by first | decide | omega | assumption)) dX6_placeOf_9 (Nat.zero_le _) (Nat.zero_le _) (po_1 hPo rfl rfl)
set_option maxHeartbeats 4000000 in
set_option maxRecDepth 100000 in
theorem c_X6_isReferenced_x1 {u v : SS} {g : GH} (I : CI u) {s p : Int} (hs : rg s) (h : ¬ (0 ≤ s ∧ s < u.1 14)) : Cn yX6_isReferenced (wsy yX6_isReferenced cX6_isReferenced 3 (some .boolean)) 5 1 6 nn [vR (some 1000), vI s, vI p] (mk u v g) (.inr ("java/lang/IndexOutOfBoundsException", mk u v g)) := by
  refine con_j (lv := [(0, vR (some 1000)), (1, vI s), (2, vI p)]) (by decide) (fun ad => Nat.le_of_ble_eq_true rfl) (fun ad => rfl) rfl ?_
  intro k C hr hlv hmc hms hPo hPx htab
  refine ev_s C dX6_isReferenced_0 (q := 1) rfl rfl ?_
  refine ev_s C dX6_isReferenced_1 (q := 2) rfl rfl ?_
  refine ev_s C dX6_isReferenced_2 (q := 3) rfl rfl ?_
  refine ev_cVx C dX6_isReferenced_3 (q := 6) rfl km_X6_108 kv_X6_pageAt kc_X6_pageAt (c_X6_pageAt_x1 I hs h) rfl rfl vcX6 rfl (by rw [hlv]; first | decide | omega) (by decide) (Nat.le_of_ble_eq_true rfl) (by first | exact Nat.zero_le _ | (rw [hmc]; decide) | (rw [hmc]; omega)) (by first | exact Nat.zero_le _ | (rw [hms]; decide) | (rw [hms]; omega)) (fun E G1 h => by cases h; exact ex_out C htab (by first | exact Nat.zero_le _ | (rw [hmc]; decide) | (rw [hmc]; omega)) (by first | exact Nat.zero_le _ | (rw [hms]; decide) | (rw [hms]; omega)) (px_1 hPx rfl rfl)) (fun a G1 h => nomatch h)
set_option maxHeartbeats 4000000 in
set_option maxRecDepth 100000 in
theorem c_X6_isReferenced_x2 {u v : SS} {g : GH} (I : CI u) {s : Nat} (hs : (s : Int) < u.1 14) {p : Int} (hp : rg p) (h : ¬ (0 ≤ p ∧ p < 8)) : Cn yX6_isReferenced (wsy yX6_isReferenced cX6_isReferenced 3 (some .boolean)) 5 1 6 nn [vR (some 1000), vI (s : Int), vI p] (mk u v g) (.inr ("java/lang/IndexOutOfBoundsException", mk u v g)) := by
  refine con_j (lv := [(0, vR (some 1000)), (1, vI (s : Int)), (2, vI p)]) (by decide) (fun ad => Nat.le_of_ble_eq_true rfl) (fun ad => rfl) rfl ?_
  intro k C hr hlv hmc hms hPo hPx htab
  refine ev_s C dX6_isReferenced_0 (q := 1) rfl rfl ?_
  refine ev_s C dX6_isReferenced_1 (q := 2) rfl rfl ?_
  refine ev_s C dX6_isReferenced_2 (q := 3) rfl rfl ?_
  refine ev_cVx C dX6_isReferenced_3 (q := 6) rfl km_X6_108 kv_X6_pageAt kc_X6_pageAt (c_X6_pageAt_x2 I hs hp h) rfl rfl vcX6 rfl (by rw [hlv]; first | decide | omega) (by decide) (Nat.le_of_ble_eq_true rfl) (by first | exact Nat.zero_le _ | (rw [hmc]; decide) | (rw [hmc]; omega)) (by first | exact Nat.zero_le _ | (rw [hms]; decide) | (rw [hms]; omega)) (fun E G1 h => by cases h; exact ex_out C htab (by first | exact Nat.zero_le _ | (rw [hmc]; decide) | (rw [hmc]; omega)) (by first | exact Nat.zero_le _ | (rw [hms]; decide) | (rw [hms]; omega)) (px_1 hPx rfl rfl)) (fun a G1 h => nomatch h)
set_option maxHeartbeats 4000000 in
set_option maxRecDepth 100000 in
theorem c_X6_isReferenced {u v : SS} {g : GH} (I : CI u) {s : Nat} (hs : (s : Int) < u.1 14) {p : Nat} (hp : p < 8) : Cn yX6_isReferenced (wsy yX6_isReferenced cX6_isReferenced 3 (some .boolean)) 5 0 0 nn [vR (some 1000), vI (s : Int), vI (p : Int)] (mk u v g) (.inl (some (vI (u.2 25 (8 * s + p))), mk u v g)) := by
  refine con_j (lv := [(0, vR (some 1000)), (1, vI (s : Int)), (2, vI (p : Int))]) (by decide) (fun ad => Nat.le_of_ble_eq_true rfl) (fun ad => rfl) rfl ?_
  intro k C hr hlv hmc hms hPo hPx htab
  have i14 := I.s14
  have ic := I.a23 (8 * s + p)
  have ir := I.a25 (8 * s + p)
  have ir2 : u.2 25 (8 * s + p) = 0 ∨ u.2 25 (8 * s + p) = 1 := by omega
  have ic2 : 0 ≤ u.2 23 (8 * s + p) ∧ u.2 23 (8 * s + p) < 65536 := by omega
  have h48 : 8 * s + p < 48 := by omega
  refine ev_s C dX6_isReferenced_0 (q := 1) rfl rfl ?_
  refine ev_s C dX6_isReferenced_1 (q := 2) rfl rfl ?_
  refine ev_s C dX6_isReferenced_2 (q := 3) rfl rfl ?_
  refine ev_cV C dX6_isReferenced_3 (q := 6) rfl km_X6_108 kv_X6_pageAt kc_X6_pageAt (c_X6_pageAt I hs hp) rfl rfl vcX6 rfl (by rw [hlv]; first | decide | omega) (by decide) (Nat.le_of_ble_eq_true rfl) (by first | exact Nat.zero_le _ | (rw [hmc]; decide) | (rw [hmc]; omega)) (by first | exact Nat.zero_le _ | (rw [hms]; decide) | (rw [hms]; omega)) ?_
  refine cgp_5 C dX6_isReferenced_6 kf_X6_148 (q := 9) rfl (by show (_ : Int) < 8 * u.1 14; omega) ?_
  exact ev_zret C hr (fit_Z (by first | decide | exact bI_01 _ | assumption)) dX6_isReferenced_9 (Nat.zero_le _) (Nat.zero_le _) (po_1 hPo rfl rfl)
set_option maxHeartbeats 4000000 in
set_option maxRecDepth 100000 in
theorem c_X6_placeByEvents_x1 {u v : SS} {g : GH} (I : CI u) {s p : Int} (hs : rg s) (h : ¬ (0 ≤ s ∧ s < u.1 14)) : Cn yX6_placeByEvents (wsy yX6_placeByEvents cX6_placeByEvents 4 (some .char)) 5 1 6 nn [vR (some 1000), vI s, vI p] (mk u v g) (.inr ("java/lang/IndexOutOfBoundsException", mk u v g)) := by
  refine con_j (lv := [(0, vR (some 1000)), (1, vI s), (2, vI p)]) (by decide) (fun ad => Nat.le_of_ble_eq_true rfl) (fun ad => rfl) rfl ?_
  intro k C hr hlv hmc hms hPo hPx htab
  refine ev_s C dX6_placeByEvents_0 (q := 1) rfl rfl ?_
  refine ev_s C dX6_placeByEvents_1 (q := 2) rfl rfl ?_
  refine ev_s C dX6_placeByEvents_2 (q := 3) rfl rfl ?_
  refine ev_cVx C dX6_placeByEvents_3 (q := 6) rfl km_X6_108 kv_X6_pageAt kc_X6_pageAt (c_X6_pageAt_x1 I hs h) rfl rfl vcX6 rfl (by rw [hlv]; first | decide | omega) (by decide) (Nat.le_of_ble_eq_true rfl) (by first | exact Nat.zero_le _ | (rw [hmc]; decide) | (rw [hmc]; omega)) (by first | exact Nat.zero_le _ | (rw [hms]; decide) | (rw [hms]; omega)) (fun E G1 h => by cases h; exact ex_out C htab (by first | exact Nat.zero_le _ | (rw [hmc]; decide) | (rw [hmc]; omega)) (by first | exact Nat.zero_le _ | (rw [hms]; decide) | (rw [hms]; omega)) (px_1 hPx rfl rfl)) (fun a G1 h => nomatch h)
set_option maxHeartbeats 4000000 in
set_option maxRecDepth 100000 in
theorem c_X6_placeByEvents_x2 {u v : SS} {g : GH} (I : CI u) {s : Nat} (hs : (s : Int) < u.1 14) {p : Int} (hp : rg p) (h : ¬ (0 ≤ p ∧ p < 8)) : Cn yX6_placeByEvents (wsy yX6_placeByEvents cX6_placeByEvents 4 (some .char)) 5 1 6 nn [vR (some 1000), vI (s : Int), vI p] (mk u v g) (.inr ("java/lang/IndexOutOfBoundsException", mk u v g)) := by
  refine con_j (lv := [(0, vR (some 1000)), (1, vI (s : Int)), (2, vI p)]) (by decide) (fun ad => Nat.le_of_ble_eq_true rfl) (fun ad => rfl) rfl ?_
  intro k C hr hlv hmc hms hPo hPx htab
  refine ev_s C dX6_placeByEvents_0 (q := 1) rfl rfl ?_
  refine ev_s C dX6_placeByEvents_1 (q := 2) rfl rfl ?_
  refine ev_s C dX6_placeByEvents_2 (q := 3) rfl rfl ?_
  refine ev_cVx C dX6_placeByEvents_3 (q := 6) rfl km_X6_108 kv_X6_pageAt kc_X6_pageAt (c_X6_pageAt_x2 I hs hp h) rfl rfl vcX6 rfl (by rw [hlv]; first | decide | omega) (by decide) (Nat.le_of_ble_eq_true rfl) (by first | exact Nat.zero_le _ | (rw [hmc]; decide) | (rw [hmc]; omega)) (by first | exact Nat.zero_le _ | (rw [hms]; decide) | (rw [hms]; omega)) (fun E G1 h => by cases h; exact ex_out C htab (by first | exact Nat.zero_le _ | (rw [hmc]; decide) | (rw [hmc]; omega)) (by first | exact Nat.zero_le _ | (rw [hms]; decide) | (rw [hms]; omega)) (px_1 hPx rfl rfl)) (fun a G1 h => nomatch h)
set_option maxHeartbeats 4000000 in
set_option maxRecDepth 100000 in
theorem c_X6_placeByEvents {u v : SS} {g : GH} (I : CI u) {s : Nat} (hs : (s : Int) < u.1 14) {p : Nat} (hp : p < 8) (hev : evOK u) : Cn yX6_placeByEvents (wsy yX6_placeByEvents cX6_placeByEvents 4 (some .char)) 5 0 0 nn [vR (some 1000), vI (s : Int), vI (p : Int)] (mk u v g) (.inl (some (vI ((rpM u).2 1 (8 * s + p))), mk (rpM u) v g)) := by
  refine con_j (lv := [(0, vR (some 1000)), (1, vI (s : Int)), (2, vI (p : Int))]) (by decide) (fun ad => Nat.le_of_ble_eq_true rfl) (fun ad => rfl) rfl ?_
  intro k C hr hlv hmc hms hPo hPx htab
  have i14 := I.s14
  have ic := I.a23 (8 * s + p)
  have ir := I.a25 (8 * s + p)
  have ir2 : u.2 25 (8 * s + p) = 0 ∨ u.2 25 (8 * s + p) = 1 := by omega
  have ic2 : 0 ≤ u.2 23 (8 * s + p) ∧ u.2 23 (8 * s + p) < 65536 := by omega
  have h48 : 8 * s + p < 48 := by omega
  refine ev_s C dX6_placeByEvents_0 (q := 1) rfl rfl ?_
  refine ev_s C dX6_placeByEvents_1 (q := 2) rfl rfl ?_
  refine ev_s C dX6_placeByEvents_2 (q := 3) rfl rfl ?_
  refine ev_cV C dX6_placeByEvents_3 (q := 6) rfl km_X6_108 kv_X6_pageAt kc_X6_pageAt (c_X6_pageAt I hs hp) rfl rfl vcX6 rfl (by rw [hlv]; first | decide | omega) (by decide) (Nat.le_of_ble_eq_true rfl) (by first | exact Nat.zero_le _ | (rw [hmc]; decide) | (rw [hmc]; omega)) (by first | exact Nat.zero_le _ | (rw [hms]; decide) | (rw [hms]; omega)) ?_
  refine ev_s C dX6_placeByEvents_6 (q := 7) rfl rfl ?_
  refine ev_s C dX6_placeByEvents_7 (q := 8) rfl rfl ?_
  refine cg_1000_0 C dX6_placeByEvents_8 kf_X6_12 (q := 11) rfl ?_
  refine ev_cV C dX6_placeByEvents_11 (q := 14) rfl km_X6_168 kv_X1_replay kc_X1_replay (c_X1_replay I hev) rfl rfl vcX1 rfl (by rw [hlv]; first | decide | omega) (by decide) (Nat.le_of_ble_eq_true rfl) (by first | exact Nat.zero_le _ | (rw [hmc]; decide) | (rw [hmc]; omega)) (by first | exact Nat.zero_le _ | (rw [hms]; decide) | (rw [hms]; omega)) ?_
  refine ev_s C dX6_placeByEvents_14 (q := 15) rfl rfl ?_
  refine cg_1000_0 C dX6_placeByEvents_15 kf_X6_12 (q := 18) rfl ?_
  refine ev_s C dX6_placeByEvents_18 (q := 19) rfl rfl ?_
  refine cgp_0 C dX6_placeByEvents_19 kf_X6_171 (q := 22) rfl (by show ((8 * s + p : Nat) : Int) < 8 * (rpM u).1 14; rw [rpM_S]; omega) ?_
  refine ev_cV C dX6_placeByEvents_22 (q := 25) rfl km_X6_174 kv_X1_replayedPlace kc_X1_replayedPlace (c_X1_replayedPlace (CI_rp I) (p := 8 * s + p) h48) rfl rfl vcX1 rfl (by rw [hlv]; first | decide | omega) (by decide) (Nat.le_of_ble_eq_true rfl) (by first | exact Nat.zero_le _ | (rw [hmc]; decide) | (rw [hmc]; omega)) (by first | exact Nat.zero_le _ | (rw [hms]; decide) | (rw [hms]; omega)) ?_
  have ja := (CI_rp I).a1 (8 * s + p)
  have ja2 : 0 ≤ (rpM u).2 1 (8 * s + p) ∧ (rpM u).2 1 (8 * s + p) < 65536 := by omega
  exact ev_zret C hr (fit_C (by first | decide | omega | assumption)) dX6_placeByEvents_25 (Nat.zero_le _) (Nat.zero_le _) (po_1 hPo rfl rfl)
set_option maxHeartbeats 4000000 in
set_option maxRecDepth 100000 in
theorem c_X6_frameOf_x1 {u v : SS} {g : GH} (I : CI u) {s p : Int} (hs : rg s) (h : ¬ (0 ≤ s ∧ s < u.1 14)) : Cn yX6_frameOf (wsy yX6_frameOf cX6_frameOf 4 (some .int)) 5 1 6 nn [vR (some 1000), vI s, vI p] (mk u v g) (.inr ("java/lang/IndexOutOfBoundsException", mk u v g)) := by
  refine con_j (lv := [(0, vR (some 1000)), (1, vI s), (2, vI p)]) (by decide) (fun ad => Nat.le_of_ble_eq_true rfl) (fun ad => rfl) rfl ?_
  intro k C hr hlv hmc hms hPo hPx htab
  refine ev_s C dX6_frameOf_0 (q := 1) rfl rfl ?_
  refine ev_s C dX6_frameOf_1 (q := 2) rfl rfl ?_
  refine ev_s C dX6_frameOf_2 (q := 3) rfl rfl ?_
  refine ev_cVx C dX6_frameOf_3 (q := 6) rfl km_X6_108 kv_X6_pageAt kc_X6_pageAt (c_X6_pageAt_x1 I hs h) rfl rfl vcX6 rfl (by rw [hlv]; first | decide | omega) (by decide) (Nat.le_of_ble_eq_true rfl) (by first | exact Nat.zero_le _ | (rw [hmc]; decide) | (rw [hmc]; omega)) (by first | exact Nat.zero_le _ | (rw [hms]; decide) | (rw [hms]; omega)) (fun E G1 h => by cases h; exact ex_out C htab (by first | exact Nat.zero_le _ | (rw [hmc]; decide) | (rw [hmc]; omega)) (by first | exact Nat.zero_le _ | (rw [hms]; decide) | (rw [hms]; omega)) (px_1 hPx rfl rfl)) (fun a G1 h => nomatch h)
set_option maxHeartbeats 4000000 in
set_option maxRecDepth 100000 in
theorem c_X6_frameOf_x2 {u v : SS} {g : GH} (I : CI u) {s : Nat} (hs : (s : Int) < u.1 14) {p : Int} (hp : rg p) (h : ¬ (0 ≤ p ∧ p < 8)) : Cn yX6_frameOf (wsy yX6_frameOf cX6_frameOf 4 (some .int)) 5 1 6 nn [vR (some 1000), vI (s : Int), vI p] (mk u v g) (.inr ("java/lang/IndexOutOfBoundsException", mk u v g)) := by
  refine con_j (lv := [(0, vR (some 1000)), (1, vI (s : Int)), (2, vI p)]) (by decide) (fun ad => Nat.le_of_ble_eq_true rfl) (fun ad => rfl) rfl ?_
  intro k C hr hlv hmc hms hPo hPx htab
  refine ev_s C dX6_frameOf_0 (q := 1) rfl rfl ?_
  refine ev_s C dX6_frameOf_1 (q := 2) rfl rfl ?_
  refine ev_s C dX6_frameOf_2 (q := 3) rfl rfl ?_
  refine ev_cVx C dX6_frameOf_3 (q := 6) rfl km_X6_108 kv_X6_pageAt kc_X6_pageAt (c_X6_pageAt_x2 I hs hp h) rfl rfl vcX6 rfl (by rw [hlv]; first | decide | omega) (by decide) (Nat.le_of_ble_eq_true rfl) (by first | exact Nat.zero_le _ | (rw [hmc]; decide) | (rw [hmc]; omega)) (by first | exact Nat.zero_le _ | (rw [hms]; decide) | (rw [hms]; omega)) (fun E G1 h => by cases h; exact ex_out C htab (by first | exact Nat.zero_le _ | (rw [hmc]; decide) | (rw [hmc]; omega)) (by first | exact Nat.zero_le _ | (rw [hms]; decide) | (rw [hms]; omega)) (px_1 hPx rfl rfl)) (fun a G1 h => nomatch h)
set_option maxHeartbeats 4000000 in
set_option maxRecDepth 100000 in
theorem c_X6_frameOf {u v : SS} {g : GH} (I : CI u) {s : Nat} (hs : (s : Int) < u.1 14) {p : Nat} (hp : p < 8) (h : u.2 23 (8 * s + p) = 102) : Cn yX6_frameOf (wsy yX6_frameOf cX6_frameOf 4 (some .int)) 5 0 0 nn [vR (some 1000), vI (s : Int), vI (p : Int)] (mk u v g) (.inl (some (vI (u.2 24 (8 * s + p))), mk u v g)) := by
  refine con_j (lv := [(0, vR (some 1000)), (1, vI (s : Int)), (2, vI (p : Int))]) (by decide) (fun ad => Nat.le_of_ble_eq_true rfl) (fun ad => rfl) rfl ?_
  intro k C hr hlv hmc hms hPo hPx htab
  have i14 := I.s14
  have ic := I.a23 (8 * s + p)
  have ir := I.a25 (8 * s + p)
  have ir2 : u.2 25 (8 * s + p) = 0 ∨ u.2 25 (8 * s + p) = 1 := by omega
  have ic2 : 0 ≤ u.2 23 (8 * s + p) ∧ u.2 23 (8 * s + p) < 65536 := by omega
  have h48 : 8 * s + p < 48 := by omega
  refine ev_s C dX6_frameOf_0 (q := 1) rfl rfl ?_
  refine ev_s C dX6_frameOf_1 (q := 2) rfl rfl ?_
  refine ev_s C dX6_frameOf_2 (q := 3) rfl rfl ?_
  refine ev_cV C dX6_frameOf_3 (q := 6) rfl km_X6_108 kv_X6_pageAt kc_X6_pageAt (c_X6_pageAt I hs hp) rfl rfl vcX6 rfl (by rw [hlv]; first | decide | omega) (by decide) (Nat.le_of_ble_eq_true rfl) (by first | exact Nat.zero_le _ | (rw [hmc]; decide) | (rw [hmc]; omega)) (by first | exact Nat.zero_le _ | (rw [hms]; decide) | (rw [hms]; omega)) ?_
  refine ev_s C dX6_frameOf_6 (q := 7) rfl rfl ?_
  refine ev_s C dX6_frameOf_7 (q := 8) rfl rfl ?_
  refine cgp_3 C dX6_frameOf_8 kf_X6_112 (q := 11) rfl (by show (_ : Int) < 8 * u.1 14; omega) ?_
  refine ev_s C dX6_frameOf_11 (q := 13) rfl rfl ?_
  refine ev_icmp_eq C dX6_frameOf_13 (tgt := 26) (q := 16) (by decide) rfl (by first | decide | (unfold rg; omega) | assumption | exact bAnd_rg _ _) (by first | decide | (unfold rg; omega) | assumption | exact bAnd_rg _ _) (fun b0 => ?_) (fun b0 => ?_)
  · refine ev_s C dX6_frameOf_26 (q := 27) rfl rfl ?_
    refine cgp_4 C dX6_frameOf_27 kf_X6_183 (q := 30) rfl (by show (_ : Int) < 8 * u.1 14; omega) ?_
    exact ev_iret C hr dX6_frameOf_30 (Nat.zero_le _) (Nat.zero_le _) (po_1 hPo rfl rfl)
  · exact absurd h b0
set_option maxHeartbeats 4000000 in
set_option maxRecDepth 100000 in
theorem c_X6_storedAt {u v : SS} {g : GH} (I : CI u) {i : Nat} (hi : (i : Int) < u.1 11) : Cn yX6_storedAt (wsy yX6_storedAt cX6_storedAt 2 (some .int)) 3 0 0 nn [vR (some 1000), vI (i : Int)] (mk u v g) (.inl (some (vI (((u.2 3 i).toNat : Nat) : Int)), mk u v g)) := by
  refine con_j (lv := [(0, vR (some 1000)), (1, vI (i : Int))]) (by decide) (fun ad => Nat.le_of_ble_eq_true rfl) (fun ad => rfl) rfl ?_
  intro k C hr hlv hmc hms hPo hPx htab
  have i11 := I.s11
  have hod := od0 I hi
  refine ev_s C dX6_storedAt_0 (q := 1) rfl rfl ?_
  refine ev_if_lt C dX6_storedAt_1 (tgt := 18) (q := 4) (by decide) rfl (by first | decide | (unfold rg; omega) | assumption | exact bAnd_rg _ _) (fun b0 => ?_) (fun b0 => ?_)
  · exfalso; omega
  · refine ev_s C dX6_storedAt_4 (q := 5) rfl rfl ?_
    refine ev_s C dX6_storedAt_5 (q := 6) rfl rfl ?_
    refine cg_1000_2 C dX6_storedAt_6 kf_X6_26 (q := 9) rfl ?_
    refine cg_1006_0 C dX6_storedAt_9 kf_X6_195 (q := 12) rfl ?_
    refine ev_cV C dX6_storedAt_12 (q := 15) rfl km_X6_59 kv_Jx4a65c_size_8abf5 kc_Jx4a65c_size_8abf5 (c_size_o) rfl rfl vcJx4a65c rfl (by rw [hlv]; first | decide | omega) (by decide) (Nat.le_of_ble_eq_true rfl) (by first | exact Nat.zero_le _ | (rw [hmc]; decide) | (rw [hmc]; omega)) (by first | exact Nat.zero_le _ | (rw [hms]; decide) | (rw [hms]; omega)) ?_
    refine ev_icmp_lt C dX6_storedAt_15 (tgt := 28) (q := 18) (by decide) rfl (by first | decide | (unfold rg; omega) | assumption | exact bAnd_rg _ _) (by first | decide | (unfold rg; omega) | assumption | exact bAnd_rg _ _) (fun b1 => ?_) (fun b1 => ?_)
    · refine ev_s C dX6_storedAt_28 (q := 29) rfl rfl ?_
      refine cg_1000_2 C dX6_storedAt_29 kf_X6_26 (q := 32) rfl ?_
      refine cg_1006_0 C dX6_storedAt_32 kf_X6_195 (q := 35) rfl ?_
      refine ev_s C dX6_storedAt_35 (q := 36) rfl rfl ?_
      refine ev_cV C dX6_storedAt_36 (q := 39) rfl km_X6_200 kv_Jx4a65c_get_915e3 kc_Jx4a65c_get_915e3 (c_get_o I hi) rfl rfl vcJx4a65c rfl (by rw [hlv]; first | decide | omega) (by decide) (Nat.le_of_ble_eq_true rfl) (by first | exact Nat.zero_le _ | (rw [hmc]; decide) | (rw [hmc]; omega)) (by first | exact Nat.zero_le _ | (rw [hms]; decide) | (rw [hms]; omega)) ?_
      refine ev_chk C dX6_storedAt_39 (q := 42) rfl vcX2 kl_X6_113 (fun n h => by cases h; exact ⟨_, gp_ (by show (_ : Int) < 8 * u.1 14; omega)⟩) ?_
      refine cgp_0 C dX6_storedAt_42 kf_X6_171 (q := 45) rfl (od0 I hi) ?_
      exact ev_iret C hr dX6_storedAt_45 (Nat.zero_le _) (Nat.zero_le _) (po_1 hPo rfl rfl)
    · exfalso; omega
def wfC (u : SS) (s j : Nat) : Bool := hb (u.2 15 s) j && !irB u j
set_option maxHeartbeats 4000000 in
set_option maxRecDepth 100000 in
theorem c_X6_waitsFor_x1 {u v : SS} {g : GH} (I : CI u) {s : Int} (hs : rg s) (h : ¬ (0 ≤ s ∧ s < u.1 14)) : Cn yX6_waitsFor (wsy yX6_waitsFor cX6_waitsFor 4 (some .int)) 6 1 6 nn [vR (some 1000), vI s] (mk u v g) (.inr ("java/lang/IndexOutOfBoundsException", mk u v g)) := by
  refine con_j (lv := [(0, vR (some 1000)), (1, vI s)]) (by decide) (fun ad => Nat.le_of_ble_eq_true rfl) (fun ad => rfl) rfl ?_
  intro k C hr hlv hmc hms hPo hPx htab
  refine ev_s C dX6_waitsFor_0 (q := 1) rfl rfl ?_
  refine ev_s C dX6_waitsFor_1 (q := 2) rfl rfl ?_
  refine ev_cVx C dX6_waitsFor_2 (q := 5) rfl km_X6_77 kv_X6_serviceAt kc_X6_serviceAt (c_X6_serviceAt_x I hs h) rfl rfl vcX6 rfl (by rw [hlv]; first | decide | omega) (by decide) (Nat.le_of_ble_eq_true rfl) (by first | exact Nat.zero_le _ | (rw [hmc]; decide) | (rw [hmc]; omega)) (by first | exact Nat.zero_le _ | (rw [hms]; decide) | (rw [hms]; omega)) (fun E G1 h => by cases h; exact ex_out C htab (by first | exact Nat.zero_le _ | (rw [hmc]; decide) | (rw [hmc]; omega)) (by first | exact Nat.zero_le _ | (rw [hms]; decide) | (rw [hms]; omega)) (px_1 hPx rfl rfl)) (fun a G1 h => nomatch h)
set_option maxHeartbeats 4000000 in
set_option maxRecDepth 100000 in
theorem l_X6_waitsFor {k : Kx} (C : CX k RX6 cX6_waitsFor 4) (hlv : klev k = 6) {u v : SS} {g : GH} (I : CI u) {s : Nat} (hs : (s : Int) < u.1 14) {N : Nat} (hN : u.1 14 = (N : Int)) {G1 : Prop} (hbad : (∀ j, j < N → wfC u s j = false) → EV k 46 [(0, vR (some 1000)), (1, vI (s : Int)), (2, vR (some (2000 + s))), (3, vI (N : Int))] [] (mk u v g) 0 0) (hr : (kmeth k).sig.returnType = some .int) {r : Rs} (hPo : kPo k = PoR r) (hgood : 0 ≤ fnd (wfC u s) N → r = .inl (some (vI (fnd (wfC u s) N)), mk u v g)) : ∀ (m z : Nat), z ≤ N → N < z + m → (∀ j, j < z → wfC u s j = false) → EV k 8 [(0, vR (some 1000)), (1, vI (s : Int)), (2, vR (some (2000 + s))), (3, vI (z : Int))] [] (mk u v g) 0 0 := by
  intro m
  induction m with
  | zero =>
    intros
    exfalso
    omega
  | succ m ih =>
    intro z h1 h2 h3
    have i14 := I.s14
    refine ev_s C dX6_waitsFor_8 (q := 9) rfl rfl ?_
    refine ev_s C dX6_waitsFor_9 (q := 10) rfl rfl ?_
    refine cg_1000_4 C dX6_waitsFor_10 kf_X6_40 (q := 13) rfl ?_
    refine ev_cV C dX6_waitsFor_13 (q := 16) rfl km_X6_59 kv_Jx4a65c_size_8abf5 kc_Jx4a65c_size_8abf5 (c_size_s) rfl rfl vcJx4a65c rfl (by rw [hlv]; first | decide | omega) (by decide) (Nat.le_of_ble_eq_true rfl) (by first | exact Nat.zero_le _ | (rw [hmc]; decide) | (rw [hmc]; omega)) (by first | exact Nat.zero_le _ | (rw [hms]; decide) | (rw [hms]; omega)) ?_
    refine ev_icmp_ge C dX6_waitsFor_16 (tgt := 46) (q := 19) (by decide) rfl (by first | decide | (unfold rg; omega) | assumption | exact bAnd_rg _ _) (by first | decide | (unfold rg; omega) | assumption | exact bAnd_rg _ _) (fun b0 => ?_) (fun b0 => ?_)
    · obtain rfl : z = N := by omega
      exact hbad h3
    · refine ev_s C dX6_waitsFor_19 (q := 20) rfl rfl ?_
      refine cgs_5 C dX6_waitsFor_20 kf_X6_100 (q := 23) rfl (by show (_ : Int) < u.1 14; omega) (by omega) ?_
      refine ev_s C dX6_waitsFor_23 (q := 24) rfl rfl ?_
      refine ev_cS C dX6_waitsFor_24 (q := 27) rfl km_X6_91 ks_X6_hasBit kc_X6_hasBit (c_X6_hasBit) rfl rfl (by rw [hlv]; first | decide | omega) (by decide) (Nat.le_of_ble_eq_true rfl) (by first | exact Nat.zero_le _ | (rw [hmc]; decide) | (rw [hmc]; omega)) (by first | exact Nat.zero_le _ | (rw [hms]; decide) | (rw [hms]; omega)) ?_
      refine ev_ifB_eq C dX6_waitsFor_27 (tgt := 40) (q := 30) (by decide) rfl (fun b1 => ?_) (fun b1 => ?_)
      · refine ev_s C dX6_waitsFor_40 (q := 43) rfl rfl ?_
        refine ev_goto C dX6_waitsFor_43 (tgt := 8) (by decide) ?_
        exact ih (z + 1) (by omega) (by omega) (fun j hj => by
          by_cases e : j = z
          · subst e; unfold wfC; simp [*]
          · exact h3 j (by omega))
      · refine ev_s C dX6_waitsFor_30 (q := 31) rfl rfl ?_
        refine ev_s C dX6_waitsFor_31 (q := 32) rfl rfl ?_
        refine ev_cV C dX6_waitsFor_32 (q := 35) rfl km_X6_142 kv_X6_isRunning kc_X6_isRunning (c_X6_isRunning I (s := z) (by omega)) rfl rfl vcX6 rfl (by rw [hlv]; first | decide | omega) (by decide) (Nat.le_of_ble_eq_true rfl) (by first | exact Nat.zero_le _ | (rw [hmc]; decide) | (rw [hmc]; omega)) (by first | exact Nat.zero_le _ | (rw [hms]; decide) | (rw [hms]; omega)) ?_
        refine ev_ifB_ne C dX6_waitsFor_35 (tgt := 40) (q := 38) (by decide) rfl (fun b2 => ?_) (fun b2 => ?_)
        · refine ev_s C dX6_waitsFor_40 (q := 43) rfl rfl ?_
          refine ev_goto C dX6_waitsFor_43 (tgt := 8) (by decide) ?_
          exact ih (z + 1) (by omega) (by omega) (fun j hj => by
            by_cases e : j = z
            · subst e; unfold wfC; simp [*]
            · exact h3 j (by omega))
        · have he : fnd (wfC u s) N = z := fnd_hit (z := z) h3 (by unfold wfC; simp [*]) (by omega)
          rw [hgood (by omega), he] at hPo
          refine ev_s C dX6_waitsFor_38 (q := 39) rfl rfl ?_
          exact ev_iret C hr dX6_waitsFor_39 (Nat.zero_le _) (Nat.zero_le _) (po_1 hPo rfl rfl)
set_option maxHeartbeats 4000000 in
set_option maxRecDepth 100000 in
theorem c_X6_waitsFor {u v : SS} {g : GH} (I : CI u) {s : Nat} (hs : (s : Int) < u.1 14) (h : 0 ≤ fnd (wfC u s) (u.1 14).toNat) : Cn yX6_waitsFor (wsy yX6_waitsFor cX6_waitsFor 4 (some .int)) 6 0 0 nn [vR (some 1000), vI (s : Int)] (mk u v g) (.inl (some (vI (fnd (wfC u s) (u.1 14).toNat)), mk u v g)) := by
  refine con_j (lv := [(0, vR (some 1000)), (1, vI (s : Int))]) (by decide) (fun ad => Nat.le_of_ble_eq_true rfl) (fun ad => rfl) rfl ?_
  intro k C hr hlv hmc hms hPo hPx htab
  have i14 := I.s14
  have h48 : s < 6 := by omega
  refine ev_s C dX6_waitsFor_0 (q := 1) rfl rfl ?_
  refine ev_s C dX6_waitsFor_1 (q := 2) rfl rfl ?_
  refine ev_cV C dX6_waitsFor_2 (q := 5) rfl km_X6_77 kv_X6_serviceAt kc_X6_serviceAt (c_X6_serviceAt I hs) rfl rfl vcX6 rfl (by rw [hlv]; first | decide | omega) (by decide) (Nat.le_of_ble_eq_true rfl) (by first | exact Nat.zero_le _ | (rw [hmc]; decide) | (rw [hmc]; omega)) (by first | exact Nat.zero_le _ | (rw [hms]; decide) | (rw [hms]; omega)) ?_
  refine ev_s C dX6_waitsFor_5 (q := 6) rfl rfl ?_
  refine ev_s C dX6_waitsFor_6 (q := 7) rfl rfl ?_
  refine ev_s C dX6_waitsFor_7 (q := 8) rfl rfl ?_
  exact l_X6_waitsFor C hlv I hs (N := (u.1 14).toNat) (by omega) (G1 := True) (fun hn => by rw [fnd_none hn] at h; exact absurd h (by decide)) hr hPo (fun _ => rfl) ((u.1 14).toNat + 1) 0 (Nat.zero_le _) (by omega) (fun j hj => absurd hj (Nat.not_lt_zero _))
set_option maxHeartbeats 4000000 in
set_option maxRecDepth 100000 in
theorem c_X6_victim {u v : SS} {g : GH} (I : CI u) {s : Nat} (h : cwst u (u.1 14).toNat = (s : Int)) : Cn yX6_victim (wsy yX6_victim cX6_victim 2 (some .int)) 4 0 0 nn [vR (some 1000)] (mk u v g) (.inl (some (vI (s : Int)), mk u v g)) := by
  refine con_j (lv := [(0, vR (some 1000))]) (by decide) (fun ad => Nat.le_of_ble_eq_true rfl) (fun ad => rfl) rfl ?_
  intro k C hr hlv hmc hms hPo hPx htab
  have i14 := I.s14
  have hcb := cwst_b u (u.1 14).toNat
  refine ev_s C dX6_victim_0 (q := 1) rfl rfl ?_
  refine ev_cV C dX6_victim_1 (q := 4) rfl km_X6_242 kv_X6_nextVictim kc_X6_nextVictim (c_X6_nextVictim I) rfl rfl vcX6 rfl (by rw [hlv]; first | decide | omega) (by decide) (Nat.le_of_ble_eq_true rfl) (by first | exact Nat.zero_le _ | (rw [hmc]; decide) | (rw [hmc]; omega)) (by first | exact Nat.zero_le _ | (rw [hms]; decide) | (rw [hms]; omega)) ?_
  rw [h, svo_k]
  show EV k 4 _ (vR (some (2000 + s)) :: []) _ _ _
  refine ev_s C dX6_victim_4 (q := 5) rfl rfl ?_
  refine ev_s C dX6_victim_5 (q := 6) rfl rfl ?_
  refine ev_ifnonnull C dX6_victim_6 (tgt := 19) (q := 9) (by decide) rfl (fun b0 => ?_) (fun b0 => ?_)
  · refine ev_s C dX6_victim_19 (q := 20) rfl rfl ?_
    refine cgs_0 C dX6_victim_20 kf_X6_248 (q := 23) rfl (by show (_ : Int) < u.1 14; omega) (by omega) ?_
    exact ev_iret C hr dX6_victim_23 (Nat.zero_le _) (Nat.zero_le _) (po_1 hPo rfl rfl)
  · cases b0
