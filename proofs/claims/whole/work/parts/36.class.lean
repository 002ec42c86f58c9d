/-! THE CLASS: what it asks of its arguments; needs -/
set_option maxHeartbeats 4000000 in
set_option maxRecDepth 100000 in
theorem c_X6_requireRange {G : GH} {x lo hi : Int} (h0 : rg x) (h1 : rg lo) (h2 : rg hi) (h : lo ≤ x ∧ x ≤ hi) : Cn yX6_requireRange (wsy yX6_requireRange cX6_requireRange 3 none) 0 0 0 nn [vI x, vI lo, vI hi] G (.inl (none, G)) := by
  refine con_j (lv := [(0, vI x), (1, vI lo), (2, vI hi)]) (by decide) (fun ad => Nat.le_of_ble_eq_true rfl) (fun ad => rfl) rfl ?_
  intro k C hr hlv hmc hms hPo hPx htab
  refine ev_s C dX6_requireRange_0 (q := 1) rfl rfl ?_
  refine ev_s C dX6_requireRange_1 (q := 2) rfl rfl ?_
  refine ev_icmp_lt C dX6_requireRange_2 (tgt := 10) (q := 5) (by decide) rfl (by first | decide | (unfold rg; omega) | assumption | exact bAnd_rg _ _) (by first | decide | (unfold rg; omega) | assumption | exact bAnd_rg _ _) (fun b0 => ?_) (fun b0 => ?_)
  · exfalso; omega
  · refine ev_s C dX6_requireRange_5 (q := 6) rfl rfl ?_
    refine ev_s C dX6_requireRange_6 (q := 7) rfl rfl ?_
    refine ev_icmp_le C dX6_requireRange_7 (tgt := 21) (q := 10) (by decide) rfl (by first | decide | (unfold rg; omega) | assumption | exact bAnd_rg _ _) (by first | decide | (unfold rg; omega) | assumption | exact bAnd_rg _ _) (fun b1 => ?_) (fun b1 => ?_)
    · exact ev_vret C hr dX6_requireRange_21 (Nat.zero_le _) (Nat.zero_le _) (po_0 hPo rfl)
    · exfalso; omega
set_option maxHeartbeats 4000000 in
set_option maxRecDepth 100000 in
theorem c_X6_requireRange_x {G : GH} {x lo hi : Int} (h0 : rg x) (h1 : rg lo) (h2 : rg hi) (h : ¬ (lo ≤ x ∧ x ≤ hi)) : Cn yX6_requireRange (wsy yX6_requireRange cX6_requireRange 3 none) 0 1 6 nn [vI x, vI lo, vI hi] G (.inr ("java/lang/IllegalArgumentException", G)) := by
  refine con_j (lv := [(0, vI x), (1, vI lo), (2, vI hi)]) (by decide) (fun ad => Nat.le_of_ble_eq_true rfl) (fun ad => rfl) rfl ?_
  intro k C hr hlv hmc hms hPo hPx htab
  refine ev_s C dX6_requireRange_0 (q := 1) rfl rfl ?_
  refine ev_s C dX6_requireRange_1 (q := 2) rfl rfl ?_
  refine ev_icmp_lt C dX6_requireRange_2 (tgt := 10) (q := 5) (by decide) rfl (by first | decide | (unfold rg; omega) | assumption | exact bAnd_rg _ _) (by first | decide | (unfold rg; omega) | assumption | exact bAnd_rg _ _) (fun b0 => ?_) (fun b0 => ?_)
  · exact ev_throwW C htab kt_52_56 (text := "out of range") (by decide) dX6_requireRange_10 dX6_requireRange_13 dX6_requireRange_14 dX6_requireRange_17 dX6_requireRange_20 (Nat.le_of_ble_eq_true rfl) (by rw [hmc]; decide) (by rw [hms]; decide) (px_1 hPx rfl rfl)
  · refine ev_s C dX6_requireRange_5 (q := 6) rfl rfl ?_
    refine ev_s C dX6_requireRange_6 (q := 7) rfl rfl ?_
    refine ev_icmp_le C dX6_requireRange_7 (tgt := 21) (q := 10) (by decide) rfl (by first | decide | (unfold rg; omega) | assumption | exact bAnd_rg _ _) (by first | decide | (unfold rg; omega) | assumption | exact bAnd_rg _ _) (fun b1 => ?_) (fun b1 => ?_)
    · exfalso; omega
    · exact ev_throwW C htab kt_52_56 (text := "out of range") (by decide) dX6_requireRange_10 dX6_requireRange_13 dX6_requireRange_14 dX6_requireRange_17 dX6_requireRange_20 (Nat.le_of_ble_eq_true rfl) (by rw [hmc]; decide) (by rw [hms]; decide) (px_1 hPx rfl rfl)
set_option maxHeartbeats 4000000 in
set_option maxRecDepth 100000 in
theorem c_X6_requireService {u v : SS} {g : GH} (I : CI u) {s : Int} (hs : rg s) (h : 0 ≤ s ∧ s < u.1 14) : Cn yX6_requireService (wsy yX6_requireService cX6_requireService 2 none) 1 0 0 nn [vR (some 1000), vI s] (mk u v g) (.inl (none, mk u v g)) := by
  refine con_j (lv := [(0, vR (some 1000)), (1, vI s)]) (by decide) (fun ad => Nat.le_of_ble_eq_true rfl) (fun ad => rfl) rfl ?_
  intro k C hr hlv hmc hms hPo hPx htab
  have i14 := I.s14
  refine ev_s C dX6_requireService_0 (q := 1) rfl rfl ?_
  refine ev_if_lt C dX6_requireService_1 (tgt := 15) (q := 4) (by decide) rfl (by first | decide | (unfold rg; omega) | assumption | exact bAnd_rg _ _) (fun b0 => ?_) (fun b0 => ?_)
  · exfalso; omega
  · refine ev_s C dX6_requireService_4 (q := 5) rfl rfl ?_
    refine ev_s C dX6_requireService_5 (q := 6) rfl rfl ?_
    refine cg_1000_4 C dX6_requireService_6 kf_X6_40 (q := 9) rfl ?_
    refine ev_cV C dX6_requireService_9 (q := 12) rfl km_X6_59 kv_Jx4a65c_size_8abf5 kc_Jx4a65c_size_8abf5 (c_size_s) rfl rfl vcJx4a65c rfl (by rw [hlv]; first | decide | omega) (by decide) (Nat.le_of_ble_eq_true rfl) (by first | exact Nat.zero_le _ | (rw [hmc]; decide) | (rw [hmc]; omega)) (by first | exact Nat.zero_le _ | (rw [hms]; decide) | (rw [hms]; omega)) ?_
    refine ev_icmp_lt C dX6_requireService_12 (tgt := 26) (q := 15) (by decide) rfl (by first | decide | (unfold rg; omega) | assumption | exact bAnd_rg _ _) (by first | decide | (unfold rg; omega) | assumption | exact bAnd_rg _ _) (fun b1 => ?_) (fun b1 => ?_)
    · exact ev_vret C hr dX6_requireService_26 (Nat.zero_le _) (Nat.zero_le _) (po_0 hPo rfl)
    · exfalso; omega
set_option maxHeartbeats 4000000 in
set_option maxRecDepth 100000 in
theorem c_X6_requireService_x {u v : SS} {g : GH} (I : CI u) {s : Int} (hs : rg s) (h : ¬ (0 ≤ s ∧ s < u.1 14)) : Cn yX6_requireService (wsy yX6_requireService cX6_requireService 2 none) 1 1 6 nn [vR (some 1000), vI s] (mk u v g) (.inr ("java/lang/IndexOutOfBoundsException", mk u v g)) := by
  refine con_j (lv := [(0, vR (some 1000)), (1, vI s)]) (by decide) (fun ad => Nat.le_of_ble_eq_true rfl) (fun ad => rfl) rfl ?_
  intro k C hr hlv hmc hms hPo hPx htab
  have i14 := I.s14
  refine ev_s C dX6_requireService_0 (q := 1) rfl rfl ?_
  refine ev_if_lt C dX6_requireService_1 (tgt := 15) (q := 4) (by decide) rfl (by first | decide | (unfold rg; omega) | assumption | exact bAnd_rg _ _) (fun b0 => ?_) (fun b0 => ?_)
  · exact ev_throwW C htab kt_274_278 (text := "no such service") (by decide) dX6_requireService_15 dX6_requireService_18 dX6_requireService_19 dX6_requireService_22 dX6_requireService_25 (Nat.le_of_ble_eq_true rfl) (by rw [hmc]; decide) (by rw [hms]; decide) (px_1 hPx rfl rfl)
  · refine ev_s C dX6_requireService_4 (q := 5) rfl rfl ?_
    refine ev_s C dX6_requireService_5 (q := 6) rfl rfl ?_
    refine cg_1000_4 C dX6_requireService_6 kf_X6_40 (q := 9) rfl ?_
    refine ev_cV C dX6_requireService_9 (q := 12) rfl km_X6_59 kv_Jx4a65c_size_8abf5 kc_Jx4a65c_size_8abf5 (c_size_s) rfl rfl vcJx4a65c rfl (by rw [hlv]; first | decide | omega) (by decide) (Nat.le_of_ble_eq_true rfl) (by first | exact Nat.zero_le _ | (rw [hmc]; decide) | (rw [hmc]; omega)) (by first | exact Nat.zero_le _ | (rw [hms]; decide) | (rw [hms]; omega)) ?_
    refine ev_icmp_lt C dX6_requireService_12 (tgt := 26) (q := 15) (by decide) rfl (by first | decide | (unfold rg; omega) | assumption | exact bAnd_rg _ _) (by first | decide | (unfold rg; omega) | assumption | exact bAnd_rg _ _) (fun b1 => ?_) (fun b1 => ?_)
    · exfalso; omega
    · exact ev_throwW C htab kt_274_278 (text := "no such service") (by decide) dX6_requireService_15 dX6_requireService_18 dX6_requireService_19 dX6_requireService_22 dX6_requireService_25 (Nat.le_of_ble_eq_true rfl) (by rw [hmc]; decide) (by rw [hms]; decide) (px_1 hPx rfl rfl)
set_option maxHeartbeats 4000000 in
set_option maxRecDepth 100000 in
theorem c_X6_serviceAt {u v : SS} {g : GH} (I : CI u) {s : Nat} (hs : (s : Int) < u.1 14) : Cn yX6_serviceAt (wsy yX6_serviceAt cX6_serviceAt 2 (some (.object "Swapyard$Service"))) 3 0 0 nn [vR (some 1000), vI (s : Int)] (mk u v g) (.inl (some (vR (some (2000 + s))), mk u v g)) := by
  refine con_j (lv := [(0, vR (some 1000)), (1, vI (s : Int))]) (by decide) (fun ad => Nat.le_of_ble_eq_true rfl) (fun ad => rfl) rfl ?_
  intro k C hr hlv hmc hms hPo hPx htab
  have i14 := I.s14
  refine ev_s C dX6_serviceAt_0 (q := 1) rfl rfl ?_
  refine ev_s C dX6_serviceAt_1 (q := 2) rfl rfl ?_
  refine ev_cV C dX6_serviceAt_2 (q := 5) rfl km_X6_81 kv_X6_requireService kc_X6_requireService (c_X6_requireService I (by have := I.s14; unfold rg; omega) (by omega)) rfl rfl vcX6 rfl (by rw [hlv]; first | decide | omega) (by decide) (Nat.le_of_ble_eq_true rfl) (by first | exact Nat.zero_le _ | (rw [hmc]; decide) | (rw [hmc]; omega)) (by first | exact Nat.zero_le _ | (rw [hms]; decide) | (rw [hms]; omega)) ?_
  refine ev_s C dX6_serviceAt_5 (q := 6) rfl rfl ?_
  refine cg_1000_4 C dX6_serviceAt_6 kf_X6_40 (q := 9) rfl ?_
  refine ev_s C dX6_serviceAt_9 (q := 10) rfl rfl ?_
  refine ev_cV C dX6_serviceAt_10 (q := 13) rfl km_X6_200 kv_Jx4a65c_get_915e3 kc_Jx4a65c_get_915e3 (c_get_s I (i := s) (by omega)) rfl rfl vcJx4a65c rfl (by rw [hlv]; first | decide | omega) (by decide) (Nat.le_of_ble_eq_true rfl) (by first | exact Nat.zero_le _ | (rw [hmc]; decide) | (rw [hmc]; omega)) (by first | exact Nat.zero_le _ | (rw [hms]; decide) | (rw [hms]; omega)) ?_
  refine ev_chk C dX6_serviceAt_13 (q := 16) rfl vcX4 kl_X6_68 (fun n h => by cases h; exact ⟨_, gs_ (by show (_ : Int) < u.1 14; omega) (by omega)⟩) ?_
  exact ev_aret C hr (Or.inl ⟨_, rfl⟩) dX6_serviceAt_16 (Nat.zero_le _) (Nat.zero_le _) (po_1 hPo rfl rfl)
set_option maxHeartbeats 4000000 in
set_option maxRecDepth 100000 in
theorem c_X6_serviceAt_x {u v : SS} {g : GH} (I : CI u) {s : Int} (hs : rg s) (h : ¬ (0 ≤ s ∧ s < u.1 14)) : Cn yX6_serviceAt (wsy yX6_serviceAt cX6_serviceAt 2 (some (.object "Swapyard$Service"))) 3 1 6 nn [vR (some 1000), vI s] (mk u v g) (.inr ("java/lang/IndexOutOfBoundsException", mk u v g)) := by
  refine con_j (lv := [(0, vR (some 1000)), (1, vI s)]) (by decide) (fun ad => Nat.le_of_ble_eq_true rfl) (fun ad => rfl) rfl ?_
  intro k C hr hlv hmc hms hPo hPx htab
  refine ev_s C dX6_serviceAt_0 (q := 1) rfl rfl ?_
  refine ev_s C dX6_serviceAt_1 (q := 2) rfl rfl ?_
  refine ev_cVx C dX6_serviceAt_2 (q := 5) rfl km_X6_81 kv_X6_requireService kc_X6_requireService (c_X6_requireService_x I hs h) rfl rfl vcX6 rfl (by rw [hlv]; first | decide | omega) (by decide) (Nat.le_of_ble_eq_true rfl) (by first | exact Nat.zero_le _ | (rw [hmc]; decide) | (rw [hmc]; omega)) (by first | exact Nat.zero_le _ | (rw [hms]; decide) | (rw [hms]; omega)) (fun E G1 h => by cases h; exact ex_out C htab (by first | exact Nat.zero_le _ | (rw [hmc]; decide) | (rw [hmc]; omega)) (by first | exact Nat.zero_le _ | (rw [hms]; decide) | (rw [hms]; omega)) (px_1 hPx rfl rfl)) (fun a G1 h => nomatch h)
set_option maxHeartbeats 4000000 in
set_option maxRecDepth 100000 in
theorem c_X6_pageAt {u v : SS} {g : GH} (I : CI u) {s : Nat} (hs : (s : Int) < u.1 14) {p : Nat} (hp : p < 8) : Cn yX6_pageAt (wsy yX6_pageAt cX6_pageAt 4 (some (.object "Swapyard$Page"))) 4 0 0 nn [vR (some 1000), vI (s : Int), vI (p : Int)] (mk u v g) (.inl (some (vR (some (3000 + (8 * s + p)))), mk u v g)) := by
  refine con_j (lv := [(0, vR (some 1000)), (1, vI (s : Int)), (2, vI (p : Int))]) (by decide) (fun ad => Nat.le_of_ble_eq_true rfl) (fun ad => rfl) rfl ?_
  intro k C hr hlv hmc hms hPo hPx htab
  have i14 := I.s14
  refine ev_s C dX6_pageAt_0 (q := 1) rfl rfl ?_
  refine ev_s C dX6_pageAt_1 (q := 2) rfl rfl ?_
  refine ev_cV C dX6_pageAt_2 (q := 5) rfl km_X6_77 kv_X6_serviceAt kc_X6_serviceAt (c_X6_serviceAt I hs) rfl rfl vcX6 rfl (by rw [hlv]; first | decide | omega) (by decide) (Nat.le_of_ble_eq_true rfl) (by first | exact Nat.zero_le _ | (rw [hmc]; decide) | (rw [hmc]; omega)) (by first | exact Nat.zero_le _ | (rw [hms]; decide) | (rw [hms]; omega)) ?_
  refine ev_s C dX6_pageAt_5 (q := 6) rfl rfl ?_
  refine ev_s C dX6_pageAt_6 (q := 7) rfl rfl ?_
  refine ev_if_lt C dX6_pageAt_7 (tgt := 19) (q := 10) (by decide) rfl (by first | decide | (unfold rg; omega) | assumption | exact bAnd_rg _ _) (fun b0 => ?_) (fun b0 => ?_)
  · exfalso; omega
  · refine ev_s C dX6_pageAt_10 (q := 11) rfl rfl ?_
    refine ev_s C dX6_pageAt_11 (q := 12) rfl rfl ?_
    refine cgs_4 C dX6_pageAt_12 kf_X6_279 (q := 15) rfl (by show (_ : Int) < u.1 14; omega) (by omega) ?_
    refine cn_2100 C dX6_pageAt_15 (q := 16) rfl (by show (_ : Int) < u.1 14; omega) (by omega) ?_
    refine ev_icmp_lt C dX6_pageAt_16 (tgt := 30) (q := 19) (by decide) rfl (by first | decide | (unfold rg; omega) | assumption | exact bAnd_rg _ _) (by first | decide | (unfold rg; omega) | assumption | exact bAnd_rg _ _) (fun b1 => ?_) (fun b1 => ?_)
    · refine ev_s C dX6_pageAt_30 (q := 31) rfl rfl ?_
      refine cgs_4 C dX6_pageAt_31 kf_X6_279 (q := 34) rfl (by show (_ : Int) < u.1 14; omega) (by omega) ?_
      refine ev_s C dX6_pageAt_34 (q := 35) rfl rfl ?_
      refine cl_2100 C dX6_pageAt_35 (q := 36) rfl (by show (_ : Int) < u.1 14; omega) (by omega) (by omega) ?_
      exact ev_aret C hr (Or.inl ⟨_, rfl⟩) dX6_pageAt_36 (Nat.zero_le _) (Nat.zero_le _) (po_1 hPo rfl rfl)
    · exfalso; omega
set_option maxHeartbeats 4000000 in
set_option maxRecDepth 100000 in
theorem c_X6_pageAt_x1 {u v : SS} {g : GH} (I : CI u) {s p : Int} (hs : rg s) (h : ¬ (0 ≤ s ∧ s < u.1 14)) : Cn yX6_pageAt (wsy yX6_pageAt cX6_pageAt 4 (some (.object "Swapyard$Page"))) 4 1 6 nn [vR (some 1000), vI s, vI p] (mk u v g) (.inr ("java/lang/IndexOutOfBoundsException", mk u v g)) := by
  refine con_j (lv := [(0, vR (some 1000)), (1, vI s), (2, vI p)]) (by decide) (fun ad => Nat.le_of_ble_eq_true rfl) (fun ad => rfl) rfl ?_
  intro k C hr hlv hmc hms hPo hPx htab
  refine ev_s C dX6_pageAt_0 (q := 1) rfl rfl ?_
  refine ev_s C dX6_pageAt_1 (q := 2) rfl rfl ?_
  refine ev_cVx C dX6_pageAt_2 (q := 5) rfl km_X6_77 kv_X6_serviceAt kc_X6_serviceAt (c_X6_serviceAt_x I hs h) rfl rfl vcX6 rfl (by rw [hlv]; first | decide | omega) (by decide) (Nat.le_of_ble_eq_true rfl) (by first | exact Nat.zero_le _ | (rw [hmc]; decide) | (rw [hmc]; omega)) (by first | exact Nat.zero_le _ | (rw [hms]; decide) | (rw [hms]; omega)) (fun E G1 h => by cases h; exact ex_out C htab (by first | exact Nat.zero_le _ | (rw [hmc]; decide) | (rw [hmc]; omega)) (by first | exact Nat.zero_le _ | (rw [hms]; decide) | (rw [hms]; omega)) (px_1 hPx rfl rfl)) (fun a G1 h => nomatch h)
set_option maxHeartbeats 4000000 in
set_option maxRecDepth 100000 in
theorem c_X6_pageAt_x2 {u v : SS} {g : GH} (I : CI u) {s : Nat} (hs : (s : Int) < u.1 14) {p : Int} (hp : rg p) (h : ¬ (0 ≤ p ∧ p < 8)) : Cn yX6_pageAt (wsy yX6_pageAt cX6_pageAt 4 (some (.object "Swapyard$Page"))) 4 1 6 nn [vR (some 1000), vI (s : Int), vI p] (mk u v g) (.inr ("java/lang/IndexOutOfBoundsException", mk u v g)) := by
  refine con_j (lv := [(0, vR (some 1000)), (1, vI (s : Int)), (2, vI p)]) (by decide) (fun ad => Nat.le_of_ble_eq_true rfl) (fun ad => rfl) rfl ?_
  intro k C hr hlv hmc hms hPo hPx htab
  have i14 := I.s14
  refine ev_s C dX6_pageAt_0 (q := 1) rfl rfl ?_
  refine ev_s C dX6_pageAt_1 (q := 2) rfl rfl ?_
  refine ev_cV C dX6_pageAt_2 (q := 5) rfl km_X6_77 kv_X6_serviceAt kc_X6_serviceAt (c_X6_serviceAt I hs) rfl rfl vcX6 rfl (by rw [hlv]; first | decide | omega) (by decide) (Nat.le_of_ble_eq_true rfl) (by first | exact Nat.zero_le _ | (rw [hmc]; decide) | (rw [hmc]; omega)) (by first | exact Nat.zero_le _ | (rw [hms]; decide) | (rw [hms]; omega)) ?_
  refine ev_s C dX6_pageAt_5 (q := 6) rfl rfl ?_
  refine ev_s C dX6_pageAt_6 (q := 7) rfl rfl ?_
  refine ev_if_lt C dX6_pageAt_7 (tgt := 19) (q := 10) (by decide) rfl (by first | decide | (unfold rg; omega) | assumption | exact bAnd_rg _ _) (fun b0 => ?_) (fun b0 => ?_)
  · exact ev_throwW C htab kt_274_278 (text := "no such page") (by decide) dX6_pageAt_19 dX6_pageAt_22 dX6_pageAt_23 dX6_pageAt_26 dX6_pageAt_29 (Nat.le_of_ble_eq_true rfl) (by rw [hmc]; decide) (by rw [hms]; decide) (px_1 hPx rfl rfl)
  · refine ev_s C dX6_pageAt_10 (q := 11) rfl rfl ?_
    refine ev_s C dX6_pageAt_11 (q := 12) rfl rfl ?_
    refine cgs_4 C dX6_pageAt_12 kf_X6_279 (q := 15) rfl (by show (_ : Int) < u.1 14; omega) (by omega) ?_
    refine cn_2100 C dX6_pageAt_15 (q := 16) rfl (by show (_ : Int) < u.1 14; omega) (by omega) ?_
    refine ev_icmp_lt C dX6_pageAt_16 (tgt := 30) (q := 19) (by decide) rfl (by first | decide | (unfold rg; omega) | assumption | exact bAnd_rg _ _) (by first | decide | (unfold rg; omega) | assumption | exact bAnd_rg _ _) (fun b1 => ?_) (fun b1 => ?_)
    · exfalso; omega
    · exact ev_throwW C htab kt_274_278 (text := "no such page") (by decide) dX6_pageAt_19 dX6_pageAt_22 dX6_pageAt_23 dX6_pageAt_26 dX6_pageAt_29 (Nat.le_of_ble_eq_true rfl) (by rw [hmc]; decide) (by rw [hms]; decide) (px_1 hPx rfl rfl)
def hb (m j : Int) : Bool := decide (bAnd (bShr m j) 1 ≠ 0)
set_option maxHeartbeats 4000000 in
set_option maxRecDepth 100000 in
theorem c_X6_hasBit {G : GH} {m j : Int} : Cn yX6_hasBit (wsy yX6_hasBit cX6_hasBit 2 (some .boolean)) 0 0 0 nn [vI m, vI j] G (.inl (some (vI (bI (hb m j))), G)) := by
  refine con_j (lv := [(0, vI m), (1, vI j)]) (by decide) (fun ad => Nat.le_of_ble_eq_true rfl) (fun ad => rfl) rfl ?_
  intro k C hr hlv hmc hms hPo hPx htab
  refine ev_s C dX6_hasBit_0 (q := 1) rfl rfl ?_
  refine ev_s C dX6_hasBit_1 (q := 2) rfl rfl ?_
  refine ev_s C dX6_hasBit_2 (q := 3) rfl rfl ?_
  refine ev_s C dX6_hasBit_3 (q := 4) rfl rfl ?_
  refine ev_s C dX6_hasBit_4 (q := 5) rfl rfl ?_
  refine ev_if_eq C dX6_hasBit_5 (tgt := 12) (q := 8) (by decide) rfl (by first | decide | (unfold rg; omega) | assumption | exact bAnd_rg _ _) (fun b0 => ?_) (fun b0 => ?_)
  · refine ev_s C dX6_hasBit_12 (q := 13) rfl rfl ?_
    exact ev_zret C hr (fit_Z (by first | decide | exact bI_01 _ | assumption)) dX6_hasBit_13 (Nat.zero_le _) (Nat.zero_le _) (po_1 hPo (by simp [hb, bI, *]) rfl)
  · refine ev_s C dX6_hasBit_8 (q := 9) rfl rfl ?_
    refine ev_goto C dX6_hasBit_9 (tgt := 13) (by decide) ?_
    exact ev_zret C hr (fit_Z (by first | decide | exact bI_01 _ | assumption)) dX6_hasBit_13 (Nat.zero_le _) (Nat.zero_le _) (po_1 hPo (by simp [hb, bI, *]) rfl)
def anS (u : SS) (z : Nat) (a : Int) : Int := if hb a z then bOr a (u.2 15 z) else a
def anF (u : SS) : Nat → Int → Int
  | 0, a => a
  | z + 1, a => anS u z (anF u z a)
def anR (u : SS) (N : Nat) : Nat → Int → Int
  | 0, a => a
  | r + 1, a => anF u N (anR u N r a)
def ano (u : SS) (s : Nat) : Int := anR u (u.1 14).toNat 6 (u.2 15 s)
set_option maxHeartbeats 4000000 in
set_option maxRecDepth 100000 in
theorem l_X6_an1 {k : Kx} (C : CX k RX6 cX6_allNeedsOf 5) (hlv : klev k = 4) {u v : SS} {g : GH} (I : CI u) {s : Nat} {r a0 : Int} {N : Nat} (hN : u.1 14 = (N : Int)) : ∀ (m z : Nat) (a iz : Int), iz = z → a = anF u z a0 → z ≤ N → N < z + m → EV k 65 [(0, vR (some 1000)), (1, vI (s : Int)), (2, vI (anF u N a0)), (3, vI r), (4, vI (N : Int))] [] (mk u v g) 0 0 → EV k 20 [(0, vR (some 1000)), (1, vI (s : Int)), (2, vI a), (3, vI r), (4, vI iz)] [] (mk u v g) 0 0 := by
  intro m
  induction m with
  | zero =>
    intros
    exfalso
    omega
  | succ m ih =>
    intro z a iz e0 ea h1 h2 kx
    have i14 := I.s14
    subst e0
    refine ev_s C dX6_allNeedsOf_20 (q := 22) rfl rfl ?_
    refine ev_s C dX6_allNeedsOf_22 (q := 23) rfl rfl ?_
    refine cg_1000_4 C dX6_allNeedsOf_23 kf_X6_40 (q := 26) rfl ?_
    refine ev_cV C dX6_allNeedsOf_26 (q := 29) rfl km_X6_59 kv_Jx4a65c_size_8abf5 kc_Jx4a65c_size_8abf5 (c_size_s) rfl rfl vcJx4a65c rfl (by rw [hlv]; first | decide | omega) (by decide) (Nat.le_of_ble_eq_true rfl) (by first | exact Nat.zero_le _ | (rw [hmc]; decide) | (rw [hmc]; omega)) (by first | exact Nat.zero_le _ | (rw [hms]; decide) | (rw [hms]; omega)) ?_
    refine ev_icmp_ge C dX6_allNeedsOf_29 (tgt := 65) (q := 32) (by decide) rfl (by first | decide | (unfold rg; omega) | assumption | exact bAnd_rg _ _) (by first | decide | (unfold rg; omega) | assumption | exact bAnd_rg _ _) (fun b0 => ?_) (fun b0 => ?_)
    · obtain rfl : z = N := by omega
      rw [ea]
      exact kx
    · refine ev_s C dX6_allNeedsOf_32 (q := 33) rfl rfl ?_
      refine ev_s C dX6_allNeedsOf_33 (q := 35) rfl rfl ?_
      refine ev_cS C dX6_allNeedsOf_35 (q := 38) rfl km_X6_91 ks_X6_hasBit kc_X6_hasBit (c_X6_hasBit) rfl rfl (by rw [hlv]; first | decide | omega) (by decide) (Nat.le_of_ble_eq_true rfl) (by first | exact Nat.zero_le _ | (rw [hmc]; decide) | (rw [hmc]; omega)) (by first | exact Nat.zero_le _ | (rw [hms]; decide) | (rw [hms]; omega)) ?_
      refine ev_ifB_eq C dX6_allNeedsOf_38 (tgt := 59) (q := 41) (by decide) rfl (fun b1 => ?_) (fun b1 => ?_)
      · refine ev_s C dX6_allNeedsOf_59 (q := 62) rfl rfl ?_
        refine ev_goto C dX6_allNeedsOf_62 (tgt := 20) (by decide) ?_
        exact ih (z + 1) _ _ (by omega) (by show _ = anS u z (anF u z a0); unfold anS; rw [← ea]; first | (rw [if_pos (by assumption)]; done) | (rw [if_neg (by rw [Bool.not_eq_true]; assumption)])) (by omega) (by omega) kx
      · refine ev_s C dX6_allNeedsOf_41 (q := 42) rfl rfl ?_
        refine ev_s C dX6_allNeedsOf_42 (q := 43) rfl rfl ?_
        refine cg_1000_4 C dX6_allNeedsOf_43 kf_X6_40 (q := 46) rfl ?_
        refine ev_s C dX6_allNeedsOf_46 (q := 48) rfl rfl ?_
        refine ev_cV C dX6_allNeedsOf_48 (q := 51) rfl km_X6_200 kv_Jx4a65c_get_915e3 kc_Jx4a65c_get_915e3 (c_get_s I (i := z) (by omega)) rfl rfl vcJx4a65c rfl (by rw [hlv]; first | decide | omega) (by decide) (Nat.le_of_ble_eq_true rfl) (by first | exact Nat.zero_le _ | (rw [hmc]; decide) | (rw [hmc]; omega)) (by first | exact Nat.zero_le _ | (rw [hms]; decide) | (rw [hms]; omega)) ?_
        refine ev_chk C dX6_allNeedsOf_51 (q := 54) rfl vcX4 kl_X6_68 (fun n h => by cases h; exact ⟨_, gs_ (by show (_ : Int) < u.1 14; omega) (by omega)⟩) ?_
        refine cgs_5 C dX6_allNeedsOf_54 kf_X6_100 (q := 57) rfl (by show (_ : Int) < u.1 14; omega) (by omega) ?_
        refine ev_s C dX6_allNeedsOf_57 (q := 58) rfl rfl ?_
        refine ev_s C dX6_allNeedsOf_58 (q := 59) rfl rfl ?_
        refine ev_s C dX6_allNeedsOf_59 (q := 62) rfl rfl ?_
        refine ev_goto C dX6_allNeedsOf_62 (tgt := 20) (by decide) ?_
        exact ih (z + 1) _ _ (by omega) (by show _ = anS u z (anF u z a0); unfold anS; rw [← ea]; first | (rw [if_pos (by assumption)]; done) | (rw [if_neg (by rw [Bool.not_eq_true]; assumption)])) (by omega) (by omega) kx
set_option maxHeartbeats 4000000 in
set_option maxRecDepth 100000 in
theorem l_X6_an2b {k : Kx} (C : CX k RX6 cX6_allNeedsOf 5) (hlv : klev k = 4) {u v : SS} {g : GH} (I : CI u) {s : Nat} {N : Nat} {a0 : Int} (hN : u.1 14 = (N : Int)) (hr : (kmeth k).sig.returnType = some .int) (hPo : kPo k = PoR (.inl (some (vI (anR u N 6 a0)), mk u v g))) : ∀ (m z : Nat) (a iz : Int), iz = z → a = anR u N z a0 → z ≤ 6 → 6 < z + m → EV k 11 [(0, vR (some 1000)), (1, vI (s : Int)), (2, vI a), (3, vI iz), (4, vI (N : Int))] [] (mk u v g) 0 0 := by
  intro m
  induction m with
  | zero =>
    intros
    exfalso
    omega
  | succ m ih =>
    intro z a iz e0 ea h1 h2
    refine ev_s C dX6_allNeedsOf_11 (q := 12) rfl rfl ?_
    refine ev_s C dX6_allNeedsOf_12 (q := 14) rfl rfl ?_
    refine ev_icmp_ge C dX6_allNeedsOf_14 (tgt := 71) (q := 17) (by decide) rfl (by first | decide | (unfold rg; omega) | assumption | exact bAnd_rg _ _) (by first | decide | (unfold rg; omega) | assumption | exact bAnd_rg _ _) (fun b0 => ?_) (fun b0 => ?_)
    · refine ev_s C dX6_allNeedsOf_71 (q := 72) rfl rfl ?_
      exact ev_iret C hr dX6_allNeedsOf_72 (Nat.zero_le _) (Nat.zero_le _) (po_1 hPo (by (obtain rfl : z = 6 := (by omega)); rw [ea]) rfl)
    · refine ev_s C dX6_allNeedsOf_17 (q := 18) rfl rfl ?_
      refine ev_s C dX6_allNeedsOf_18 (q := 20) rfl rfl ?_
      refine l_X6_an1 C hlv I hN (N + 1) 0 _ _ rfl rfl (Nat.zero_le _) (by omega) ?_
      refine ev_s C dX6_allNeedsOf_65 (q := 68) rfl rfl ?_
      refine ev_goto C dX6_allNeedsOf_68 (tgt := 11) (by decide) ?_
      exact ih (z + 1) _ _ (by omega) (by show _ = anF u N (anR u N z a0); rw [ea]) (by omega) (by omega)
set_option maxHeartbeats 4000000 in
set_option maxRecDepth 100000 in
theorem l_X6_an2a {k : Kx} (C : CX k RX6 cX6_allNeedsOf 5) (hlv : klev k = 4) {u v : SS} {g : GH} (I : CI u) {s : Nat} {N : Nat} {a0 : Int} (hN : u.1 14 = (N : Int)) (hr : (kmeth k).sig.returnType = some .int) (hPo : kPo k = PoR (.inl (some (vI (anR u N 6 a0)), mk u v g))) : ∀ (m z : Nat) (a iz : Int), iz = z → a = anR u N z a0 → z ≤ 6 → 6 < z + m → EV k 11 [(0, vR (some 1000)), (1, vI (s : Int)), (2, vI a), (3, vI iz)] [] (mk u v g) 0 0 := by
  intro m
  induction m with
  | zero =>
    intros
    exfalso
    omega
  | succ m ih =>
    intro z a iz e0 ea h1 h2
    refine ev_s C dX6_allNeedsOf_11 (q := 12) rfl rfl ?_
    refine ev_s C dX6_allNeedsOf_12 (q := 14) rfl rfl ?_
    refine ev_icmp_ge C dX6_allNeedsOf_14 (tgt := 71) (q := 17) (by decide) rfl (by first | decide | (unfold rg; omega) | assumption | exact bAnd_rg _ _) (by first | decide | (unfold rg; omega) | assumption | exact bAnd_rg _ _) (fun b0 => ?_) (fun b0 => ?_)
    · refine ev_s C dX6_allNeedsOf_71 (q := 72) rfl rfl ?_
      exact ev_iret C hr dX6_allNeedsOf_72 (Nat.zero_le _) (Nat.zero_le _) (po_1 hPo (by (obtain rfl : z = 6 := (by omega)); rw [ea]) rfl)
    · refine ev_s C dX6_allNeedsOf_17 (q := 18) rfl rfl ?_
      refine ev_s C dX6_allNeedsOf_18 (q := 20) rfl rfl ?_
      refine l_X6_an1 C hlv I hN (N + 1) 0 _ _ rfl rfl (Nat.zero_le _) (by omega) ?_
      refine ev_s C dX6_allNeedsOf_65 (q := 68) rfl rfl ?_
      refine ev_goto C dX6_allNeedsOf_68 (tgt := 11) (by decide) ?_
      exact l_X6_an2b C hlv I hN hr hPo m (z + 1) _ _ (by omega) (by show _ = anF u N (anR u N z a0); rw [ea]) (by omega) (by omega)
set_option maxHeartbeats 4000000 in
set_option maxRecDepth 100000 in
theorem c_X6_allNeedsOf {u v : SS} {g : GH} (I : CI u) {s : Nat} (hs : (s : Int) < u.1 14) : Cn yX6_allNeedsOf (wsy yX6_allNeedsOf cX6_allNeedsOf 5 (some .int)) 4 0 0 nn [vR (some 1000), vI (s : Int)] (mk u v g) (.inl (some (vI (ano u s)), mk u v g)) := by
  refine con_j (lv := [(0, vR (some 1000)), (1, vI (s : Int))]) (by decide) (fun ad => Nat.le_of_ble_eq_true rfl) (fun ad => rfl) rfl ?_
  intro k C hr hlv hmc hms hPo hPx htab
  have i14 := I.s14
  refine ev_s C dX6_allNeedsOf_0 (q := 1) rfl rfl ?_
  refine ev_s C dX6_allNeedsOf_1 (q := 2) rfl rfl ?_
  refine ev_cV C dX6_allNeedsOf_2 (q := 5) rfl km_X6_77 kv_X6_serviceAt kc_X6_serviceAt (c_X6_serviceAt I hs) rfl rfl vcX6 rfl (by rw [hlv]; first | decide | omega) (by decide) (Nat.le_of_ble_eq_true rfl) (by first | exact Nat.zero_le _ | (rw [hmc]; decide) | (rw [hmc]; omega)) (by first | exact Nat.zero_le _ | (rw [hms]; decide) | (rw [hms]; omega)) ?_
  refine cgs_5 C dX6_allNeedsOf_5 kf_X6_100 (q := 8) rfl (by show (_ : Int) < u.1 14; omega) (by omega) ?_
  refine ev_s C dX6_allNeedsOf_8 (q := 9) rfl rfl ?_
  refine ev_s C dX6_allNeedsOf_9 (q := 10) rfl rfl ?_
  refine ev_s C dX6_allNeedsOf_10 (q := 11) rfl rfl ?_
  exact l_X6_an2a C hlv I (N := (u.1 14).toNat) (by omega) hr hPo 7 0 _ _ rfl rfl (by decide) (by decide)
def irR (u : SS) (s : Nat) : Int := bOr (ano u s) (bShl 1 (s : Int))
def irP (u : SS) (q : Int) (j : Nat) : Bool := hb q j && decide (u.2 16 j ≠ 0)
def irB (u : SS) (s : Nat) : Bool := !anyN (u.1 14).toNat (irP u (irR u s))
def inP (u : SS) (s : Nat) (j : Nat) : Bool := decide (u.2 16 j = 0) && hb (u.2 15 j) s
set_option maxHeartbeats 4000000 in
set_option maxRecDepth 100000 in
theorem l_X6_isRunning {k : Kx} (C : CX k RX6 cX6_isRunning 4) (hlv : klev k = 5) {u v : SS} {g : GH} (I : CI u) {s : Nat} {q : Int} {N : Nat} (hN : u.1 14 = (N : Int)) (hr : (kmeth k).sig.returnType = some .boolean) (hPo : kPo k = PoR (.inl (some (vI (bI (!anyN N (irP u q)))), mk u v g))) : ∀ (m z : Nat), z ≤ N → N < z + m → anyN z (irP u q) = false → EV k 12 [(0, vR (some 1000)), (1, vI (s : Int)), (2, vI q), (3, vI (z : Int))] [] (mk u v g) 0 0 := by
  intro m
  induction m with
  | zero =>
    intros
    exfalso
    omega
  | succ m ih =>
    intro z h1 h2 h3
    have i14 := I.s14
    have ia := I.a16 z
    refine ev_s C dX6_isRunning_12 (q := 13) rfl rfl ?_
    refine ev_s C dX6_isRunning_13 (q := 14) rfl rfl ?_
    refine cg_1000_4 C dX6_isRunning_14 kf_X6_40 (q := 17) rfl ?_
    refine ev_cV C dX6_isRunning_17 (q := 20) rfl km_X6_59 kv_Jx4a65c_size_8abf5 kc_Jx4a65c_size_8abf5 (c_size_s) rfl rfl vcJx4a65c rfl (by rw [hlv]; first | decide | omega) (by decide) (Nat.le_of_ble_eq_true rfl) (by first | exact Nat.zero_le _ | (rw [hmc]; decide) | (rw [hmc]; omega)) (by first | exact Nat.zero_le _ | (rw [hms]; decide) | (rw [hms]; omega)) ?_
    refine ev_icmp_ge C dX6_isRunning_20 (tgt := 56) (q := 23) (by decide) rfl (by first | decide | (unfold rg; omega) | assumption | exact bAnd_rg _ _) (by first | decide | (unfold rg; omega) | assumption | exact bAnd_rg _ _) (fun b0 => ?_) (fun b0 => ?_)
    · refine ev_s C dX6_isRunning_56 (q := 57) rfl rfl ?_
      exact ev_zret C hr (fit_Z (by first | decide | exact bI_01 _ | assumption)) dX6_isRunning_57 (Nat.zero_le _) (Nat.zero_le _) (po_1 hPo (by (obtain rfl : z = N := (by omega)); rw [h3]; rfl) rfl)
    · refine ev_s C dX6_isRunning_23 (q := 24) rfl rfl ?_
      refine ev_s C dX6_isRunning_24 (q := 25) rfl rfl ?_
      refine ev_cS C dX6_isRunning_25 (q := 28) rfl km_X6_91 ks_X6_hasBit kc_X6_hasBit (c_X6_hasBit) rfl rfl (by rw [hlv]; first | decide | omega) (by decide) (Nat.le_of_ble_eq_true rfl) (by first | exact Nat.zero_le _ | (rw [hmc]; decide) | (rw [hmc]; omega)) (by first | exact Nat.zero_le _ | (rw [hms]; decide) | (rw [hms]; omega)) ?_
      refine ev_ifB_eq C dX6_isRunning_28 (tgt := 50) (q := 31) (by decide) rfl (fun b1 => ?_) (fun b1 => ?_)
      · refine ev_s C dX6_isRunning_50 (q := 53) rfl rfl ?_
        refine ev_goto C dX6_isRunning_53 (tgt := 12) (by decide) ?_
        exact ih (z + 1) (by omega) (by omega) (anyN_s h3 (by unfold irP; simp [*]))
      · refine ev_s C dX6_isRunning_31 (q := 32) rfl rfl ?_
        refine cg_1000_4 C dX6_isRunning_32 kf_X6_40 (q := 35) rfl ?_
        refine ev_s C dX6_isRunning_35 (q := 36) rfl rfl ?_
        refine ev_cV C dX6_isRunning_36 (q := 39) rfl km_X6_200 kv_Jx4a65c_get_915e3 kc_Jx4a65c_get_915e3 (c_get_s I (i := z) (by omega)) rfl rfl vcJx4a65c rfl (by rw [hlv]; first | decide | omega) (by decide) (Nat.le_of_ble_eq_true rfl) (by first | exact Nat.zero_le _ | (rw [hmc]; decide) | (rw [hmc]; omega)) (by first | exact Nat.zero_le _ | (rw [hms]; decide) | (rw [hms]; omega)) ?_
        refine ev_chk C dX6_isRunning_39 (q := 42) rfl vcX4 kl_X6_68 (fun n h => by cases h; exact ⟨_, gs_ (by show (_ : Int) < u.1 14; omega) (by omega)⟩) ?_
        refine cgs_6 C dX6_isRunning_42 kf_X6_217 (q := 45) rfl (by show (_ : Int) < u.1 14; omega) (by omega) ?_
        refine ev_if_eq C dX6_isRunning_45 (tgt := 50) (q := 48) (by decide) rfl (by first | decide | (unfold rg; omega) | assumption | exact bAnd_rg _ _) (fun b2 => ?_) (fun b2 => ?_)
        · refine ev_s C dX6_isRunning_50 (q := 53) rfl rfl ?_
          refine ev_goto C dX6_isRunning_53 (tgt := 12) (by decide) ?_
          exact ih (z + 1) (by omega) (by omega) (anyN_s h3 (by unfold irP; simp [*]))
        · refine ev_s C dX6_isRunning_48 (q := 49) rfl rfl ?_
          exact ev_zret C hr (fit_Z (by first | decide | exact bI_01 _ | assumption)) dX6_isRunning_49 (Nat.zero_le _) (Nat.zero_le _) (po_1 hPo (by rw [anyN_t (z := z) (by omega) (by unfold irP; simp [*])]; rfl) rfl)
set_option maxHeartbeats 4000000 in
set_option maxRecDepth 100000 in
theorem c_X6_isRunning {u v : SS} {g : GH} (I : CI u) {s : Nat} (hs : (s : Int) < u.1 14) : Cn yX6_isRunning (wsy yX6_isRunning cX6_isRunning 4 (some .boolean)) 5 0 0 nn [vR (some 1000), vI (s : Int)] (mk u v g) (.inl (some (vI (bI (irB u s))), mk u v g)) := by
  refine con_j (lv := [(0, vR (some 1000)), (1, vI (s : Int))]) (by decide) (fun ad => Nat.le_of_ble_eq_true rfl) (fun ad => rfl) rfl ?_
  intro k C hr hlv hmc hms hPo hPx htab
  have i14 := I.s14
  refine ev_s C dX6_isRunning_0 (q := 1) rfl rfl ?_
  refine ev_s C dX6_isRunning_1 (q := 2) rfl rfl ?_
  refine ev_cV C dX6_isRunning_2 (q := 5) rfl km_X6_87 kv_X6_allNeedsOf kc_X6_allNeedsOf (c_X6_allNeedsOf I hs) rfl rfl vcX6 rfl (by rw [hlv]; first | decide | omega) (by decide) (Nat.le_of_ble_eq_true rfl) (by first | exact Nat.zero_le _ | (rw [hmc]; decide) | (rw [hmc]; omega)) (by first | exact Nat.zero_le _ | (rw [hms]; decide) | (rw [hms]; omega)) ?_
  refine ev_s C dX6_isRunning_5 (q := 6) rfl rfl ?_
  refine ev_s C dX6_isRunning_6 (q := 7) rfl rfl ?_
  refine ev_s C dX6_isRunning_7 (q := 8) rfl rfl ?_
  refine ev_s C dX6_isRunning_8 (q := 9) rfl rfl ?_
  refine ev_s C dX6_isRunning_9 (q := 10) rfl rfl ?_
  refine ev_s C dX6_isRunning_10 (q := 11) rfl rfl ?_
  refine ev_s C dX6_isRunning_11 (q := 12) rfl rfl ?_
  exact l_X6_isRunning C hlv I (q := irR u s) (N := (u.1 14).toNat) (by omega) hr hPo ((u.1 14).toNat + 1) 0 (Nat.zero_le _) (by omega) rfl
set_option maxHeartbeats 4000000 in
set_option maxRecDepth 100000 in
theorem l_X6_isNeededByLiving {k : Kx} (C : CX k RX6 cX6_isNeededByLiving 4) (hlv : klev k = 3) {u v : SS} {g : GH} (I : CI u) {s : Nat} {N : Nat} (hN : u.1 14 = (N : Int)) (hr : (kmeth k).sig.returnType = some .boolean) (hPo : kPo k = PoR (.inl (some (vI (bI (anyN N (inP u s)))), mk u v g))) : ∀ (m z : Nat), z ≤ N → N < z + m → anyN z (inP u s) = false → EV k 2 [(0, vR (some 1000)), (1, vI (s : Int)), (2, vI (z : Int))] [] (mk u v g) 0 0 := by
  intro m
  induction m with
  | zero =>
    intros
    exfalso
    omega
  | succ m ih =>
    intro z h1 h2 h3
    have i14 := I.s14
    have ia := I.a16 z
    refine ev_s C dX6_isNeededByLiving_2 (q := 3) rfl rfl ?_
    refine ev_s C dX6_isNeededByLiving_3 (q := 4) rfl rfl ?_
    refine cg_1000_4 C dX6_isNeededByLiving_4 kf_X6_40 (q := 7) rfl ?_
    refine ev_cV C dX6_isNeededByLiving_7 (q := 10) rfl km_X6_59 kv_Jx4a65c_size_8abf5 kc_Jx4a65c_size_8abf5 (c_size_s) rfl rfl vcJx4a65c rfl (by rw [hlv]; first | decide | omega) (by decide) (Nat.le_of_ble_eq_true rfl) (by first | exact Nat.zero_le _ | (rw [hmc]; decide) | (rw [hmc]; omega)) (by first | exact Nat.zero_le _ | (rw [hms]; decide) | (rw [hms]; omega)) ?_
    refine ev_icmp_ge C dX6_isNeededByLiving_10 (tgt := 51) (q := 13) (by decide) rfl (by first | decide | (unfold rg; omega) | assumption | exact bAnd_rg _ _) (by first | decide | (unfold rg; omega) | assumption | exact bAnd_rg _ _) (fun b0 => ?_) (fun b0 => ?_)
    · refine ev_s C dX6_isNeededByLiving_51 (q := 52) rfl rfl ?_
      exact ev_zret C hr (fit_Z (by first | decide | exact bI_01 _ | assumption)) dX6_isNeededByLiving_52 (Nat.zero_le _) (Nat.zero_le _) (po_1 hPo (by (obtain rfl : z = N := (by omega)); rw [h3]; rfl) rfl)
    · refine ev_s C dX6_isNeededByLiving_13 (q := 14) rfl rfl ?_
      refine cg_1000_4 C dX6_isNeededByLiving_14 kf_X6_40 (q := 17) rfl ?_
      refine ev_s C dX6_isNeededByLiving_17 (q := 18) rfl rfl ?_
      refine ev_cV C dX6_isNeededByLiving_18 (q := 21) rfl km_X6_200 kv_Jx4a65c_get_915e3 kc_Jx4a65c_get_915e3 (c_get_s I (i := z) (by omega)) rfl rfl vcJx4a65c rfl (by rw [hlv]; first | decide | omega) (by decide) (Nat.le_of_ble_eq_true rfl) (by first | exact Nat.zero_le _ | (rw [hmc]; decide) | (rw [hmc]; omega)) (by first | exact Nat.zero_le _ | (rw [hms]; decide) | (rw [hms]; omega)) ?_
      refine ev_chk C dX6_isNeededByLiving_21 (q := 24) rfl vcX4 kl_X6_68 (fun n h => by cases h; exact ⟨_, gs_ (by show (_ : Int) < u.1 14; omega) (by omega)⟩) ?_
      refine ev_s C dX6_isNeededByLiving_24 (q := 25) rfl rfl ?_
      refine ev_s C dX6_isNeededByLiving_25 (q := 26) rfl rfl ?_
      refine cgs_6 C dX6_isNeededByLiving_26 kf_X6_217 (q := 29) rfl (by show (_ : Int) < u.1 14; omega) (by omega) ?_
      refine ev_if_ne C dX6_isNeededByLiving_29 (tgt := 45) (q := 32) (by decide) rfl (by first | decide | (unfold rg; omega) | assumption | exact bAnd_rg _ _) (fun b1 => ?_) (fun b1 => ?_)
      · refine ev_s C dX6_isNeededByLiving_45 (q := 48) rfl rfl ?_
        refine ev_goto C dX6_isNeededByLiving_48 (tgt := 2) (by decide) ?_
        refine ev_keep [0, 1, 2] rfl ?_
        exact ih (z + 1) (by omega) (by omega) (anyN_s h3 (by unfold inP; simp [*]))
      · refine ev_s C dX6_isNeededByLiving_32 (q := 33) rfl rfl ?_
        refine cgs_5 C dX6_isNeededByLiving_33 kf_X6_100 (q := 36) rfl (by show (_ : Int) < u.1 14; omega) (by omega) ?_
        refine ev_s C dX6_isNeededByLiving_36 (q := 37) rfl rfl ?_
        refine ev_cS C dX6_isNeededByLiving_37 (q := 40) rfl km_X6_91 ks_X6_hasBit kc_X6_hasBit (c_X6_hasBit) rfl rfl (by rw [hlv]; first | decide | omega) (by decide) (Nat.le_of_ble_eq_true rfl) (by first | exact Nat.zero_le _ | (rw [hmc]; decide) | (rw [hmc]; omega)) (by first | exact Nat.zero_le _ | (rw [hms]; decide) | (rw [hms]; omega)) ?_
        refine ev_ifB_eq C dX6_isNeededByLiving_40 (tgt := 45) (q := 43) (by decide) rfl (fun b2 => ?_) (fun b2 => ?_)
        · refine ev_s C dX6_isNeededByLiving_45 (q := 48) rfl rfl ?_
          refine ev_goto C dX6_isNeededByLiving_48 (tgt := 2) (by decide) ?_
          refine ev_keep [0, 1, 2] rfl ?_
          exact ih (z + 1) (by omega) (by omega) (anyN_s h3 (by unfold inP; simp [*]))
        · refine ev_s C dX6_isNeededByLiving_43 (q := 44) rfl rfl ?_
          exact ev_zret C hr (fit_Z (by first | decide | exact bI_01 _ | assumption)) dX6_isNeededByLiving_44 (Nat.zero_le _) (Nat.zero_le _) (po_1 hPo (by rw [anyN_t (z := z) (by omega) (by unfold inP; simp [*])]; rfl) rfl)
set_option maxHeartbeats 4000000 in
set_option maxRecDepth 100000 in
theorem c_X6_isNeededByLiving {u v : SS} {g : GH} (I : CI u) {s : Nat} : Cn yX6_isNeededByLiving (wsy yX6_isNeededByLiving cX6_isNeededByLiving 4 (some .boolean)) 3 0 0 nn [vR (some 1000), vI (s : Int)] (mk u v g) (.inl (some (vI (bI (anyN (u.1 14).toNat (inP u s)))), mk u v g)) := by
  refine con_j (lv := [(0, vR (some 1000)), (1, vI (s : Int))]) (by decide) (fun ad => Nat.le_of_ble_eq_true rfl) (fun ad => rfl) rfl ?_
  intro k C hr hlv hmc hms hPo hPx htab
  refine ev_s C dX6_isNeededByLiving_0 (q := 1) rfl rfl ?_
  refine ev_s C dX6_isNeededByLiving_1 (q := 2) rfl rfl ?_
  have i14 := I.s14
  exact l_X6_isNeededByLiving C hlv I (N := (u.1 14).toNat) (by omega) hr hPo ((u.1 14).toNat + 1) 0 (Nat.zero_le _) (by omega) rfl
