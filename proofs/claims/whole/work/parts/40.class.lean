/-! THE CLASS: touch; settings -/
def lfr (w : SS) : Int := fnd (clF w) (w.1 7).toNat
def bfM (w : SS) : SS := if lfr w < 0 then cfM w else w
def bfR (w : SS) : Int := if lfr w < 0 then cfR w else 0
def brM (u : SS) (p : Nat) : SS := ptM (bfM (detM u p)) p (lfr (bfM (detM u p)))
def brR (u : SS) (p : Nat) : Int := sfC (u.2 23 p) + bfR (detM u p)
theorem lfr_b {u : SS} (I : CI u) : -1 ≤ lfr u ∧ lfr u < u.1 7 ∧ lfr u < 16 := by
  have i7 := I.s7
  have h := fnd_bd (p := clF u) (u.1 7).toNat
  unfold lfr
  omega
theorem lfr_all {u : SS} (h : lfr u < 0) : ∀ f : Nat, (f : Int) < u.1 7 → 0 ≤ u.2 2 f := fun f h2 => by
  have := fnd_all h f (by omega)
  unfold clF at this
  simp at this
  omega
theorem lfr_ex {u : SS} {f : Nat} (h1 : (f : Int) < u.1 7) (h2 : u.2 2 f < 0) : 0 ≤ lfr u := by
  apply Classical.byContradiction
  intro hn
  have := lfr_all (u := u) (by omega) f h1
  omega
theorem cfM_S {u : SS} {s : Nat} (h1 : s ≠ 10) (h2 : s ≠ 11) (h3 : s ≠ 6) (h4 : s ≠ 12) (h5 : s ≠ 8) : (cfM u).1 s = u.1 s := by
  show (tiM _ _).1 s = _
  rw [tiM_S h1 h2 h3 h4, cf0_S h5]
theorem cfM_A {u : SS} {a j : Nat} (h0 : a ≠ 0) (h1 : a ≠ 23) (h2 : a ≠ 24) (h3 : a ≠ 25) (h4 : a ≠ 3) (h5 : a ≠ 2) : (cfM u).2 a j = u.2 a j := by
  show (tiM _ _).2 a j = _
  rw [tiM_A h0 h1 h2 h3 h4, cf0_A h3 h5]
theorem cfM_2 {u : SS} {j : Nat} : (cfM u).2 2 j = if j = cfH u then -1 else u.2 2 j := by
  show (tiM _ _).2 2 j = _
  rw [tiM_A (by decide) (by decide) (by decide) (by decide) (by decide), cf0_2]
theorem CI_cf {u : SS} (I : CI u) (hh : u.1 8 < u.1 7) (hal : ∀ f : Nat, (f : Int) < u.1 7 → 0 ≤ u.2 2 f) (h47 : u.1 11 ≤ 47) : CI (cfM u) :=
  CI_ti (CI_cf0 I hh) (by rw [cf0_S (by decide)]; exact (cfP_b I hh hal).1) (by rw [cf0_S (by decide)]; exact h47)
theorem cfR_b {u : SS} (I : CI u) (hh : u.1 8 < u.1 7) : 1 ≤ cfR u ∧ cfR u ≤ 241 := tiR_b (CI_cf0 I hh) _
theorem bfM_I {w : SS} (I : CI w) (hh : w.1 8 < w.1 7) (h47 : w.1 11 ≤ 47) : CI (bfM w) ∧ 0 ≤ lfr (bfM w) ∧ (bfM w).1 14 = w.1 14 ∧ (bfM w).1 7 = w.1 7 := by
  unfold bfM
  by_cases h : lfr w < 0
  · rw [if_pos h]
    have hal := lfr_all h
    have hP := cfP_b I hh hal
    have e7 : (cfM w).1 7 = w.1 7 := cfM_S (by decide) (by decide) (by decide) (by decide) (by decide)
    exact ⟨CI_cf I hh hal h47, lfr_ex (f := cfH w) (by rw [e7]; exact hP.2.1) (by rw [cfM_2, if_pos rfl]; decide), cfM_S (by decide) (by decide) (by decide) (by decide) (by decide), e7⟩
  · rw [if_neg h]
    exact ⟨I, by omega, rfl, rfl⟩
theorem bfR_b {w : SS} (I : CI w) (hh : w.1 8 < w.1 7) : 0 ≤ bfR w ∧ bfR w ≤ 241 := by
  unfold bfR
  have := cfR_b I hh
  split <;> omega
theorem sfC_b (c : Int) : 1 ≤ sfC c ∧ sfC c ≤ 10 := by
  unfold sfC
  split
  · decide
  · split <;> decide
theorem CI_pt {u : SS} {p : Nat} {f : Int} (I : CI u) (hp : (p : Int) < 8 * u.1 14) (hf : 0 ≤ f ∧ f ≤ 15) : CI (ptM u p f) := CI_mf (CI_A2 I (by omega)) (pg48 I hp) hf
theorem brM_I {u : SS} {p : Nat} (I : CI u) (hp : (p : Int) < 8 * u.1 14) (hh : u.1 8 < u.1 7) (h47 : (detM u p).1 11 ≤ 47) : CI (brM u p) := by
  have J := CI_det I p
  have e8 : (detM u p).1 8 = u.1 8 := detM_S (by decide) (by decide)
  have e7 : (detM u p).1 7 = u.1 7 := detM_S (by decide) (by decide)
  have e14 : (detM u p).1 14 = u.1 14 := detM_S (by decide) (by decide)
  have h := bfM_I J (by omega) h47
  have hb := lfr_b h.1
  exact CI_pt h.1 (by rw [h.2.2.1, e14]; exact hp) (by omega)
theorem brR_b {u : SS} {p : Nat} (I : CI u) (hh : u.1 8 < u.1 7) : 1 ≤ brR u p ∧ brR u p ≤ 251 := by
  have e8 : (detM u p).1 8 = u.1 8 := detM_S (by decide) (by decide)
  have e7 : (detM u p).1 7 = u.1 7 := detM_S (by decide) (by decide)
  have h1 := bfR_b (CI_det I p) (by omega)
  have h2 := sfC_b (u.2 23 p)
  unfold brR
  omega
set_option maxHeartbeats 4000000 in
set_option maxRecDepth 100000 in
theorem c_X6_bringIntoFrame {u v : SS} {g : GH} (I : CI u) {p : Nat} (hp : (p : Int) < 8 * u.1 14) (hg : NR g) (hh : u.1 8 < u.1 7) (h102 : u.2 23 p ≠ 102) (h47 : (detM u p).1 11 ≤ 47) : Cn yX6_bringIntoFrame (wsy yX6_bringIntoFrame cX6_bringIntoFrame 4 (some .int)) 9 1 73 nwG [vR (some 1000), vR (some (3000 + p))] (mk u v g) (.inl (some (vI (brR u p)), mk (brM u p) v g)) := by
  refine con_k2 (lv := [(0, vR (some 1000)), (1, vR (some (3000 + p)))]) (by decide) (by unfold nwG; decide) (fun ad => Nat.le_of_ble_eq_true rfl) (fun ad => rfl) rfl ?_
  intro k C hr hkG hlv hmc hms hw hPo hPx htab
  have ic := I.a23 p
  have J := CI_det I p
  have e8 : (detM u p).1 8 = u.1 8 := detM_S (by decide) (by decide)
  have e7 : (detM u p).1 7 = u.1 7 := detM_S (by decide) (by decide)
  have e14 : (detM u p).1 14 = u.1 14 := detM_S (by decide) (by decide)
  have h48 := pg48 I hp
  have hl := lfr_b J
  have hsf := sfC_b (u.2 23 p)
  have hB := bfM_I J (by omega) h47
  have hB1 := hB.1
  have hB2 := hB.2.2.1
  have hlB := lfr_b hB.1
  have hl0 := hB.2.1
  refine ev_s C dX6_bringIntoFrame_0 (q := 1) rfl rfl ?_
  refine cgp_3 C dX6_bringIntoFrame_1 kf_X6_112 (q := 4) rfl (by show (_ : Int) < 8 * u.1 14; omega) ?_
  refine ev_cS C dX6_bringIntoFrame_4 (q := 7) rfl km_X6_285 ks_X6_stallsFrom kc_X6_stallsFrom (c_X6_stallsFrom (by unfold rg; omega)) rfl rfl (by rw [hlv]; first | decide | omega) (by decide) (Nat.le_of_ble_eq_true rfl) (by first | exact Nat.zero_le _ | (rw [hmc]; decide) | (rw [hmc]; omega)) (by first | exact Nat.zero_le _ | (rw [hms]; decide) | (rw [hms]; omega)) ?_
  refine ev_s C dX6_bringIntoFrame_7 (q := 8) rfl rfl ?_
  refine ev_s C dX6_bringIntoFrame_8 (q := 9) rfl rfl ?_
  refine ev_s C dX6_bringIntoFrame_9 (q := 10) rfl rfl ?_
  refine ev_cV C dX6_bringIntoFrame_10 (q := 13) rfl km_X6_288 kv_X6_detach kc_X6_detach (c_X6_detach I hp (fun h => absurd h h102)) rfl rfl vcX6 rfl (by rw [hlv]; first | decide | omega) (by decide) (Nat.le_of_ble_eq_true rfl) (by first | exact Nat.zero_le _ | (rw [hmc]; decide) | (rw [hmc]; omega)) (by first | exact Nat.zero_le _ | (rw [hms]; decide) | (rw [hms]; omega)) ?_
  refine ev_s C dX6_bringIntoFrame_13 (q := 14) rfl rfl ?_
  refine cg_1000_1 C dX6_bringIntoFrame_14 kf_X6_19 (q := 17) rfl ?_
  refine ev_cV C dX6_bringIntoFrame_17 (q := 20) rfl km_X6_292 kv_X0_lowestFree kc_X0_lowestFree (c_X0_lowestFree J) rfl rfl vcX0 rfl (by rw [hlv]; first | decide | omega) (by decide) (Nat.le_of_ble_eq_true rfl) (by first | exact Nat.zero_le _ | (rw [hmc]; decide) | (rw [hmc]; omega)) (by first | exact Nat.zero_le _ | (rw [hms]; decide) | (rw [hms]; omega)) ?_
  refine ev_s C dX6_bringIntoFrame_20 (q := 21) rfl rfl ?_
  refine ev_s C dX6_bringIntoFrame_21 (q := 22) rfl rfl ?_
  refine ev_s C dX6_bringIntoFrame_22 (q := 23) rfl rfl ?_
  show EV k 23 _ (vI (-1) :: vI (lfr (detM u p)) :: []) _ _ _
  refine ev_icmp_ne C dX6_bringIntoFrame_23 (tgt := 41) (q := 26) (by decide) rfl (by first | decide | (unfold rg; omega)) (by first | decide | (unfold rg; omega)) (fun b0 => ?_) (fun b0 => ?_)
  · have b9 : ¬ lfr (detM u p) < 0 := by omega
    refine ev_eq (G := mk (bfM (detM u p)) v g) (by unfold bfM; rw [if_neg b9]) ?_
    refine ev_eqL (lv := [(0, vR (some 1000)), (1, vR (some (3000 + p))), (2, vI (sfC (u.2 23 p))), (3, vI (lfr (bfM (detM u p))))]) (by unfold bfM; rw [if_neg b9]; rfl) ?_
    refine ev_s C dX6_bringIntoFrame_41 (q := 42) rfl rfl ?_
    refine cg_1000_1 C dX6_bringIntoFrame_42 kf_X6_19 (q := 45) rfl ?_
    refine ev_s C dX6_bringIntoFrame_45 (q := 46) rfl rfl ?_
    refine ev_s C dX6_bringIntoFrame_46 (q := 47) rfl rfl ?_
    refine ev_cV C dX6_bringIntoFrame_47 (q := 50) rfl km_X6_298 kv_X0_put kc_X0_put (c_X0_put (u := bfM (detM u p)) hB1 (p := p) (by omega) h48 (f := lfr (bfM (detM u p))) (by omega)) rfl rfl vcX0 rfl (by rw [hlv]; first | decide | omega) (by decide) (Nat.le_of_ble_eq_true rfl) (by first | exact Nat.zero_le _ | (rw [hmc]; decide) | (rw [hmc]; omega)) (by first | exact Nat.zero_le _ | (rw [hms]; decide) | (rw [hms]; omega)) ?_
    refine ev_s C dX6_bringIntoFrame_50 (q := 51) rfl rfl ?_
    exact ev_iret C hr dX6_bringIntoFrame_51 (by rw [hmc]; decide) (by rw [hms]; omega) (po_1 hPo (by unfold brR bfR; first | (rw [if_pos b9]; done) | (rw [if_neg b9, Int.add_zero])) rfl)
  · have b9 : lfr (detM u p) < 0 := by omega
    refine ev_s C dX6_bringIntoFrame_26 (q := 27) rfl rfl ?_
    refine ev_s C dX6_bringIntoFrame_27 (q := 28) rfl rfl ?_
    refine ev_cVn C dX6_bringIntoFrame_28 (q := 31) rfl km_X6_295 kv_X6_clearFrame kc_X6_clearFrame (c_X6_clearFrame J (by omega) (lfr_all b9) hg h47) rfl rfl vcX6 rfl (by rw [hlv]; first | decide | omega) (by decide) (Nat.le_of_ble_eq_true rfl) (by first | exact Nat.zero_le _ | (rw [hmc]; decide) | (rw [hmc]; omega)) (by first | exact Nat.zero_le _ | (rw [hms]; decide) | (rw [hms]; omega)) (by rw [hw]; exact fun _ h => h) (by repeat' (first | exact nvA_0 | exact nvB_0 | apply nvA_c | apply nvB_c | exact nv_I | exact nv_L | exact nv_N | exact nv_R (by unfold nwG; omega) | exact nv_I' | exact nv_L' | exact nv_N' | exact nv_R' (by unfold nwG; omega))) (by repeat' (first | exact nvA_0 | exact nvB_0 | apply nvA_c | apply nvB_c | exact nv_I | exact nv_L | exact nv_N | exact nv_R (by unfold nwG; omega) | exact nv_I' | exact nv_L' | exact nv_N' | exact nv_R' (by unfold nwG; omega))) ?_
    refine ev_s C dX6_bringIntoFrame_31 (q := 32) rfl rfl ?_
    refine ev_s C dX6_bringIntoFrame_32 (q := 33) rfl rfl ?_
    refine ev_eq (G := mk (bfM (detM u p)) v g) (by unfold bfM; rw [if_pos b9]) ?_
    refine ev_s C dX6_bringIntoFrame_33 (q := 34) rfl rfl ?_
    refine cg_1000_1 C dX6_bringIntoFrame_34 kf_X6_19 (q := 37) rfl ?_
    refine ev_cV C dX6_bringIntoFrame_37 (q := 40) rfl km_X6_292 kv_X0_lowestFree kc_X0_lowestFree (c_X0_lowestFree hB1) rfl rfl vcX0 rfl (by rw [hlv]; first | decide | omega) (by decide) (Nat.le_of_ble_eq_true rfl) (by first | exact Nat.zero_le _ | (rw [hmc]; decide) | (rw [hmc]; omega)) (by first | exact Nat.zero_le _ | (rw [hms]; decide) | (rw [hms]; omega)) ?_
    refine ev_s C dX6_bringIntoFrame_40 (q := 41) rfl rfl ?_
    refine ev_s C dX6_bringIntoFrame_41 (q := 42) rfl rfl ?_
    refine cg_1000_1 C dX6_bringIntoFrame_42 kf_X6_19 (q := 45) rfl ?_
    refine ev_s C dX6_bringIntoFrame_45 (q := 46) rfl rfl ?_
    refine ev_s C dX6_bringIntoFrame_46 (q := 47) rfl rfl ?_
    refine ev_cV C dX6_bringIntoFrame_47 (q := 50) rfl km_X6_298 kv_X0_put kc_X0_put (c_X0_put (u := bfM (detM u p)) hB1 (p := p) (by omega) h48 (f := lfr (bfM (detM u p))) (by omega)) rfl rfl vcX0 rfl (by rw [hlv]; first | decide | omega) (by decide) (Nat.le_of_ble_eq_true rfl) (by first | exact Nat.zero_le _ | (rw [hmc]; decide) | (rw [hmc]; omega)) (by first | exact Nat.zero_le _ | (rw [hms]; decide) | (rw [hms]; omega)) ?_
    refine ev_s C dX6_bringIntoFrame_50 (q := 51) rfl rfl ?_
    exact ev_iret C hr dX6_bringIntoFrame_51 (by rw [hmc]; decide) (by rw [hms]; omega) (po_1 hPo (by unfold brR bfR; first | (rw [if_pos b9]; done) | (rw [if_neg b9, Int.add_zero])) rfl)
def ctM (u : SS) (s : Nat) (x : Int) : SS :=
  addM (stA (stS (if x = 0 then stS (stS u 3 (u.1 3 + 1)) 4 (u.1 4 + 1) else stS u 3 (u.1 3 + 1)) 5 (u.1 5 + x)) 19 s (u.2 19 s + x)) x
